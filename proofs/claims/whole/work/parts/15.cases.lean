section IXR
variable {dm : Nat → Bool} {call : Nat → List Value → ix_H → Option ix_R} {ops : List ix_Op} {hs : List ix_Hd} {g i k : Nat} {ls st : List Value} {h : ix_H} {r : ix_R}
theorem ix_run_cases (hr : ix_run dm call ops hs (g + 1) i ls st h k = some r) : ∃ o, ops[i]? = some o ∧
    ((∃ q, ix_g1 o ls st = some q ∧ ix_run dm call ops hs g (i + 1) q.1 q.2 h k = some r) ∨
    (∃ q, ix_g2 o ls st = some q ∧ ix_run dm call ops hs g (i + 1) q.1 q.2 h k = some r) ∨
    (∃ q, ix_g3 o ls st = some q ∧ ix_run dm call ops hs g (i + 1) q.1 q.2 h k = some r) ∨
    (∃ q, ix_gb o i st = some q ∧ ix_run dm call ops hs g q.1 ls q.2 h k = some r) ∨
    (∃ q, ix_gh dm o st h = some q ∧ ix_run dm call ops hs g (i + 1) ls q.1 q.2 k = some r) ∨
    (ix_iscall (ix_ins o) = true ∧ ix_y o < 4 ∧ ix_z o ≤ st.length ∧ ((st.drop (ix_z o)).map fun v => v.category).sum ≤ 8 ∧ ix_rcv dm o (st.take (ix_z o)).reverse = true ∧ ∃ (h' : ix_H) (k' : Nat),
      ((∃ v : Option Value, call (ix_x o) (st.take (ix_z o)).reverse h = some (.inl v, h', k') ∧ ix_run dm call ops hs g (i + 1) ls (v.toList ++ st.drop (ix_z o)) h' (k + k') = some r) ∨
      (∃ x : Nat, ix_y o = 0 ∧ call (ix_x o) (st.take (ix_z o)).reverse h = some (.inr x, h', k') ∧ ((hs = [] ∧ r = (.inr x, h', k + k')) ∨
        (∃ e, ix_find hs (ix_pc o) x = some e ∧ e.2.2.2.2 < ls.length ∧ ix_run dm call ops hs g e.2.2.2.1 (ls.set e.2.2.2.2 .null) [] h' (k + k') = some r))))) ∨
    (∃ v : Int32, ix_ins o = .ireturn ∧ st = [.int v] ∧ (ix_x o = 0 ∨ v = 0 ∨ v = 1) ∧ r = (.inl (some (.int v)), h, k)) ∨
    (ix_ins o = .return_ ∧ st = [] ∧ r = (.inl none, h, k)) ∨
    (∃ ik : Nat, ix_ins o = .new ik ∧ st = [] ∧ ix_y o = 1 ∧ r = (.inr (ix_x o), h, k + 1))) := by
  rw [ix_run] at hr
  cases ho : ops[i]? with
  | none => rw [ho] at hr; cases hr
  | some o =>
    refine ⟨o, rfl, ?_⟩
    rw [ho] at hr
    dsimp only at hr
    cases h1 : ix_g1 o ls st with
    | some q => rw [h1] at hr; exact Or.inl ⟨q, rfl, hr⟩
    | none =>
    rw [h1] at hr
    dsimp only at hr
    refine Or.inr ?_
    cases h2 : ix_g2 o ls st with
    | some q => rw [h2] at hr; exact Or.inl ⟨q, rfl, hr⟩
    | none =>
    rw [h2] at hr
    dsimp only at hr
    refine Or.inr ?_
    cases h3 : ix_g3 o ls st with
    | some q => rw [h3] at hr; exact Or.inl ⟨q, rfl, hr⟩
    | none =>
    rw [h3] at hr
    dsimp only at hr
    refine Or.inr ?_
    cases h4 : ix_gb o i st with
    | some q => rw [h4] at hr; exact Or.inl ⟨q, rfl, hr⟩
    | none =>
    rw [h4] at hr
    dsimp only at hr
    refine Or.inr ?_
    cases h5 : ix_gh dm o st h with
    | some q => rw [h5] at hr; exact Or.inl ⟨q, rfl, hr⟩
    | none =>
    rw [h5] at hr
    dsimp only at hr
    refine Or.inr ?_
    split at hr
    · rename_i hc
      split at hr
      · rename_i hz
        refine Or.inl ⟨hc, hz.1, hz.2.1, hz.2.2.1, hz.2.2.2, ?_⟩
        split at hr
        · cases hr
        · rename_i v h' k' hcall
          exact ⟨h', k', Or.inl ⟨v, hcall, hr⟩⟩
        · rename_i x h' k' hcall
          split at hr
          · cases hr
          rename_i hy0
          refine ⟨h', k', Or.inr ⟨x, by omega, hcall, ?_⟩⟩
          split at hr
          · split at hr
            · rename_i he
              exact Or.inl ⟨List.isEmpty_iff.mp he, (Option.some.inj hr).symm⟩
            · cases hr
          · rename_i e9 hf
            split at hr
            · rename_i hl
              exact Or.inr ⟨e9, hf, hl, hr⟩
            · cases hr
      · cases hr
    · refine Or.inr ?_
      split at hr
      · rename_i v he
        split at hr
        · rename_i hv
          exact Or.inl ⟨v, he, rfl, hv, (Option.some.inj hr).symm⟩
        · cases hr
      · rename_i he
        exact Or.inr (Or.inl ⟨he, rfl, (Option.some.inj hr).symm⟩)
      · rename_i ik he
        split at hr
        · rename_i hy
          exact Or.inr (Or.inr ⟨ik, he, rfl, hy, (Option.some.inj hr).symm⟩)
        · cases hr
      · cases hr
end IXR
theorem ix_run_mono {dm : Nat → Bool} {call : Nat → List Value → ix_H → Option ix_R} {ops : List ix_Op} {hs : List ix_Hd} : ∀ (g i : Nat) (ls st : List Value) (h : ix_H) (k : Nat) (r : ix_R), ix_run dm call ops hs g i ls st h k = some r → k ≤ r.2.2 := by
  intro g
  induction g with
  | zero => intro i ls st h k r hr; rw [ix_run] at hr; cases hr
  | succ g ih =>
    intro i ls st h k r hr
    obtain ⟨o, -, hc⟩ := ix_run_cases hr
    rcases hc with ⟨q, -, h1⟩ | ⟨q, -, h1⟩ | ⟨q, -, h1⟩ | ⟨q, -, h1⟩ | ⟨q, -, h1⟩ | ⟨-, -, -, -, -, h', k', h1⟩ | ⟨v, -, -, -, h1⟩ | ⟨-, -, h1⟩ | ⟨ik, -, -, -, h1⟩
    · exact ih _ _ _ _ _ _ h1
    · exact ih _ _ _ _ _ _ h1
    · exact ih _ _ _ _ _ _ h1
    · exact ih _ _ _ _ _ _ h1
    · exact ih _ _ _ _ _ _ h1
    · rcases h1 with ⟨v, -, h2⟩ | ⟨x, -, -, ⟨-, h2⟩ | ⟨e, -, -, h2⟩⟩
      · have := ih _ _ _ _ _ _ h2; omega
      · rw [h2]; exact Nat.le_add_right _ _
      · have := ih _ _ _ _ _ _ h2; omega
    · rw [h1]; exact Nat.le_refl _
    · rw [h1]; exact Nat.le_refl _
    · rw [h1]; exact Nat.le_add_right _ _
theorem ix_run_some {dm : Nat → Bool} {call : Nat → List Value → ix_H → Option ix_R} {ops : List ix_Op} {hs : List ix_Hd} {g i : Nat} {ls st : List Value} {h : ix_H} {k : Nat} {r : ix_R} (hr : ix_run dm call ops hs g i ls st h k = some r) : ∃ o, ops[i]? = some o := by
  cases g with
  | zero => rw [ix_run] at hr; cases hr
  | succ g =>
    obtain ⟨o, ho, -⟩ := ix_run_cases hr
    exact ⟨o, ho⟩
theorem ix_chain_at : ∀ (ops : List ix_Op), ix_chain ops = true → ∀ (i : Nat) (o o' : ix_Op), ops[i]? = some o → ops[i + 1]? = some o' → ix_pc o' = ix_pc o + ix_len o
  | [], _, i, o, o', h, _ => by simp at h
  | [a], _, i, o, o', _, h => by simp at h
  | a :: b :: l, hc, 0, o, o', h, h' => by
    rw [ix_chain, Bool.and_eq_true] at hc
    cases h
    cases h'
    exact of_decide_eq_true hc.1
  | a :: b :: l, hc, i + 1, o, o', h, h' => by
    rw [ix_chain, Bool.and_eq_true] at hc
    exact ix_chain_at (b :: l) hc.2 i o o' h h'
