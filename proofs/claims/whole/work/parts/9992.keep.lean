-- the script is only read
def k37 (h h' : ix_H) : Prop := h' 3000 = h 3000 ∧ h' 3001 = h 3001
theorem k37.rf {h : ix_H} : k37 h h := ⟨rfl, rfl⟩
theorem k37.tr {h h1 h2 : ix_H} (a : k37 h h1) (b : k37 h1 h2) : k37 h h2 := ⟨b.1.trans a.1, b.2.trans a.2⟩
theorem k37.up {h : ix_H} {a i : Nat} {v : Int32} (ha : 1 ≤ ix_k a) (hb : ix_k a ≤ 5) : k37 h (ix_up h a i v) := by
  have n0 : (3000 : Nat) ≠ a := fun z => by rw [← z, ix_k3000] at hb; omega
  have n1 : (3001 : Nat) ≠ a := fun z => by rw [← z, ix_k3001] at ha; omega
  exact ⟨ix_up_ne n0, ix_up_ne n1⟩
theorem gh37 {dm : Nat → Bool} {o : ix_Op} {st : List Value} {h : ix_H} {q : List Value × ix_H} (e : ix_gh dm o st h = some q) : k37 h q.2 := by
  unfold ix_gh at e
  split at e
  · split at e
    · split at e
      · split at e
        · cases e; exact k37.rf
        · cases e
      · cases e; exact k37.rf
      · cases e
    · cases e
  · split at e
    · rename_i hc
      cases e; exact k37.up (by omega) (by omega)
    · cases e
  · split at e
    · cases e; exact k37.rf
    · split at e
      · cases e; exact k37.rf
      · cases e
  · split at e
    · rename_i hc
      cases e; exact k37.up (by omega) (by omega)
    · cases e
  · split at e
    · cases e; exact k37.rf
    · cases e
  · split at e
    · rename_i hc
      cases e; exact k37.up (by omega) (by omega)
    · cases e
  · split at e
    · cases e; exact k37.rf
    · cases e
  · split at e
    · cases e; exact k37.rf
    · cases e
  · split at e
    · rename_i hc
      cases e; exact k37.up (by omega) (by omega)
    · cases e
  · split at e
    · cases e; exact k37.rf
    · split at e
      · cases e; exact k37.rf
      · cases e
  · split at e
    · rename_i hc
      cases e
      have ha := hc.2.2.2.1
      unfold ix_cpy
      exact ⟨px_row_ne (fun z => by rw [← z, ix_k3000] at ha; omega), px_row_ne (fun z => by rw [← z, ix_k3001] at ha; omega)⟩
    · cases e
  · cases e
def C37 (call : Nat → List Value → ix_H → Option ix_R) : Prop := ∀ mi vs h r, call mi vs h = some r → k37 h r.2.1
theorem run37 {dm : Nat → Bool} {call : Nat → List Value → ix_H → Option ix_R} {ops : List ix_Op} {hs : List ix_Hd} (hc : C37 call) : ∀ g i ls st h k r, ix_run dm call ops hs g i ls st h k = some r → k37 h r.2.1 := by
  intro g
  induction g with
  | zero => intro i ls st h k r e; cases e
  | succ g ih =>
    intro i ls st h k r e
    rw [ix_run] at e
    cases hop : ops[i]? with
    | none => rw [hop] at e; cases e
    | some o =>
      rw [hop] at e
      simp only [] at e
      cases h1 : ix_g1 o ls st with
      | some q => rw [h1] at e; exact ih _ _ _ _ _ _ e
      | none =>
        rw [h1] at e
        simp only [] at e
        cases h2 : ix_g2 o ls st with
        | some q => rw [h2] at e; exact ih _ _ _ _ _ _ e
        | none =>
          rw [h2] at e
          simp only [] at e
          cases h3 : ix_g3 o ls st with
          | some q => rw [h3] at e; exact ih _ _ _ _ _ _ e
          | none =>
            rw [h3] at e
            simp only [] at e
            cases h4 : ix_gb o i st with
            | some q => rw [h4] at e; exact ih _ _ _ _ _ _ e
            | none =>
              rw [h4] at e
              simp only [] at e
              cases h5 : ix_gh dm o st h with
              | some q => rw [h5] at e; exact (gh37 h5).tr (ih _ _ _ _ _ _ e)
              | none =>
                rw [h5] at e
                simp only [] at e
                split at e
                · split at e
                  · cases h6 : call (ix_x o) (st.take (ix_z o)).reverse h with
                    | none => rw [h6] at e; cases e
                    | some r1 =>
                      have k1 := hc _ _ _ _ h6
                      rw [h6] at e
                      obtain ⟨r1, h', k'⟩ := r1
                      cases r1 with
                      | inl v => exact k1.tr (ih _ _ _ _ _ _ e)
                      | inr x =>
                        simp only [] at e
                        split at e
                        · cases e
                        · split at e
                          · split at e
                            · cases e; exact k1
                            · cases e
                          · split at e
                            · exact k1.tr (ih _ _ _ _ _ _ e)
                            · cases e
                  · cases e
                · split at e
                  · split at e
                    · cases e; exact k37.rf
                    · cases e
                  · cases e; exact k37.rf
                  · split at e
                    · cases e; exact k37.rf
                    · cases e
                  · cases e
theorem pr37 : C37 ix_pr := by
  intro mi vs h r e
  unfold ix_pr at e
  split at e
  · split at e
    · unfold ix_p900 at e
      split at e
      · cases e; exact k37.rf
      · cases e
    · cases e
  · split at e
    · split at e
      · unfold ix_p901 at e
        split at e
        · cases e; exact k37.rf
        · cases e
      · cases e
    · cases e
theorem exec37 {tab : List ix_M} {dm : Nat → Bool} : ∀ d f, C37 (ix_exec tab ix_pr dm d f) := by
  intro d
  induction d with
  | zero => intro f mi vs h r e; cases e
  | succ d ih =>
    intro f mi vs h r e
    rw [ix_exec] at e
    cases hM : tab[mi]? with
    | none => rw [hM] at e; exact pr37 mi vs h r e
    | some M =>
      rw [hM] at e
      simp only [] at e
      split at e
      · exact run37 (ih f) _ _ _ _ _ _ _ e
      · cases e
theorem px_3k {D mi : Nat} {vs : List Value} {h : ix_H} {Q : ix_R → Prop} (T : px_T px_E D mi vs h Q) : px_T px_E D mi vs h (fun r => Q r ∧ k37 h r.2.1) := by
  obtain ⟨r, hQ, F, H⟩ := T
  exact ⟨r, ⟨hQ, exec37 D F mi vs h r (H D F (Nat.le_refl _) (Nat.le_refl _))⟩, F, H⟩
theorem px_CO3 {D mi : Nat} {vs : List Value} {h : ix_H} {P : Int32 → ix_H → Prop} {PX : Nat → ix_H → Prop} (T : px_CO D mi vs h P PX) : px_CO D mi vs h (fun v h1 => P v h1 ∧ k37 h h1) (fun x h1 => PX x h1 ∧ k37 h h1) := by
  obtain ⟨r, ⟨hQ, k⟩, F⟩ := px_3k T
  refine ⟨r, ?_, F⟩
  rcases hQ with ⟨v, h1, e, hP⟩ | ⟨x, h1, e, hP⟩
  · subst e; exact Or.inl ⟨v, h1, rfl, hP, k⟩
  · subst e; exact Or.inr ⟨x, h1, rfl, hP, k⟩
theorem px_PI3 {D mi : Nat} {vs : List Value} {h : ix_H} {P : Int32 → ix_H → Prop} (T : px_PI D mi vs h P) : px_PI D mi vs h (fun v h1 => P v h1 ∧ k37 h h1) := by
  obtain ⟨r, ⟨hQ, k⟩, F⟩ := px_3k T
  obtain ⟨v, h1, e, hP⟩ := hQ
  refine ⟨r, ⟨v, h1, e, hP, ?_⟩, F⟩
  subst e
  exact k
theorem px_COi {D mi : Nat} {vs : List Value} {h : ix_H} {P P' : Int32 → ix_H → Prop} {PX PX' : Nat → ix_H → Prop} (T : px_CO D mi vs h P PX) (e : ∀ v h1, P v h1 → P' v h1) (e' : ∀ x h1, PX x h1 → PX' x h1) : px_CO D mi vs h P' PX' := by
  obtain ⟨r, hQ, F⟩ := T
  refine ⟨r, ?_, F⟩
  rcases hQ with ⟨v, h1, q, hP⟩ | ⟨x, h1, q, hP⟩
  · exact Or.inl ⟨v, h1, q, e _ _ hP⟩
  · exact Or.inr ⟨x, h1, q, e' _ _ hP⟩
theorem px_Jk {f h h2 : ix_H} (hJ : px_J f h) (k : px_kp h h2) : px_J f h2 := by
  obtain ⟨hf, B, N, T, cs, L, W, I, t, hI⟩ := hJ
  exact ⟨fun a ha => (k.1 a (pf_pers_i (by omega))).trans (hf a ha), B, N, T, cs, L, W, I, t, hI.kp k⟩
theorem px_k99 {h : ix_H} {w : Int32} : px_kp h (ix_up h 99 0 w) := px_kp.rf.up (by decide) (fun z => by cases z)
-- a call of both sides, as the law makes it
def px_PP (f h : ix_H) (mi mm D : Nat) (as : List Value) : Prop := px_T px_L D mi (.ref 0 :: (as ++ [.ref 99])) h (fun r => ∃ c h1 k1, r = (.inl (some (.int (nI c))), h1, k1) ∧ k1 ≤ 1 ∧ c ≤ 2 ∧ k37 h h1 ∧ px_PI D mm (.ref 100 :: as) h1 (fun v2 h2 => h2 100 0 = nI c ∧ (c = 0 → h2 99 0 = v2) ∧ px_J f h2 ∧ k37 h1 h2))
theorem px_PIj {f h1 : ix_H} {v : Int32} {mm D : Nat} {as : List Value} (na : n99L as) (T : px_PI D mm (.ref 100 :: as) h1 (fun v2 h2 => v = v2 ∧ h2 100 0 = nI 0 ∧ px_J f h2)) : px_PI D mm (.ref 100 :: as) (ix_up h1 99 0 v) (fun v2 h2 => h2 100 0 = nI 0 ∧ (0 = 0 → h2 99 0 = v2) ∧ px_J f h2 ∧ k37 (ix_up h1 99 0 v) h2) := by
  have T2 := px_3k (px_99 (n99_cons.mpr ⟨n99_ref (by decide), na⟩) T v)
  obtain ⟨r, ⟨⟨r0, ⟨v2, h2, e0, q1, q2, q3⟩, e⟩, kk⟩, F⟩ := T2
  subst e0
  subst e
  exact ⟨_, ⟨v2, ix_up h2 99 0 v, rfl, by rw [px_up_na (by decide)]; exact q2, fun _ => by rw [px_up_at]; exact q1, px_Jk q3 px_k99, kk⟩, F⟩
