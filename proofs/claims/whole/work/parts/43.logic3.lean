section PX
variable {C : px_C} {D : Nat} {ops : List ix_Op} {hs : List ix_Hd} {i j : Nat} {ls st ls' st' : List Value} {h h' : ix_H} {k k' : Nat} {Q : ix_R → Prop} {o : ix_Op}
variable {pc len x y z : Nat} {tl : List Nat} {v : Int32} {a b w : Int32} {n m p q t e c : Nat}
theorem w_decN {u : Nat} (ho : ops[i]? = some (pc, len, .iinc u (-1), x, y, z, tl, v)) (hj : i + 1 = j) (hl : ls[u]? = some (.int (nI n))) (hn : 1 ≤ n) (H : px_R C D ops hs j (ls.set u (.int (nI (n - 1)))) st h k Q) : px_R C D ops hs i ls st h k Q := by
  refine w_inc ho hj hl ?_ H
  obtain ⟨n', rfl⟩ : ∃ n', n = n' + 1 := ⟨n - 1, by omega⟩
  rw [Nat.add_sub_cancel, nI_succ]
  show nI n' + 1 + -1 = nI n'
  rw [← Int32.sub_eq_add_neg, Int32.add_sub_cancel]
def px_swt (lo hi : Int) (tl : List Nat) (x m : Nat) : Nat := if (m : Int) < lo ∨ hi < (m : Int) then x else tl.getD ((m : Int) - lo).toNat x
theorem w_swN {dflt lo hi : Int} {tt : Array Int} (ho : ops[i]? = some (pc, len, .tableswitch dflt lo hi tt, x, y, z, tl, v)) (hn : (hi - lo).toNat < tl.length) (hm : m < 2147483648) (ht : px_swt lo hi tl x m = t) (H : px_R C D ops hs t ls st h k Q) : px_R C D ops hs i ls (.int (nI m) :: st) h k Q := by
  have e := nI_toInt hm
  unfold px_swt at ht
  refine w_sw ho (fun u h1 h2 w hw => ?_) hn (fun hc => ?_)
  · rw [e] at h1 h2
    rw [if_neg (by omega)] at ht
    have : ((m : Int) - lo).toNat = u := by omega
    rw [this, List.getD_eq_getElem?_getD, hw] at ht
    have ht : w = t := ht
    rw [ht]
    exact H
  · rw [e] at hc
    rw [if_pos hc] at ht
    rw [ht]
    exact H
theorem px_forI {L : Nat} (I : Nat → List Value → ix_H → Prop) (N : Nat)
    (body : ∀ c ls h, c < N → I c ls h → (∀ ls' h', I (c + 1) ls' h' → px_R C D ops hs L ls' [] h' k Q) → px_R C D ops hs L ls [] h k Q)
    (ex : ∀ ls h, I N ls h → px_R C D ops hs L ls [] h k Q) {ls : List Value} {h : ix_H} (h0 : I 0 ls h) : px_R C D ops hs L ls [] h k Q := by
  have key : ∀ m c ls h, c + m = N → I c ls h → px_R C D ops hs L ls [] h k Q := by
    intro m
    induction m with
    | zero => intro c ls h hc hi; have : c = N := by omega
              subst this; exact ex ls h hi
    | succ m ih => intro c ls h hc hi; exact body c ls h (by omega) hi (fun ls' h' hi' => ih (c + 1) ls' h' (by omega) hi')
  exact key N 0 ls h (by omega) h0
end PX
def px_fr (S : List Nat) (h h' : ix_H) : Prop := ∀ a, a ∉ S → h' a = h a
theorem px_fr.rf {S : List Nat} {h : ix_H} : px_fr S h h := fun _ _ => rfl
theorem px_fr.tr {S : List Nat} {h h1 h2 : ix_H} (a : px_fr S h h1) (b : px_fr S h1 h2) : px_fr S h h2 := fun q hq => (b q hq).trans (a q hq)
theorem px_fr.sub {S S' : List Nat} {h h1 : ix_H} (a : px_fr S h h1) (hs : ∀ x ∈ S, x ∈ S') : px_fr S' h h1 := fun q hq => a q (fun z => hq (hs q z))
theorem px_fr.up {S : List Nat} {h h1 : ix_H} {x k : Nat} {v : Int32} (a : px_fr S h h1) (hx : x ∈ S) : px_fr S h (ix_up h1 x k v) := by
  intro q hq
  have : q ≠ x := fun e => hq (e ▸ hx)
  rw [ix_up_ne this]
  exact a q hq
theorem px_fr.row {S : List Nat} {h h1 : ix_H} {x : Nat} {f : Nat → Int32} (a : px_fr S h h1) (hx : x ∈ S) : px_fr S h (ix_row h1 x f) := by
  intro q hq
  have : q ≠ x := fun e => hq (e ▸ hx)
  unfold ix_row
  rw [if_neg this]
  exact a q hq
theorem px_row_eq {h : ix_H} {x : Nat} {f : Nat → Int32} : ix_row h x f x = f := if_pos rfl
theorem px_row_ne {h : ix_H} {x q : Nat} {f : Nat → Int32} (e : q ≠ x) : ix_row h x f q = h q := if_neg e
theorem px_up_at {h : ix_H} {x k : Nat} {v : Int32} : ix_up h x k v x k = v := by rw [ix_up_eq]; exact pk_us
theorem px_up_nk {h : ix_H} {x k j : Nat} {v : Int32} (e : j ≠ k) : ix_up h x k v x j = h x j := by rw [ix_up_eq]; exact pk_un e
theorem px_up_na {h : ix_H} {x k a j : Nat} {v : Int32} (e : a ≠ x) : ix_up h x k v a j = h a j := by rw [ix_up_ne e]
theorem px_rb1 {h : ix_H} {k : Nat} {p : Prop} [Decidable p] (hp : p) : ((.inl (some (.int (nI 1))), h, k) : ix_R) = (.inl (some (.int (px_b (decide p)))), h, k) := by rw [decide_eq_true hp]; rfl
theorem px_rb0 {h : ix_H} {k : Nat} {p : Prop} [Decidable p] (hp : ¬ p) : ((.inl (some (.int (nI 0))), h, k) : ix_R) = (.inl (some (.int (px_b (decide p)))), h, k) := by rw [decide_eq_false hp]; rfl
theorem px_ri {h : ix_H} {k : Nat} {a b : Int32} (e : a = b) : ((.inl (some (.int a)), h, k) : ix_R) = (.inl (some (.int b)), h, k) := by rw [e]
-- the law's values
def pf_jn (m : Nat) (a b : Int32) : Int32 := if m = 2 then a + b else if m = 3 then a - b else if m = 4 then a * b else if m = 5 then (if b = 0 then nI 0 else a / b) else if m = 6 then (if b = 0 then nI 0 else a - a / b * b) else if m = 7 then (if a < b then a else b) else (if b < a then a else b)
def pf_st (g : Nat → Int32) (c : Nat × Nat) (st : List Int32) : List Int32 := if c.1 = 0 then nI c.2 :: st else if c.1 = 1 then g c.2 :: st else match st with
  | b :: a :: r => pf_jn c.1 a b :: r
  | _ => st
def pf_sts (g : Nat → Int32) (cs : List (Nat × Nat)) (st : List Int32) : List Int32 := cs.foldl (fun s c => pf_st g c s) st
def pf_wf : List (Nat × Nat) → Nat → Nat → Prop
  | [], d, d' => d = d'
  | c :: cs, d, d' => (c.1 < 2 ∧ (c.1 = 1 → c.2 < 8) ∧ c.2 < 1000 ∧ pf_wf cs (d + 1) d') ∨ (2 ≤ c.1 ∧ c.1 ≤ 8 ∧ c.2 < 1000 ∧ 2 ≤ d ∧ pf_wf cs (d - 1) d')
def pf_cl (v : Int32) : Int32 := if nI 0 < (if nI 99 < v then nI 99 else v) then (if nI 99 < v then nI 99 else v) else nI 0
def pf_ev (cs : List (Nat × Nat)) (g : Nat → Int32) : Int32 := pf_cl ((pf_sts g cs []).headD 0)
def pf_tk (f : Nat → Int32) : Nat → List Int32
  | 0 => []
  | n + 1 => f n :: pf_tk f n
theorem pf_tk_len (f : Nat → Int32) : ∀ n, (pf_tk f n).length = n
  | 0 => rfl
  | n + 1 => by rw [pf_tk, List.length_cons, pf_tk_len f n]
theorem pf_tk_up (f : Nat → Int32) (m : Nat) (v : Int32) : ∀ n, n ≤ m → pf_tk (upd f m v) n = pf_tk f n
  | 0, _ => rfl
  | n + 1, h => by rw [pf_tk, pf_tk, pf_tk_up f m v n (by omega), pk_un (by omega)]
theorem pf_wf_app : ∀ (cs ds : List (Nat × Nat)) (d d1 d2 : Nat), pf_wf cs d d1 → pf_wf ds d1 d2 → pf_wf (cs ++ ds) d d2
  | [], ds, d, d1, d2, h, h2 => by
    have h : d = d1 := h
    subst h; exact h2
  | c :: cs, ds, d, d1, d2, h, h2 => by
    rcases h with ⟨a, b, e, r⟩ | ⟨a, b, e, f, r⟩
    · exact Or.inl ⟨a, b, e, pf_wf_app cs ds _ _ _ r h2⟩
    · exact Or.inr ⟨a, b, e, f, pf_wf_app cs ds _ _ _ r h2⟩
theorem pf_wf_up : ∀ (cs : List (Nat × Nat)) (d d1 e : Nat), pf_wf cs d d1 → pf_wf cs (d + e) (d1 + e)
  | [], d, d1, e, h => by
    have h : d = d1 := h
    subst h; rfl
  | c :: cs, d, d1, e, h => by
    rcases h with ⟨a, b, q, r⟩ | ⟨a, b, q, f, r⟩
    · refine Or.inl ⟨a, b, q, ?_⟩
      have := pf_wf_up cs _ _ e r
      rw [show d + e + 1 = d + 1 + e by omega]
      exact this
    · refine Or.inr ⟨a, b, q, by omega, ?_⟩
      have := pf_wf_up cs _ _ e r
      rw [show d + e - 1 = d - 1 + e by omega]
      exact this
theorem pf_wf_split : ∀ (cs : List (Nat × Nat)) (k d d2 : Nat) (c : Nat × Nat), pf_wf cs d d2 → cs[k]? = some c → ∃ d1, pf_wf (cs.take k) d d1 ∧ ((c.1 < 2 ∧ (c.1 = 1 → c.2 < 8) ∧ c.2 < 1000 ∧ pf_wf (cs.take (k + 1)) d (d1 + 1)) ∨ (2 ≤ c.1 ∧ c.1 ≤ 8 ∧ c.2 < 1000 ∧ 2 ≤ d1 ∧ pf_wf (cs.take (k + 1)) d (d1 - 1)))
  | [], k, d, d2, c, h, hk => by simp at hk
  | a :: cs, 0, d, d2, c, h, hk => by
    cases hk
    refine ⟨d, rfl, ?_⟩
    rcases h with ⟨a, b, q, r⟩ | ⟨a, b, q, f, r⟩
    · exact Or.inl ⟨a, b, q, Or.inl ⟨a, b, q, rfl⟩⟩
    · exact Or.inr ⟨a, b, q, f, Or.inr ⟨a, b, q, f, rfl⟩⟩
  | a :: cs, k + 1, d, d2, c, h, hk => by
    have hk : cs[k]? = some c := hk
    rcases h with ⟨a1, b, q, r⟩ | ⟨a1, b, q, f, r⟩
    · obtain ⟨d1, w1, w2⟩ := pf_wf_split cs k (d + 1) d2 c r hk
      refine ⟨d1, Or.inl ⟨a1, b, q, w1⟩, ?_⟩
      rcases w2 with ⟨x1, x2, x3, x4⟩ | ⟨x1, x2, x3, x4, x5⟩
      · exact Or.inl ⟨x1, x2, x3, Or.inl ⟨a1, b, q, x4⟩⟩
      · exact Or.inr ⟨x1, x2, x3, x4, Or.inl ⟨a1, b, q, x5⟩⟩
    · obtain ⟨d1, w1, w2⟩ := pf_wf_split cs k (d - 1) d2 c r hk
      refine ⟨d1, Or.inr ⟨a1, b, q, f, w1⟩, ?_⟩
      rcases w2 with ⟨x1, x2, x3, x4⟩ | ⟨x1, x2, x3, x4, x5⟩
      · exact Or.inl ⟨x1, x2, x3, Or.inr ⟨a1, b, q, f, x4⟩⟩
      · exact Or.inr ⟨x1, x2, x3, x4, Or.inr ⟨a1, b, q, f, x5⟩⟩
theorem pf_wf_le : ∀ (cs : List (Nat × Nat)) (d d1 : Nat), pf_wf cs d d1 → d1 ≤ d + cs.length
  | [], d, d1, h => by
    have h : d = d1 := h
    simp [h]
  | c :: cs, d, d1, h => by
    rw [List.length_cons]
    rcases h with ⟨a, b, q, r⟩ | ⟨a, b, q, f, r⟩
    · have := pf_wf_le cs _ _ r; omega
    · have := pf_wf_le cs _ _ r; omega
theorem pf_wf_det : ∀ (cs : List (Nat × Nat)) (d d1 d2 : Nat), pf_wf cs d d1 → pf_wf cs d d2 → d1 = d2
  | [], d, d1, d2, h, h2 => by
    have h : d = d1 := h
    have h2 : d = d2 := h2
    omega
  | c :: cs, d, d1, d2, h, h2 => by
    rcases h with ⟨a, b, q, r⟩ | ⟨a, b, q, f, r⟩ <;> rcases h2 with ⟨a', b', q', r'⟩ | ⟨a', b', q', f', r'⟩
    · exact pf_wf_det cs _ _ _ r r'
    · omega
    · omega
    · exact pf_wf_det cs _ _ _ r r'
theorem pf_sts_snoc (g : Nat → Int32) (cs : List (Nat × Nat)) (c : Nat × Nat) (st : List Int32) : pf_sts g (cs ++ [c]) st = pf_st g c (pf_sts g cs st) := by
  unfold pf_sts
  rw [List.foldl_append]
  rfl
theorem pf_take_succ {α : Type} {cs : List α} {k : Nat} {c : α} (h : cs[k]? = some c) : cs.take (k + 1) = cs.take k ++ [c] := by
  rw [List.take_add_one, h]
  rfl
theorem pf_sts_congr {g g' : Nat → Int32} (hg : ∀ j, j < 8 → g j = g' j) : ∀ (cs : List (Nat × Nat)) (d d1 : Nat) (st : List Int32), pf_wf cs d d1 → pf_sts g cs st = pf_sts g' cs st
  | [], d, d1, st, h => rfl
  | c :: cs, d, d1, st, h => by
    show pf_sts g cs (pf_st g c st) = pf_sts g' cs (pf_st g' c st)
    have e : pf_st g c st = pf_st g' c st := by
      unfold pf_st
      rcases h with ⟨a, b, q, r⟩ | ⟨a, b, q, f, r⟩
      · by_cases h0 : c.1 = 0
        · rw [if_pos h0, if_pos h0]
        · have h1 : c.1 = 1 := by omega
          rw [if_neg h0, if_neg h0, if_pos h1, if_pos h1, hg _ (b h1)]
      · rw [if_neg (by omega), if_neg (by omega), if_neg (by omega), if_neg (by omega)]
    rw [e]
    rcases h with ⟨a, b, q, r⟩ | ⟨a, b, q, f, r⟩
    · exact pf_sts_congr hg cs _ _ _ r
    · exact pf_sts_congr hg cs _ _ _ r
theorem pf_ev_congr {g g' : Nat → Int32} {cs : List (Nat × Nat)} {d1 : Nat} (hg : ∀ j, j < 8 → g j = g' j) (hw : pf_wf cs 0 d1) : pf_ev cs g = pf_ev cs g' := by
  unfold pf_ev
  rw [pf_sts_congr hg cs 0 d1 [] hw]
