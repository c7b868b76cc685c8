def px_L : px_C := fun d f => ix_call2 ix_D d f
theorem px_hT {D mi k : Nat} {M : ix_M} {vs ls : List Value} {h : ix_H} {Q : ix_R → Prop} (hmi : mi = 260 + k) (hk : k < 26) (hM : ix_tabH[k]? = some M) (hl : vs.length = ix_ma M) (hc : vs.all (fun v => v.category == 1) = true) (hls : vs ++ List.replicate (ix_ml M - ix_ma M) .null = ls) (R : px_R px_E D (ix_mo M) (ix_mh M) 0 ls [] h 0 Q) : px_T px_L D mi vs h Q := by
  obtain ⟨r, hQ, F, H⟩ := R
  refine ⟨r, hQ, F, fun d f hd hf => ?_⟩
  show ix_call2 ix_D d f mi vs h = some r
  unfold ix_call2
  rw [if_neg (by omega)]
  have e : ix_tab[mi]? = some M := by
    rw [hmi, ← List.getElem?_drop, ← ix_tabH_eq]
    exact hM
  rw [e]
  simp only []
  rw [if_pos ⟨hl, hc⟩, hls]
  exact H d f f hd hf hf
theorem px_LE {D mi : Nat} {vs : List Value} {h : ix_H} {Q : ix_R → Prop} (hmi : mi < 260) (T : px_T px_E D mi vs h Q) : px_T px_L D mi vs h Q := by
  obtain ⟨r, hQ, F, H⟩ := T
  refine ⟨r, hQ, F, fun d f hd hf => ?_⟩
  show ix_call2 ix_D d f mi vs h = some r
  unfold ix_call2
  rw [if_pos (Or.inl hmi)]
  exact H (d + 1) f (by omega) hf
section LH
variable {h : ix_H} {D : Nat} {P : Int32 → ix_H → Prop} {PX : Nat → ix_H → Prop}
theorem H_260 {a0 : Int32} (T : px_CO D 104 [.ref 0, .int a0] h P PX) (hx : ∀ x h1, PX x h1 → x = 0) : px_T px_L D 260 [.ref 0, .int a0, .ref 99] h (fun r => (∃ v h1, r = (.inl (some (.int (nI 0))), ix_up h1 99 0 v, 0) ∧ P v h1) ∨ ∃ x h1, r = (.inl (some (.int (nI 1))), h1, 1) ∧ PX x h1) := by
  refine px_hT (k := 0) (M := mt_260) rfl (by decide) rfl rfl rfl rfl ?_
  show px_R px_E D mo_260 [(0, 9, 0, 9, 3)] 0 _ [] h 0 _
  refine w_al (j := 1) rfl rfl rfl ?_
  refine w_ic (n := 0) (j := 2) rfl rfl ?_
  refine w_al (j := 3) rfl rfl rfl ?_
  refine w_il (j := 4) rfl rfl rfl ?_
  refine w_cvQ (j := 5) rfl rfl rfl rfl rfl rfl rfl T (fun u h1 k1 q => ?_) (fun x h1 k1 q => ?_)
  · rcases q with ⟨v, h2, e, hP⟩ | ⟨x, h2, e, hX⟩
    · cases e
      refine w_i2l (j := 6) rfl rfl ?_
      refine w_las (j := 7) rfl rfl rfl rfl (by decide) rfl ?_
      refine w_go rfl ?_
      refine w_ic (n := 0) (j := 12) rfl rfl ?_
      refine w_ir rfl ?_
      exact Or.inl ⟨v, h1, rfl, hP⟩
    · cases e
  · rcases q with ⟨v, h2, e, hP⟩ | ⟨x, h2, e, hX⟩
    · cases e
    · cases e
      obtain rfl := hx x h1 hX
      refine Or.inr ⟨rfl, (0, 9, 0, 9, 3), rfl, Nat.le_of_ble_eq_true rfl, ?_⟩
      refine w_ic (n := 1) (j := 10) rfl rfl ?_
      refine w_ir rfl ?_
      exact Or.inr ⟨0, h1, rfl, hX⟩
theorem H_261 {a0 : Int32} (T : px_CO D 106 [.ref 0, .int a0] h P PX) (hx : ∀ x h1, PX x h1 → x = 0) : px_T px_L D 261 [.ref 0, .int a0, .ref 99] h (fun r => (∃ v h1, r = (.inl (some (.int (nI 0))), ix_up h1 99 0 v, 0) ∧ P v h1) ∨ ∃ x h1, r = (.inl (some (.int (nI 1))), h1, 1) ∧ PX x h1) := by
  refine px_hT (k := 1) (M := mt_261) rfl (by decide) rfl rfl rfl rfl ?_
  show px_R px_E D mo_261 [(0, 9, 0, 9, 3)] 0 _ [] h 0 _
  refine w_al (j := 1) rfl rfl rfl ?_
  refine w_ic (n := 0) (j := 2) rfl rfl ?_
  refine w_al (j := 3) rfl rfl rfl ?_
  refine w_il (j := 4) rfl rfl rfl ?_
  refine w_cvQ (j := 5) rfl rfl rfl rfl rfl rfl rfl T (fun u h1 k1 q => ?_) (fun x h1 k1 q => ?_)
  · rcases q with ⟨v, h2, e, hP⟩ | ⟨x, h2, e, hX⟩
    · cases e
      refine w_i2l (j := 6) rfl rfl ?_
      refine w_las (j := 7) rfl rfl rfl rfl (by decide) rfl ?_
      refine w_go rfl ?_
      refine w_ic (n := 0) (j := 12) rfl rfl ?_
      refine w_ir rfl ?_
      exact Or.inl ⟨v, h1, rfl, hP⟩
    · cases e
  · rcases q with ⟨v, h2, e, hP⟩ | ⟨x, h2, e, hX⟩
    · cases e
    · cases e
      obtain rfl := hx x h1 hX
      refine Or.inr ⟨rfl, (0, 9, 0, 9, 3), rfl, Nat.le_of_ble_eq_true rfl, ?_⟩
      refine w_ic (n := 1) (j := 10) rfl rfl ?_
      refine w_ir rfl ?_
      exact Or.inr ⟨0, h1, rfl, hX⟩
theorem H_262 {a0 : Int32} (T : px_CO D 107 [.ref 0, .int a0] h P PX) (hx : ∀ x h1, PX x h1 → x = 0) : px_T px_L D 262 [.ref 0, .int a0, .ref 99] h (fun r => (∃ v h1, r = (.inl (some (.int (nI 0))), ix_up h1 99 0 v, 0) ∧ P v h1) ∨ ∃ x h1, r = (.inl (some (.int (nI 1))), h1, 1) ∧ PX x h1) := by
  refine px_hT (k := 2) (M := mt_262) rfl (by decide) rfl rfl rfl rfl ?_
  show px_R px_E D mo_262 [(0, 9, 0, 9, 3)] 0 _ [] h 0 _
  refine w_al (j := 1) rfl rfl rfl ?_
  refine w_ic (n := 0) (j := 2) rfl rfl ?_
  refine w_al (j := 3) rfl rfl rfl ?_
  refine w_il (j := 4) rfl rfl rfl ?_
  refine w_cvQ (j := 5) rfl rfl rfl rfl rfl rfl rfl T (fun u h1 k1 q => ?_) (fun x h1 k1 q => ?_)
  · rcases q with ⟨v, h2, e, hP⟩ | ⟨x, h2, e, hX⟩
    · cases e
      refine w_i2l (j := 6) rfl rfl ?_
      refine w_las (j := 7) rfl rfl rfl rfl (by decide) rfl ?_
      refine w_go rfl ?_
      refine w_ic (n := 0) (j := 12) rfl rfl ?_
      refine w_ir rfl ?_
      exact Or.inl ⟨v, h1, rfl, hP⟩
    · cases e
  · rcases q with ⟨v, h2, e, hP⟩ | ⟨x, h2, e, hX⟩
    · cases e
    · cases e
      obtain rfl := hx x h1 hX
      refine Or.inr ⟨rfl, (0, 9, 0, 9, 3), rfl, Nat.le_of_ble_eq_true rfl, ?_⟩
      refine w_ic (n := 1) (j := 10) rfl rfl ?_
      refine w_ir rfl ?_
      exact Or.inr ⟨0, h1, rfl, hX⟩
theorem H_263 {a0 : Int32} (T : px_CO D 108 [.ref 0, .int a0] h P PX) (hx : ∀ x h1, PX x h1 → x = 0) : px_T px_L D 263 [.ref 0, .int a0, .ref 99] h (fun r => (∃ v h1, r = (.inl (some (.int (nI 0))), ix_up h1 99 0 v, 0) ∧ P v h1) ∨ ∃ x h1, r = (.inl (some (.int (nI 1))), h1, 1) ∧ PX x h1) := by
  refine px_hT (k := 3) (M := mt_263) rfl (by decide) rfl rfl rfl rfl ?_
  show px_R px_E D mo_263 [(0, 9, 0, 9, 3)] 0 _ [] h 0 _
  refine w_al (j := 1) rfl rfl rfl ?_
  refine w_ic (n := 0) (j := 2) rfl rfl ?_
  refine w_al (j := 3) rfl rfl rfl ?_
  refine w_il (j := 4) rfl rfl rfl ?_
  refine w_cvQ (j := 5) rfl rfl rfl rfl rfl rfl rfl T (fun u h1 k1 q => ?_) (fun x h1 k1 q => ?_)
  · rcases q with ⟨v, h2, e, hP⟩ | ⟨x, h2, e, hX⟩
    · cases e
      refine w_i2l (j := 6) rfl rfl ?_
      refine w_las (j := 7) rfl rfl rfl rfl (by decide) rfl ?_
      refine w_go rfl ?_
      refine w_ic (n := 0) (j := 12) rfl rfl ?_
      refine w_ir rfl ?_
      exact Or.inl ⟨v, h1, rfl, hP⟩
    · cases e
  · rcases q with ⟨v, h2, e, hP⟩ | ⟨x, h2, e, hX⟩
    · cases e
    · cases e
      obtain rfl := hx x h1 hX
      refine Or.inr ⟨rfl, (0, 9, 0, 9, 3), rfl, Nat.le_of_ble_eq_true rfl, ?_⟩
      refine w_ic (n := 1) (j := 10) rfl rfl ?_
      refine w_ir rfl ?_
      exact Or.inr ⟨0, h1, rfl, hX⟩
theorem H_264 {a0 : Int32} (T : px_CO D 113 [.ref 0, .int a0] h P PX) (hx : ∀ x h1, PX x h1 → x = 0) : px_T px_L D 264 [.ref 0, .int a0, .ref 99] h (fun r => (∃ v h1, r = (.inl (some (.int (nI 0))), ix_up h1 99 0 v, 0) ∧ P v h1) ∨ ∃ x h1, r = (.inl (some (.int (nI 1))), h1, 1) ∧ PX x h1) := by
  refine px_hT (k := 4) (M := mt_264) rfl (by decide) rfl rfl rfl rfl ?_
  show px_R px_E D mo_264 [(0, 9, 0, 9, 3)] 0 _ [] h 0 _
  refine w_al (j := 1) rfl rfl rfl ?_
  refine w_ic (n := 0) (j := 2) rfl rfl ?_
  refine w_al (j := 3) rfl rfl rfl ?_
  refine w_il (j := 4) rfl rfl rfl ?_
  refine w_cvQ (j := 5) rfl rfl rfl rfl rfl rfl rfl T (fun u h1 k1 q => ?_) (fun x h1 k1 q => ?_)
  · rcases q with ⟨v, h2, e, hP⟩ | ⟨x, h2, e, hX⟩
    · cases e
      refine w_i2l (j := 6) rfl rfl ?_
      refine w_las (j := 7) rfl rfl rfl rfl (by decide) rfl ?_
      refine w_go rfl ?_
      refine w_ic (n := 0) (j := 12) rfl rfl ?_
      refine w_ir rfl ?_
      exact Or.inl ⟨v, h1, rfl, hP⟩
    · cases e
  · rcases q with ⟨v, h2, e, hP⟩ | ⟨x, h2, e, hX⟩
    · cases e
    · cases e
      obtain rfl := hx x h1 hX
      refine Or.inr ⟨rfl, (0, 9, 0, 9, 3), rfl, Nat.le_of_ble_eq_true rfl, ?_⟩
      refine w_ic (n := 1) (j := 10) rfl rfl ?_
      refine w_ir rfl ?_
      exact Or.inr ⟨0, h1, rfl, hX⟩
theorem H_265 {a0 a1 : Int32} (T : px_CO D 114 [.ref 0, .int a0, .int a1] h P PX) (hx : ∀ x h1, PX x h1 → x = 1 ∨ x = 0) : px_T px_L D 265 [.ref 0, .int a0, .int a1, .ref 99] h (fun r => (∃ v h1, r = (.inl (some (.int (nI 0))), ix_up h1 99 0 v, 0) ∧ P v h1) ∨ ∃ x h1, r = (.inl (some (.int (nI (2 - x)))), h1, 1) ∧ PX x h1) := by
  refine px_hT (k := 5) (M := mt_265) rfl (by decide) rfl rfl rfl rfl ?_
  show px_R px_E D mo_265 [(0, 10, 1, 10, 4), (0, 10, 0, 13, 4)] 0 _ [] h 0 _
  refine w_al (j := 1) rfl rfl rfl ?_
  refine w_ic (n := 0) (j := 2) rfl rfl ?_
  refine w_al (j := 3) rfl rfl rfl ?_
  refine w_il (j := 4) rfl rfl rfl ?_
  refine w_il (j := 5) rfl rfl rfl ?_
  refine w_cvQ (j := 6) rfl rfl rfl rfl rfl rfl rfl T (fun u h1 k1 q => ?_) (fun x h1 k1 q => ?_)
  · rcases q with ⟨v, h2, e, hP⟩ | ⟨x, h2, e, hX⟩
    · cases e
      refine w_i2l (j := 7) rfl rfl ?_
      refine w_las (j := 8) rfl rfl rfl rfl (by decide) rfl ?_
      refine w_go rfl ?_
      refine w_ic (n := 0) (j := 16) rfl rfl ?_
      refine w_ir rfl ?_
      exact Or.inl ⟨v, h1, rfl, hP⟩
    · cases e
  · rcases q with ⟨v, h2, e, hP⟩ | ⟨x, h2, e, hX⟩
    · cases e
    · cases e
      rcases hx x h1 hX with rfl | rfl
      · refine Or.inr ⟨rfl, (0, 10, 1, 10, 4), rfl, Nat.le_of_ble_eq_true rfl, ?_⟩
        refine w_ic (n := 1) (j := 11) rfl rfl ?_
        refine w_ir rfl ?_
        exact Or.inr ⟨1, h1, rfl, hX⟩
      · refine Or.inr ⟨rfl, (0, 10, 0, 13, 4), rfl, Nat.le_of_ble_eq_true rfl, ?_⟩
        refine w_ic (n := 2) (j := 14) rfl rfl ?_
        refine w_ir rfl ?_
        exact Or.inr ⟨0, h1, rfl, hX⟩
theorem H_266 {a0 a1 : Int32} (T : px_CO D 115 [.ref 0, .int a0, .int a1] h P PX) (hx : ∀ x h1, PX x h1 → x = 1 ∨ x = 0) : px_T px_L D 266 [.ref 0, .int a0, .int a1, .ref 99] h (fun r => (∃ v h1, r = (.inl (some (.int (nI 0))), ix_up h1 99 0 v, 0) ∧ P v h1) ∨ ∃ x h1, r = (.inl (some (.int (nI (2 - x)))), h1, 1) ∧ PX x h1) := by
  refine px_hT (k := 6) (M := mt_266) rfl (by decide) rfl rfl rfl rfl ?_
  show px_R px_E D mo_266 [(0, 10, 1, 10, 4), (0, 10, 0, 13, 4)] 0 _ [] h 0 _
  refine w_al (j := 1) rfl rfl rfl ?_
  refine w_ic (n := 0) (j := 2) rfl rfl ?_
  refine w_al (j := 3) rfl rfl rfl ?_
  refine w_il (j := 4) rfl rfl rfl ?_
  refine w_il (j := 5) rfl rfl rfl ?_
  refine w_cvQ (j := 6) rfl rfl rfl rfl rfl rfl rfl T (fun u h1 k1 q => ?_) (fun x h1 k1 q => ?_)
  · rcases q with ⟨v, h2, e, hP⟩ | ⟨x, h2, e, hX⟩
    · cases e
      refine w_i2l (j := 7) rfl rfl ?_
      refine w_las (j := 8) rfl rfl rfl rfl (by decide) rfl ?_
      refine w_go rfl ?_
      refine w_ic (n := 0) (j := 16) rfl rfl ?_
      refine w_ir rfl ?_
      exact Or.inl ⟨v, h1, rfl, hP⟩
    · cases e
  · rcases q with ⟨v, h2, e, hP⟩ | ⟨x, h2, e, hX⟩
    · cases e
    · cases e
      rcases hx x h1 hX with rfl | rfl
      · refine Or.inr ⟨rfl, (0, 10, 1, 10, 4), rfl, Nat.le_of_ble_eq_true rfl, ?_⟩
        refine w_ic (n := 1) (j := 11) rfl rfl ?_
        refine w_ir rfl ?_
        exact Or.inr ⟨1, h1, rfl, hX⟩
      · refine Or.inr ⟨rfl, (0, 10, 0, 13, 4), rfl, Nat.le_of_ble_eq_true rfl, ?_⟩
        refine w_ic (n := 2) (j := 14) rfl rfl ?_
        refine w_ir rfl ?_
        exact Or.inr ⟨0, h1, rfl, hX⟩
theorem H_267 {a0 a1 a2 a3 a4 a5 a6 a7 : Int32} (T : px_CO D 116 [.ref 0, .int a0, .int a1, .int a2, .int a3, .int a4, .int a5, .int a6, .int a7] h P PX) (hx : ∀ x h1, PX x h1 → x = 0) : px_T px_L D 267 [.ref 0, .int a0, .int a1, .int a2, .int a3, .int a4, .int a5, .int a6, .int a7, .ref 99] h (fun r => (∃ v h1, r = (.inl (some (.int (nI 0))), ix_up h1 99 0 v, 0) ∧ P v h1) ∨ ∃ x h1, r = (.inl (some (.int (nI 1))), h1, 1) ∧ PX x h1) := by
  refine px_hT (k := 7) (M := mt_267) rfl (by decide) rfl rfl rfl rfl ?_
  show px_R px_E D mo_267 [(0, 22, 0, 16, 10)] 0 _ [] h 0 _
  refine w_aL (j := 1) rfl rfl rfl ?_
  refine w_ic (n := 0) (j := 2) rfl rfl ?_
  refine w_al (j := 3) rfl rfl rfl ?_
  refine w_il (j := 4) rfl rfl rfl ?_
  refine w_il (j := 5) rfl rfl rfl ?_
  refine w_il (j := 6) rfl rfl rfl ?_
  refine w_iL (j := 7) rfl rfl rfl ?_
  refine w_iL (j := 8) rfl rfl rfl ?_
  refine w_iL (j := 9) rfl rfl rfl ?_
  refine w_iL (j := 10) rfl rfl rfl ?_
  refine w_iL (j := 11) rfl rfl rfl ?_
  refine w_cvQ (j := 12) rfl rfl rfl rfl rfl rfl rfl T (fun u h1 k1 q => ?_) (fun x h1 k1 q => ?_)
  · rcases q with ⟨v, h2, e, hP⟩ | ⟨x, h2, e, hX⟩
    · cases e
      refine w_i2l (j := 13) rfl rfl ?_
      refine w_las (j := 14) rfl rfl rfl rfl (by decide) rfl ?_
      refine w_go rfl ?_
      refine w_ic (n := 0) (j := 19) rfl rfl ?_
      refine w_ir rfl ?_
      exact Or.inl ⟨v, h1, rfl, hP⟩
    · cases e
  · rcases q with ⟨v, h2, e, hP⟩ | ⟨x, h2, e, hX⟩
    · cases e
    · cases e
      obtain rfl := hx x h1 hX
      refine Or.inr ⟨rfl, (0, 22, 0, 16, 10), rfl, Nat.le_of_ble_eq_true rfl, ?_⟩
      refine w_ic (n := 1) (j := 17) rfl rfl ?_
      refine w_ir rfl ?_
      exact Or.inr ⟨0, h1, rfl, hX⟩
theorem H_268 {a0 a1 : Int32} (T : px_CO D 117 [.ref 0, .int a0, .int a1] h P PX) (hx : ∀ x h1, PX x h1 → x = 0) : px_T px_L D 268 [.ref 0, .int a0, .int a1, .ref 99] h (fun r => (∃ v h1, r = (.inl (some (.int (nI 0))), ix_up h1 99 0 v, 0) ∧ P v h1) ∨ ∃ x h1, r = (.inl (some (.int (nI 1))), h1, 1) ∧ PX x h1) := by
  refine px_hT (k := 8) (M := mt_268) rfl (by decide) rfl rfl rfl rfl ?_
  show px_R px_E D mo_268 [(0, 10, 0, 10, 4)] 0 _ [] h 0 _
  refine w_al (j := 1) rfl rfl rfl ?_
  refine w_ic (n := 0) (j := 2) rfl rfl ?_
  refine w_al (j := 3) rfl rfl rfl ?_
  refine w_il (j := 4) rfl rfl rfl ?_
  refine w_il (j := 5) rfl rfl rfl ?_
  refine w_cvQ (j := 6) rfl rfl rfl rfl rfl rfl rfl T (fun u h1 k1 q => ?_) (fun x h1 k1 q => ?_)
  · rcases q with ⟨v, h2, e, hP⟩ | ⟨x, h2, e, hX⟩
    · cases e
      refine w_i2l (j := 7) rfl rfl ?_
      refine w_las (j := 8) rfl rfl rfl rfl (by decide) rfl ?_
      refine w_go rfl ?_
      refine w_ic (n := 0) (j := 13) rfl rfl ?_
      refine w_ir rfl ?_
      exact Or.inl ⟨v, h1, rfl, hP⟩
    · cases e
  · rcases q with ⟨v, h2, e, hP⟩ | ⟨x, h2, e, hX⟩
    · cases e
    · cases e
      obtain rfl := hx x h1 hX
      refine Or.inr ⟨rfl, (0, 10, 0, 10, 4), rfl, Nat.le_of_ble_eq_true rfl, ?_⟩
      refine w_ic (n := 1) (j := 11) rfl rfl ?_
      refine w_ir rfl ?_
      exact Or.inr ⟨0, h1, rfl, hX⟩
theorem H_269 {a0 : Int32} (T : px_CO D 118 [.ref 0, .int a0] h P PX) (hx : ∀ x h1, PX x h1 → x = 1) : px_T px_L D 269 [.ref 0, .int a0, .ref 99] h (fun r => (∃ v h1, r = (.inl (some (.int (nI 0))), ix_up h1 99 0 v, 0) ∧ P v h1) ∨ ∃ x h1, r = (.inl (some (.int (nI 1))), h1, 1) ∧ PX x h1) := by
  refine px_hT (k := 9) (M := mt_269) rfl (by decide) rfl rfl rfl rfl ?_
  show px_R px_E D mo_269 [(0, 9, 1, 9, 3)] 0 _ [] h 0 _
  refine w_al (j := 1) rfl rfl rfl ?_
  refine w_ic (n := 0) (j := 2) rfl rfl ?_
  refine w_al (j := 3) rfl rfl rfl ?_
  refine w_il (j := 4) rfl rfl rfl ?_
  refine w_cvQ (j := 5) rfl rfl rfl rfl rfl rfl rfl T (fun u h1 k1 q => ?_) (fun x h1 k1 q => ?_)
  · rcases q with ⟨v, h2, e, hP⟩ | ⟨x, h2, e, hX⟩
    · cases e
      refine w_i2l (j := 6) rfl rfl ?_
      refine w_las (j := 7) rfl rfl rfl rfl (by decide) rfl ?_
      refine w_go rfl ?_
      refine w_ic (n := 0) (j := 12) rfl rfl ?_
      refine w_ir rfl ?_
      exact Or.inl ⟨v, h1, rfl, hP⟩
    · cases e
  · rcases q with ⟨v, h2, e, hP⟩ | ⟨x, h2, e, hX⟩
    · cases e
    · cases e
      obtain rfl := hx x h1 hX
      refine Or.inr ⟨rfl, (0, 9, 1, 9, 3), rfl, Nat.le_of_ble_eq_true rfl, ?_⟩
      refine w_ic (n := 1) (j := 10) rfl rfl ?_
      refine w_ir rfl ?_
      exact Or.inr ⟨1, h1, rfl, hX⟩
theorem H_270 {a0 : Int32} (T : px_CO D 119 [.ref 0, .int a0] h P PX) (hx : ∀ x h1, PX x h1 → x = 1) : px_T px_L D 270 [.ref 0, .int a0, .ref 99] h (fun r => (∃ v h1, r = (.inl (some (.int (nI 0))), ix_up h1 99 0 v, 0) ∧ P v h1) ∨ ∃ x h1, r = (.inl (some (.int (nI 1))), h1, 1) ∧ PX x h1) := by
  refine px_hT (k := 10) (M := mt_270) rfl (by decide) rfl rfl rfl rfl ?_
  show px_R px_E D mo_270 [(0, 9, 1, 9, 3)] 0 _ [] h 0 _
  refine w_al (j := 1) rfl rfl rfl ?_
  refine w_ic (n := 0) (j := 2) rfl rfl ?_
  refine w_al (j := 3) rfl rfl rfl ?_
  refine w_il (j := 4) rfl rfl rfl ?_
  refine w_cvQ (j := 5) rfl rfl rfl rfl rfl rfl rfl T (fun u h1 k1 q => ?_) (fun x h1 k1 q => ?_)
  · rcases q with ⟨v, h2, e, hP⟩ | ⟨x, h2, e, hX⟩
    · cases e
      refine w_i2l (j := 6) rfl rfl ?_
      refine w_las (j := 7) rfl rfl rfl rfl (by decide) rfl ?_
      refine w_go rfl ?_
      refine w_ic (n := 0) (j := 12) rfl rfl ?_
      refine w_ir rfl ?_
      exact Or.inl ⟨v, h1, rfl, hP⟩
    · cases e
  · rcases q with ⟨v, h2, e, hP⟩ | ⟨x, h2, e, hX⟩
    · cases e
    · cases e
      obtain rfl := hx x h1 hX
      refine Or.inr ⟨rfl, (0, 9, 1, 9, 3), rfl, Nat.le_of_ble_eq_true rfl, ?_⟩
      refine w_ic (n := 1) (j := 10) rfl rfl ?_
      refine w_ir rfl ?_
      exact Or.inr ⟨1, h1, rfl, hX⟩
theorem H_271 {a0 : Int32} (T : px_CO D 120 [.ref 0, .int a0] h P PX) (hx : ∀ x h1, PX x h1 → x = 0) : px_T px_L D 271 [.ref 0, .int a0, .ref 99] h (fun r => (∃ v h1, r = (.inl (some (.int (nI 0))), ix_up h1 99 0 v, 0) ∧ P v h1) ∨ ∃ x h1, r = (.inl (some (.int (nI 1))), h1, 1) ∧ PX x h1) := by
  refine px_hT (k := 11) (M := mt_271) rfl (by decide) rfl rfl rfl rfl ?_
  show px_R px_E D mo_271 [(0, 9, 0, 9, 3)] 0 _ [] h 0 _
  refine w_al (j := 1) rfl rfl rfl ?_
  refine w_ic (n := 0) (j := 2) rfl rfl ?_
  refine w_al (j := 3) rfl rfl rfl ?_
  refine w_il (j := 4) rfl rfl rfl ?_
  refine w_cvQ (j := 5) rfl rfl rfl rfl rfl rfl rfl T (fun u h1 k1 q => ?_) (fun x h1 k1 q => ?_)
  · rcases q with ⟨v, h2, e, hP⟩ | ⟨x, h2, e, hX⟩
    · cases e
      refine w_i2l (j := 6) rfl rfl ?_
      refine w_las (j := 7) rfl rfl rfl rfl (by decide) rfl ?_
      refine w_go rfl ?_
      refine w_ic (n := 0) (j := 12) rfl rfl ?_
      refine w_ir rfl ?_
      exact Or.inl ⟨v, h1, rfl, hP⟩
    · cases e
  · rcases q with ⟨v, h2, e, hP⟩ | ⟨x, h2, e, hX⟩
    · cases e
    · cases e
      obtain rfl := hx x h1 hX
      refine Or.inr ⟨rfl, (0, 9, 0, 9, 3), rfl, Nat.le_of_ble_eq_true rfl, ?_⟩
      refine w_ic (n := 1) (j := 10) rfl rfl ?_
      refine w_ir rfl ?_
      exact Or.inr ⟨0, h1, rfl, hX⟩
theorem H_272 {a0 a1 : Int32} (T : px_CO D 121 [.ref 0, .int a0, .int a1] h P PX) (hx : ∀ x h1, PX x h1 → x = 1 ∨ x = 0) : px_T px_L D 272 [.ref 0, .int a0, .int a1, .ref 99] h (fun r => (∃ v h1, r = (.inl (some (.int (nI 0))), ix_up h1 99 0 v, 0) ∧ P v h1) ∨ ∃ x h1, r = (.inl (some (.int (nI (2 - x)))), h1, 1) ∧ PX x h1) := by
  refine px_hT (k := 12) (M := mt_272) rfl (by decide) rfl rfl rfl rfl ?_
  show px_R px_E D mo_272 [(0, 10, 1, 10, 4), (0, 10, 0, 13, 4)] 0 _ [] h 0 _
  refine w_al (j := 1) rfl rfl rfl ?_
  refine w_ic (n := 0) (j := 2) rfl rfl ?_
  refine w_al (j := 3) rfl rfl rfl ?_
  refine w_il (j := 4) rfl rfl rfl ?_
  refine w_il (j := 5) rfl rfl rfl ?_
  refine w_cvQ (j := 6) rfl rfl rfl rfl rfl rfl rfl T (fun u h1 k1 q => ?_) (fun x h1 k1 q => ?_)
  · rcases q with ⟨v, h2, e, hP⟩ | ⟨x, h2, e, hX⟩
    · cases e
      refine w_i2l (j := 7) rfl rfl ?_
      refine w_las (j := 8) rfl rfl rfl rfl (by decide) rfl ?_
      refine w_go rfl ?_
      refine w_ic (n := 0) (j := 16) rfl rfl ?_
      refine w_ir rfl ?_
      exact Or.inl ⟨v, h1, rfl, hP⟩
    · cases e
  · rcases q with ⟨v, h2, e, hP⟩ | ⟨x, h2, e, hX⟩
    · cases e
    · cases e
      rcases hx x h1 hX with rfl | rfl
      · refine Or.inr ⟨rfl, (0, 10, 1, 10, 4), rfl, Nat.le_of_ble_eq_true rfl, ?_⟩
        refine w_ic (n := 1) (j := 11) rfl rfl ?_
        refine w_ir rfl ?_
        exact Or.inr ⟨1, h1, rfl, hX⟩
      · refine Or.inr ⟨rfl, (0, 10, 0, 13, 4), rfl, Nat.le_of_ble_eq_true rfl, ?_⟩
        refine w_ic (n := 2) (j := 14) rfl rfl ?_
        refine w_ir rfl ?_
        exact Or.inr ⟨0, h1, rfl, hX⟩
theorem H_273 {a0 : Int32} (T : px_CO D 123 [.ref 0, .int a0] h P PX) (hx : ∀ x h1, PX x h1 → x = 0) : px_T px_L D 273 [.ref 0, .int a0, .ref 99] h (fun r => (∃ v h1, r = (.inl (some (.int (nI 0))), ix_up h1 99 0 v, 0) ∧ P v h1) ∨ ∃ x h1, r = (.inl (some (.int (nI 1))), h1, 1) ∧ PX x h1) := by
  refine px_hT (k := 13) (M := mt_273) rfl (by decide) rfl rfl rfl rfl ?_
  show px_R px_E D mo_273 [(0, 9, 0, 9, 3)] 0 _ [] h 0 _
  refine w_al (j := 1) rfl rfl rfl ?_
  refine w_ic (n := 0) (j := 2) rfl rfl ?_
  refine w_al (j := 3) rfl rfl rfl ?_
  refine w_il (j := 4) rfl rfl rfl ?_
  refine w_cvQ (j := 5) rfl rfl rfl rfl rfl rfl rfl T (fun u h1 k1 q => ?_) (fun x h1 k1 q => ?_)
  · rcases q with ⟨v, h2, e, hP⟩ | ⟨x, h2, e, hX⟩
    · cases e
      refine w_i2l (j := 6) rfl rfl ?_
      refine w_las (j := 7) rfl rfl rfl rfl (by decide) rfl ?_
      refine w_go rfl ?_
      refine w_ic (n := 0) (j := 12) rfl rfl ?_
      refine w_ir rfl ?_
      exact Or.inl ⟨v, h1, rfl, hP⟩
    · cases e
  · rcases q with ⟨v, h2, e, hP⟩ | ⟨x, h2, e, hX⟩
    · cases e
    · cases e
      obtain rfl := hx x h1 hX
      refine Or.inr ⟨rfl, (0, 9, 0, 9, 3), rfl, Nat.le_of_ble_eq_true rfl, ?_⟩
      refine w_ic (n := 1) (j := 10) rfl rfl ?_
      refine w_ir rfl ?_
      exact Or.inr ⟨0, h1, rfl, hX⟩
theorem H_274 {a0 : Int32} (T : px_CO D 124 [.ref 0, .int a0] h P PX) (hx : ∀ x h1, PX x h1 → x = 0) : px_T px_L D 274 [.ref 0, .int a0, .ref 99] h (fun r => (∃ v h1, r = (.inl (some (.int (nI 0))), ix_up h1 99 0 v, 0) ∧ P v h1) ∨ ∃ x h1, r = (.inl (some (.int (nI 1))), h1, 1) ∧ PX x h1) := by
  refine px_hT (k := 14) (M := mt_274) rfl (by decide) rfl rfl rfl rfl ?_
  show px_R px_E D mo_274 [(0, 9, 0, 9, 3)] 0 _ [] h 0 _
  refine w_al (j := 1) rfl rfl rfl ?_
  refine w_ic (n := 0) (j := 2) rfl rfl ?_
  refine w_al (j := 3) rfl rfl rfl ?_
  refine w_il (j := 4) rfl rfl rfl ?_
  refine w_cvQ (j := 5) rfl rfl rfl rfl rfl rfl rfl T (fun u h1 k1 q => ?_) (fun x h1 k1 q => ?_)
  · rcases q with ⟨v, h2, e, hP⟩ | ⟨x, h2, e, hX⟩
    · cases e
      refine w_i2l (j := 6) rfl rfl ?_
      refine w_las (j := 7) rfl rfl rfl rfl (by decide) rfl ?_
      refine w_go rfl ?_
      refine w_ic (n := 0) (j := 12) rfl rfl ?_
      refine w_ir rfl ?_
      exact Or.inl ⟨v, h1, rfl, hP⟩
    · cases e
  · rcases q with ⟨v, h2, e, hP⟩ | ⟨x, h2, e, hX⟩
    · cases e
    · cases e
      obtain rfl := hx x h1 hX
      refine Or.inr ⟨rfl, (0, 9, 0, 9, 3), rfl, Nat.le_of_ble_eq_true rfl, ?_⟩
      refine w_ic (n := 1) (j := 10) rfl rfl ?_
      refine w_ir rfl ?_
      exact Or.inr ⟨0, h1, rfl, hX⟩
theorem H_275 {a0 a1 : Int32} (T : px_CO D 125 [.ref 0, .int a0, .int a1] h P PX) (hx : ∀ x h1, PX x h1 → x = 1) : px_T px_L D 275 [.ref 0, .int a0, .int a1, .ref 99] h (fun r => (∃ v h1, r = (.inl (some (.int (nI 0))), ix_up h1 99 0 v, 0) ∧ P v h1) ∨ ∃ x h1, r = (.inl (some (.int (nI 1))), h1, 1) ∧ PX x h1) := by
  refine px_hT (k := 15) (M := mt_275) rfl (by decide) rfl rfl rfl rfl ?_
  show px_R px_E D mo_275 [(0, 10, 1, 10, 4)] 0 _ [] h 0 _
  refine w_al (j := 1) rfl rfl rfl ?_
  refine w_ic (n := 0) (j := 2) rfl rfl ?_
  refine w_al (j := 3) rfl rfl rfl ?_
  refine w_il (j := 4) rfl rfl rfl ?_
  refine w_il (j := 5) rfl rfl rfl ?_
  refine w_cvQ (j := 6) rfl rfl rfl rfl rfl rfl rfl T (fun u h1 k1 q => ?_) (fun x h1 k1 q => ?_)
  · rcases q with ⟨v, h2, e, hP⟩ | ⟨x, h2, e, hX⟩
    · cases e
      refine w_i2l (j := 7) rfl rfl ?_
      refine w_las (j := 8) rfl rfl rfl rfl (by decide) rfl ?_
      refine w_go rfl ?_
      refine w_ic (n := 0) (j := 13) rfl rfl ?_
      refine w_ir rfl ?_
      exact Or.inl ⟨v, h1, rfl, hP⟩
    · cases e
  · rcases q with ⟨v, h2, e, hP⟩ | ⟨x, h2, e, hX⟩
    · cases e
    · cases e
      obtain rfl := hx x h1 hX
      refine Or.inr ⟨rfl, (0, 10, 1, 10, 4), rfl, Nat.le_of_ble_eq_true rfl, ?_⟩
      refine w_ic (n := 1) (j := 11) rfl rfl ?_
      refine w_ir rfl ?_
      exact Or.inr ⟨1, h1, rfl, hX⟩
theorem H_276 {a0 a1 : Int32} (T : px_CO D 126 [.ref 0, .int a0, .int a1] h P PX) (hx : ∀ x h1, PX x h1 → x = 0) : px_T px_L D 276 [.ref 0, .int a0, .int a1, .ref 99] h (fun r => (∃ v h1, r = (.inl (some (.int (nI 0))), ix_up h1 99 0 v, 0) ∧ P v h1) ∨ ∃ x h1, r = (.inl (some (.int (nI 1))), h1, 1) ∧ PX x h1) := by
  refine px_hT (k := 16) (M := mt_276) rfl (by decide) rfl rfl rfl rfl ?_
  show px_R px_E D mo_276 [(0, 10, 0, 10, 4)] 0 _ [] h 0 _
  refine w_al (j := 1) rfl rfl rfl ?_
  refine w_ic (n := 0) (j := 2) rfl rfl ?_
  refine w_al (j := 3) rfl rfl rfl ?_
  refine w_il (j := 4) rfl rfl rfl ?_
  refine w_il (j := 5) rfl rfl rfl ?_
  refine w_cvQ (j := 6) rfl rfl rfl rfl rfl rfl rfl T (fun u h1 k1 q => ?_) (fun x h1 k1 q => ?_)
  · rcases q with ⟨v, h2, e, hP⟩ | ⟨x, h2, e, hX⟩
    · cases e
      refine w_i2l (j := 7) rfl rfl ?_
      refine w_las (j := 8) rfl rfl rfl rfl (by decide) rfl ?_
      refine w_go rfl ?_
      refine w_ic (n := 0) (j := 13) rfl rfl ?_
      refine w_ir rfl ?_
      exact Or.inl ⟨v, h1, rfl, hP⟩
    · cases e
  · rcases q with ⟨v, h2, e, hP⟩ | ⟨x, h2, e, hX⟩
    · cases e
    · cases e
      obtain rfl := hx x h1 hX
      refine Or.inr ⟨rfl, (0, 10, 0, 10, 4), rfl, Nat.le_of_ble_eq_true rfl, ?_⟩
      refine w_ic (n := 1) (j := 11) rfl rfl ?_
      refine w_ir rfl ?_
      exact Or.inr ⟨0, h1, rfl, hX⟩
theorem H_277 {a0 a1 : Int32} (T : px_CO D 127 [.ref 0, .int a0, .int a1] h P PX) (hx : ∀ x h1, PX x h1 → x = 0) : px_T px_L D 277 [.ref 0, .int a0, .int a1, .ref 99] h (fun r => (∃ v h1, r = (.inl (some (.int (nI 0))), ix_up h1 99 0 v, 0) ∧ P v h1) ∨ ∃ x h1, r = (.inl (some (.int (nI 1))), h1, 1) ∧ PX x h1) := by
  refine px_hT (k := 17) (M := mt_277) rfl (by decide) rfl rfl rfl rfl ?_
  show px_R px_E D mo_277 [(0, 10, 0, 10, 4)] 0 _ [] h 0 _
  refine w_al (j := 1) rfl rfl rfl ?_
  refine w_ic (n := 0) (j := 2) rfl rfl ?_
  refine w_al (j := 3) rfl rfl rfl ?_
  refine w_il (j := 4) rfl rfl rfl ?_
  refine w_il (j := 5) rfl rfl rfl ?_
  refine w_cvQ (j := 6) rfl rfl rfl rfl rfl rfl rfl T (fun u h1 k1 q => ?_) (fun x h1 k1 q => ?_)
  · rcases q with ⟨v, h2, e, hP⟩ | ⟨x, h2, e, hX⟩
    · cases e
      refine w_i2l (j := 7) rfl rfl ?_
      refine w_las (j := 8) rfl rfl rfl rfl (by decide) rfl ?_
      refine w_go rfl ?_
      refine w_ic (n := 0) (j := 13) rfl rfl ?_
      refine w_ir rfl ?_
      exact Or.inl ⟨v, h1, rfl, hP⟩
    · cases e
  · rcases q with ⟨v, h2, e, hP⟩ | ⟨x, h2, e, hX⟩
    · cases e
    · cases e
      obtain rfl := hx x h1 hX
      refine Or.inr ⟨rfl, (0, 10, 0, 10, 4), rfl, Nat.le_of_ble_eq_true rfl, ?_⟩
      refine w_ic (n := 1) (j := 11) rfl rfl ?_
      refine w_ir rfl ?_
      exact Or.inr ⟨0, h1, rfl, hX⟩
theorem H_278 {a0 a1 a2 : Int32} (T : px_CO D 128 [.ref 0, .int a0, .int a1, .int a2] h P PX) (hx : ∀ x h1, PX x h1 → x = 1 ∨ x = 0) : px_T px_L D 278 [.ref 0, .int a0, .int a1, .int a2, .ref 99] h (fun r => (∃ v h1, r = (.inl (some (.int (nI 0))), ix_up h1 99 0 v, 0) ∧ P v h1) ∨ ∃ x h1, r = (.inl (some (.int (nI (2 - x)))), h1, 1) ∧ PX x h1) := by
  refine px_hT (k := 18) (M := mt_278) rfl (by decide) rfl rfl rfl rfl ?_
  show px_R px_E D mo_278 [(0, 12, 1, 11, 5), (0, 12, 0, 14, 5)] 0 _ [] h 0 _
  refine w_aL (j := 1) rfl rfl rfl ?_
  refine w_ic (n := 0) (j := 2) rfl rfl ?_
  refine w_al (j := 3) rfl rfl rfl ?_
  refine w_il (j := 4) rfl rfl rfl ?_
  refine w_il (j := 5) rfl rfl rfl ?_
  refine w_il (j := 6) rfl rfl rfl ?_
  refine w_cvQ (j := 7) rfl rfl rfl rfl rfl rfl rfl T (fun u h1 k1 q => ?_) (fun x h1 k1 q => ?_)
  · rcases q with ⟨v, h2, e, hP⟩ | ⟨x, h2, e, hX⟩
    · cases e
      refine w_i2l (j := 8) rfl rfl ?_
      refine w_las (j := 9) rfl rfl rfl rfl (by decide) rfl ?_
      refine w_go rfl ?_
      refine w_ic (n := 0) (j := 17) rfl rfl ?_
      refine w_ir rfl ?_
      exact Or.inl ⟨v, h1, rfl, hP⟩
    · cases e
  · rcases q with ⟨v, h2, e, hP⟩ | ⟨x, h2, e, hX⟩
    · cases e
    · cases e
      rcases hx x h1 hX with rfl | rfl
      · refine Or.inr ⟨rfl, (0, 12, 1, 11, 5), rfl, Nat.le_of_ble_eq_true rfl, ?_⟩
        refine w_ic (n := 1) (j := 12) rfl rfl ?_
        refine w_ir rfl ?_
        exact Or.inr ⟨1, h1, rfl, hX⟩
      · refine Or.inr ⟨rfl, (0, 12, 0, 14, 5), rfl, Nat.le_of_ble_eq_true rfl, ?_⟩
        refine w_ic (n := 2) (j := 15) rfl rfl ?_
        refine w_ir rfl ?_
        exact Or.inr ⟨0, h1, rfl, hX⟩
theorem H_279 {a0 a1 : Int32} (T : px_CO D 129 [.ref 0, .int a0, .int a1] h P PX) (hx : ∀ x h1, PX x h1 → x = 1 ∨ x = 0) : px_T px_L D 279 [.ref 0, .int a0, .int a1, .ref 99] h (fun r => (∃ v h1, r = (.inl (some (.int (nI 0))), ix_up h1 99 0 v, 0) ∧ P v h1) ∨ ∃ x h1, r = (.inl (some (.int (nI (2 - x)))), h1, 1) ∧ PX x h1) := by
  refine px_hT (k := 19) (M := mt_279) rfl (by decide) rfl rfl rfl rfl ?_
  show px_R px_E D mo_279 [(0, 10, 1, 10, 4), (0, 10, 0, 13, 4)] 0 _ [] h 0 _
  refine w_al (j := 1) rfl rfl rfl ?_
  refine w_ic (n := 0) (j := 2) rfl rfl ?_
  refine w_al (j := 3) rfl rfl rfl ?_
  refine w_il (j := 4) rfl rfl rfl ?_
  refine w_il (j := 5) rfl rfl rfl ?_
  refine w_cvQ (j := 6) rfl rfl rfl rfl rfl rfl rfl T (fun u h1 k1 q => ?_) (fun x h1 k1 q => ?_)
  · rcases q with ⟨v, h2, e, hP⟩ | ⟨x, h2, e, hX⟩
    · cases e
      refine w_i2l (j := 7) rfl rfl ?_
      refine w_las (j := 8) rfl rfl rfl rfl (by decide) rfl ?_
      refine w_go rfl ?_
      refine w_ic (n := 0) (j := 16) rfl rfl ?_
      refine w_ir rfl ?_
      exact Or.inl ⟨v, h1, rfl, hP⟩
    · cases e
  · rcases q with ⟨v, h2, e, hP⟩ | ⟨x, h2, e, hX⟩
    · cases e
    · cases e
      rcases hx x h1 hX with rfl | rfl
      · refine Or.inr ⟨rfl, (0, 10, 1, 10, 4), rfl, Nat.le_of_ble_eq_true rfl, ?_⟩
        refine w_ic (n := 1) (j := 11) rfl rfl ?_
        refine w_ir rfl ?_
        exact Or.inr ⟨1, h1, rfl, hX⟩
      · refine Or.inr ⟨rfl, (0, 10, 0, 13, 4), rfl, Nat.le_of_ble_eq_true rfl, ?_⟩
        refine w_ic (n := 2) (j := 14) rfl rfl ?_
        refine w_ir rfl ?_
        exact Or.inr ⟨0, h1, rfl, hX⟩
theorem H_280 {a0 a1 a2 : Int32} (T : px_CO D 131 [.ref 0, .int a0, .int a1, .int a2] h P PX) (hx : ∀ x h1, PX x h1 → x = 0) : px_T px_L D 280 [.ref 0, .int a0, .int a1, .int a2, .ref 99] h (fun r => (∃ v h1, r = (.inl (some (.int (nI 0))), ix_up h1 99 0 v, 0) ∧ P v h1) ∨ ∃ x h1, r = (.inl (some (.int (nI 1))), h1, 1) ∧ PX x h1) := by
  refine px_hT (k := 20) (M := mt_280) rfl (by decide) rfl rfl rfl rfl ?_
  show px_R px_E D mo_280 [(0, 12, 0, 11, 5)] 0 _ [] h 0 _
  refine w_aL (j := 1) rfl rfl rfl ?_
  refine w_ic (n := 0) (j := 2) rfl rfl ?_
  refine w_al (j := 3) rfl rfl rfl ?_
  refine w_il (j := 4) rfl rfl rfl ?_
  refine w_il (j := 5) rfl rfl rfl ?_
  refine w_il (j := 6) rfl rfl rfl ?_
  refine w_cvQ (j := 7) rfl rfl rfl rfl rfl rfl rfl T (fun u h1 k1 q => ?_) (fun x h1 k1 q => ?_)
  · rcases q with ⟨v, h2, e, hP⟩ | ⟨x, h2, e, hX⟩
    · cases e
      refine w_i2l (j := 8) rfl rfl ?_
      refine w_las (j := 9) rfl rfl rfl rfl (by decide) rfl ?_
      refine w_go rfl ?_
      refine w_ic (n := 0) (j := 14) rfl rfl ?_
      refine w_ir rfl ?_
      exact Or.inl ⟨v, h1, rfl, hP⟩
    · cases e
  · rcases q with ⟨v, h2, e, hP⟩ | ⟨x, h2, e, hX⟩
    · cases e
    · cases e
      obtain rfl := hx x h1 hX
      refine Or.inr ⟨rfl, (0, 12, 0, 11, 5), rfl, Nat.le_of_ble_eq_true rfl, ?_⟩
      refine w_ic (n := 1) (j := 12) rfl rfl ?_
      refine w_ir rfl ?_
      exact Or.inr ⟨0, h1, rfl, hX⟩
theorem H_281 {a0 a1 a2 : Int32} (T : px_CO D 134 [.ref 0, .int a0, .int a1, .int a2] h P PX) (hx : ∀ x h1, PX x h1 → x = 1 ∨ x = 0) : px_T px_L D 281 [.ref 0, .int a0, .int a1, .int a2, .ref 99] h (fun r => (∃ v h1, r = (.inl (some (.int (nI 0))), ix_up h1 99 0 v, 0) ∧ P v h1) ∨ ∃ x h1, r = (.inl (some (.int (nI (2 - x)))), h1, 1) ∧ PX x h1) := by
  refine px_hT (k := 21) (M := mt_281) rfl (by decide) rfl rfl rfl rfl ?_
  show px_R px_E D mo_281 [(0, 12, 1, 11, 5), (0, 12, 0, 14, 5)] 0 _ [] h 0 _
  refine w_aL (j := 1) rfl rfl rfl ?_
  refine w_ic (n := 0) (j := 2) rfl rfl ?_
  refine w_al (j := 3) rfl rfl rfl ?_
  refine w_il (j := 4) rfl rfl rfl ?_
  refine w_il (j := 5) rfl rfl rfl ?_
  refine w_il (j := 6) rfl rfl rfl ?_
  refine w_cvQ (j := 7) rfl rfl rfl rfl rfl rfl rfl T (fun u h1 k1 q => ?_) (fun x h1 k1 q => ?_)
  · rcases q with ⟨v, h2, e, hP⟩ | ⟨x, h2, e, hX⟩
    · cases e
      refine w_i2l (j := 8) rfl rfl ?_
      refine w_las (j := 9) rfl rfl rfl rfl (by decide) rfl ?_
      refine w_go rfl ?_
      refine w_ic (n := 0) (j := 17) rfl rfl ?_
      refine w_ir rfl ?_
      exact Or.inl ⟨v, h1, rfl, hP⟩
    · cases e
  · rcases q with ⟨v, h2, e, hP⟩ | ⟨x, h2, e, hX⟩
    · cases e
    · cases e
      rcases hx x h1 hX with rfl | rfl
      · refine Or.inr ⟨rfl, (0, 12, 1, 11, 5), rfl, Nat.le_of_ble_eq_true rfl, ?_⟩
        refine w_ic (n := 1) (j := 12) rfl rfl ?_
        refine w_ir rfl ?_
        exact Or.inr ⟨1, h1, rfl, hX⟩
      · refine Or.inr ⟨rfl, (0, 12, 0, 14, 5), rfl, Nat.le_of_ble_eq_true rfl, ?_⟩
        refine w_ic (n := 2) (j := 15) rfl rfl ?_
        refine w_ir rfl ?_
        exact Or.inr ⟨0, h1, rfl, hX⟩
theorem H_282 {a0 : Int32} (T : px_CO D 135 [.ref 0, .int a0] h P PX) (hx : ∀ x h1, PX x h1 → x = 0) : px_T px_L D 282 [.ref 0, .int a0, .ref 99] h (fun r => (∃ v h1, r = (.inl (some (.int (nI 0))), ix_up h1 99 0 v, 0) ∧ P v h1) ∨ ∃ x h1, r = (.inl (some (.int (nI 1))), h1, 1) ∧ PX x h1) := by
  refine px_hT (k := 22) (M := mt_282) rfl (by decide) rfl rfl rfl rfl ?_
  show px_R px_E D mo_282 [(0, 9, 0, 9, 3)] 0 _ [] h 0 _
  refine w_al (j := 1) rfl rfl rfl ?_
  refine w_ic (n := 0) (j := 2) rfl rfl ?_
  refine w_al (j := 3) rfl rfl rfl ?_
  refine w_il (j := 4) rfl rfl rfl ?_
  refine w_cvQ (j := 5) rfl rfl rfl rfl rfl rfl rfl T (fun u h1 k1 q => ?_) (fun x h1 k1 q => ?_)
  · rcases q with ⟨v, h2, e, hP⟩ | ⟨x, h2, e, hX⟩
    · cases e
      refine w_i2l (j := 6) rfl rfl ?_
      refine w_las (j := 7) rfl rfl rfl rfl (by decide) rfl ?_
      refine w_go rfl ?_
      refine w_ic (n := 0) (j := 12) rfl rfl ?_
      refine w_ir rfl ?_
      exact Or.inl ⟨v, h1, rfl, hP⟩
    · cases e
  · rcases q with ⟨v, h2, e, hP⟩ | ⟨x, h2, e, hX⟩
    · cases e
    · cases e
      obtain rfl := hx x h1 hX
      refine Or.inr ⟨rfl, (0, 9, 0, 9, 3), rfl, Nat.le_of_ble_eq_true rfl, ?_⟩
      refine w_ic (n := 1) (j := 10) rfl rfl ?_
      refine w_ir rfl ?_
      exact Or.inr ⟨0, h1, rfl, hX⟩
theorem H_283 {a0 a1 : Int32} (T : px_CO D 136 [.ref 0, .int a0, .int a1] h P PX) (hx : ∀ x h1, PX x h1 → x = 1 ∨ x = 0) : px_T px_L D 283 [.ref 0, .int a0, .int a1, .ref 99] h (fun r => (∃ v h1, r = (.inl (some (.int (nI 0))), ix_up h1 99 0 v, 0) ∧ P v h1) ∨ ∃ x h1, r = (.inl (some (.int (nI (2 - x)))), h1, 1) ∧ PX x h1) := by
  refine px_hT (k := 23) (M := mt_283) rfl (by decide) rfl rfl rfl rfl ?_
  show px_R px_E D mo_283 [(0, 10, 1, 10, 4), (0, 10, 0, 13, 4)] 0 _ [] h 0 _
  refine w_al (j := 1) rfl rfl rfl ?_
  refine w_ic (n := 0) (j := 2) rfl rfl ?_
  refine w_al (j := 3) rfl rfl rfl ?_
  refine w_il (j := 4) rfl rfl rfl ?_
  refine w_il (j := 5) rfl rfl rfl ?_
  refine w_cvQ (j := 6) rfl rfl rfl rfl rfl rfl rfl T (fun u h1 k1 q => ?_) (fun x h1 k1 q => ?_)
  · rcases q with ⟨v, h2, e, hP⟩ | ⟨x, h2, e, hX⟩
    · cases e
      refine w_i2l (j := 7) rfl rfl ?_
      refine w_las (j := 8) rfl rfl rfl rfl (by decide) rfl ?_
      refine w_go rfl ?_
      refine w_ic (n := 0) (j := 16) rfl rfl ?_
      refine w_ir rfl ?_
      exact Or.inl ⟨v, h1, rfl, hP⟩
    · cases e
  · rcases q with ⟨v, h2, e, hP⟩ | ⟨x, h2, e, hX⟩
    · cases e
    · cases e
      rcases hx x h1 hX with rfl | rfl
      · refine Or.inr ⟨rfl, (0, 10, 1, 10, 4), rfl, Nat.le_of_ble_eq_true rfl, ?_⟩
        refine w_ic (n := 1) (j := 11) rfl rfl ?_
        refine w_ir rfl ?_
        exact Or.inr ⟨1, h1, rfl, hX⟩
      · refine Or.inr ⟨rfl, (0, 10, 0, 13, 4), rfl, Nat.le_of_ble_eq_true rfl, ?_⟩
        refine w_ic (n := 2) (j := 14) rfl rfl ?_
        refine w_ir rfl ?_
        exact Or.inr ⟨0, h1, rfl, hX⟩
theorem H_284 {a0 a1 a2 a3 a4 : Int32} (T : px_CO D 139 [.ref 0, .int a0, .int a1, .int a2, .int a3, .int a4] h P PX) (hx : ∀ x h1, PX x h1 → x = 0) : px_T px_L D 284 [.ref 0, .int a0, .int a1, .int a2, .int a3, .int a4, .ref 99] h (fun r => (∃ v h1, r = (.inl (some (.int (nI 0))), ix_up h1 99 0 v, 0) ∧ P v h1) ∨ ∃ x h1, r = (.inl (some (.int (nI 1))), h1, 1) ∧ PX x h1) := by
  refine px_hT (k := 24) (M := mt_284) rfl (by decide) rfl rfl rfl rfl ?_
  show px_R px_E D mo_284 [(0, 16, 0, 13, 7)] 0 _ [] h 0 _
  refine w_aL (j := 1) rfl rfl rfl ?_
  refine w_ic (n := 0) (j := 2) rfl rfl ?_
  refine w_al (j := 3) rfl rfl rfl ?_
  refine w_il (j := 4) rfl rfl rfl ?_
  refine w_il (j := 5) rfl rfl rfl ?_
  refine w_il (j := 6) rfl rfl rfl ?_
  refine w_iL (j := 7) rfl rfl rfl ?_
  refine w_iL (j := 8) rfl rfl rfl ?_
  refine w_cvQ (j := 9) rfl rfl rfl rfl rfl rfl rfl T (fun u h1 k1 q => ?_) (fun x h1 k1 q => ?_)
  · rcases q with ⟨v, h2, e, hP⟩ | ⟨x, h2, e, hX⟩
    · cases e
      refine w_i2l (j := 10) rfl rfl ?_
      refine w_las (j := 11) rfl rfl rfl rfl (by decide) rfl ?_
      refine w_go rfl ?_
      refine w_ic (n := 0) (j := 16) rfl rfl ?_
      refine w_ir rfl ?_
      exact Or.inl ⟨v, h1, rfl, hP⟩
    · cases e
  · rcases q with ⟨v, h2, e, hP⟩ | ⟨x, h2, e, hX⟩
    · cases e
    · cases e
      obtain rfl := hx x h1 hX
      refine Or.inr ⟨rfl, (0, 16, 0, 13, 7), rfl, Nat.le_of_ble_eq_true rfl, ?_⟩
      refine w_ic (n := 1) (j := 14) rfl rfl ?_
      refine w_ir rfl ?_
      exact Or.inr ⟨0, h1, rfl, hX⟩
theorem H_285 {a0 a1 a2 a3 a4 a5 a6 : Int32} (T : px_CO D 140 [.ref 0, .int a0, .int a1, .int a2, .int a3, .int a4, .int a5, .int a6] h P PX) (hx : ∀ x h1, PX x h1 → x = 0) : px_T px_L D 285 [.ref 0, .int a0, .int a1, .int a2, .int a3, .int a4, .int a5, .int a6, .ref 99] h (fun r => (∃ v h1, r = (.inl (some (.int (nI 0))), ix_up h1 99 0 v, 0) ∧ P v h1) ∨ ∃ x h1, r = (.inl (some (.int (nI 1))), h1, 1) ∧ PX x h1) := by
  refine px_hT (k := 25) (M := mt_285) rfl (by decide) rfl rfl rfl rfl ?_
  show px_R px_E D mo_285 [(0, 20, 0, 15, 9)] 0 _ [] h 0 _
  refine w_aL (j := 1) rfl rfl rfl ?_
  refine w_ic (n := 0) (j := 2) rfl rfl ?_
  refine w_al (j := 3) rfl rfl rfl ?_
  refine w_il (j := 4) rfl rfl rfl ?_
  refine w_il (j := 5) rfl rfl rfl ?_
  refine w_il (j := 6) rfl rfl rfl ?_
  refine w_iL (j := 7) rfl rfl rfl ?_
  refine w_iL (j := 8) rfl rfl rfl ?_
  refine w_iL (j := 9) rfl rfl rfl ?_
  refine w_iL (j := 10) rfl rfl rfl ?_
  refine w_cvQ (j := 11) rfl rfl rfl rfl rfl rfl rfl T (fun u h1 k1 q => ?_) (fun x h1 k1 q => ?_)
  · rcases q with ⟨v, h2, e, hP⟩ | ⟨x, h2, e, hX⟩
    · cases e
      refine w_i2l (j := 12) rfl rfl ?_
      refine w_las (j := 13) rfl rfl rfl rfl (by decide) rfl ?_
      refine w_go rfl ?_
      refine w_ic (n := 0) (j := 18) rfl rfl ?_
      refine w_ir rfl ?_
      exact Or.inl ⟨v, h1, rfl, hP⟩
    · cases e
  · rcases q with ⟨v, h2, e, hP⟩ | ⟨x, h2, e, hX⟩
    · cases e
    · cases e
      obtain rfl := hx x h1 hX
      refine Or.inr ⟨rfl, (0, 20, 0, 15, 9), rfl, Nat.le_of_ble_eq_true rfl, ?_⟩
      refine w_ic (n := 1) (j := 16) rfl rfl ?_
      refine w_ir rfl ?_
      exact Or.inr ⟨0, h1, rfl, hX⟩
end LH
