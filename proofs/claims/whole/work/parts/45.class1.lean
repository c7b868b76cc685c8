def px_us (a b : Int32) : Int32 := (a.toUInt32 >>> (b.toUInt32 &&& Int32.toUInt32 31)).toInt32
def pf_b1 (i : Int32) : Int32 := i - (px_us i (nI 1) &&& nI 1431655765)
def pf_b2 (i : Int32) : Int32 := (i &&& nI 858993459) + (px_us i (nI 2) &&& nI 858993459)
def pf_b3 (i : Int32) : Int32 := (i + px_us i (nI 4)) &&& nI 252645135
def pf_b4 (i : Int32) : Int32 := i + px_us i (nI 8)
def pf_b5 (i : Int32) : Int32 := i + px_us i (nI 16)
def pf_bc (i : Int32) : Int32 := pf_b5 (pf_b4 (pf_b3 (pf_b2 (pf_b1 i)))) &&& nI 63
theorem sp_259 {h : ix_H} {a : Int32} : px_V 1 259 [.int a] h (some (.int (pf_bc a))) h := by
  refine px_M (M := mt_259) (ops := mo_259) tb_259 rfl rfl rfl rfl rfl ?_
  refine w_il (j := 1) rfl rfl rfl ?_
  refine w_il (j := 2) rfl rfl rfl ?_
  refine w_ic (n := 1) (j := 3) rfl rfl ?_
  refine w_ushr (j := 4) rfl rfl ?_
  refine w_lw (j := 5) (a := nI 1431655765) rfl rfl (by decide) ?_
  refine w_and (j := 6) rfl rfl ?_
  first | refine w_subN (j := 7) rfl rfl (by omega) ?_ | refine w_sub (j := 7) rfl rfl ?_
  refine w_is (j := 8) rfl rfl rfl ?_
  refine w_il (j := 9) rfl rfl rfl ?_
  refine w_lw (j := 10) (a := nI 858993459) rfl rfl (by decide) ?_
  refine w_and (j := 11) rfl rfl ?_
  refine w_il (j := 12) rfl rfl rfl ?_
  refine w_ic (n := 2) (j := 13) rfl rfl ?_
  refine w_ushr (j := 14) rfl rfl ?_
  refine w_lw (j := 15) (a := nI 858993459) rfl rfl (by decide) ?_
  refine w_and (j := 16) rfl rfl ?_
  first | refine w_add0 (j := 17) rfl rfl ?_ | refine w_addN (j := 17) rfl rfl ?_ | refine w_add (j := 17) rfl rfl ?_
  refine w_is (j := 18) rfl rfl rfl ?_
  refine w_il (j := 19) rfl rfl rfl ?_
  refine w_il (j := 20) rfl rfl rfl ?_
  refine w_ic (n := 4) (j := 21) rfl rfl ?_
  refine w_ushr (j := 22) rfl rfl ?_
  first | refine w_add0 (j := 23) rfl rfl ?_ | refine w_addN (j := 23) rfl rfl ?_ | refine w_add (j := 23) rfl rfl ?_
  refine w_lw (j := 24) (a := nI 252645135) rfl rfl (by decide) ?_
  refine w_and (j := 25) rfl rfl ?_
  refine w_is (j := 26) rfl rfl rfl ?_
  refine w_il (j := 27) rfl rfl rfl ?_
  refine w_il (j := 28) rfl rfl rfl ?_
  refine w_bi (j := 29) (a := nI 8) rfl rfl (by decide) ?_
  refine w_ushr (j := 30) rfl rfl ?_
  first | refine w_add0 (j := 31) rfl rfl ?_ | refine w_addN (j := 31) rfl rfl ?_ | refine w_add (j := 31) rfl rfl ?_
  refine w_is (j := 32) rfl rfl rfl ?_
  refine w_il (j := 33) rfl rfl rfl ?_
  refine w_il (j := 34) rfl rfl rfl ?_
  refine w_bi (j := 35) (a := nI 16) rfl rfl (by decide) ?_
  refine w_ushr (j := 36) rfl rfl ?_
  first | refine w_add0 (j := 37) rfl rfl ?_ | refine w_addN (j := 37) rfl rfl ?_ | refine w_add (j := 37) rfl rfl ?_
  refine w_is (j := 38) rfl rfl rfl ?_
  refine w_il (j := 39) rfl rfl rfl ?_
  refine w_bi (j := 40) (a := nI 63) rfl rfl (by decide) ?_
  refine w_and (j := 41) rfl rfl ?_
  refine w_ir rfl ?_
  rfl
def px_Ld (x : Nat) : Prop := ix_sh x = (5, 4, 0) ∧ ix_rf x = [some (x + 1), some (x + 2), some (x + 3), some (x + 4), some (x + 5), some (x + 12), none, none, none, none] ∧ ix_sh (x + 1) = (1, 6, 0) ∧ ix_sh (x + 2) = (1, 6, 0) ∧ ix_sh (x + 3) = (1, 8, 0) ∧ ix_sh (x + 4) = (1, 8, 0) ∧ ix_sh (x + 5) = (3, 6, x + 6) ∧ ix_sh (x + 12) = (3, 6, x + 13) ∧ ∀ b, b < 6 → ix_sh (x + 6 + b) = (1, 6, 0) ∧ ix_sh (x + 13 + b) = (1, 6, 0)
theorem px_Ld3 : px_Ld 3 := by unfold px_Ld; decide
theorem px_Ld22 : px_Ld 22 := by unfold px_Ld; decide
theorem sp_25 {h : ix_H} {x : Nat} {b : Int32} (hx : px_Ld x) : px_V 1 25 [.ref x, .int b] h (some (.int (px_b (decide (0 ≤ b ∧ b < h x 6))))) h := by
  obtain ⟨x1, x2, x3⟩ := hx
  refine px_M (M := mt_25) (ops := mo_25) tb_25 rfl rfl rfl rfl rfl ?_
  refine w_il (j := 1) rfl rfl rfl ?_
  refine w_ltZ (j := 2) rfl rfl (fun c1 => ?_) (fun c1 => ?_)
  ·
    refine w_ic (n := 0) (j := 9) rfl rfl ?_
    refine w_irB rfl (by first | exact Or.inl rfl | exact Or.inr rfl | exact px_b01 _) ?_
    exact px_rb0 (fun q => px_not_lt.mpr q.1 c1)
  ·
    refine w_il (j := 3) rfl rfl rfl ?_
    refine w_al (j := 4) rfl rfl rfl ?_
    first | refine w_gr (j := 5) rfl rfl (by first | assumption | rfl) (by first | assumption | rfl) rfl ?_ | refine w_gi (j := 5) rfl rfl (by first | assumption | rfl) (by first | assumption | rfl) rfl rfl ?_
    refine w_ge (j := 6) rfl rfl (fun c2 => ?_) (fun c2 => ?_)
    ·
      refine w_ic (n := 0) (j := 9) rfl rfl ?_
      refine w_irB rfl (by first | exact Or.inl rfl | exact Or.inr rfl | exact px_b01 _) ?_
      exact px_rb0 (fun q => px_not_lt.mpr c2 q.2)
    ·
      refine w_ic (n := 1) (j := 7) rfl rfl ?_
      refine w_go rfl ?_
      refine w_irB rfl (by first | exact Or.inl rfl | exact Or.inr rfl | exact px_b01 _) ?_
      exact px_rb1 ⟨c1, c2⟩
theorem sp_26 {h : ix_H} {x : Nat} {b : Int32} (hx : px_Ld x) : px_V 1 26 [.ref x, .int b] h (some (.int (px_b (decide (0 ≤ b ∧ b < h x 7))))) h := by
  obtain ⟨x1, x2, x3⟩ := hx
  refine px_M (M := mt_26) (ops := mo_26) tb_26 rfl rfl rfl rfl rfl ?_
  refine w_il (j := 1) rfl rfl rfl ?_
  refine w_ltZ (j := 2) rfl rfl (fun c1 => ?_) (fun c1 => ?_)
  ·
    refine w_ic (n := 0) (j := 9) rfl rfl ?_
    refine w_irB rfl (by first | exact Or.inl rfl | exact Or.inr rfl | exact px_b01 _) ?_
    exact px_rb0 (fun q => px_not_lt.mpr q.1 c1)
  ·
    refine w_il (j := 3) rfl rfl rfl ?_
    refine w_al (j := 4) rfl rfl rfl ?_
    first | refine w_gr (j := 5) rfl rfl (by first | assumption | rfl) (by first | assumption | rfl) rfl ?_ | refine w_gi (j := 5) rfl rfl (by first | assumption | rfl) (by first | assumption | rfl) rfl rfl ?_
    refine w_ge (j := 6) rfl rfl (fun c2 => ?_) (fun c2 => ?_)
    ·
      refine w_ic (n := 0) (j := 9) rfl rfl ?_
      refine w_irB rfl (by first | exact Or.inl rfl | exact Or.inr rfl | exact px_b01 _) ?_
      exact px_rb0 (fun q => px_not_lt.mpr c2 q.2)
    ·
      refine w_ic (n := 1) (j := 7) rfl rfl ?_
      refine w_go rfl ?_
      refine w_irB rfl (by first | exact Or.inl rfl | exact Or.inr rfl | exact px_b01 _) ?_
      exact px_rb1 ⟨c1, c2⟩
def pf_added (a b : Int32) : Int32 := if a = -1 ∨ b = -1 then -1 else a + b
theorem sp_29 {h : ix_H} {a b : Int32} : px_V 1 29 [.int a, .int b] h (some (.int (pf_added a b))) h := by
  refine px_M (M := mt_29) (ops := mo_29) tb_29 rfl rfl rfl rfl rfl ?_
  refine w_il (j := 1) rfl rfl rfl ?_
  refine w_im (j := 2) rfl rfl ?_
  refine w_eq (j := 3) rfl rfl (fun c1 => ?_) (fun c1 => ?_)
  ·
    refine w_im (j := 7) rfl rfl ?_
    refine w_go rfl ?_
    refine w_ir rfl ?_
    simp [pf_added, c1]
  ·
    refine w_il (j := 4) rfl rfl rfl ?_
    refine w_im (j := 5) rfl rfl ?_
    refine w_ne (j := 6) rfl rfl (fun c2 => ?_) (fun c2 => ?_)
    ·
      refine w_il (j := 9) rfl rfl rfl ?_
      refine w_il (j := 10) rfl rfl rfl ?_
      first | refine w_add0 (j := 11) rfl rfl ?_ | refine w_addN (j := 11) rfl rfl ?_ | refine w_add (j := 11) rfl rfl ?_
      refine w_ir rfl ?_
      simp [pf_added, c1, c2]
    ·
      refine w_im (j := 7) rfl rfl ?_
      refine w_go rfl ?_
      refine w_ir rfl ?_
      simp [pf_added, c2]
def pf_less (a b : Int32) : Int32 := if a = -1 ∨ b = -1 then (if a < b then b else a) else (if b < a then b else a)
theorem sp_30 {h : ix_H} {a b : Int32} : px_V 1 30 [.int a, .int b] h (some (.int (pf_less a b))) h := by
  refine px_M (M := mt_30) (ops := mo_30) tb_30 rfl rfl rfl rfl rfl ?_
  refine w_il (j := 1) rfl rfl rfl ?_
  refine w_im (j := 2) rfl rfl ?_
  refine w_eq (j := 3) rfl rfl (fun c1 => ?_) (fun c1 => ?_)
  ·
    refine w_il (j := 7) rfl rfl rfl ?_
    refine w_il (j := 8) rfl rfl rfl ?_
    refine w_max (j := 9) rfl rfl rfl ?_
    refine w_ir rfl ?_
    exact px_ri (by rw [pf_less, if_pos (Or.inl c1)])
  ·
    refine w_il (j := 4) rfl rfl rfl ?_
    refine w_im (j := 5) rfl rfl ?_
    refine w_ne (j := 6) rfl rfl (fun c2 => ?_) (fun c2 => ?_)
    ·
      refine w_il (j := 11) rfl rfl rfl ?_
      refine w_il (j := 12) rfl rfl rfl ?_
      refine w_min (j := 13) rfl rfl rfl ?_
      refine w_ir rfl ?_
      exact px_ri (by rw [pf_less, if_neg (show ¬ (a = -1 ∨ b = -1) from fun q => q.elim c1 c2)])
    ·
      refine w_il (j := 7) rfl rfl rfl ?_
      refine w_il (j := 8) rfl rfl rfl ?_
      refine w_max (j := 9) rfl rfl rfl ?_
      refine w_ir rfl ?_
      exact px_ri (by rw [pf_less, if_pos (Or.inr c2)])
def pf_bit (c : Nat) : Int32 := nI 1 <<< (nI c &&& 31)
def pf_nb (p : Nat → Int32) (c : Nat) (v : Int32) : Int32 := if 0 < p c then v ||| pf_bit c else v
theorem sp_31 {h : ix_H} {x N b : Nat} (hx : px_Ld x) (hN : h x 6 = nI N) (hb : N ≤ 6) (hbb : b < 6) : px_V 1 31 [.ref x, .int (nI b)] h (some (.int (px_fold (pf_nb (h (x + 6 + b))) N (nI 0)))) h := by
  obtain ⟨x1, x2, x3, x4, x5, x6, x7, x8, x9⟩ := hx
  have x10 := (x9 b hbb).1
  refine px_M (M := mt_31) (ops := mo_31) tb_31 rfl rfl rfl rfl rfl ?_
  refine w_ic (n := 0) (j := 1) rfl rfl ?_
  refine w_is (j := 2) rfl rfl rfl ?_
  refine w_ic (n := 0) (j := 3) rfl rfl ?_
  refine w_is (j := 4) rfl rfl rfl ?_
  refine px_for (fun c s => [.ref x, .int (nI b), .int s, .int (nI c)]) (fun _ => h) (pf_nb (h (x + 6 + b))) N (nI 0) (fun _ _ => True) trivial (fun _ _ _ _ => trivial) ?_ ?_
  · intro c s hc _ H
    refine w_il (j := 5) rfl rfl rfl ?_
    refine w_al (j := 6) rfl rfl rfl ?_
    first | refine w_gr (j := 7) rfl rfl (by first | assumption | rfl) (by first | assumption | rfl) rfl ?_ | refine w_gi (j := 7) rfl rfl (by first | assumption | rfl) (by first | assumption | rfl) rfl hN ?_
    refine w_geN (j := 8) rfl rfl (by omega) (by omega) (fun c => absurd c (fun c => by omega)) (fun _ => ?_)
    refine w_al (j := 9) rfl rfl rfl ?_
    first | refine w_gr (j := 10) rfl rfl (by first | assumption | rfl) (by first | assumption | rfl) rfl ?_ | refine w_gi (j := 10) rfl rfl (by first | assumption | rfl) (by first | assumption | rfl) rfl rfl ?_
    refine w_il (j := 11) rfl rfl rfl ?_
    refine w_aal (j := 12) rfl rfl (by first | assumption | rfl) rfl (by omega) rfl ?_
    refine w_il (j := 13) rfl rfl rfl ?_
    refine w_ial (j := 14) rfl rfl (by first | assumption | rfl) rfl (by omega) rfl rfl ?_
    refine w_leZ (j := 15) rfl rfl (fun c1 => ?_) (fun c1 => ?_)
    ·
      first | refine w_incN (j := 22) rfl rfl rfl ?_ | refine w_inc (j := 22) rfl rfl rfl rfl ?_
      refine w_go rfl ?_
      rw [pf_nb, if_neg (px_not_lt.mpr c1)] at H
      exact H
    ·
      refine w_il (j := 16) rfl rfl rfl ?_
      refine w_ic (n := 1) (j := 17) rfl rfl ?_
      refine w_il (j := 18) rfl rfl rfl ?_
      refine w_shl (j := 19) rfl rfl ?_
      refine w_or (j := 20) rfl rfl ?_
      refine w_is (j := 21) rfl rfl rfl ?_
      first | refine w_incN (j := 22) rfl rfl rfl ?_ | refine w_inc (j := 22) rfl rfl rfl rfl ?_
      refine w_go rfl ?_
      rw [pf_nb, if_pos c1] at H
      exact H
  · intro _
    refine w_il (j := 5) rfl rfl rfl ?_
    refine w_al (j := 6) rfl rfl rfl ?_
    first | refine w_gr (j := 7) rfl rfl (by first | assumption | rfl) (by first | assumption | rfl) rfl ?_ | refine w_gi (j := 7) rfl rfl (by first | assumption | rfl) (by first | assumption | rfl) rfl hN ?_
    refine w_geN (j := 8) rfl rfl (by omega) (by omega) (fun _ => ?_) (fun c => absurd c (fun c => by omega))
    refine w_il (j := 24) rfl rfl rfl ?_
    refine w_ir rfl ?_
    rfl
def pf_hb (pp : Nat → Nat → Int32) (N : Nat) (ks : Int32) (c : Nat) (v : Int32) : Int32 := if ks >>> (nI c &&& 31) &&& nI 1 = nI 1 then v ||| px_fold (pf_nb (pp c)) N (nI 0) else v
theorem sp_35 {h : ix_H} {x N : Nat} {ks : Int32} (hx : px_Ld x) (hN : h x 6 = nI N) (hb : N ≤ 6) : px_V 2 35 [.ref x, .int ks] h (some (.int (px_fold (pf_hb (fun a => h (x + 6 + a)) N ks) N ks))) h := by
  have hx' := hx
  obtain ⟨x1, x2, x3, x4, x5, x6, x7, x8, x9⟩ := hx
  refine px_M (M := mt_35) (ops := mo_35) tb_35 rfl rfl rfl rfl rfl ?_
  refine w_il (j := 1) rfl rfl rfl ?_
  refine w_is (j := 2) rfl rfl rfl ?_
  refine w_ic (n := 0) (j := 3) rfl rfl ?_
  refine w_is (j := 4) rfl rfl rfl ?_
  refine px_for (fun c s => [.ref x, .int ks, .int s, .int (nI c)]) (fun _ => h) (pf_hb (fun a => h (x + 6 + a)) N ks) N ks (fun _ _ => True) trivial (fun _ _ _ _ => trivial) ?_ ?_
  · intro c s hc _ H
    refine w_il (j := 5) rfl rfl rfl ?_
    refine w_al (j := 6) rfl rfl rfl ?_
    first | refine w_gr (j := 7) rfl rfl (by first | assumption | rfl) (by first | assumption | rfl) rfl ?_ | refine w_gi (j := 7) rfl rfl (by first | assumption | rfl) (by first | assumption | rfl) rfl hN ?_
    refine w_geN (j := 8) rfl rfl (by omega) (by omega) (fun c => absurd c (fun c => by omega)) (fun _ => ?_)
    refine w_il (j := 9) rfl rfl rfl ?_
    refine w_il (j := 10) rfl rfl rfl ?_
    refine w_shr (j := 11) rfl rfl ?_
    refine w_ic (n := 1) (j := 12) rfl rfl ?_
    refine w_and (j := 13) rfl rfl ?_
    refine w_ic (n := 1) (j := 14) rfl rfl ?_
    refine w_ne (j := 15) rfl rfl (fun c1 => ?_) (fun c1 => ?_)
    ·
      first | refine w_incN (j := 22) rfl rfl rfl ?_ | refine w_inc (j := 22) rfl rfl rfl rfl ?_
      refine w_go rfl ?_
      rw [pf_hb, if_neg c1] at H
      exact H
    ·
      refine w_il (j := 16) rfl rfl rfl ?_
      refine w_al (j := 17) rfl rfl rfl ?_
      refine w_il (j := 18) rfl rfl rfl ?_
      refine w_cvI (j := 19) rfl rfl rfl rfl (by first | assumption | rfl) rfl rfl (sp_31 hx' hN hb (by omega)) rfl ?_
      refine w_or (j := 20) rfl rfl ?_
      refine w_is (j := 21) rfl rfl rfl ?_
      first | refine w_incN (j := 22) rfl rfl rfl ?_ | refine w_inc (j := 22) rfl rfl rfl rfl ?_
      refine w_go rfl ?_
      rw [pf_hb, if_pos c1] at H
      exact H
  · intro _
    refine w_il (j := 5) rfl rfl rfl ?_
    refine w_al (j := 6) rfl rfl rfl ?_
    first | refine w_gr (j := 7) rfl rfl (by first | assumption | rfl) (by first | assumption | rfl) rfl ?_ | refine w_gi (j := 7) rfl rfl (by first | assumption | rfl) (by first | assumption | rfl) rfl hN ?_
    refine w_geN (j := 8) rfl rfl (by omega) (by omega) (fun _ => ?_) (fun c => absurd c (fun c => by omega))
    refine w_il (j := 24) rfl rfl rfl ?_
    refine w_ir rfl ?_
    rfl
def pf_abs (a : Int32) : Int32 := if 0 ≤ a then a else 0 - a
def pf_rem (a b : Int32) : Int32 := a - a / b * b
theorem sp_36 {h : ix_H} {x c d : Nat} (hx : px_Ld x) (hc : c < 8) (hd : d < 8) : px_V 1 36 [.ref x, .int (nI c), .int (nI d)] h (some (.int (pf_rem (pf_abs (h (x + 3) c - h (x + 3) d)) (nI 12)))) h := by
  obtain ⟨x1, x2, x3, x4, x5, x6, x7, x8, x9⟩ := hx
  refine px_M (M := mt_36) (ops := mo_36) tb_36 rfl rfl rfl rfl rfl ?_
  refine w_al (j := 1) rfl rfl rfl ?_
  first | refine w_gr (j := 2) rfl rfl (by first | assumption | rfl) (by first | assumption | rfl) rfl ?_ | refine w_gi (j := 2) rfl rfl (by first | assumption | rfl) (by first | assumption | rfl) rfl rfl ?_
  refine w_il (j := 3) rfl rfl rfl ?_
  refine w_ial (j := 4) rfl rfl (by first | assumption | rfl) rfl (by omega) rfl rfl ?_
  refine w_al (j := 5) rfl rfl rfl ?_
  first | refine w_gr (j := 6) rfl rfl (by first | assumption | rfl) (by first | assumption | rfl) rfl ?_ | refine w_gi (j := 6) rfl rfl (by first | assumption | rfl) (by first | assumption | rfl) rfl rfl ?_
  refine w_il (j := 7) rfl rfl rfl ?_
  refine w_ial (j := 8) rfl rfl (by first | assumption | rfl) rfl (by omega) rfl rfl ?_
  first | refine w_subN (j := 9) rfl rfl (by omega) ?_ | refine w_sub (j := 9) rfl rfl ?_
  refine w_abs (j := 10) rfl rfl rfl ?_
  refine w_bi (j := 11) (a := nI 12) rfl rfl (by decide) ?_
  refine w_rem (j := 12) rfl rfl (by first | decide | assumption) ?_
  refine w_ir rfl ?_
  rfl
theorem sp_48 {h : ix_H} {m : Nat} {a b : Int32} (h2 : 2 ≤ m) (h8 : m ≤ 8) : px_V 1 48 [.int (nI m), .int a, .int b] h (some (.int (pf_jn m a b))) h := by
  refine px_M (M := mt_48) (ops := mo_48) tb_48 rfl rfl rfl rfl rfl ?_
  refine w_il (j := 1) rfl rfl rfl ?_
  obtain rfl | rfl | rfl | rfl | rfl | rfl | rfl : m = 2 ∨ m = 3 ∨ m = 4 ∨ m = 5 ∨ m = 6 ∨ m = 7 ∨ m = 8 := by omega
  ·
    refine w_swN (t := 2) rfl (by decide) (by omega) rfl ?_
    refine w_il (j := 3) rfl rfl rfl ?_
    refine w_il (j := 4) rfl rfl rfl ?_
    first | refine w_add0 (j := 5) rfl rfl ?_ | refine w_addN (j := 5) rfl rfl ?_ | refine w_add (j := 5) rfl rfl ?_
    refine w_ir rfl ?_
    rfl
  ·
    refine w_swN (t := 6) rfl (by decide) (by omega) rfl ?_
    refine w_il (j := 7) rfl rfl rfl ?_
    refine w_il (j := 8) rfl rfl rfl ?_
    first | refine w_subN (j := 9) rfl rfl (by omega) ?_ | refine w_sub (j := 9) rfl rfl ?_
    refine w_ir rfl ?_
    rfl
  ·
    refine w_swN (t := 10) rfl (by decide) (by omega) rfl ?_
    refine w_il (j := 11) rfl rfl rfl ?_
    refine w_il (j := 12) rfl rfl rfl ?_
    first | refine w_mulN (j := 13) rfl rfl ?_ | refine w_mul (j := 13) rfl rfl ?_
    refine w_ir rfl ?_
    rfl
  ·
    refine w_swN (t := 14) rfl (by decide) (by omega) rfl ?_
    refine w_il (j := 15) rfl rfl rfl ?_
    refine w_neZ (j := 16) rfl rfl (fun c => ?_) (fun c => ?_)
    ·
      refine w_il (j := 19) rfl rfl rfl ?_
      refine w_il (j := 20) rfl rfl rfl ?_
      refine w_div (j := 21) rfl rfl (by first | decide | assumption) ?_
      refine w_ir rfl ?_
      exact px_ri (if_neg c).symm
    ·
      refine w_ic (n := 0) (j := 17) rfl rfl ?_
      refine w_go rfl ?_
      refine w_ir rfl ?_
      exact px_ri (if_pos c).symm
  ·
    refine w_swN (t := 22) rfl (by decide) (by omega) rfl ?_
    refine w_il (j := 23) rfl rfl rfl ?_
    refine w_neZ (j := 24) rfl rfl (fun c => ?_) (fun c => ?_)
    ·
      refine w_il (j := 27) rfl rfl rfl ?_
      refine w_il (j := 28) rfl rfl rfl ?_
      refine w_rem (j := 29) rfl rfl (by first | decide | assumption) ?_
      refine w_ir rfl ?_
      exact px_ri (if_neg c).symm
    ·
      refine w_ic (n := 0) (j := 25) rfl rfl ?_
      refine w_go rfl ?_
      refine w_ir rfl ?_
      exact px_ri (if_pos c).symm
  ·
    refine w_swN (t := 30) rfl (by decide) (by omega) rfl ?_
    refine w_il (j := 31) rfl rfl rfl ?_
    refine w_il (j := 32) rfl rfl rfl ?_
    refine w_ge (j := 33) rfl rfl (fun c => ?_) (fun c => ?_)
    ·
      refine w_il (j := 36) rfl rfl rfl ?_
      refine w_ir rfl ?_
      exact px_ri (if_neg (px_not_lt.mpr c)).symm
    ·
      refine w_il (j := 34) rfl rfl rfl ?_
      refine w_go rfl ?_
      refine w_ir rfl ?_
      exact px_ri (if_pos c).symm
  ·
    refine w_swN (t := 37) rfl (by decide) (by omega) rfl ?_
    refine w_il (j := 38) rfl rfl rfl ?_
    refine w_il (j := 39) rfl rfl rfl ?_
    refine w_le (j := 40) rfl rfl (fun c => ?_) (fun c => ?_)
    ·
      refine w_il (j := 43) rfl rfl rfl ?_
      refine w_ir rfl ?_
      exact px_ri (if_neg (px_not_lt.mpr c)).symm
    ·
      refine w_il (j := 41) rfl rfl rfl ?_
      refine w_go rfl ?_
      refine w_ir rfl ?_
      exact px_ri (if_pos c).symm
