def pf_added (a b : Int32) : Int32 := if a = -1 ∨ b = -1 then -1 else a + b
theorem sp_29 {h : ix_H} {a b : Int32} : px_V 1 29 [.int a, .int b] h (some (.int (pf_added a b))) h := by
  refine px_M (M := mt_29) (ops := mo_29) tb_29 rfl rfl rfl rfl rfl ?_
  refine w_il (j := 1) rfl rfl rfl ?_
  refine w_im (j := 2) rfl rfl ?_
  refine w_eq (j := 3) rfl rfl (fun c1 => ?_) (fun c1 => ?_)
  ·
    refine w_im (j := 7) rfl rfl ?_
    refine w_go rfl ?_
    refine w_ir rfl ?_
    simp [pf_added, c1]
  ·
    refine w_il (j := 4) rfl rfl rfl ?_
    refine w_im (j := 5) rfl rfl ?_
    refine w_ne (j := 6) rfl rfl (fun c2 => ?_) (fun c2 => ?_)
    ·
      refine w_il (j := 9) rfl rfl rfl ?_
      refine w_il (j := 10) rfl rfl rfl ?_
      first | refine w_addN (j := 11) rfl rfl ?_ | refine w_add (j := 11) rfl rfl ?_
      refine w_ir rfl ?_
      simp [pf_added, c1, c2]
    ·
      refine w_im (j := 7) rfl rfl ?_
      refine w_go rfl ?_
      refine w_ir rfl ?_
      simp [pf_added, c2]
def px_St (x : Nat) : Prop := ix_sh x = (5, 9, 0) ∧ ix_rf x = [some 3, some (x + 1), some (x + 2), some (x + 3), none, none, none] ∧ ix_sh (x + 1) = (1, 8, 0) ∧ ix_sh (x + 2) = (1, 8, 0) ∧ ix_sh (x + 3) = (1, 8, 0)
def pf_lev (s : Nat → Int32) (cries bound : Int32) (c : Nat) (v : Int32) : Int32 := if cries >>> (nI c &&& 31) &&& nI 1 = nI 1 then v + (if bound < s c then bound else s c) else v
theorem sp_83 {h : ix_H} {x N : Nat} {cries bound : Int32} (hx : px_St x) (hN : h 3 7 = nI N) (hb : N ≤ 8) : px_V 1 83 [.ref x, .int cries, .int bound] h (some (.int (px_fold (pf_lev (h (x + 1)) cries bound) N (nI 0)))) h := by
  obtain ⟨x1, x2, x3, x4, x5⟩ := hx
  refine px_M (M := mt_83) (ops := mo_83) tb_83 rfl rfl rfl rfl rfl ?_
  refine w_ic (n := 0) (j := 1) rfl rfl ?_
  refine w_is (j := 2) rfl rfl rfl ?_
  refine w_ic (n := 0) (j := 3) rfl rfl ?_
  refine w_iS (j := 4) rfl rfl rfl ?_
  refine px_for (fun c s => [.ref x, .int cries, .int bound, .int s, .int (nI c)]) (fun _ => h) (pf_lev (h (x + 1)) cries bound) N (nI 0) (fun _ _ => True) trivial (fun _ _ _ _ => trivial) ?_ ?_
  · intro c s hc _ H
    refine w_iL (j := 5) rfl rfl rfl ?_
    refine w_al (j := 6) rfl rfl rfl ?_
    first | refine w_gr (j := 7) rfl rfl (by first | assumption | rfl) (by first | assumption | rfl) rfl ?_ | refine w_gi (j := 7) rfl rfl (by first | assumption | rfl) (by first | assumption | rfl) rfl rfl ?_
    first | refine w_gr (j := 8) rfl rfl (by first | assumption | rfl) (by first | assumption | rfl) rfl ?_ | refine w_gi (j := 8) rfl rfl (by first | assumption | rfl) (by first | assumption | rfl) rfl hN ?_
    refine w_geN (j := 9) rfl rfl (by omega) (by omega) (fun c => absurd c (fun c => by omega)) (fun _ => ?_)
    refine w_il (j := 10) rfl rfl rfl ?_
    refine w_iL (j := 11) rfl rfl rfl ?_
    refine w_shr (j := 12) rfl rfl ?_
    refine w_ic (n := 1) (j := 13) rfl rfl ?_
    refine w_and (j := 14) rfl rfl ?_
    refine w_ic (n := 1) (j := 15) rfl rfl ?_
    refine w_ne (j := 16) rfl rfl (fun c1 => ?_) (fun c1 => ?_)
    ·
      first | refine w_incN (j := 26) rfl rfl rfl ?_ | refine w_inc (j := 26) rfl rfl rfl rfl ?_
      refine w_go rfl ?_
      rw [pf_lev, if_neg c1] at H
      exact H
    ·
      refine w_il (j := 17) rfl rfl rfl ?_
      refine w_al (j := 18) rfl rfl rfl ?_
      first | refine w_gr (j := 19) rfl rfl (by first | assumption | rfl) (by first | assumption | rfl) rfl ?_ | refine w_gi (j := 19) rfl rfl (by first | assumption | rfl) (by first | assumption | rfl) rfl rfl ?_
      refine w_iL (j := 20) rfl rfl rfl ?_
      refine w_ial (j := 21) rfl rfl (by first | assumption | rfl) rfl (by omega) rfl rfl ?_
      refine w_il (j := 22) rfl rfl rfl ?_
      refine w_min (j := 23) rfl rfl rfl ?_
      first | refine w_addN (j := 24) rfl rfl ?_ | refine w_add (j := 24) rfl rfl ?_
      refine w_is (j := 25) rfl rfl rfl ?_
      first | refine w_incN (j := 26) rfl rfl rfl ?_ | refine w_inc (j := 26) rfl rfl rfl rfl ?_
      refine w_go rfl ?_
      rw [pf_lev, if_pos c1] at H
      exact H
  · intro _
    refine w_iL (j := 5) rfl rfl rfl ?_
    refine w_al (j := 6) rfl rfl rfl ?_
    first | refine w_gr (j := 7) rfl rfl (by first | assumption | rfl) (by first | assumption | rfl) rfl ?_ | refine w_gi (j := 7) rfl rfl (by first | assumption | rfl) (by first | assumption | rfl) rfl rfl ?_
    first | refine w_gr (j := 8) rfl rfl (by first | assumption | rfl) (by first | assumption | rfl) rfl ?_ | refine w_gi (j := 8) rfl rfl (by first | assumption | rfl) (by first | assumption | rfl) rfl hN ?_
    refine w_geN (j := 9) rfl rfl (by omega) (by omega) (fun _ => ?_) (fun c => absurd c (fun c => by omega))
    refine w_il (j := 28) rfl rfl rfl ?_
    refine w_ir rfl ?_
    rfl
