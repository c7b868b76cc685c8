def gx_V (k : Nat) : List Nat := [[107, 101, 101, 112], [102, 101, 108, 116], [98, 97, 114, 101], [108, 111, 111, 115, 101], [102, 105, 108, 108], [111, 117, 116], [121, 101, 97, 114], [97, 103, 97, 105, 110]].getD k []
theorem gw6_v0 : gx_w6 (gx_V 0) 11 5 5 16 0 0 := by unfold gx_w6; decide
theorem gwd_v0 : gx_wd 9 (gx_V 0) := by unfold gx_wd; decide
theorem gw6_v1 : gx_w6 (gx_V 1) 6 5 12 20 0 0 := by unfold gx_w6; decide
theorem gwd_v1 : gx_wd 7 (gx_V 1) := by unfold gx_wd; decide
theorem gw6_v2 : gx_w6 (gx_V 2) 2 1 18 5 0 0 := by unfold gx_w6; decide
theorem gwd_v2 : gx_wd 3 (gx_V 2) := by unfold gx_wd; decide
theorem gw6_v3 : gx_w6 (gx_V 3) 12 15 15 19 5 0 := by unfold gx_w6; decide
theorem gwd_v3 : gx_wd 11 (gx_V 3) := by unfold gx_wd; decide
theorem gw6_v4 : gx_w6 (gx_V 4) 6 9 12 12 0 0 := by unfold gx_w6; decide
theorem gwd_v4 : gx_wd 8 (gx_V 4) := by unfold gx_wd; decide
theorem gw6_v5 : gx_w6 (gx_V 5) 15 21 20 0 0 0 := by unfold gx_w6; decide
theorem gwd_v5 : gx_wd 15 (gx_V 5) := by unfold gx_wd; decide
theorem gw6_v6 : gx_w6 (gx_V 6) 25 5 1 18 0 0 := by unfold gx_w6; decide
theorem gwd_v6 : gx_wd 20 (gx_V 6) := by unfold gx_wd; decide
theorem gw6_v7 : gx_w6 (gx_V 7) 1 7 1 9 14 0 := by unfold gx_w6; decide
theorem gwd_v7 : gx_wd 0 (gx_V 7) := by unfold gx_wd; decide
theorem gx_V_u {tx : Nat → Nat} {s e k j : Nat} (hk : k < 8) (hj : j < 8) (a : gx_is tx s e (gx_V k)) (b : gx_is tx s e (gx_V j)) : k = j := by
  have e1 := gx_is_u a b
  have : ∀ k, k < 8 → ∀ j, j < 8 → gx_V k = gx_V j → k = j := by decide
  exact this k hk j hj e1
section WM
variable {h : ix_H} {tx : Nat → Nat} {n p f o : Nat} {fp : Int32}
theorem sp_192 {s : Nat} (hs : gx_sk tx n s = s) (r : px_mr h tx n s 0 fp o) : px_PI 5 192 [.ref 100] h (fun v h1 => ((∃ k, k < 8 ∧ v = nI k ∧ gx_is tx s (gx_lt tx n s) (gx_V k)) ∨ (v = -1 ∧ ∀ k, k < 8 → ¬ gx_is tx s (gx_lt tx n s) (gx_V k))) ∧ px_f1 h h1 ∧ px_mr h1 tx n s 0 fp o) := by
  refine px_M (M := mt_192) (ops := mo_192) tb_192 rfl rfl rfl rfl rfl ?_
  refine w_al (j := 1) rfl rfl rfl ?_
  refine w_bi (j := 2) (a := nI 11) rfl rfl (by decide) ?_
  refine w_ic (n := 5) (j := 3) rfl rfl ?_
  refine w_ic (n := 5) (j := 4) rfl rfl ?_
  refine w_bi (j := 5) (a := nI 16) rfl rfl (by decide) ?_
  refine w_ic (n := 0) (j := 6) rfl rfl ?_
  refine w_ic (n := 0) (j := 7) rfl rfl ?_
  refine w_cvPI (j := 8) rfl rfl rfl rfl (by first | assumption | rfl) rfl rfl (sp_168 gw6_v0 r) rfl ?_
  rintro v h1 ⟨⟨z, z1, z2⟩, f0, r0⟩
  rw [hs] at z2 r0
  subst z1
  refine w_eqB (j := 9) rfl rfl (fun c0 => ?_) (fun c0 => ?_)
  rotate_left
  ·
    refine w_ic (n := 0) (j := 10) rfl rfl ?_
    refine w_ir rfl ?_
    exact ⟨_, _, rfl, Or.inl ⟨0, by decide, rfl, z2.mp c0⟩, f0, r0⟩
  have n0 : ¬ gx_is tx s (gx_lt tx n s) (gx_V 0) := fun q => by rw [z2.mpr q] at c0; cases c0
  refine w_al (j := 12) rfl rfl rfl ?_
  refine w_bi (j := 13) (a := nI 6) rfl rfl (by decide) ?_
  refine w_ic (n := 5) (j := 14) rfl rfl ?_
  refine w_bi (j := 15) (a := nI 12) rfl rfl (by decide) ?_
  refine w_bi (j := 16) (a := nI 20) rfl rfl (by decide) ?_
  refine w_ic (n := 0) (j := 17) rfl rfl ?_
  refine w_ic (n := 0) (j := 18) rfl rfl ?_
  refine w_cvPI (j := 19) rfl rfl rfl rfl (by first | assumption | rfl) rfl rfl (sp_168 gw6_v1 r0) rfl ?_
  rintro v h2 ⟨⟨z, z1, z2⟩, f1, r1⟩
  rw [hs] at z2 r1
  subst z1
  refine w_eqB (j := 20) rfl rfl (fun c1 => ?_) (fun c1 => ?_)
  rotate_left
  ·
    refine w_ic (n := 1) (j := 21) rfl rfl ?_
    refine w_ir rfl ?_
    exact ⟨_, _, rfl, Or.inl ⟨1, by decide, rfl, z2.mp c1⟩, (f0).tr f1, r1⟩
  have n1 : ¬ gx_is tx s (gx_lt tx n s) (gx_V 1) := fun q => by rw [z2.mpr q] at c1; cases c1
  refine w_al (j := 23) rfl rfl rfl ?_
  refine w_ic (n := 2) (j := 24) rfl rfl ?_
  refine w_ic (n := 1) (j := 25) rfl rfl ?_
  refine w_bi (j := 26) (a := nI 18) rfl rfl (by decide) ?_
  refine w_ic (n := 5) (j := 27) rfl rfl ?_
  refine w_ic (n := 0) (j := 28) rfl rfl ?_
  refine w_ic (n := 0) (j := 29) rfl rfl ?_
  refine w_cvPI (j := 30) rfl rfl rfl rfl (by first | assumption | rfl) rfl rfl (sp_168 gw6_v2 r1) rfl ?_
  rintro v h3 ⟨⟨z, z1, z2⟩, f2, r2⟩
  rw [hs] at z2 r2
  subst z1
  refine w_eqB (j := 31) rfl rfl (fun c2 => ?_) (fun c2 => ?_)
  rotate_left
  ·
    refine w_ic (n := 2) (j := 32) rfl rfl ?_
    refine w_ir rfl ?_
    exact ⟨_, _, rfl, Or.inl ⟨2, by decide, rfl, z2.mp c2⟩, ((f0).tr f1).tr f2, r2⟩
  have n2 : ¬ gx_is tx s (gx_lt tx n s) (gx_V 2) := fun q => by rw [z2.mpr q] at c2; cases c2
  refine w_al (j := 34) rfl rfl rfl ?_
  refine w_bi (j := 35) (a := nI 12) rfl rfl (by decide) ?_
  refine w_bi (j := 36) (a := nI 15) rfl rfl (by decide) ?_
  refine w_bi (j := 37) (a := nI 15) rfl rfl (by decide) ?_
  refine w_bi (j := 38) (a := nI 19) rfl rfl (by decide) ?_
  refine w_ic (n := 5) (j := 39) rfl rfl ?_
  refine w_ic (n := 0) (j := 40) rfl rfl ?_
  refine w_cvPI (j := 41) rfl rfl rfl rfl (by first | assumption | rfl) rfl rfl (sp_168 gw6_v3 r2) rfl ?_
  rintro v h4 ⟨⟨z, z1, z2⟩, f3, r3⟩
  rw [hs] at z2 r3
  subst z1
  refine w_eqB (j := 42) rfl rfl (fun c3 => ?_) (fun c3 => ?_)
  rotate_left
  ·
    refine w_ic (n := 3) (j := 43) rfl rfl ?_
    refine w_ir rfl ?_
    exact ⟨_, _, rfl, Or.inl ⟨3, by decide, rfl, z2.mp c3⟩, (((f0).tr f1).tr f2).tr f3, r3⟩
  have n3 : ¬ gx_is tx s (gx_lt tx n s) (gx_V 3) := fun q => by rw [z2.mpr q] at c3; cases c3
  refine w_al (j := 45) rfl rfl rfl ?_
  refine w_bi (j := 46) (a := nI 6) rfl rfl (by decide) ?_
  refine w_bi (j := 47) (a := nI 9) rfl rfl (by decide) ?_
  refine w_bi (j := 48) (a := nI 12) rfl rfl (by decide) ?_
  refine w_bi (j := 49) (a := nI 12) rfl rfl (by decide) ?_
  refine w_ic (n := 0) (j := 50) rfl rfl ?_
  refine w_ic (n := 0) (j := 51) rfl rfl ?_
  refine w_cvPI (j := 52) rfl rfl rfl rfl (by first | assumption | rfl) rfl rfl (sp_168 gw6_v4 r3) rfl ?_
  rintro v h5 ⟨⟨z, z1, z2⟩, f4, r4⟩
  rw [hs] at z2 r4
  subst z1
  refine w_eqB (j := 53) rfl rfl (fun c4 => ?_) (fun c4 => ?_)
  rotate_left
  ·
    refine w_ic (n := 4) (j := 54) rfl rfl ?_
    refine w_ir rfl ?_
    exact ⟨_, _, rfl, Or.inl ⟨4, by decide, rfl, z2.mp c4⟩, ((((f0).tr f1).tr f2).tr f3).tr f4, r4⟩
  have n4 : ¬ gx_is tx s (gx_lt tx n s) (gx_V 4) := fun q => by rw [z2.mpr q] at c4; cases c4
  refine w_al (j := 56) rfl rfl rfl ?_
  refine w_bi (j := 57) (a := nI 15) rfl rfl (by decide) ?_
  refine w_bi (j := 58) (a := nI 21) rfl rfl (by decide) ?_
  refine w_bi (j := 59) (a := nI 20) rfl rfl (by decide) ?_
  refine w_ic (n := 0) (j := 60) rfl rfl ?_
  refine w_ic (n := 0) (j := 61) rfl rfl ?_
  refine w_ic (n := 0) (j := 62) rfl rfl ?_
  refine w_cvPI (j := 63) rfl rfl rfl rfl (by first | assumption | rfl) rfl rfl (sp_168 gw6_v5 r4) rfl ?_
  rintro v h6 ⟨⟨z, z1, z2⟩, f5, r5⟩
  rw [hs] at z2 r5
  subst z1
  refine w_eqB (j := 64) rfl rfl (fun c5 => ?_) (fun c5 => ?_)
  rotate_left
  ·
    refine w_ic (n := 5) (j := 65) rfl rfl ?_
    refine w_ir rfl ?_
    exact ⟨_, _, rfl, Or.inl ⟨5, by decide, rfl, z2.mp c5⟩, (((((f0).tr f1).tr f2).tr f3).tr f4).tr f5, r5⟩
  have n5 : ¬ gx_is tx s (gx_lt tx n s) (gx_V 5) := fun q => by rw [z2.mpr q] at c5; cases c5
  refine w_al (j := 67) rfl rfl rfl ?_
  refine w_bi (j := 68) (a := nI 25) rfl rfl (by decide) ?_
  refine w_ic (n := 5) (j := 69) rfl rfl ?_
  refine w_ic (n := 1) (j := 70) rfl rfl ?_
  refine w_bi (j := 71) (a := nI 18) rfl rfl (by decide) ?_
  refine w_ic (n := 0) (j := 72) rfl rfl ?_
  refine w_ic (n := 0) (j := 73) rfl rfl ?_
  refine w_cvPI (j := 74) rfl rfl rfl rfl (by first | assumption | rfl) rfl rfl (sp_168 gw6_v6 r5) rfl ?_
  rintro v h7 ⟨⟨z, z1, z2⟩, f6, r6⟩
  rw [hs] at z2 r6
  subst z1
  refine w_eqB (j := 75) rfl rfl (fun c6 => ?_) (fun c6 => ?_)
  rotate_left
  ·
    refine w_bi (j := 76) (a := nI 6) rfl rfl (by decide) ?_
    refine w_ir rfl ?_
    exact ⟨_, _, rfl, Or.inl ⟨6, by decide, rfl, z2.mp c6⟩, ((((((f0).tr f1).tr f2).tr f3).tr f4).tr f5).tr f6, r6⟩
  have n6 : ¬ gx_is tx s (gx_lt tx n s) (gx_V 6) := fun q => by rw [z2.mpr q] at c6; cases c6
  refine w_al (j := 78) rfl rfl rfl ?_
  refine w_ic (n := 1) (j := 79) rfl rfl ?_
  refine w_bi (j := 80) (a := nI 7) rfl rfl (by decide) ?_
  refine w_ic (n := 1) (j := 81) rfl rfl ?_
  refine w_bi (j := 82) (a := nI 9) rfl rfl (by decide) ?_
  refine w_bi (j := 83) (a := nI 14) rfl rfl (by decide) ?_
  refine w_ic (n := 0) (j := 84) rfl rfl ?_
  refine w_cvPI (j := 85) rfl rfl rfl rfl (by first | assumption | rfl) rfl rfl (sp_168 gw6_v7 r6) rfl ?_
  rintro v h8 ⟨⟨z, z1, z2⟩, f7, r7⟩
  rw [hs] at z2 r7
  subst z1
  refine w_eqB (j := 86) rfl rfl (fun c7 => ?_) (fun c7 => ?_)
  rotate_left
  ·
    refine w_bi (j := 87) (a := nI 7) rfl rfl (by decide) ?_
    refine w_go rfl ?_
    refine w_ir rfl ?_
    exact ⟨_, _, rfl, Or.inl ⟨7, by decide, rfl, z2.mp c7⟩, (((((((f0).tr f1).tr f2).tr f3).tr f4).tr f5).tr f6).tr f7, r7⟩
  have n7 : ¬ gx_is tx s (gx_lt tx n s) (gx_V 7) := fun q => by rw [z2.mpr q] at c7; cases c7
  refine w_im (j := 89) rfl rfl ?_
  refine w_ir rfl ?_
  refine ⟨_, _, rfl, Or.inr ⟨rfl, fun k hk => ?_⟩, (((((((f0).tr f1).tr f2).tr f3).tr f4).tr f5).tr f6).tr f7, r7⟩
  rcases (show k = 0 ∨ k = 1 ∨ k = 2 ∨ k = 3 ∨ k = 4 ∨ k = 5 ∨ k = 6 ∨ k = 7 by omega) with rfl | rfl | rfl | rfl | rfl | rfl | rfl | rfl
  · exact n0
  · exact n1
  · exact n2
  · exact n3
  · exact n4
  · exact n5
  · exact n6
  · exact n7
end WM
