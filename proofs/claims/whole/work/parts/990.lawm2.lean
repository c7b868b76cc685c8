abbrev gw_least : List Nat := [108, 101, 97, 115, 116]
abbrev gw_most : List Nat := [109, 111, 115, 116]
theorem gw6_least : gx_w6 gw_least 12 5 1 19 20 0 := by unfold gx_w6; decide
theorem gw6_most : gx_w6 gw_most 13 15 19 20 0 0 := by unfold gx_w6; decide
section LM
variable {h : ix_H} {tx : Nat → Nat} {n p f o : Nat} {fp : Int32}
theorem gx_is_len {s e : Nat} {w : List Nat} (q : gx_is tx s e w) (hw : 0 < w.length) : s + w.length = e := by have := q.1; omega
theorem sp_188x (hf : f ≠ 0) (r : px_mr h tx n p f fp o) : px_V 1 188 [.ref 100] h none h := by
  have r5 := r.2.2.2.2.1
  have f3 := r.2.2.2.2.2.1
  refine px_M (M := mt_188) (ops := mo_188) tb_188 rfl rfl rfl rfl rfl ?_
  refine w_al (j := 1) rfl rfl rfl ?_
  first | refine w_gr (j := 2) rfl rfl (by first | assumption | rfl) (by first | assumption | rfl) rfl ?_ | refine w_gi (j := 2) rfl rfl (by first | assumption | rfl) (by first | assumption | rfl) rfl r5 ?_
  refine w_eqM (j := 3) rfl rfl (by omega) (fun c => absurd c (fun c => by omega)) (fun _ => ?_)
  refine w_rt rfl ?_
  rfl
theorem sp_185x (hf : f ≠ 0) (r : px_mr h tx n p f fp o) : px_V 2 185 [.ref 100] h none h := by
  have r5 := r.2.2.2.2.1
  have f3 := r.2.2.2.2.2.1
  refine px_M (M := mt_185) (ops := mo_185) tb_185 rfl rfl rfl rfl rfl ?_
  refine w_al (j := 1) rfl rfl rfl ?_
  refine w_cvU (j := 2) rfl rfl rfl rfl (by first | assumption | rfl) rfl rfl (sp_188x hf r) rfl ?_
  refine w_al (j := 3) rfl rfl rfl ?_
  first | refine w_gr (j := 4) rfl rfl (by first | assumption | rfl) (by first | assumption | rfl) rfl ?_ | refine w_gi (j := 4) rfl rfl (by first | assumption | rfl) (by first | assumption | rfl) rfl r5 ?_
  refine w_neM (j := 5) rfl rfl (by omega) (fun _ => ?_) (fun c => absurd c (fun c => by omega))
  refine w_rt rfl ?_
  rfl
theorem sp_184x (hf : f ≠ 0) (r : px_mr h tx n p f fp o) : px_V 3 184 [.ref 100] h none h := by
  have r5 := r.2.2.2.2.1
  have f3 := r.2.2.2.2.2.1
  refine px_M (M := mt_184) (ops := mo_184) tb_184 rfl rfl rfl rfl rfl ?_
  refine w_al (j := 1) rfl rfl rfl ?_
  refine w_cvU (j := 2) rfl rfl rfl rfl (by first | assumption | rfl) rfl rfl (sp_185x hf r) rfl ?_
  refine w_al (j := 3) rfl rfl rfl ?_
  first | refine w_gr (j := 4) rfl rfl (by first | assumption | rfl) (by first | assumption | rfl) rfl ?_ | refine w_gi (j := 4) rfl rfl (by first | assumption | rfl) (by first | assumption | rfl) rfl r5 ?_
  refine w_neM (j := 5) rfl rfl (by omega) (fun _ => ?_) (fun c => absurd c (fun c => by omega))
  refine w_rt rfl ?_
  rfl
theorem mu_w {D w : Nat} {cs : List (Nat × Nat)} {Q : ix_R → Prop} (hD : 6 ≤ D) (S : lMS h tx n p o cs) (hw : (w = 7 ∧ gx_is tx (gx_sk tx n p) (gx_lt tx n (gx_sk tx n p)) gw_least) ∨ (w = 8 ∧ gx_is tx (gx_sk tx n p) (gx_lt tx n (gx_sk tx n p)) gw_most)) (H : ∀ h1, px_f1 h h1 → px_mr h1 tx n (gx_sk tx n p) 0 (-1) o → lm_l h1 cs → px_R px_E D mo_188 [] 33 [.ref 100, .int (nI w), .null] [] h1 0 Q) : px_R px_E D mo_188 [] 0 [.ref 100, .null, .null] [] h 0 Q := by
  obtain ⟨n1, s1, s2, L, p0, s3, s4, r⟩ := S
  have r5 := r.2.2.2.2.1
  have ss := gx_sk_sk (tx := tx) s2
  refine w_al (j := 1) rfl rfl rfl ?_
  first | refine w_gr (j := 2) rfl rfl (by first | assumption | rfl) (by first | assumption | rfl) rfl ?_ | refine w_gi (j := 2) rfl rfl (by first | assumption | rfl) (by first | assumption | rfl) rfl r5 ?_
  refine w_eqM (j := 3) rfl rfl (by omega) (fun _ => ?_) (fun c => absurd c (fun c => by omega))
  refine w_al (j := 5) rfl rfl rfl ?_
  refine w_cvPU (j := 6) rfl rfl rfl rfl (by first | assumption | rfl) rfl rfl (sp_161 r) (Nat.ble_eq.mpr (by omega)) ?_
  rintro h1 ⟨f1, r1⟩
  rw [s4] at r1
  clear s4
  generalize gx_sk tx n p = s at *
  refine w_al (j := 7) rfl rfl rfl ?_
  refine w_bi (j := 8) (a := nI 12) rfl rfl (by decide) ?_
  refine w_ic (n := 5) (j := 9) rfl rfl ?_
  refine w_ic (n := 1) (j := 10) rfl rfl ?_
  refine w_bi (j := 11) (a := nI 19) rfl rfl (by decide) ?_
  refine w_bi (j := 12) (a := nI 20) rfl rfl (by decide) ?_
  refine w_ic (n := 0) (j := 13) rfl rfl ?_
  refine w_cvPI (j := 14) rfl rfl rfl rfl (by first | assumption | rfl) rfl rfl (sp_168 gw6_least r1) (Nat.ble_eq.mpr (by omega)) ?_
  rintro v h2 ⟨⟨z, z1, z2⟩, f2, r2⟩
  rw [ss] at z2 r2
  subst z1
  refine w_eqB (j := 15) rfl rfl (fun c => ?_) (fun c => ?_)
  rotate_left
  ·
    have e := z2.mp c
    have e7 : w = 7 := by
      rcases hw with q | q
      · exact q.1
      · have := gx_is_u e q.2; exact absurd this (by decide)
    subst e7
    refine w_bi (j := 16) (a := nI 7) rfl rfl (by decide) ?_
    refine w_go rfl ?_
    refine w_is (j := 30) rfl rfl rfl ?_
    refine w_il (j := 31) rfl rfl rfl ?_
    refine w_im (j := 32) rfl rfl ?_
    refine w_eq (j := 33) rfl rfl (fun c => absurd c (px_nm1 (by omega))) (fun _ => ?_)
    exact H _ (f1.tr f2) r2 (L.f1 (f1.tr f2))
  have n7 : ¬ gx_is tx s (gx_lt tx n s) gw_least := fun q => by rw [z2.mpr q] at c; cases c
  have w8 := hw.resolve_left (fun q => n7 q.2)
  refine w_al (j := 18) rfl rfl rfl ?_
  refine w_bi (j := 19) (a := nI 13) rfl rfl (by decide) ?_
  refine w_bi (j := 20) (a := nI 15) rfl rfl (by decide) ?_
  refine w_bi (j := 21) (a := nI 19) rfl rfl (by decide) ?_
  refine w_bi (j := 22) (a := nI 20) rfl rfl (by decide) ?_
  refine w_ic (n := 0) (j := 23) rfl rfl ?_
  refine w_ic (n := 0) (j := 24) rfl rfl ?_
  refine w_cvPI (j := 25) rfl rfl rfl rfl (by first | assumption | rfl) rfl rfl (sp_168 gw6_most r2) (Nat.ble_eq.mpr (by omega)) ?_
  rintro v h3 ⟨⟨z, z1, z2⟩, f3, r3⟩
  rw [ss] at z2 r3
  subst z1
  have zt := z2.mpr w8.2
  subst zt
  obtain rfl := w8.1
  refine w_eqB (j := 26) rfl rfl (fun c => absurd c (by simp)) (fun _ => ?_)
  refine w_bi (j := 27) (a := nI 8) rfl rfl (by decide) ?_
  refine w_go rfl ?_
  refine w_is (j := 30) rfl rfl rfl ?_
  refine w_il (j := 31) rfl rfl rfl ?_
  refine w_im (j := 32) rfl rfl ?_
  refine w_eq (j := 33) rfl rfl (fun c => absurd c (px_nm1 (by omega))) (fun _ => ?_)
  exact H _ ((f1.tr f2).tr f3) r3 (L.f1 ((f1.tr f2).tr f3))
theorem mu_n {D : Nat} {cs : List (Nat × Nat)} {Q : ix_R → Prop} (hD : 6 ≤ D) (S : lMS h tx n p o cs) (nl : ¬ gx_is tx (gx_sk tx n p) (gx_lt tx n (gx_sk tx n p)) gw_least) (nm : ¬ gx_is tx (gx_sk tx n p) (gx_lt tx n (gx_sk tx n p)) gw_most) (H : ∀ h1, px_f1 h h1 → px_mr h1 tx n (gx_sk tx n p) 0 (-1) o → lm_l h1 cs → px_R px_E D mo_188 [] 63 [.ref 100, .int (-1), .null] [] h1 0 Q) : px_R px_E D mo_188 [] 0 [.ref 100, .null, .null] [] h 0 Q := by
  obtain ⟨n1, s1, s2, L, p0, s3, s4, r⟩ := S
  have r5 := r.2.2.2.2.1
  have ss := gx_sk_sk (tx := tx) s2
  refine w_al (j := 1) rfl rfl rfl ?_
  first | refine w_gr (j := 2) rfl rfl (by first | assumption | rfl) (by first | assumption | rfl) rfl ?_ | refine w_gi (j := 2) rfl rfl (by first | assumption | rfl) (by first | assumption | rfl) rfl r5 ?_
  refine w_eqM (j := 3) rfl rfl (by omega) (fun _ => ?_) (fun c => absurd c (fun c => by omega))
  refine w_al (j := 5) rfl rfl rfl ?_
  refine w_cvPU (j := 6) rfl rfl rfl rfl (by first | assumption | rfl) rfl rfl (sp_161 r) (Nat.ble_eq.mpr (by omega)) ?_
  rintro h1 ⟨f1, r1⟩
  rw [s4] at r1
  clear s4
  generalize gx_sk tx n p = s at *
  refine w_al (j := 7) rfl rfl rfl ?_
  refine w_bi (j := 8) (a := nI 12) rfl rfl (by decide) ?_
  refine w_ic (n := 5) (j := 9) rfl rfl ?_
  refine w_ic (n := 1) (j := 10) rfl rfl ?_
  refine w_bi (j := 11) (a := nI 19) rfl rfl (by decide) ?_
  refine w_bi (j := 12) (a := nI 20) rfl rfl (by decide) ?_
  refine w_ic (n := 0) (j := 13) rfl rfl ?_
  refine w_cvPI (j := 14) rfl rfl rfl rfl (by first | assumption | rfl) rfl rfl (sp_168 gw6_least r1) (Nat.ble_eq.mpr (by omega)) ?_
  rintro v h2 ⟨⟨z, z1, z2⟩, f2, r2⟩
  rw [ss] at z2 r2
  subst z1
  cases z with
  | true => exact absurd (z2.mp rfl) nl
  | false =>
    refine w_eqB (j := 15) rfl rfl (fun _ => ?_) (fun c => absurd c (by simp))
    refine w_al (j := 18) rfl rfl rfl ?_
    refine w_bi (j := 19) (a := nI 13) rfl rfl (by decide) ?_
    refine w_bi (j := 20) (a := nI 15) rfl rfl (by decide) ?_
    refine w_bi (j := 21) (a := nI 19) rfl rfl (by decide) ?_
    refine w_bi (j := 22) (a := nI 20) rfl rfl (by decide) ?_
    refine w_ic (n := 0) (j := 23) rfl rfl ?_
    refine w_ic (n := 0) (j := 24) rfl rfl ?_
    refine w_cvPI (j := 25) rfl rfl rfl rfl (by first | assumption | rfl) rfl rfl (sp_168 gw6_most r2) (Nat.ble_eq.mpr (by omega)) ?_
    rintro v h3 ⟨⟨z, z1, z3⟩, f3, r3⟩
    rw [ss] at z3 r3
    subst z1
    cases z with
    | true => exact absurd (z3.mp rfl) nm
    | false =>
      refine w_eqB (j := 26) rfl rfl (fun _ => ?_) (fun c => absurd c (by simp))
      refine w_im (j := 29) rfl rfl ?_
      refine w_is (j := 30) rfl rfl rfl ?_
      refine w_il (j := 31) rfl rfl rfl ?_
      refine w_im (j := 32) rfl rfl ?_
      refine w_eq (j := 33) rfl rfl (fun _ => ?_) (fun c => absurd c (fun z => z rfl))
      exact H _ ((f1.tr f2).tr f3) r3 (L.f1 ((f1.tr f2).tr f3))
-- neither bracket nor word: a name or a number
theorem mu_91 {D : Nat} {cs : List (Nat × Nat)} {Q : ix_R → Prop} {s : Nat} (r : px_mr h tx n s 0 (-1) o) (hD : 6 ≤ D) (np : ¬ (s < n ∧ tx s = 40)) (H : px_R px_E D mo_188 [] 91 [.ref 100, .int (-1), .null] [] h 0 Q) : px_R px_E D mo_188 [] 63 [.ref 100, .int (-1), .null] [] h 0 Q := by
  have r4 := r.2.2.1
  have n6 := r.1.1
  have sn := r.2.2.2.1
  have cm := gx_cmp (n := n) (tx := tx) (s := s) (c := 40) (fun z => (r.1.2 _ z).1) (by decide)
  refine w_al (j := 64) rfl rfl rfl ?_
  refine w_al (j := 65) rfl rfl rfl ?_
  first | refine w_gr (j := 66) rfl rfl (by first | assumption | rfl) (by first | assumption | rfl) rfl ?_ | refine w_gi (j := 66) rfl rfl (by first | assumption | rfl) (by first | assumption | rfl) rfl r4 ?_
  refine w_cvI (j := 67) rfl rfl rfl rfl (by first | assumption | rfl) rfl rfl (sp_160 (k := s) (by omega) r) (Nat.ble_eq.mpr (by omega)) ?_
  refine w_bi (j := 68) (a := nI 40) rfl rfl (by decide) ?_
  refine w_ne (j := 69) rfl rfl (fun _ => ?_) (fun c => absurd c (fun q => np (cm.mp q)))
  exact H
theorem lU_open {D : Nat} {K PL : Nat} (H : ∀ h cs, lMS h tx n p o cs → px_R px_E D mo_188 [] 0 [.ref 100, .null, .null] [] h 0 (fun r => ∃ h', r = (.inl none, h', 0) ∧ lF h h' ∧ lMF h' tx n o K PL)) : lB 188 (D + 1) tx n o p K PL := by
  intro h cs S
  refine px_M (M := mt_188) (ops := mo_188) tb_188 rfl rfl rfl rfl rfl ?_
  exact H h cs S
theorem lU_openG {D p' : Nat} {ds : List (Nat × Nat)} (F : ds.length + p ≤ p' ∧ p' ≤ n) (H : ∀ h cs, lMS h tx n p o cs → px_R px_E D mo_188 [] 0 [.ref 100, .null, .null] [] h 0 (fun r => ∃ h', r = (.inl none, h', 0) ∧ lF h h' ∧ lMS h' tx n p' o (cs ++ ds))) : lG 188 (D + 1) tx n o p p' ds := by
  refine ⟨F, fun h cs S => ?_⟩
  refine px_M (M := mt_188) (ops := mo_188) tb_188 rfl rfl rfl rfl rfl ?_
  exact H h cs S
theorem lU_nb {D : Nat} (hD : 6 ≤ D) (nl : ¬ gx_is tx (gx_sk tx n p) (gx_lt tx n (gx_sk tx n p)) gw_least) (nm : ¬ gx_is tx (gx_sk tx n p) (gx_lt tx n (gx_sk tx n p)) gw_most) (np : ¬ (gx_sk tx n p < n ∧ tx (gx_sk tx n p) = 40)) (nk : ∀ k, k < 8 → ¬ gx_is tx (gx_sk tx n p) (gx_lt tx n (gx_sk tx n p)) (gx_N k)) (hk : gx_nk tx n 0 1000 (gx_sk tx n p) ≠ 0) : lB 188 (D + 1) tx n o p (gx_nk tx n 0 1000 (gx_sk tx n p)) (gx_sk tx n p) := by
  refine lU_open (fun h cs S => mu_n hD S nl nm (fun h1 f1 r1 L1 => mu_91 (cs := cs) r1 hD np ?_))
  have ss := gx_sk_sk (tx := tx) S.2.2.1
  clear nl nm np S
  generalize gx_sk tx n p = s at *
  refine w_al (j := 92) rfl rfl rfl ?_
  refine w_cvPI (j := 93) rfl rfl rfl rfl (by first | assumption | rfl) rfl rfl (sp_186 ss r1) (Nat.ble_eq.mpr (by omega)) ?_
  rintro v h2 ⟨f2, z⟩
  rcases z with ⟨k, hk', -, z, -⟩ | ⟨zv, -, r2⟩
  · exact absurd z (nk k hk')
  subst zv
  refine w_is (j := 94) rfl rfl rfl ?_
  refine w_il (j := 95) rfl rfl rfl ?_
  refine w_im (j := 96) rfl rfl ?_
  refine w_eq (j := 97) rfl rfl (fun _ => ?_) (fun c => absurd c (fun z => z rfl))
  refine w_al (j := 103) rfl rfl rfl ?_
  refine w_ic (n := 0) (j := 104) rfl rfl ?_
  refine w_al (j := 105) rfl rfl rfl ?_
  refine w_ic (n := 0) (j := 106) rfl rfl ?_
  refine w_si (j := 107) (a := nI 999) rfl rfl (by decide) ?_
  refine w_cvPI (j := 108) rfl rfl rfl rfl (by first | assumption | rfl) rfl rfl (sp_165 (lo := 0) (H := 1000) (by decide) (px_hiN (a := 999) (by decide)) (by decide) r2) (Nat.ble_eq.mpr (by omega)) ?_
  rintro v h3 ⟨q1, q2, q3⟩
  rw [if_neg hk] at q1 q3
  rw [ss] at q3
  subst q1
  refine w_cvU (j := 109) rfl rfl rfl rfl (by first | assumption | rfl) rfl rfl (sp_182x hk q3) (Nat.ble_eq.mpr (by omega)) ?_
  refine w_rt rfl ?_
  exact ⟨_, rfl, ((f1.tr f2).tr q2).lF, _, q3⟩
theorem gx_nk0 {lo H s : Nat} (hs : s ≤ n) (ss : gx_sk tx n s = s) (hk : gx_nk tx n lo H s = 0) : s < gx_ne tx n s ∧ gx_ne tx n s ≤ n := by
  have := gx_dg_le (tx := tx) hs
  unfold gx_nk at hk
  unfold gx_ne
  rw [ss] at hk ⊢
  split at hk
  · omega
  · rename_i c; omega
theorem lU_ng {D : Nat} (hp : p ≤ n) (hD : 6 ≤ D) (nl : ¬ gx_is tx (gx_sk tx n p) (gx_lt tx n (gx_sk tx n p)) gw_least) (nm : ¬ gx_is tx (gx_sk tx n p) (gx_lt tx n (gx_sk tx n p)) gw_most) (np : ¬ (gx_sk tx n p < n ∧ tx (gx_sk tx n p) = 40)) (nk : ∀ k, k < 8 → ¬ gx_is tx (gx_sk tx n p) (gx_lt tx n (gx_sk tx n p)) (gx_N k)) (hk : gx_nk tx n 0 1000 (gx_sk tx n p) = 0) : lG 188 (D + 1) tx n o p (gx_ne tx n (gx_sk tx n p)) [(0, gx_nv tx n (gx_sk tx n p))] := by
  have sl := gx_sk_le (tx := tx) hp
  have ss := gx_sk_sk (tx := tx) hp
  have nn := gx_nk0 sl.2 ss hk
  refine lU_openG ⟨by rw [List.length_singleton]; omega, nn.2⟩ (fun h cs S => mu_n hD S nl nm (fun h1 f1 r1 L1 => mu_91 (cs := cs) r1 hD np ?_))
  obtain ⟨n1, s1, -⟩ := S
  clear nl nm np
  generalize gx_sk tx n p = s at *
  refine w_al (j := 92) rfl rfl rfl ?_
  refine w_cvPI (j := 93) rfl rfl rfl rfl (by first | assumption | rfl) rfl rfl (sp_186 ss r1) (Nat.ble_eq.mpr (by omega)) ?_
  rintro v h2 ⟨f2, z⟩
  rcases z with ⟨k, hk', -, z, -⟩ | ⟨zv, -, r2⟩
  · exact absurd z (nk k hk')
  subst zv
  refine w_is (j := 94) rfl rfl rfl ?_
  refine w_il (j := 95) rfl rfl rfl ?_
  refine w_im (j := 96) rfl rfl ?_
  refine w_eq (j := 97) rfl rfl (fun _ => ?_) (fun c => absurd c (fun z => z rfl))
  refine w_al (j := 103) rfl rfl rfl ?_
  refine w_ic (n := 0) (j := 104) rfl rfl ?_
  refine w_al (j := 105) rfl rfl rfl ?_
  refine w_ic (n := 0) (j := 106) rfl rfl ?_
  refine w_si (j := 107) (a := nI 999) rfl rfl (by decide) ?_
  refine w_cvPI (j := 108) rfl rfl rfl rfl (by first | assumption | rfl) rfl rfl (sp_165 (lo := 0) (H := 1000) (by decide) (px_hiN (a := 999) (by decide)) (by decide) r2) (Nat.ble_eq.mpr (by omega)) ?_
  rintro v h3 ⟨q1, q2, q3⟩
  rw [if_pos hk] at q1
  rw [hk, if_pos rfl] at q3
  subst q1
  have L3 := L1.f1 (f2.tr q2)
  refine w_cvPU (j := 109) rfl rfl rfl rfl (by first | assumption | rfl) rfl rfl (sp_182 (by omega) q3 L3) (Nat.ble_eq.mpr (by omega)) ?_
  rintro h4 ⟨x1, x2, x3⟩
  refine w_rt rfl ?_
  exact ⟨_, rfl, (((f1.tr f2).tr q2).lF).tr x1, n1, by rw [List.length_append, List.length_singleton]; omega, nn.2, x3, _, nn.2, rfl, x2⟩
theorem lU_name {D k : Nat} (hp : p ≤ n) (hD : 6 ≤ D) (hk : k < 8) (is : gx_is tx (gx_sk tx n p) (gx_lt tx n (gx_sk tx n p)) (gx_N k)) : lG 188 (D + 1) tx n o p (gx_lt tx n (gx_sk tx n p)) [(1, k)] := by
  have sl := gx_sk_le (tx := tx) hp
  have ss := gx_sk_sk (tx := tx) hp
  have ll := gx_lt_le (tx := tx) sl.2
  have wl : ∀ k, k < 8 → 0 < (gx_N k).length := by decide
  have el := gx_is_len is (wl k hk)
  have wk := wl k hk
  have nl : ¬ gx_is tx (gx_sk tx n p) (gx_lt tx n (gx_sk tx n p)) gw_least := fun q => by
    have e := gx_is_u is q
    have : ∀ k, k < 8 → gx_N k ≠ gw_least := by decide
    exact this k hk e
  have nm : ¬ gx_is tx (gx_sk tx n p) (gx_lt tx n (gx_sk tx n p)) gw_most := fun q => by
    have e := gx_is_u is q
    have : ∀ k, k < 8 → gx_N k ≠ gw_most := by decide
    exact this k hk e
  have np : ¬ (gx_sk tx n p < n ∧ tx (gx_sk tx n p) = 40) := fun q => by
    have := is.2 0 wk
    rw [Nat.add_zero, q.2] at this
    have : ∀ k, k < 8 → 40 ≠ (gx_N k).getD 0 0 := by decide
    exact this k hk (by assumption)
  refine lU_openG ⟨by rw [List.length_singleton]; omega, ll.2⟩ (fun h cs S => mu_n hD S nl nm (fun h1 f1 r1 L1 => mu_91 (cs := cs) r1 hD np ?_))
  obtain ⟨n1, s1, -⟩ := S
  clear nl nm np
  generalize gx_sk tx n p = s at *
  refine w_al (j := 92) rfl rfl rfl ?_
  refine w_cvPI (j := 93) rfl rfl rfl rfl (by first | assumption | rfl) rfl rfl (sp_186 ss r1) (Nat.ble_eq.mpr (by omega)) ?_
  rintro v h2 ⟨f2, z⟩
  rcases z with ⟨k', hk', zv, z, r2⟩ | ⟨zv, z, r2⟩
  rotate_left
  · exact absurd is (z k hk)
  have ek : k' = k := by
    have e := gx_is_u z is
    have : ∀ k, k < 8 → ∀ j, j < 8 → gx_N k = gx_N j → k = j := by decide
    exact this k' hk' k hk e
  subst ek
  subst zv
  have L2 := L1.f1 f2
  refine w_is (j := 94) rfl rfl rfl ?_
  refine w_il (j := 95) rfl rfl rfl ?_
  refine w_im (j := 96) rfl rfl ?_
  refine w_eq (j := 97) rfl rfl (fun c => absurd c (px_nm1 (by omega))) (fun _ => ?_)
  refine w_al (j := 98) rfl rfl rfl ?_
  refine w_ic (n := 1) (j := 99) rfl rfl ?_
  refine w_il (j := 100) rfl rfl rfl ?_
  refine w_cvPU (j := 101) rfl rfl rfl rfl (by first | assumption | rfl) rfl rfl (sp_182 (by omega) r2 L2) (Nat.ble_eq.mpr (by omega)) ?_
  rintro h4 ⟨x1, x2, x3⟩
  refine w_go rfl ?_
  refine w_rt rfl ?_
  exact ⟨_, rfl, ((f1.tr f2).lF).tr x1, n1, by rw [List.length_append, List.length_singleton]; omega, ll.2, x3, _, ll.2, rfl, x2⟩
end LM
