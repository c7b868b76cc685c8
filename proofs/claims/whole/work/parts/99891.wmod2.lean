section WM
variable {z : we} {h : ix_H} {tx : Nat → Nat} {n p f o : Nat} {fp : Int32}
-- the numbers of a step
theorem mA_do {D j k : Nat} {c1 c2 : Int32} {Q : ix_R → Prop} (hD : 3 ≤ D) (hk : k = 0 ∨ (3 ≤ k ∧ k ≤ 5)) (x : wI z h tx n o j k p c1 c2) (c : gx_nk tx n 0 z.2.1 p = 0) (H : ∀ h1, wF j h h1 → wI z h1 tx n o j k (gx_ne tx n p) (nI (gx_nv tx n p)) c2 → px_R px_E D mo_193 [] 60 [.ref 100, .int (nI k), .ref (497 + j)] [] h1 0 Q) : px_R px_E D mo_193 [] 40 [.ref 100, .int (nI k), .ref (497 + j)] [] h 0 Q := by
  have hj := x.1
  have si := px_sh497 j hj
  have t1 := x.2.2.2.1.2
  have V : px_R px_E D mo_193 [] 48 [.ref 100, .int (nI k), .ref (497 + j)] [] h 0 Q := by
    refine w_al (j := 49) rfl rfl rfl ?_
    refine w_ic (n := 1) (j := 50) rfl rfl ?_
    refine w_al (j := 51) rfl rfl rfl ?_
    refine w_ic (n := 0) (j := 52) rfl rfl ?_
    refine w_al (j := 53) rfl rfl rfl ?_
    first | refine w_gr (j := 54) rfl rfl (by first | assumption | rfl) (by first | assumption | rfl) rfl ?_ | refine w_gi (j := 54) rfl rfl (by first | assumption | rfl) (by first | assumption | rfl) rfl rfl ?_
    refine w_ic (n := 1) (j := 55) rfl rfl ?_
    refine w_ial (j := 56) rfl rfl (by first | assumption | rfl) rfl (by omega) rfl t1.1 ?_
    refine w_ic (n := 1) (j := 57) rfl rfl ?_
    refine w_sub (j := 58) rfl rfl ?_
    refine w_cvPI (j := 59) rfl rfl rfl rfl (by first | assumption | rfl) rfl rfl (sp_165 (lo := 0) (by decide) (px_hiB (by omega)) (by omega) x.2.1) (Nat.ble_eq.mpr (by omega)) ?_
    rintro v h2 ⟨v2, f2, r2⟩
    rw [if_pos c] at v2
    subst v2
    rw [c, if_pos rfl] at r2
    refine w_ias (j := 60) rfl rfl (by first | assumption | rfl) rfl (by omega) rfl ?_
    exact H _ (f2.wF.upr hj) ((x.f1 f2 r2).u1)
  refine w_il (j := 41) rfl rfl rfl ?_
  by_cases k0 : k = 0
  ·
    refine w_eqM (j := 42) rfl rfl (by omega) (fun _ => ?_) (fun c => absurd c (fun c => by omega))
    exact V
  ·
    refine w_eqM (j := 42) rfl rfl (by omega) (fun c => absurd c (fun c => by omega)) (fun _ => ?_)
    refine w_il (j := 43) rfl rfl rfl ?_
    refine w_ic (n := 2) (j := 44) rfl rfl ?_
    refine w_leN (j := 45) rfl rfl (by omega) (by omega) (fun c => absurd c (fun c => by omega)) (fun _ => ?_)
    refine w_il (j := 46) rfl rfl rfl ?_
    refine w_bi (j := 47) (a := nI 6) rfl rfl (by decide) ?_
    refine w_geN (j := 48) rfl rfl (by omega) (by omega) (fun c => absurd c (fun c => by omega)) (fun _ => ?_)
    exact V
theorem mA_skip {D j k : Nat} {Q : ix_R → Prop} (hk : k = 1 ∨ k = 2 ∨ (6 ≤ k ∧ k ≤ 7)) (H : px_R px_E D mo_193 [] 60 [.ref 100, .int (nI k), .ref (497 + j)] [] h 0 Q) : px_R px_E D mo_193 [] 40 [.ref 100, .int (nI k), .ref (497 + j)] [] h 0 Q := by
  refine w_il (j := 41) rfl rfl rfl ?_
  refine w_eqM (j := 42) rfl rfl (by omega) (fun c => absurd c (fun c => by omega)) (fun _ => ?_)
  refine w_il (j := 43) rfl rfl rfl ?_
  refine w_ic (n := 2) (j := 44) rfl rfl ?_
  by_cases k2 : k ≤ 2
  ·
    refine w_leN (j := 45) rfl rfl (by omega) (by omega) (fun _ => ?_) (fun c => absurd c (fun c => by omega))
    exact H
  ·
    refine w_leN (j := 45) rfl rfl (by omega) (by omega) (fun c => absurd c (fun c => by omega)) (fun _ => ?_)
    refine w_il (j := 46) rfl rfl rfl ?_
    refine w_bi (j := 47) (a := nI 6) rfl rfl (by decide) ?_
    refine w_geN (j := 48) rfl rfl (by omega) (by omega) (fun _ => ?_) (fun c => absurd c (fun c => by omega))
    exact H
theorem mB_do {D j k : Nat} {c1 c2 : Int32} {Q : ix_R → Prop} (hD : 3 ≤ D) (hk : k < 3) (x : wI z h tx n o j k p c1 c2) (c : gx_nk tx n 0 z.2.2.1 p = 0) (H : ∀ h1, wF j h h1 → wI z h1 tx n o j k (gx_ne tx n p) c1 (nI (gx_nv tx n p)) → px_R px_E D mo_193 [] 75 [.ref 100, .int (nI k), .ref (497 + j)] [] h1 0 Q) : px_R px_E D mo_193 [] 60 [.ref 100, .int (nI k), .ref (497 + j)] [] h 0 Q := by
  have hj := x.1
  have si := px_sh497 j hj
  have t1 := x.2.2.2.1.1
  refine w_il (j := 61) rfl rfl rfl ?_
  refine w_ic (n := 3) (j := 62) rfl rfl ?_
  refine w_geN (j := 63) rfl rfl (by omega) (by omega) (fun c => absurd c (fun c => by omega)) (fun _ => ?_)
  refine w_al (j := 64) rfl rfl rfl ?_
  refine w_ic (n := 2) (j := 65) rfl rfl ?_
  refine w_al (j := 66) rfl rfl rfl ?_
  refine w_ic (n := 0) (j := 67) rfl rfl ?_
  refine w_al (j := 68) rfl rfl rfl ?_
  first | refine w_gr (j := 69) rfl rfl (by first | assumption | rfl) (by first | assumption | rfl) rfl ?_ | refine w_gi (j := 69) rfl rfl (by first | assumption | rfl) (by first | assumption | rfl) rfl rfl ?_
  refine w_ic (n := 0) (j := 70) rfl rfl ?_
  refine w_ial (j := 71) rfl rfl (by first | assumption | rfl) rfl (by omega) rfl t1.1 ?_
  refine w_ic (n := 1) (j := 72) rfl rfl ?_
  refine w_sub (j := 73) rfl rfl ?_
  refine w_cvPI (j := 74) rfl rfl rfl rfl (by first | assumption | rfl) rfl rfl (sp_165 (lo := 0) (by decide) (px_hiB (by omega)) (by omega) x.2.1) (Nat.ble_eq.mpr (by omega)) ?_
  rintro v h2 ⟨v2, f2, r2⟩
  rw [if_pos c] at v2
  subst v2
  rw [c, if_pos rfl] at r2
  refine w_ias (j := 75) rfl rfl (by first | assumption | rfl) rfl (by omega) rfl ?_
  exact H _ (f2.wF.upr hj) ((x.f1 f2 r2).u2)
theorem mB_skip {D j k : Nat} {Q : ix_R → Prop} (hk : 3 ≤ k ∧ k ≤ 7) (H : px_R px_E D mo_193 [] 75 [.ref 100, .int (nI k), .ref (497 + j)] [] h 0 Q) : px_R px_E D mo_193 [] 60 [.ref 100, .int (nI k), .ref (497 + j)] [] h 0 Q := by
  refine w_il (j := 61) rfl rfl rfl ?_
  refine w_ic (n := 3) (j := 62) rfl rfl ?_
  refine w_geN (j := 63) rfl rfl (by omega) (by omega) (fun _ => ?_) (fun c => absurd c (fun c => by omega))
  exact H
theorem mC_do {D j : Nat} {c1 c2 : Int32} {Q : ix_R → Prop} (hD : 3 ≤ D) (x : wI z h tx n o j 4 p c1 c2) (c : gx_nk tx n 1 31 p = 0) (H : ∀ h1, wF j h h1 → wI z h1 tx n o j 4 (gx_ne tx n p) c1 (nI (gx_nv tx n p)) → px_R px_E D mo_193 [] 85 [.ref 100, .int (nI 4), .ref (497 + j)] [] h1 0 Q) : px_R px_E D mo_193 [] 75 [.ref 100, .int (nI 4), .ref (497 + j)] [] h 0 Q := by
  have hj := x.1
  have si := px_sh497 j hj
  refine w_il (j := 76) rfl rfl rfl ?_
  refine w_ic (n := 4) (j := 77) rfl rfl ?_
  refine w_neN (j := 78) rfl rfl (by omega) (by omega) (fun c => absurd c (fun z => z rfl)) (fun _ => ?_)
  refine w_al (j := 79) rfl rfl rfl ?_
  refine w_ic (n := 2) (j := 80) rfl rfl ?_
  refine w_al (j := 81) rfl rfl rfl ?_
  refine w_ic (n := 1) (j := 82) rfl rfl ?_
  refine w_bi (j := 83) (a := nI 30) rfl rfl (by decide) ?_
  refine w_cvPI (j := 84) rfl rfl rfl rfl (by first | assumption | rfl) rfl rfl (sp_165 (lo := 1) (H := 31) (by decide) (px_hiN (by omega)) (by omega) x.2.1) (Nat.ble_eq.mpr (by omega)) ?_
  rintro v h2 ⟨v2, f2, r2⟩
  rw [if_pos c] at v2
  subst v2
  rw [c, if_pos rfl] at r2
  refine w_ias (j := 85) rfl rfl (by first | assumption | rfl) rfl (by omega) rfl ?_
  exact H _ (f2.wF.upr hj) ((x.f1 f2 r2).u2)
theorem mC_skip {D j k : Nat} {Q : ix_R → Prop} (hk : k ≠ 4 ∧ k ≤ 7) (H : px_R px_E D mo_193 [] 85 [.ref 100, .int (nI k), .ref (497 + j)] [] h 0 Q) : px_R px_E D mo_193 [] 75 [.ref 100, .int (nI k), .ref (497 + j)] [] h 0 Q := by
  refine w_il (j := 76) rfl rfl rfl ?_
  refine w_ic (n := 4) (j := 77) rfl rfl ?_
  refine w_neN (j := 78) rfl rfl (by omega) (by omega) (fun _ => ?_) (fun c => absurd c (fun c => by omega))
  exact H
theorem mD {D j k : Nat} {c1 c2 : Int32} {Q : ix_R → Prop} (hk : k ≤ 6) (x : wI z h tx n o j k p c1 c2) (H : ∀ h1, wF j h h1 → wI z h1 tx n o j k p c1 c2 → h1 (497 + j) 3 = nI (j + 1) → px_R px_E D mo_193 [] 128 [.ref 100, .int (nI k), .ref (497 + j)] [] h1 0 Q) : px_R px_E D mo_193 [] 85 [.ref 100, .int (nI k), .ref (497 + j)] [] h 0 Q := by
  have hj := x.1
  have si := px_sh497 j hj
  have x29 := x.2.2.1
  refine w_il (j := 86) rfl rfl rfl ?_
  refine w_bi (j := 87) (a := nI 7) rfl rfl (by decide) ?_
  refine w_neN (j := 88) rfl rfl (by omega) (by omega) (fun _ => ?_) (fun c => absurd c (fun c => by omega))
  refine w_al (j := 124) rfl rfl rfl ?_
  refine w_ic (n := 3) (j := 125) rfl rfl ?_
  refine w_al (j := 126) rfl rfl rfl ?_
  first | refine w_gr (j := 127) rfl rfl (by first | assumption | rfl) (by first | assumption | rfl) rfl ?_ | refine w_gi (j := 127) rfl rfl (by first | assumption | rfl) (by first | assumption | rfl) rfl x29 ?_
  refine w_ias (j := 128) rfl rfl (by first | assumption | rfl) rfl (by omega) rfl ?_
  exact H _ (wF.rf.upr hj) x.u3 px_up_at
-- once a number was wrong
theorem mD_f {D j k f : Nat} (hD : 1 ≤ D) (hj : j < 80) (hk : k ≤ 6) (hf : f ≠ 0) (r : px_mr h tx n p f fp o) : px_R px_E D mo_193 [] 85 [.ref 100, .int (nI k), .ref (497 + j)] [] h 0 (fun r => ∃ h', r = (.inl none, h', 0) ∧ wF j h h' ∧ ∃ p, px_mr h' tx n p f fp o) := by
  have si := px_sh497 j hj
  refine w_il (j := 86) rfl rfl rfl ?_
  refine w_bi (j := 87) (a := nI 7) rfl rfl (by decide) ?_
  refine w_neN (j := 88) rfl rfl (by omega) (by omega) (fun _ => ?_) (fun c => absurd c (fun c => by omega))
  refine w_al (j := 124) rfl rfl rfl ?_
  refine w_ic (n := 3) (j := 125) rfl rfl ?_
  refine w_al (j := 126) rfl rfl rfl ?_
  first | refine w_gr (j := 127) rfl rfl (by first | assumption | rfl) (by first | assumption | rfl) rfl ?_ | refine w_gi (j := 127) rfl rfl (by first | assumption | rfl) (by first | assumption | rfl) rfl rfl ?_
  refine w_ias (j := 128) rfl rfl (by first | assumption | rfl) rfl (by omega) rfl ?_
  have r' : px_mr (ix_up h (497 + j) 3 (h 100 29)) tx n p f fp o := r.of (ix_up_ne (by omega)) (ix_up_ne (by omega)) (fun j _ => px_up_na (by omega))
  refine w_al (j := 129) rfl rfl rfl ?_
  refine w_bi (j := 130) (a := nI 59) rfl rfl (by decide) ?_
  refine w_cvU (j := 131) rfl rfl rfl rfl (by first | assumption | rfl) rfl rfl (sp_171x hf r') (Nat.ble_eq.mpr (by omega)) ?_
  refine w_rt rfl ?_
  exact ⟨_, rfl, wF.rf.upr hj, _, r'⟩
theorem mw_fr {j f : Nat} {h h1 : ix_H} {r : ix_R} (F : wF j h h1) (q : ∃ h', r = (.inl none, h', 0) ∧ wF j h1 h' ∧ ∃ p, px_mr h' tx n p f fp o) : ∃ h', r = (.inl none, h', 0) ∧ wF j h h' ∧ ∃ p, px_mr h' tx n p f fp o := by
  obtain ⟨h', e, q1, q2⟩ := q
  exact ⟨h', e, F.tr q1 (Nat.le_refl _), q2⟩
theorem mC_f {D j k f : Nat} (hD : 1 ≤ D) (hj : j < 80) (hk : k ≤ 6) (hf : f ≠ 0) (r : px_mr h tx n p f fp o) : px_R px_E D mo_193 [] 75 [.ref 100, .int (nI k), .ref (497 + j)] [] h 0 (fun r => ∃ h', r = (.inl none, h', 0) ∧ wF j h h' ∧ ∃ p, px_mr h' tx n p f fp o) := by
  have si := px_sh497 j hj
  by_cases k4 : k = 4
  rotate_left
  · exact mC_skip ⟨k4, by omega⟩ (mD_f hD hj hk hf r)
  subst k4
  refine w_il (j := 76) rfl rfl rfl ?_
  refine w_ic (n := 4) (j := 77) rfl rfl ?_
  refine w_neN (j := 78) rfl rfl (by omega) (by omega) (fun c => absurd c (fun z => z rfl)) (fun _ => ?_)
  refine w_al (j := 79) rfl rfl rfl ?_
  refine w_ic (n := 2) (j := 80) rfl rfl ?_
  refine w_al (j := 81) rfl rfl rfl ?_
  refine w_ic (n := 1) (j := 82) rfl rfl ?_
  refine w_bi (j := 83) (a := nI 30) rfl rfl (by decide) ?_
  refine w_cvI (j := 84) rfl rfl rfl rfl (by first | assumption | rfl) rfl rfl (sp_165x hf r) (Nat.ble_eq.mpr (by omega)) ?_
  refine w_ias (j := 85) rfl rfl (by first | assumption | rfl) rfl (by omega) rfl ?_
  have r' : px_mr (ix_up h (497 + j) 2 (nI 0)) tx n p f fp o := r.of (ix_up_ne (by omega)) (ix_up_ne (by omega)) (fun j _ => px_up_na (by omega))
  exact px_mono (mD_f hD hj hk hf r') (fun r q => mw_fr (wF.rf.upr hj) q)
theorem mB_f {D j k f : Nat} (hD : 1 ≤ D) (hj : j < 80) (hk : k ≤ 6) (hf : f ≠ 0) (r : px_mr h tx n p f fp o) : px_R px_E D mo_193 [] 60 [.ref 100, .int (nI k), .ref (497 + j)] [] h 0 (fun r => ∃ h', r = (.inl none, h', 0) ∧ wF j h h' ∧ ∃ p, px_mr h' tx n p f fp o) := by
  have si := px_sh497 j hj
  by_cases k3 : k < 3
  rotate_left
  · exact mB_skip ⟨by omega, by omega⟩ (mC_f hD hj hk hf r)
  refine w_il (j := 61) rfl rfl rfl ?_
  refine w_ic (n := 3) (j := 62) rfl rfl ?_
  refine w_geN (j := 63) rfl rfl (by omega) (by omega) (fun c => absurd c (fun c => by omega)) (fun _ => ?_)
  refine w_al (j := 64) rfl rfl rfl ?_
  refine w_ic (n := 2) (j := 65) rfl rfl ?_
  refine w_al (j := 66) rfl rfl rfl ?_
  refine w_ic (n := 0) (j := 67) rfl rfl ?_
  refine w_al (j := 68) rfl rfl rfl ?_
  first | refine w_gr (j := 69) rfl rfl (by first | assumption | rfl) (by first | assumption | rfl) rfl ?_ | refine w_gi (j := 69) rfl rfl (by first | assumption | rfl) (by first | assumption | rfl) rfl rfl ?_
  refine w_ic (n := 0) (j := 70) rfl rfl ?_
  refine w_ial (j := 71) rfl rfl (by first | assumption | rfl) rfl (by omega) rfl rfl ?_
  refine w_ic (n := 1) (j := 72) rfl rfl ?_
  refine w_sub (j := 73) rfl rfl ?_
  refine w_cvI (j := 74) rfl rfl rfl rfl (by first | assumption | rfl) rfl rfl (sp_165x hf r) (Nat.ble_eq.mpr (by omega)) ?_
  refine w_ias (j := 75) rfl rfl (by first | assumption | rfl) rfl (by omega) rfl ?_
  have r' : px_mr (ix_up h (497 + j) 2 (nI 0)) tx n p f fp o := r.of (ix_up_ne (by omega)) (ix_up_ne (by omega)) (fun j _ => px_up_na (by omega))
  exact px_mono (mC_f hD hj hk hf r') (fun r q => mw_fr (wF.rf.upr hj) q)
theorem mA_bad {D j k : Nat} {c1 c2 : Int32} (hD : 3 ≤ D) (hk : k = 0 ∨ (3 ≤ k ∧ k ≤ 5)) (x : wI z h tx n o j k p c1 c2) (c : gx_nk tx n 0 z.2.1 p ≠ 0) : px_R px_E D mo_193 [] 40 [.ref 100, .int (nI k), .ref (497 + j)] [] h 0 (fun r => ∃ h', r = (.inl none, h', 0) ∧ wF j h h' ∧ lMF h' tx n o (gx_nk tx n 0 z.2.1 p) (gx_sk tx n p)) := by
  have hj := x.1
  have si := px_sh497 j hj
  have t1 := x.2.2.2.1.2
  have V : px_R px_E D mo_193 [] 48 [.ref 100, .int (nI k), .ref (497 + j)] [] h 0 (fun r => ∃ h', r = (.inl none, h', 0) ∧ wF j h h' ∧ lMF h' tx n o (gx_nk tx n 0 z.2.1 p) (gx_sk tx n p)) := by
    refine w_al (j := 49) rfl rfl rfl ?_
    refine w_ic (n := 1) (j := 50) rfl rfl ?_
    refine w_al (j := 51) rfl rfl rfl ?_
    refine w_ic (n := 0) (j := 52) rfl rfl ?_
    refine w_al (j := 53) rfl rfl rfl ?_
    first | refine w_gr (j := 54) rfl rfl (by first | assumption | rfl) (by first | assumption | rfl) rfl ?_ | refine w_gi (j := 54) rfl rfl (by first | assumption | rfl) (by first | assumption | rfl) rfl rfl ?_
    refine w_ic (n := 1) (j := 55) rfl rfl ?_
    refine w_ial (j := 56) rfl rfl (by first | assumption | rfl) rfl (by omega) rfl t1.1 ?_
    refine w_ic (n := 1) (j := 57) rfl rfl ?_
    refine w_sub (j := 58) rfl rfl ?_
    refine w_cvPI (j := 59) rfl rfl rfl rfl (by first | assumption | rfl) rfl rfl (sp_165 (lo := 0) (by decide) (px_hiB (by omega)) (by omega) x.2.1) (Nat.ble_eq.mpr (by omega)) ?_
    rintro v h2 ⟨v2, f2, r2⟩
    rw [if_neg c] at v2 r2
    subst v2
    refine w_ias (j := 60) rfl rfl (by first | assumption | rfl) rfl (by omega) rfl ?_
    have r' : px_mr (ix_up h2 (497 + j) 1 (nI 0)) tx n (gx_ne tx n p) (gx_nk tx n 0 z.2.1 p) (nI (gx_sk tx n p)) o := r2.of (ix_up_ne (by omega)) (ix_up_ne (by omega)) (fun j _ => px_up_na (by omega))
    exact px_mono (mB_f (by omega) hj (by omega) c r') (fun r q => mw_fr (f2.wF.upr hj) q)
  refine w_il (j := 41) rfl rfl rfl ?_
  by_cases k0 : k = 0
  ·
    refine w_eqM (j := 42) rfl rfl (by omega) (fun _ => ?_) (fun c => absurd c (fun c => by omega))
    exact V
  ·
    refine w_eqM (j := 42) rfl rfl (by omega) (fun c => absurd c (fun c => by omega)) (fun _ => ?_)
    refine w_il (j := 43) rfl rfl rfl ?_
    refine w_ic (n := 2) (j := 44) rfl rfl ?_
    refine w_leN (j := 45) rfl rfl (by omega) (by omega) (fun c => absurd c (fun c => by omega)) (fun _ => ?_)
    refine w_il (j := 46) rfl rfl rfl ?_
    refine w_bi (j := 47) (a := nI 6) rfl rfl (by decide) ?_
    refine w_geN (j := 48) rfl rfl (by omega) (by omega) (fun c => absurd c (fun c => by omega)) (fun _ => ?_)
    exact V
theorem mB_bad {D j k : Nat} {c1 c2 : Int32} (hD : 3 ≤ D) (hk : k < 3) (x : wI z h tx n o j k p c1 c2) (c : gx_nk tx n 0 z.2.2.1 p ≠ 0) : px_R px_E D mo_193 [] 60 [.ref 100, .int (nI k), .ref (497 + j)] [] h 0 (fun r => ∃ h', r = (.inl none, h', 0) ∧ wF j h h' ∧ lMF h' tx n o (gx_nk tx n 0 z.2.2.1 p) (gx_sk tx n p)) := by
  have hj := x.1
  have si := px_sh497 j hj
  have t1 := x.2.2.2.1.1
  refine w_il (j := 61) rfl rfl rfl ?_
  refine w_ic (n := 3) (j := 62) rfl rfl ?_
  refine w_geN (j := 63) rfl rfl (by omega) (by omega) (fun c => absurd c (fun c => by omega)) (fun _ => ?_)
  refine w_al (j := 64) rfl rfl rfl ?_
  refine w_ic (n := 2) (j := 65) rfl rfl ?_
  refine w_al (j := 66) rfl rfl rfl ?_
  refine w_ic (n := 0) (j := 67) rfl rfl ?_
  refine w_al (j := 68) rfl rfl rfl ?_
  first | refine w_gr (j := 69) rfl rfl (by first | assumption | rfl) (by first | assumption | rfl) rfl ?_ | refine w_gi (j := 69) rfl rfl (by first | assumption | rfl) (by first | assumption | rfl) rfl rfl ?_
  refine w_ic (n := 0) (j := 70) rfl rfl ?_
  refine w_ial (j := 71) rfl rfl (by first | assumption | rfl) rfl (by omega) rfl t1.1 ?_
  refine w_ic (n := 1) (j := 72) rfl rfl ?_
  refine w_sub (j := 73) rfl rfl ?_
  refine w_cvPI (j := 74) rfl rfl rfl rfl (by first | assumption | rfl) rfl rfl (sp_165 (lo := 0) (by decide) (px_hiB (by omega)) (by omega) x.2.1) (Nat.ble_eq.mpr (by omega)) ?_
  rintro v h2 ⟨v2, f2, r2⟩
  rw [if_neg c] at v2 r2
  subst v2
  refine w_ias (j := 75) rfl rfl (by first | assumption | rfl) rfl (by omega) rfl ?_
  have r' : px_mr (ix_up h2 (497 + j) 2 (nI 0)) tx n (gx_ne tx n p) (gx_nk tx n 0 z.2.2.1 p) (nI (gx_sk tx n p)) o := r2.of (ix_up_ne (by omega)) (ix_up_ne (by omega)) (fun j _ => px_up_na (by omega))
  exact px_mono (mC_f (by omega) hj (by omega) c r') (fun r q => mw_fr (f2.wF.upr hj) q)
theorem mC_bad {D j : Nat} {c1 c2 : Int32} (hD : 3 ≤ D) (x : wI z h tx n o j 4 p c1 c2) (c : gx_nk tx n 1 31 p ≠ 0) : px_R px_E D mo_193 [] 75 [.ref 100, .int (nI 4), .ref (497 + j)] [] h 0 (fun r => ∃ h', r = (.inl none, h', 0) ∧ wF j h h' ∧ lMF h' tx n o (gx_nk tx n 1 31 p) (gx_sk tx n p)) := by
  have hj := x.1
  have si := px_sh497 j hj
  refine w_il (j := 76) rfl rfl rfl ?_
  refine w_ic (n := 4) (j := 77) rfl rfl ?_
  refine w_neN (j := 78) rfl rfl (by omega) (by omega) (fun c => absurd c (fun z => z rfl)) (fun _ => ?_)
  refine w_al (j := 79) rfl rfl rfl ?_
  refine w_ic (n := 2) (j := 80) rfl rfl ?_
  refine w_al (j := 81) rfl rfl rfl ?_
  refine w_ic (n := 1) (j := 82) rfl rfl ?_
  refine w_bi (j := 83) (a := nI 30) rfl rfl (by decide) ?_
  refine w_cvPI (j := 84) rfl rfl rfl rfl (by first | assumption | rfl) rfl rfl (sp_165 (lo := 1) (H := 31) (by decide) (px_hiN (by omega)) (by omega) x.2.1) (Nat.ble_eq.mpr (by omega)) ?_
  rintro v h2 ⟨v2, f2, r2⟩
  rw [if_neg c] at v2 r2
  subst v2
  refine w_ias (j := 85) rfl rfl (by first | assumption | rfl) rfl (by omega) rfl ?_
  have r' : px_mr (ix_up h2 (497 + j) 2 (nI 0)) tx n (gx_ne tx n p) (gx_nk tx n 1 31 p) (nI (gx_sk tx n p)) o := r2.of (ix_up_ne (by omega)) (ix_up_ne (by omega)) (fun j _ => px_up_na (by omega))
  exact px_mono (mD_f (by omega) hj (by omega) c r') (fun r q => mw_fr (f2.wF.upr hj) q)
end WM
