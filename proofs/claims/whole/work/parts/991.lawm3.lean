section LM
variable {h : ix_H} {tx : Nat → Nat} {n p f o : Nat} {fp : Int32}
-- an open bracket
theorem mu_69 {D : Nat} {cs : List (Nat × Nat)} {Q : ix_R → Prop} (hD : 6 ≤ D) (S : lMS h tx n p o cs) (np : gx_sk tx n p < n ∧ tx (gx_sk tx n p) = 40) (H : ∀ h1, px_f1 h h1 → px_mr h1 tx n (gx_sk tx n p) 0 (-1) o → lm_l h1 cs → px_R px_E D mo_188 [] 69 [.ref 100, .int (-1), .null] [] h1 0 Q) : px_R px_E D mo_188 [] 0 [.ref 100, .null, .null] [] h 0 Q := by
  have nw : ∀ w : List Nat, 0 < w.length → w.getD 0 0 ≠ 40 → ¬ gx_is tx (gx_sk tx n p) (gx_lt tx n (gx_sk tx n p)) w := fun w w1 w2 q => by
    have := q.2 0 w1
    rw [Nat.add_zero, np.2] at this
    exact w2 this.symm
  refine mu_n hD S (nw _ (by decide) (by decide)) (nw _ (by decide) (by decide)) (fun h1 f1 r1 L1 => ?_)
  have H2 := H h1 f1 r1 L1
  clear H
  have r4 := r1.2.2.1
  have n6 := r1.1.1
  have sn := r1.2.2.2.1
  have V := sp_160 (k := gx_sk tx n p) (by omega) r1
  rw [if_pos np.1, np.2] at V
  clear S nw
  generalize gx_sk tx n p = s at *
  refine w_al (j := 64) rfl rfl rfl ?_
  refine w_al (j := 65) rfl rfl rfl ?_
  first | refine w_gr (j := 66) rfl rfl (by first | assumption | rfl) (by first | assumption | rfl) rfl ?_ | refine w_gi (j := 66) rfl rfl (by first | assumption | rfl) (by first | assumption | rfl) rfl r4 ?_
  refine w_cvI (j := 67) rfl rfl rfl rfl (by first | assumption | rfl) rfl rfl (V) (Nat.ble_eq.mpr (by omega)) ?_
  refine w_bi (j := 68) (a := nI 40) rfl rfl (by decide) ?_
  refine w_ne (j := 69) rfl rfl (fun c => absurd c (fun z => z rfl)) (fun _ => ?_)
  exact H2
theorem lU_p3 {D : Nat} (hD : 6 ≤ D) (np : gx_sk tx n p < n ∧ tx (gx_sk tx n p) = 40) : lB 188 (D + 1) tx n 6 p 3 (gx_sk tx n p) := by
  refine lU_open (fun h cs S => mu_69 hD S np (fun h1 f1 r1 L1 => ?_))
  refine w_al (j := 70) rfl rfl rfl ?_
  refine w_cvPI (j := 71) rfl rfl rfl rfl (by first | assumption | rfl) rfl rfl (sp_183x r1) (Nat.ble_eq.mpr (by omega)) ?_
  rintro v h2 ⟨zv, f2, r2⟩
  subst zv
  refine w_neB (j := 72) rfl rfl (fun c => absurd c (by simp)) (fun _ => ?_)
  refine w_rt rfl ?_
  exact ⟨_, rfl, (f1.tr f2).lF, _, r2⟩
-- the bracket's sum
theorem mu_81 {D : Nat} {cs : List (Nat × Nat)} {Q : ix_R → Prop} (hD : 6 ≤ D) (ho : o < 6) (S : lMS h tx n p o cs) (np : gx_sk tx n p < n ∧ tx (gx_sk tx n p) = 40) (H : ∀ h1, lF h h1 → lMS h1 tx n (gx_sk tx n p + 1) (o + 1) cs → px_R px_E D mo_188 [] 79 [.ref 100, .int (-1), .null] [] h1 0 Q) : px_R px_E D mo_188 [] 0 [.ref 100, .null, .null] [] h 0 Q := by
  have sl := gx_sk_le (tx := tx) S.2.2.1
  have S1 := S.1
  have S2 := S.2.1
  refine mu_69 hD S np (fun h1 f1 r1 L1 => ?_)
  clear S
  refine w_al (j := 70) rfl rfl rfl ?_
  refine w_cvPI (j := 71) rfl rfl rfl rfl (by first | assumption | rfl) rfl rfl (sp_183 ho r1) (Nat.ble_eq.mpr (by omega)) ?_
  rintro v h2 ⟨zv, f2, r2⟩
  subst zv
  have r4 := r2.2.2.1
  refine w_neB (j := 72) rfl rfl (fun _ => ?_) (fun c => absurd c (by simp))
  refine w_al (j := 74) rfl rfl rfl ?_
  first | refine w_dupr (j := 75) rfl rfl ?_ | refine w_dupi (j := 75) rfl rfl ?_
  first | refine w_gr (j := 76) rfl rfl (by first | assumption | rfl) (by first | assumption | rfl) rfl ?_ | refine w_gi (j := 76) rfl rfl (by first | assumption | rfl) (by first | assumption | rfl) rfl r4 ?_
  refine w_ic (n := 1) (j := 77) rfl rfl ?_
  first | refine w_add0 (j := 78) rfl rfl ?_ | refine w_addN (j := 78) rfl rfl ?_ | refine w_add (j := 78) rfl rfl ?_
  refine w_pf (j := 79) rfl rfl (by first | assumption | rfl) (by first | assumption | rfl) rfl ?_
  refine H _ (((f1.tr f2).up (by omega)).lF) ⟨S1, by omega, by omega, ?_, _, by omega, rfl, r2.P rfl (by omega)⟩
  exact L1.f1 (f2.up (by omega))
theorem lMF_dn {K PL : Nat} {p : Nat} (r : px_mr h tx n p K (nI PL) (o + 1)) : lMF (ix_up h 100 8 (nI (o + 1 - 1))) tx n o K PL := ⟨p, r.O rfl (by have := r.2.2.2.2.2.2.2.2; omega)⟩
theorem mu_81f {D K PL : Nat} {g1 : Int32} {g2 : Value} (hD : 6 ≤ D) (hK : K ≠ 0) (F : lMF h tx n (o + 1) K PL) : px_R px_E D mo_188 [] 81 [.ref 100, .int g1, g2] [] h 0 (fun r => ∃ h', r = (.inl none, h', 0) ∧ lF h h' ∧ lMF h' tx n o K PL) := by
  obtain ⟨p, r⟩ := F
  have r8 := r.2.2.2.2.2.2.2.1
  refine w_al (j := 82) rfl rfl rfl ?_
  refine w_bi (j := 83) (a := nI 41) rfl rfl (by decide) ?_
  refine w_cvU (j := 84) rfl rfl rfl rfl (by first | assumption | rfl) rfl rfl (sp_171x hK r) (Nat.ble_eq.mpr (by omega)) ?_
  refine w_al (j := 85) rfl rfl rfl ?_
  first | refine w_dupr (j := 86) rfl rfl ?_ | refine w_dupi (j := 86) rfl rfl ?_
  first | refine w_gr (j := 87) rfl rfl (by first | assumption | rfl) (by first | assumption | rfl) rfl ?_ | refine w_gi (j := 87) rfl rfl (by first | assumption | rfl) (by first | assumption | rfl) rfl r8 ?_
  refine w_ic (n := 1) (j := 88) rfl rfl ?_
  first | refine w_subN (j := 89) rfl rfl (by omega) ?_ | refine w_sub (j := 89) rfl rfl ?_
  refine w_pf (j := 90) rfl rfl (by first | assumption | rfl) (by first | assumption | rfl) rfl ?_
  refine w_rt rfl ?_
  exact ⟨_, rfl, lF.rf.up (by omega), lMF_dn r⟩
theorem lBr {h h1 : ix_H} {K PL : Nat} {r : ix_R} (f : lF h h1) (q : ∃ h', r = (.inl none, h', 0) ∧ lF h1 h' ∧ lMF h' tx n o K PL) : ∃ h', r = (.inl none, h', 0) ∧ lF h h' ∧ lMF h' tx n o K PL := by
  obtain ⟨h', e, q1, q2⟩ := q
  exact ⟨h', e, f.tr q1, q2⟩
theorem lU_pb {D K PL : Nat} (hD : 6 ≤ D) (ho : o < 6) (np : gx_sk tx n p < n ∧ tx (gx_sk tx n p) = 40) (hK : K ≠ 0) (Bd : lB 184 D tx n (o + 1) (gx_sk tx n p + 1) K PL) : lB 188 (D + 1) tx n o p K PL := by
  refine lU_open (fun h cs S => mu_81 hD ho S np (fun h1 F1 S1 => ?_))
  have B1 := Bd h1 cs S1
  refine w_al (j := 80) rfl rfl rfl ?_
  refine w_cvPU (j := 81) rfl rfl rfl rfl (by first | assumption | rfl) rfl rfl (B1) (Nat.ble_eq.mpr (by omega)) ?_
  rintro h2 ⟨F2, q⟩
  exact px_mono (mu_81f hD hK q) (fun r q => lBr (F1.tr F2) q)
theorem lU_ps {D p1 : Nat} {ds : List (Nat × Nat)} (hD : 6 ≤ D) (ho : o < 6) (np : gx_sk tx n p < n ∧ tx (gx_sk tx n p) = 40) (G : lG 184 D tx n (o + 1) (gx_sk tx n p + 1) p1 ds) (hz : ¬ (gx_sk tx n p1 < n ∧ tx (gx_sk tx n p1) = 41)) : lB 188 (D + 1) tx n o p 1 (gx_sk tx n p1) := by
  refine lU_open (fun h cs S => mu_81 hD ho S np (fun h1 F1 S1 => ?_))
  have G1 := G.2 h1 cs S1
  refine w_al (j := 80) rfl rfl rfl ?_
  refine w_cvPU (j := 81) rfl rfl rfl rfl (by first | assumption | rfl) rfl rfl (G1) (Nat.ble_eq.mpr (by omega)) ?_
  rintro h2 ⟨F2, a1, a2, a3, L2, p0, b1, b2, r2⟩
  refine w_al (j := 82) rfl rfl rfl ?_
  refine w_bi (j := 83) (a := nI 41) rfl rfl (by decide) ?_
  refine w_cvPU (j := 84) rfl rfl rfl rfl (by first | assumption | rfl) rfl rfl (sp_171 (c := 41) (by decide) r2) (Nat.ble_eq.mpr (by omega)) ?_
  rintro h3 ⟨f3, r3⟩
  rw [b2, if_neg hz] at r3
  have r8 := r3.2.2.2.2.2.2.2.1
  refine w_al (j := 85) rfl rfl rfl ?_
  first | refine w_dupr (j := 86) rfl rfl ?_ | refine w_dupi (j := 86) rfl rfl ?_
  first | refine w_gr (j := 87) rfl rfl (by first | assumption | rfl) (by first | assumption | rfl) rfl ?_ | refine w_gi (j := 87) rfl rfl (by first | assumption | rfl) (by first | assumption | rfl) rfl r8 ?_
  refine w_ic (n := 1) (j := 88) rfl rfl ?_
  first | refine w_subN (j := 89) rfl rfl (by omega) ?_ | refine w_sub (j := 89) rfl rfl ?_
  refine w_pf (j := 90) rfl rfl (by first | assumption | rfl) (by first | assumption | rfl) rfl ?_
  refine w_rt rfl ?_
  exact ⟨_, rfl, ((F1.tr F2).tr f3.lF).up (by omega), lMF_dn r3⟩
theorem lU_pg {D p1 : Nat} {ds : List (Nat × Nat)} (hp : p ≤ n) (hD : 6 ≤ D) (ho : o < 6) (np : gx_sk tx n p < n ∧ tx (gx_sk tx n p) = 40) (G : lG 184 D tx n (o + 1) (gx_sk tx n p + 1) p1 ds) (hz : gx_sk tx n p1 < n ∧ tx (gx_sk tx n p1) = 41) : lG 188 (D + 1) tx n o p (gx_sk tx n p1 + 1) ds := by
  have sl := gx_sk_le (tx := tx) hp
  have g1 := G.1
  have sl1 := gx_sk_le (tx := tx) g1.2
  refine lU_openG ⟨by omega, by omega⟩ (fun h cs S => mu_81 hD ho S np (fun h1 F1 S1 => ?_))
  have G1 := G.2 h1 cs S1
  refine w_al (j := 80) rfl rfl rfl ?_
  refine w_cvPU (j := 81) rfl rfl rfl rfl (by first | assumption | rfl) rfl rfl (G1) (Nat.ble_eq.mpr (by omega)) ?_
  rintro h2 ⟨F2, a1, a2, a3, L2, p0, b1, b2, r2⟩
  refine w_al (j := 82) rfl rfl rfl ?_
  refine w_bi (j := 83) (a := nI 41) rfl rfl (by decide) ?_
  refine w_cvPU (j := 84) rfl rfl rfl rfl (by first | assumption | rfl) rfl rfl (sp_171 (c := 41) (by decide) r2) (Nat.ble_eq.mpr (by omega)) ?_
  rintro h3 ⟨f3, r3⟩
  rw [b2, if_pos hz] at r3
  have r8 := r3.2.2.2.2.2.2.2.1
  refine w_al (j := 85) rfl rfl rfl ?_
  first | refine w_dupr (j := 86) rfl rfl ?_ | refine w_dupi (j := 86) rfl rfl ?_
  first | refine w_gr (j := 87) rfl rfl (by first | assumption | rfl) (by first | assumption | rfl) rfl ?_ | refine w_gi (j := 87) rfl rfl (by first | assumption | rfl) (by first | assumption | rfl) rfl r8 ?_
  refine w_ic (n := 1) (j := 88) rfl rfl ?_
  first | refine w_subN (j := 89) rfl rfl (by omega) ?_ | refine w_sub (j := 89) rfl rfl ?_
  refine w_pf (j := 90) rfl rfl (by first | assumption | rfl) (by first | assumption | rfl) rfl ?_
  refine w_rt rfl ?_
  exact ⟨_, rfl, ((F1.tr F2).tr f3.lF).up (by omega), a1, by omega, by omega, L2.f1 (f3.up (by omega)), _, by omega, rfl, r3.O rfl (by omega)⟩
-- least and most
theorem lU_t3 {D w : Nat} (hD : 6 ≤ D) (hw : (w = 7 ∧ gx_is tx (gx_sk tx n p) (gx_lt tx n (gx_sk tx n p)) gw_least) ∨ (w = 8 ∧ gx_is tx (gx_sk tx n p) (gx_lt tx n (gx_sk tx n p)) gw_most)) : lB 188 (D + 1) tx n 6 p 3 (gx_sk tx n p) := by
  refine lU_open (fun h cs S => mu_w hD S hw (fun h1 f1 r1 L1 => ?_))
  refine w_al (j := 34) rfl rfl rfl ?_
  refine w_cvPI (j := 35) rfl rfl rfl rfl (by first | assumption | rfl) rfl rfl (sp_183x r1) (Nat.ble_eq.mpr (by omega)) ?_
  rintro v h2 ⟨zv, f2, r2⟩
  subst zv
  refine w_neB (j := 36) rfl rfl (fun c => absurd c (by simp)) (fun _ => ?_)
  refine w_rt rfl ?_
  exact ⟨_, rfl, (f1.tr f2).lF, _, r2⟩
theorem mu_39 {D w : Nat} {cs : List (Nat × Nat)} {Q : ix_R → Prop} (hD : 6 ≤ D) (ho : o < 6) (S : lMS h tx n p o cs) (hw : (w = 7 ∧ gx_is tx (gx_sk tx n p) (gx_lt tx n (gx_sk tx n p)) gw_least) ∨ (w = 8 ∧ gx_is tx (gx_sk tx n p) (gx_lt tx n (gx_sk tx n p)) gw_most)) (H : ∀ h1, px_f1 h h1 → px_mr h1 tx n (gx_lt tx n (gx_sk tx n p)) 0 (-1) (o + 1) → lm_l h1 cs → px_R px_E D mo_188 [] 39 [.ref 100, .int (nI w), .null] [] h1 0 Q) : px_R px_E D mo_188 [] 0 [.ref 100, .null, .null] [] h 0 Q := by
  refine mu_w hD S hw (fun h1 f1 r1 L1 => ?_)
  refine w_al (j := 34) rfl rfl rfl ?_
  refine w_cvPI (j := 35) rfl rfl rfl rfl (by first | assumption | rfl) rfl rfl (sp_183 ho r1) (Nat.ble_eq.mpr (by omega)) ?_
  rintro v h2 ⟨zv, f2, r2⟩
  subst zv
  refine w_neB (j := 36) rfl rfl (fun _ => ?_) (fun c => absurd c (by simp))
  refine w_al (j := 38) rfl rfl rfl ?_
  refine w_cvPU (j := 39) rfl rfl rfl rfl (by first | assumption | rfl) rfl rfl (sp_169 r2) (Nat.ble_eq.mpr (by omega)) ?_
  rintro h3 ⟨f3, r3⟩
  exact H _ ((f1.tr f2).tr f3) r3 (L1.f1 (f2.tr f3))
theorem mu_52f {D K PL : Nat} {g1 : Int32} {g2 : Value} (hD : 6 ≤ D) (hK : K ≠ 0) (F : lMF h tx n (o + 1) K PL) : px_R px_E D mo_188 [] 52 [.ref 100, .int g1, g2] [] h 0 (fun r => ∃ h', r = (.inl none, h', 0) ∧ lF h h' ∧ lMF h' tx n o K PL) := by
  obtain ⟨p, r⟩ := F
  have r8 := r.2.2.2.2.2.2.2.1
  refine w_al (j := 53) rfl rfl rfl ?_
  refine w_il (j := 54) rfl rfl rfl ?_
  refine w_ic (n := 0) (j := 55) rfl rfl ?_
  refine w_cvU (j := 56) rfl rfl rfl rfl (by first | assumption | rfl) rfl rfl (sp_182x hK r) (Nat.ble_eq.mpr (by omega)) ?_
  refine w_al (j := 57) rfl rfl rfl ?_
  first | refine w_dupr (j := 58) rfl rfl ?_ | refine w_dupi (j := 58) rfl rfl ?_
  first | refine w_gr (j := 59) rfl rfl (by first | assumption | rfl) (by first | assumption | rfl) rfl ?_ | refine w_gi (j := 59) rfl rfl (by first | assumption | rfl) (by first | assumption | rfl) rfl r8 ?_
  refine w_ic (n := 1) (j := 60) rfl rfl ?_
  first | refine w_subN (j := 61) rfl rfl (by omega) ?_ | refine w_sub (j := 61) rfl rfl ?_
  refine w_pf (j := 62) rfl rfl (by first | assumption | rfl) (by first | assumption | rfl) rfl ?_
  refine w_rt rfl ?_
  exact ⟨_, rfl, lF.rf.up (by omega), lMF_dn r⟩
theorem mu_49f {D K PL : Nat} {g1 : Int32} {g2 : Value} (hD : 6 ≤ D) (hK : K ≠ 0) (F : lMF h tx n (o + 1) K PL) : px_R px_E D mo_188 [] 49 [.ref 100, .int g1, g2] [] h 0 (fun r => ∃ h', r = (.inl none, h', 0) ∧ lF h h' ∧ lMF h' tx n o K PL) := by
  obtain ⟨p, r⟩ := F
  refine w_al (j := 50) rfl rfl rfl ?_
  refine w_bi (j := 51) (a := nI 93) rfl rfl (by decide) ?_
  refine w_cvU (j := 52) rfl rfl rfl rfl (by first | assumption | rfl) rfl rfl (sp_171x hK r) (Nat.ble_eq.mpr (by omega)) ?_
  exact mu_52f hD hK ⟨p, r⟩
theorem mu_47f {D K PL : Nat} {g1 : Int32} {g2 : Value} (hD : 6 ≤ D) (hK : K ≠ 0) (F : lMF h tx n (o + 1) K PL) : px_R px_E D mo_188 [] 47 [.ref 100, .int g1, g2] [] h 0 (fun r => ∃ h', r = (.inl none, h', 0) ∧ lF h h' ∧ lMF h' tx n o K PL) := by
  obtain ⟨p, r⟩ := F
  refine w_al (j := 48) rfl rfl rfl ?_
  refine w_cvU (j := 49) rfl rfl rfl rfl (by first | assumption | rfl) rfl rfl (sp_184x hK r) (Nat.ble_eq.mpr (by omega)) ?_
  exact mu_49f hD hK ⟨p, r⟩
theorem mu_44f {D K PL : Nat} {g1 : Int32} {g2 : Value} (hD : 6 ≤ D) (hK : K ≠ 0) (F : lMF h tx n (o + 1) K PL) : px_R px_E D mo_188 [] 44 [.ref 100, .int g1, g2] [] h 0 (fun r => ∃ h', r = (.inl none, h', 0) ∧ lF h h' ∧ lMF h' tx n o K PL) := by
  obtain ⟨p, r⟩ := F
  refine w_al (j := 45) rfl rfl rfl ?_
  refine w_bi (j := 46) (a := nI 44) rfl rfl (by decide) ?_
  refine w_cvU (j := 47) rfl rfl rfl rfl (by first | assumption | rfl) rfl rfl (sp_171x hK r) (Nat.ble_eq.mpr (by omega)) ?_
  exact mu_47f hD hK ⟨p, r⟩
theorem mu_42f {D K PL : Nat} {g1 : Int32} {g2 : Value} (hD : 6 ≤ D) (hK : K ≠ 0) (F : lMF h tx n (o + 1) K PL) : px_R px_E D mo_188 [] 42 [.ref 100, .int g1, g2] [] h 0 (fun r => ∃ h', r = (.inl none, h', 0) ∧ lF h h' ∧ lMF h' tx n o K PL) := by
  obtain ⟨p, r⟩ := F
  refine w_al (j := 43) rfl rfl rfl ?_
  refine w_cvU (j := 44) rfl rfl rfl rfl (by first | assumption | rfl) rfl rfl (sp_184x hK r) (Nat.ble_eq.mpr (by omega)) ?_
  exact mu_44f hD hK ⟨p, r⟩
theorem lU_t1 {D w : Nat} (hD : 6 ≤ D) (ho : o < 6) (hw : (w = 7 ∧ gx_is tx (gx_sk tx n p) (gx_lt tx n (gx_sk tx n p)) gw_least) ∨ (w = 8 ∧ gx_is tx (gx_sk tx n p) (gx_lt tx n (gx_sk tx n p)) gw_most)) (hz : ¬ (gx_sk tx n (gx_lt tx n (gx_sk tx n p)) < n ∧ tx (gx_sk tx n (gx_lt tx n (gx_sk tx n p))) = 91)) : lB 188 (D + 1) tx n o p 1 (gx_sk tx n (gx_lt tx n (gx_sk tx n p))) := by
  refine lU_open (fun h cs S => mu_39 hD ho S hw (fun h1 f1 r1 L1 => ?_))
  refine w_al (j := 40) rfl rfl rfl ?_
  refine w_bi (j := 41) (a := nI 91) rfl rfl (by decide) ?_
  refine w_cvPU (j := 42) rfl rfl rfl rfl (by first | assumption | rfl) rfl rfl (sp_171 (c := 91) (by decide) r1) (Nat.ble_eq.mpr (by omega)) ?_
  rintro h2 ⟨f2, r2⟩
  rw [if_neg hz] at r2
  exact px_mono (mu_42f hD (by decide) ⟨_, r2⟩) (fun r q => lBr (f1.tr f2).lF q)
theorem mu_42 {D w e : Nat} {cs : List (Nat × Nat)} {Q : ix_R → Prop} (hD : 6 ≤ D) (ho : o < 6) (S : lMS h tx n p o cs) (hw : (w = 7 ∧ gx_is tx (gx_sk tx n p) (gx_lt tx n (gx_sk tx n p)) gw_least) ∨ (w = 8 ∧ gx_is tx (gx_sk tx n p) (gx_lt tx n (gx_sk tx n p)) gw_most)) (ez : gx_lt tx n (gx_sk tx n p) = e) (hz : gx_sk tx n e < n ∧ tx (gx_sk tx n e) = 91) (H : ∀ h1, lF h h1 → lMS h1 tx n (gx_sk tx n e + 1) (o + 1) cs → px_R px_E D mo_188 [] 42 [.ref 100, .int (nI w), .null] [] h1 0 Q) : px_R px_E D mo_188 [] 0 [.ref 100, .null, .null] [] h 0 Q := by
  have sl := gx_sk_le (tx := tx) S.2.2.1
  have S1 := S.1
  have S2 := S.2.1
  refine mu_39 hD ho S hw (fun h1 f1 r1 L1 => ?_)
  rw [ez] at r1
  have ll := gx_lt_le (tx := tx) sl.2
  rw [ez] at ll
  have sl1 := gx_sk_le (tx := tx) ll.2
  refine w_al (j := 40) rfl rfl rfl ?_
  refine w_bi (j := 41) (a := nI 91) rfl rfl (by decide) ?_
  refine w_cvPU (j := 42) rfl rfl rfl rfl (by first | assumption | rfl) rfl rfl (sp_171 (c := 91) (by decide) r1) (Nat.ble_eq.mpr (by omega)) ?_
  rintro h2 ⟨f2, r2⟩
  rw [if_pos hz] at r2
  exact H _ (f1.tr f2).lF ⟨S1, by omega, by omega, L1.f1 f2, _, by omega, rfl, r2⟩
theorem lU_t2 {D w e K PL : Nat} (hD : 6 ≤ D) (ho : o < 6) (hw : (w = 7 ∧ gx_is tx (gx_sk tx n p) (gx_lt tx n (gx_sk tx n p)) gw_least) ∨ (w = 8 ∧ gx_is tx (gx_sk tx n p) (gx_lt tx n (gx_sk tx n p)) gw_most)) (ez : gx_lt tx n (gx_sk tx n p) = e) (hz : gx_sk tx n e < n ∧ tx (gx_sk tx n e) = 91) (hK : K ≠ 0) (Bd : lB 184 D tx n (o + 1) (gx_sk tx n e + 1) K PL) : lB 188 (D + 1) tx n o p K PL := by
  refine lU_open (fun h cs S => mu_42 hD ho S hw ez hz (fun h1 F1 S1 => ?_))
  have B1 := Bd h1 cs S1
  refine w_al (j := 43) rfl rfl rfl ?_
  refine w_cvPU (j := 44) rfl rfl rfl rfl (by first | assumption | rfl) rfl rfl (B1) (Nat.ble_eq.mpr (by omega)) ?_
  rintro h2 ⟨F2, q⟩
  exact px_mono (mu_44f hD hK q) (fun r q => lBr (F1.tr F2) q)
theorem lU_t4 {D w e p1 : Nat} {ds : List (Nat × Nat)} (hD : 6 ≤ D) (ho : o < 6) (hw : (w = 7 ∧ gx_is tx (gx_sk tx n p) (gx_lt tx n (gx_sk tx n p)) gw_least) ∨ (w = 8 ∧ gx_is tx (gx_sk tx n p) (gx_lt tx n (gx_sk tx n p)) gw_most)) (ez : gx_lt tx n (gx_sk tx n p) = e) (hz : gx_sk tx n e < n ∧ tx (gx_sk tx n e) = 91) (G : lG 184 D tx n (o + 1) (gx_sk tx n e + 1) p1 ds) (hz1 : ¬ (gx_sk tx n p1 < n ∧ tx (gx_sk tx n p1) = 44)) : lB 188 (D + 1) tx n o p 1 (gx_sk tx n p1) := by
  refine lU_open (fun h cs S => mu_42 hD ho S hw ez hz (fun h1 F1 S1 => ?_))
  have G1 := G.2 h1 cs S1
  refine w_al (j := 43) rfl rfl rfl ?_
  refine w_cvPU (j := 44) rfl rfl rfl rfl (by first | assumption | rfl) rfl rfl (G1) (Nat.ble_eq.mpr (by omega)) ?_
  rintro h2 ⟨F2, a1, a2, a3, L2, p0, b1, b2, r2⟩
  refine w_al (j := 45) rfl rfl rfl ?_
  refine w_bi (j := 46) (a := nI 44) rfl rfl (by decide) ?_
  refine w_cvPU (j := 47) rfl rfl rfl rfl (by first | assumption | rfl) rfl rfl (sp_171 (c := 44) (by decide) r2) (Nat.ble_eq.mpr (by omega)) ?_
  rintro h3 ⟨f3, r3⟩
  rw [b2, if_neg hz1] at r3
  exact px_mono (mu_47f hD (by decide) ⟨_, r3⟩) (fun r q => lBr ((F1.tr F2).tr f3.lF) q)
theorem mu_47 {D w e p1 : Nat} {cs ds : List (Nat × Nat)} {Q : ix_R → Prop} (hD : 6 ≤ D) (ho : o < 6) (S : lMS h tx n p o cs) (hw : (w = 7 ∧ gx_is tx (gx_sk tx n p) (gx_lt tx n (gx_sk tx n p)) gw_least) ∨ (w = 8 ∧ gx_is tx (gx_sk tx n p) (gx_lt tx n (gx_sk tx n p)) gw_most)) (ez : gx_lt tx n (gx_sk tx n p) = e) (hz : gx_sk tx n e < n ∧ tx (gx_sk tx n e) = 91) (G : lG 184 D tx n (o + 1) (gx_sk tx n e + 1) p1 ds) (hz1 : gx_sk tx n p1 < n ∧ tx (gx_sk tx n p1) = 44) (H : ∀ h1, lF h h1 → lMS h1 tx n (gx_sk tx n p1 + 1) (o + 1) (cs ++ ds) → px_R px_E D mo_188 [] 47 [.ref 100, .int (nI w), .null] [] h1 0 Q) : px_R px_E D mo_188 [] 0 [.ref 100, .null, .null] [] h 0 Q := by
  refine mu_42 hD ho S hw ez hz (fun h1 F1 S1 => ?_)
  have G1 := G.2 h1 cs S1
  have sl1 := gx_sk_le (tx := tx) G.1.2
  refine w_al (j := 43) rfl rfl rfl ?_
  refine w_cvPU (j := 44) rfl rfl rfl rfl (by first | assumption | rfl) rfl rfl (G1) (Nat.ble_eq.mpr (by omega)) ?_
  rintro h2 ⟨F2, a1, a2, a3, L2, p0, b1, b2, r2⟩
  refine w_al (j := 45) rfl rfl rfl ?_
  refine w_bi (j := 46) (a := nI 44) rfl rfl (by decide) ?_
  refine w_cvPU (j := 47) rfl rfl rfl rfl (by first | assumption | rfl) rfl rfl (sp_171 (c := 44) (by decide) r2) (Nat.ble_eq.mpr (by omega)) ?_
  rintro h3 ⟨f3, r3⟩
  rw [b2, if_pos hz1] at r3
  exact H _ ((F1.tr F2).tr f3.lF) ⟨a1, by omega, by omega, L2.f1 f3, _, by omega, rfl, r3⟩
theorem lU_t5 {D w e p1 K PL : Nat} {ds : List (Nat × Nat)} (hD : 6 ≤ D) (ho : o < 6) (hw : (w = 7 ∧ gx_is tx (gx_sk tx n p) (gx_lt tx n (gx_sk tx n p)) gw_least) ∨ (w = 8 ∧ gx_is tx (gx_sk tx n p) (gx_lt tx n (gx_sk tx n p)) gw_most)) (ez : gx_lt tx n (gx_sk tx n p) = e) (hz : gx_sk tx n e < n ∧ tx (gx_sk tx n e) = 91) (G : lG 184 D tx n (o + 1) (gx_sk tx n e + 1) p1 ds) (hz1 : gx_sk tx n p1 < n ∧ tx (gx_sk tx n p1) = 44) (hK : K ≠ 0) (Bd : lB 184 D tx n (o + 1) (gx_sk tx n p1 + 1) K PL) : lB 188 (D + 1) tx n o p K PL := by
  refine lU_open (fun h cs S => mu_47 hD ho S hw ez hz G hz1 (fun h1 F1 S1 => ?_))
  have B1 := Bd h1 (cs ++ ds) S1
  refine w_al (j := 48) rfl rfl rfl ?_
  refine w_cvPU (j := 49) rfl rfl rfl rfl (by first | assumption | rfl) rfl rfl (B1) (Nat.ble_eq.mpr (by omega)) ?_
  rintro h2 ⟨F2, q⟩
  exact px_mono (mu_49f hD hK q) (fun r q => lBr (F1.tr F2) q)
theorem lU_t6 {D w e p1 p2 : Nat} {ds ds2 : List (Nat × Nat)} (hD : 6 ≤ D) (ho : o < 6) (hw : (w = 7 ∧ gx_is tx (gx_sk tx n p) (gx_lt tx n (gx_sk tx n p)) gw_least) ∨ (w = 8 ∧ gx_is tx (gx_sk tx n p) (gx_lt tx n (gx_sk tx n p)) gw_most)) (ez : gx_lt tx n (gx_sk tx n p) = e) (hz : gx_sk tx n e < n ∧ tx (gx_sk tx n e) = 91) (G : lG 184 D tx n (o + 1) (gx_sk tx n e + 1) p1 ds) (hz1 : gx_sk tx n p1 < n ∧ tx (gx_sk tx n p1) = 44) (G2 : lG 184 D tx n (o + 1) (gx_sk tx n p1 + 1) p2 ds2) (hz2 : ¬ (gx_sk tx n p2 < n ∧ tx (gx_sk tx n p2) = 93)) : lB 188 (D + 1) tx n o p 1 (gx_sk tx n p2) := by
  refine lU_open (fun h cs S => mu_47 hD ho S hw ez hz G hz1 (fun h1 F1 S1 => ?_))
  have G3 := G2.2 h1 (cs ++ ds) S1
  refine w_al (j := 48) rfl rfl rfl ?_
  refine w_cvPU (j := 49) rfl rfl rfl rfl (by first | assumption | rfl) rfl rfl (G3) (Nat.ble_eq.mpr (by omega)) ?_
  rintro h2 ⟨F2, a1, a2, a3, L2, p0, b1, b2, r2⟩
  refine w_al (j := 50) rfl rfl rfl ?_
  refine w_bi (j := 51) (a := nI 93) rfl rfl (by decide) ?_
  refine w_cvPU (j := 52) rfl rfl rfl rfl (by first | assumption | rfl) rfl rfl (sp_171 (c := 93) (by decide) r2) (Nat.ble_eq.mpr (by omega)) ?_
  rintro h3 ⟨f3, r3⟩
  rw [b2, if_neg hz2] at r3
  exact px_mono (mu_52f hD (by decide) ⟨_, r3⟩) (fun r q => lBr ((F1.tr F2).tr f3.lF) q)
theorem lU_tg {D w e p1 p2 : Nat} {ds ds2 : List (Nat × Nat)} (hp : p ≤ n) (hD : 6 ≤ D) (ho : o < 6) (hw : (w = 7 ∧ gx_is tx (gx_sk tx n p) (gx_lt tx n (gx_sk tx n p)) gw_least) ∨ (w = 8 ∧ gx_is tx (gx_sk tx n p) (gx_lt tx n (gx_sk tx n p)) gw_most)) (ez : gx_lt tx n (gx_sk tx n p) = e) (hz : gx_sk tx n e < n ∧ tx (gx_sk tx n e) = 91) (G : lG 184 D tx n (o + 1) (gx_sk tx n e + 1) p1 ds) (hz1 : gx_sk tx n p1 < n ∧ tx (gx_sk tx n p1) = 44) (G2 : lG 184 D tx n (o + 1) (gx_sk tx n p1 + 1) p2 ds2) (hz2 : gx_sk tx n p2 < n ∧ tx (gx_sk tx n p2) = 93) : lG 188 (D + 1) tx n o p (gx_sk tx n p2 + 1) (ds ++ ds2 ++ [(w, 0)]) := by
  have sl := gx_sk_le (tx := tx) hp
  have ll := gx_lt_le (tx := tx) sl.2
  rw [ez] at ll
  have sl0 := gx_sk_le (tx := tx) ll.2
  have g1 := G.1
  have g2 := G2.1
  have sl1 := gx_sk_le (tx := tx) g1.2
  have sl2 := gx_sk_le (tx := tx) g2.2
  have ln : (ds ++ ds2 ++ [(w, 0)]).length = ds.length + ds2.length + 1 := by rw [List.length_append, List.length_append, List.length_singleton]
  refine lU_openG ⟨by omega, by omega⟩ (fun h cs S => ?_)
  have S2 := S.2.1
  refine mu_47 hD ho S hw ez hz G hz1 (fun h1 F1 S1 => ?_)
  have G3 := G2.2 h1 (cs ++ ds) S1
  refine w_al (j := 48) rfl rfl rfl ?_
  refine w_cvPU (j := 49) rfl rfl rfl rfl (by first | assumption | rfl) rfl rfl (G3) (Nat.ble_eq.mpr (by omega)) ?_
  rintro h2 ⟨F2, a1, a2, a3, L2, p0, b1, b2, r2⟩
  refine w_al (j := 50) rfl rfl rfl ?_
  refine w_bi (j := 51) (a := nI 93) rfl rfl (by decide) ?_
  refine w_cvPU (j := 52) rfl rfl rfl rfl (by first | assumption | rfl) rfl rfl (sp_171 (c := 93) (by decide) r2) (Nat.ble_eq.mpr (by omega)) ?_
  rintro h3 ⟨f3, r3⟩
  rw [b2, if_pos hz2] at r3
  refine w_al (j := 53) rfl rfl rfl ?_
  refine w_il (j := 54) rfl rfl rfl ?_
  refine w_ic (n := 0) (j := 55) rfl rfl ?_
  refine w_cvPU (j := 56) rfl rfl rfl rfl (by first | assumption | rfl) rfl rfl (sp_182 (by omega) r3 (L2.f1 f3)) (Nat.ble_eq.mpr (by omega)) ?_
  rintro h4 ⟨x1, x2, x3⟩
  have r8 := x2.2.2.2.2.2.2.2.1
  refine w_al (j := 57) rfl rfl rfl ?_
  first | refine w_dupr (j := 58) rfl rfl ?_ | refine w_dupi (j := 58) rfl rfl ?_
  first | refine w_gr (j := 59) rfl rfl (by first | assumption | rfl) (by first | assumption | rfl) rfl ?_ | refine w_gi (j := 59) rfl rfl (by first | assumption | rfl) (by first | assumption | rfl) rfl r8 ?_
  refine w_ic (n := 1) (j := 60) rfl rfl ?_
  first | refine w_subN (j := 61) rfl rfl (by omega) ?_ | refine w_sub (j := 61) rfl rfl ?_
  refine w_pf (j := 62) rfl rfl (by first | assumption | rfl) (by first | assumption | rfl) rfl ?_
  refine w_rt rfl ?_
  have lc : (cs ++ (ds ++ ds2 ++ [(w, 0)])).length = cs.length + (ds.length + ds2.length + 1) := by rw [List.length_append, ln]
  refine ⟨_, rfl, ((((F1.tr F2).tr f3.lF).tr x1).up (by omega)), a1, by omega, by omega, ?_, _, by omega, rfl, x2.O rfl (by omega)⟩
  rw [← List.append_assoc, ← List.append_assoc]
  exact x3.f1 (px_f1.rf.up (by omega))
end LM
