def lcF (h h' : ix_H) : Prop := ∀ a, a ≠ 2 → ¬ (46 ≤ a ∧ a ≤ 50) → h' a = h a
theorem lcF.rf {h : ix_H} : lcF h h := fun _ _ _ => rfl
theorem lcF.tr {h h1 h2 : ix_H} (a : lcF h h1) (b : lcF h1 h2) : lcF h h2 := fun q q1 q2 => (b q q1 q2).trans (a q q1 q2)
theorem px_fr.lc {h h' : ix_H} (f : px_fr [2] h h') : lcF h h' := fun a ha _ => f a (by simp; omega)
theorem px_fr.lx {h h' : ix_H} (f : px_fr [46, 46 + 2, 46 + 3] h h') : lcF h h' := fun a _ ha => f a (by simp; omega)
def lCS (h : ix_H) (tx : Nat → Nat) (n p o : Nat) (cs : List (Nat × Nat)) : Prop := n ≤ 150 ∧ cs.length ≤ p ∧ px_lx h 46 cs ∧ ∃ pc, px_rd h tx n p pc o 0 (-1)
def lCF (h : ix_H) (tx : Nat → Nat) (n o K PL : Nat) : Prop := px_rf h tx n o K (nI PL) ∧ ∃ cs, px_lx h 46 cs
def lR (U D : Nat) (tx : Nat → Nat) (n o p : Nat) (cs : List (Nat × Nat)) (h h' : ix_H) : Prop := lcF h h' ∧ ((∃ K PL, lB U D tx n o p K PL ∧ lCF h' tx n o K PL) ∨ ∃ p' ds, p < p' ∧ lG U D tx n o p p' ds ∧ (∀ d, pf_wf ds d (d + 1)) ∧ lCS h' tx n p' o (cs ++ ds))
theorem lR.fr {U D : Nat} {tx : Nat → Nat} {n o p : Nat} {cs : List (Nat × Nat)} {h h1 h' : ix_H} (f : lcF h h1) (q : lR U D tx n o p cs h1 h') : lR U D tx n o p cs h h' := ⟨f.tr q.1, q.2⟩
theorem lR.frR {U D : Nat} {tx : Nat → Nat} {n o p : Nat} {cs : List (Nat × Nat)} {h h1 : ix_H} {r : ix_R} (f : lcF h h1) (q : ∃ h', r = (.inl none, h', 0) ∧ lR U D tx n o p cs h1 h') : ∃ h', r = (.inl none, h', 0) ∧ lR U D tx n o p cs h h' := by
  obtain ⟨h', e, q⟩ := q
  exact ⟨h', e, q.fr f⟩
theorem px_lx.f2 {h h' : ix_H} {cs : List (Nat × Nat)} (f : px_fr [2] h h') (q : px_lx h 46 cs) : px_lx h' 46 cs := q.of (f 46 (by decide)) (f (46 + 2) (by decide)) (f (46 + 3) (by decide))
theorem px_rf.lx {h h' : ix_H} {tx : Nat → Nat} {n o k : Nat} {pl : Int32} (f : px_fr [46, 46 + 2, 46 + 3] h h') (r : px_rf h tx n o k pl) : px_rf h' tx n o k pl := r.fr f (by decide) (by decide) (by decide)
theorem gx_em_lt {cs : List (Nat × Nat)} {a b : Nat} (hl : cs.length < 150) : gx_em cs a b = cs ++ [(a, b)] := if_pos hl
theorem gwd_n0 : gx_wd 6 (gx_N 0) := by unfold gx_wd; decide
theorem gwd_n1 : gx_wd 12 (gx_N 1) := by unfold gx_wd; decide
theorem gwd_n2 : gx_wd 7 (gx_N 2) := by unfold gx_wd; decide
theorem gwd_n3 : gx_wd 18 (gx_N 3) := by unfold gx_wd; decide
theorem gwd_n4 : gx_wd 17 (gx_N 4) := by unfold gx_wd; decide
theorem gwd_n5 : gx_wd 1 (gx_N 5) := by unfold gx_wd; decide
theorem gwd_n6 : gx_wd 4 (gx_N 6) := by unfold gx_wd; decide
theorem gwd_n7 : gx_wd 20 (gx_N 7) := by unfold gx_wd; decide
theorem gwd_least : gx_wd 10 gw_least := by unfold gx_wd; decide
theorem gwd_most : gx_wd 13 gw_most := by unfold gx_wd; decide
section LC
variable {h : ix_H} {tx : Nat → Nat} {n p pc o k : Nat} {pl : Int32}
theorem sp_43f (r : px_rf h tx n o k pl) : px_V 2 43 [.ref 46, .ref 2] h none h := by
  refine px_M (M := mt_43) (ops := mo_43) tb_43 rfl rfl rfl rfl rfl ?_
  refine w_al (j := 1) rfl rfl rfl ?_
  refine w_cvI (j := 2) rfl rfl rfl rfl (by first | assumption | rfl) rfl rfl (sp_56f r) rfl ?_
  refine w_eqB (j := 3) rfl rfl (fun c => absurd c (by simp)) (fun _ => ?_)
  refine w_rt rfl ?_
  rfl
theorem sp_42f (r : px_rf h tx n o k pl) : px_V 3 42 [.ref 46, .ref 2] h none h := by
  refine px_M (M := mt_42) (ops := mo_42) tb_42 rfl rfl rfl rfl rfl ?_
  refine w_al (j := 1) rfl rfl rfl ?_
  refine w_al (j := 2) rfl rfl rfl ?_
  refine w_cvU (j := 3) rfl rfl rfl rfl (by first | assumption | rfl) rfl rfl (sp_43f r) rfl ?_
  refine w_ic (n := 0) (j := 4) rfl rfl ?_
  refine w_is (j := 5) rfl rfl rfl ?_
  refine w_il (j := 6) rfl rfl rfl ?_
  refine w_si (j := 7) (a := nI 150) rfl rfl (by decide) ?_
  refine w_geN (j := 8) rfl rfl (by omega) (by omega) (fun c => absurd c (fun c => by omega)) (fun _ => ?_)
  refine w_al (j := 9) rfl rfl rfl ?_
  refine w_cvI (j := 10) rfl rfl rfl rfl (by first | assumption | rfl) rfl rfl (sp_56f r) rfl ?_
  refine w_neB (j := 11) rfl rfl (fun _ => ?_) (fun c => absurd c (by simp))
  refine w_rt rfl ?_
  rfl
theorem sp_41f (r : px_rf h tx n o k pl) : px_V 4 41 [.ref 46, .ref 2] h none h := by
  refine px_M (M := mt_41) (ops := mo_41) tb_41 rfl rfl rfl rfl rfl ?_
  refine w_al (j := 1) rfl rfl rfl ?_
  refine w_al (j := 2) rfl rfl rfl ?_
  refine w_cvU (j := 3) rfl rfl rfl rfl (by first | assumption | rfl) rfl rfl (sp_42f r) rfl ?_
  refine w_ic (n := 0) (j := 4) rfl rfl ?_
  refine w_is (j := 5) rfl rfl rfl ?_
  refine w_il (j := 6) rfl rfl rfl ?_
  refine w_si (j := 7) (a := nI 150) rfl rfl (by decide) ?_
  refine w_geN (j := 8) rfl rfl (by omega) (by omega) (fun c => absurd c (fun c => by omega)) (fun _ => ?_)
  refine w_al (j := 9) rfl rfl rfl ?_
  refine w_cvI (j := 10) rfl rfl rfl rfl (by first | assumption | rfl) rfl rfl (sp_56f r) rfl ?_
  refine w_neB (j := 11) rfl rfl (fun _ => ?_) (fun c => absurd c (by simp))
  refine w_rt rfl ?_
  rfl
theorem sp_45 {s e : Nat} (r : px_rd h tx n e s o 0 (-1)) : px_PI 3 45 [.ref 2] h (fun v h1 => (∃ k, k < 8 ∧ v = nI k ∧ gx_is tx s e (gx_N k) ∧ h1 = h) ∨ (v = nI 7 ∧ (∀ k, k < 8 → ¬ gx_is tx s e (gx_N k)) ∧ px_fr [2] h h1 ∧ px_rf h1 tx n o 1 (nI s))) := by
  refine px_M (M := mt_45) (ops := mo_45) tb_45 rfl rfl rfl rfl rfl ?_
  refine w_al (j := 1) rfl rfl rfl ?_
  refine w_ls (j := 2) rfl rfl ?_
  refine w_cvPI (j := 3) rfl rfl rfl rfl (by first | assumption | rfl) rfl rfl (sp_66 gwd_n0 r) rfl ?_
  rintro v h1 ⟨rfl, d, rfl, d0⟩
  refine w_eqB (j := 4) rfl rfl (fun c0 => ?_) (fun c0 => ?_)
  rotate_left
  ·
    refine w_ic (n := 0) (j := 5) rfl rfl ?_
    refine w_ir rfl ?_
    exact ⟨_, _, rfl, Or.inl ⟨0, by decide, rfl, d0.mp c0, rfl⟩⟩
  have n0 : ¬ gx_is tx s e (gx_N 0) := fun q => by rw [d0.mpr q] at c0; cases c0
  clear d0 c0
  refine w_al (j := 7) rfl rfl rfl ?_
  refine w_ls (j := 8) rfl rfl ?_
  refine w_cvPI (j := 9) rfl rfl rfl rfl (by first | assumption | rfl) rfl rfl (sp_66 gwd_n1 r) rfl ?_
  rintro v h1 ⟨rfl, d, rfl, d0⟩
  refine w_eqB (j := 10) rfl rfl (fun c0 => ?_) (fun c0 => ?_)
  rotate_left
  ·
    refine w_ic (n := 1) (j := 11) rfl rfl ?_
    refine w_ir rfl ?_
    exact ⟨_, _, rfl, Or.inl ⟨1, by decide, rfl, d0.mp c0, rfl⟩⟩
  have n1 : ¬ gx_is tx s e (gx_N 1) := fun q => by rw [d0.mpr q] at c0; cases c0
  clear d0 c0
  refine w_al (j := 13) rfl rfl rfl ?_
  refine w_ls (j := 14) rfl rfl ?_
  refine w_cvPI (j := 15) rfl rfl rfl rfl (by first | assumption | rfl) rfl rfl (sp_66 gwd_n2 r) rfl ?_
  rintro v h1 ⟨rfl, d, rfl, d0⟩
  refine w_eqB (j := 16) rfl rfl (fun c0 => ?_) (fun c0 => ?_)
  rotate_left
  ·
    refine w_ic (n := 2) (j := 17) rfl rfl ?_
    refine w_ir rfl ?_
    exact ⟨_, _, rfl, Or.inl ⟨2, by decide, rfl, d0.mp c0, rfl⟩⟩
  have n2 : ¬ gx_is tx s e (gx_N 2) := fun q => by rw [d0.mpr q] at c0; cases c0
  clear d0 c0
  refine w_al (j := 19) rfl rfl rfl ?_
  refine w_ls (j := 20) rfl rfl ?_
  refine w_cvPI (j := 21) rfl rfl rfl rfl (by first | assumption | rfl) rfl rfl (sp_66 gwd_n3 r) rfl ?_
  rintro v h1 ⟨rfl, d, rfl, d0⟩
  refine w_eqB (j := 22) rfl rfl (fun c0 => ?_) (fun c0 => ?_)
  rotate_left
  ·
    refine w_ic (n := 3) (j := 23) rfl rfl ?_
    refine w_ir rfl ?_
    exact ⟨_, _, rfl, Or.inl ⟨3, by decide, rfl, d0.mp c0, rfl⟩⟩
  have n3 : ¬ gx_is tx s e (gx_N 3) := fun q => by rw [d0.mpr q] at c0; cases c0
  clear d0 c0
  refine w_al (j := 25) rfl rfl rfl ?_
  refine w_ls (j := 26) rfl rfl ?_
  refine w_cvPI (j := 27) rfl rfl rfl rfl (by first | assumption | rfl) rfl rfl (sp_66 gwd_n4 r) rfl ?_
  rintro v h1 ⟨rfl, d, rfl, d0⟩
  refine w_eqB (j := 28) rfl rfl (fun c0 => ?_) (fun c0 => ?_)
  rotate_left
  ·
    refine w_ic (n := 4) (j := 29) rfl rfl ?_
    refine w_ir rfl ?_
    exact ⟨_, _, rfl, Or.inl ⟨4, by decide, rfl, d0.mp c0, rfl⟩⟩
  have n4 : ¬ gx_is tx s e (gx_N 4) := fun q => by rw [d0.mpr q] at c0; cases c0
  clear d0 c0
  refine w_al (j := 31) rfl rfl rfl ?_
  refine w_ls (j := 32) rfl rfl ?_
  refine w_cvPI (j := 33) rfl rfl rfl rfl (by first | assumption | rfl) rfl rfl (sp_66 gwd_n5 r) rfl ?_
  rintro v h1 ⟨rfl, d, rfl, d0⟩
  refine w_eqB (j := 34) rfl rfl (fun c0 => ?_) (fun c0 => ?_)
  rotate_left
  ·
    refine w_ic (n := 5) (j := 35) rfl rfl ?_
    refine w_ir rfl ?_
    exact ⟨_, _, rfl, Or.inl ⟨5, by decide, rfl, d0.mp c0, rfl⟩⟩
  have n5 : ¬ gx_is tx s e (gx_N 5) := fun q => by rw [d0.mpr q] at c0; cases c0
  clear d0 c0
  refine w_al (j := 37) rfl rfl rfl ?_
  refine w_ls (j := 38) rfl rfl ?_
  refine w_cvPI (j := 39) rfl rfl rfl rfl (by first | assumption | rfl) rfl rfl (sp_66 gwd_n6 r) rfl ?_
  rintro v h1 ⟨rfl, d, rfl, d0⟩
  refine w_eqB (j := 40) rfl rfl (fun c0 => ?_) (fun c0 => ?_)
  rotate_left
  ·
    refine w_bi (j := 41) (a := nI 6) rfl rfl (by decide) ?_
    refine w_ir rfl ?_
    exact ⟨_, _, rfl, Or.inl ⟨6, by decide, rfl, d0.mp c0, rfl⟩⟩
  have n6 : ¬ gx_is tx s e (gx_N 6) := fun q => by rw [d0.mpr q] at c0; cases c0
  clear d0 c0
  refine w_al (j := 43) rfl rfl rfl ?_
  refine w_ls (j := 44) rfl rfl ?_
  refine w_cvPI (j := 45) rfl rfl rfl rfl (by first | assumption | rfl) rfl rfl (sp_66 gwd_n7 r) rfl ?_
  rintro v h1 ⟨rfl, d, rfl, d0⟩
  refine w_neB (j := 46) rfl rfl (fun c0 => ?_) (fun c0 => ?_)
  ·
    refine w_bi (j := 50) (a := nI 7) rfl rfl (by decide) ?_
    refine w_ir rfl ?_
    exact ⟨_, _, rfl, Or.inl ⟨7, by decide, rfl, d0.mp c0, rfl⟩⟩
  have n7 : ¬ gx_is tx s e (gx_N 7) := fun q => by rw [d0.mpr q] at c0; cases c0
  refine w_al (j := 47) rfl rfl rfl ?_
  refine w_ic (n := 1) (j := 48) rfl rfl ?_
  refine w_cvPU (j := 49) rfl rfl rfl rfl (by first | assumption | rfl) rfl rfl (sp_59 (kd := 1) (by decide) r) rfl ?_
  rintro h2 ⟨u1, u2⟩
  refine w_bi (j := 50) (a := nI 7) rfl rfl (by decide) ?_
  refine w_ir rfl ?_
  refine ⟨_, _, rfl, Or.inr ⟨rfl, fun k hk => ?_, u1, by decide, _, _, by simpa [gx_fk, gx_fp] using u2⟩⟩
  rcases (show k = 0 ∨ k = 1 ∨ k = 2 ∨ k = 3 ∨ k = 4 ∨ k = 5 ∨ k = 6 ∨ k = 7 by omega) with rfl | rfl | rfl | rfl | rfl | rfl | rfl | rfl
  · exact n0
  · exact n1
  · exact n2
  · exact n3
  · exact n4
  · exact n5
  · exact n6
  · exact n7
-- readTwo once the reader has failed
theorem c44_17f {D E w K PL : Nat} {cs : List (Nat × Nat)} (hD : 4 ≤ D) (F : lCF h tx n (o + 1) K PL) (Bd : lB 188 E tx n o p K PL) : px_R px_E D mo_44 [] 17 [.ref 46, .ref 2, .int (nI w)] [] h 0 (fun r => ∃ h', r = (.inl none, h', 0) ∧ lR 188 E tx n o p cs h h') := by
  obtain ⟨r, cs1, L⟩ := F
  refine w_al (j := 18) rfl rfl rfl ?_
  refine w_cvPU (j := 19) rfl rfl rfl rfl (by first | assumption | rfl) rfl rfl (sp_68f (by omega) r) (Nat.ble_eq.mpr (by omega)) ?_
  rintro h1 ⟨u1, u2⟩
  rw [Nat.add_sub_cancel] at u2
  refine w_al (j := 20) rfl rfl rfl ?_
  refine w_il (j := 21) rfl rfl rfl ?_
  refine w_ic (n := 0) (j := 22) rfl rfl ?_
  refine w_cvPU (j := 23) rfl rfl rfl rfl (by first | assumption | rfl) rfl rfl (sp_39 (a := w) (b := 0) px_Lr46 (L.f2 u1)) (Nat.ble_eq.mpr (by omega)) ?_
  rintro h2 ⟨u3, u4⟩
  refine w_rt rfl ?_
  exact ⟨_, rfl, u1.lc.tr u3.lx, Or.inl ⟨_, _, Bd, u2.lx u3, _, u4⟩⟩
theorem c44_14f {D E w K PL : Nat} {cs : List (Nat × Nat)} (hD : 4 ≤ D) (F : lCF h tx n (o + 1) K PL) (Bd : lB 188 E tx n o p K PL) : px_R px_E D mo_44 [] 14 [.ref 46, .ref 2, .int (nI w)] [] h 0 (fun r => ∃ h', r = (.inl none, h', 0) ∧ lR 188 E tx n o p cs h h') := by
  obtain ⟨r, cs1, L⟩ := F
  refine w_al (j := 15) rfl rfl rfl ?_
  refine w_bi (j := 16) (a := nI 93) rfl rfl (by decide) ?_
  refine w_cvPU (j := 17) rfl rfl rfl rfl (by first | assumption | rfl) rfl rfl (sp_63f (c := 93) (by decide) r) (Nat.ble_eq.mpr (by omega)) ?_
  rintro h1 ⟨u1, u2⟩
  exact px_mono (c44_17f hD ⟨u2, cs1, L.f2 u1⟩ Bd) (fun r q => lR.frR u1.lc q)
theorem c44_11f {D E w K PL : Nat} {cs : List (Nat × Nat)} (hD : 4 ≤ D) (F : lCF h tx n (o + 1) K PL) (Bd : lB 188 E tx n o p K PL) : px_R px_E D mo_44 [] 11 [.ref 46, .ref 2, .int (nI w)] [] h 0 (fun r => ∃ h', r = (.inl none, h', 0) ∧ lR 188 E tx n o p cs h h') := by
  obtain ⟨r, cs1, L⟩ := F
  refine w_al (j := 12) rfl rfl rfl ?_
  refine w_al (j := 13) rfl rfl rfl ?_
  refine w_cvU (j := 14) rfl rfl rfl rfl (by first | assumption | rfl) rfl rfl (sp_41f r) (Nat.ble_eq.mpr (by omega)) ?_
  exact c44_14f hD ⟨r, cs1, L⟩ Bd
theorem c44_8f {D E w K PL : Nat} {cs : List (Nat × Nat)} (hD : 4 ≤ D) (F : lCF h tx n (o + 1) K PL) (Bd : lB 188 E tx n o p K PL) : px_R px_E D mo_44 [] 8 [.ref 46, .ref 2, .int (nI w)] [] h 0 (fun r => ∃ h', r = (.inl none, h', 0) ∧ lR 188 E tx n o p cs h h') := by
  obtain ⟨r, cs1, L⟩ := F
  refine w_al (j := 9) rfl rfl rfl ?_
  refine w_bi (j := 10) (a := nI 44) rfl rfl (by decide) ?_
  refine w_cvPU (j := 11) rfl rfl rfl rfl (by first | assumption | rfl) rfl rfl (sp_63f (c := 44) (by decide) r) (Nat.ble_eq.mpr (by omega)) ?_
  rintro h1 ⟨u1, u2⟩
  exact px_mono (c44_11f hD ⟨u2, cs1, L.f2 u1⟩ Bd) (fun r q => lR.frR u1.lc q)
theorem c44_5f {D E w K PL : Nat} {cs : List (Nat × Nat)} (hD : 4 ≤ D) (F : lCF h tx n (o + 1) K PL) (Bd : lB 188 E tx n o p K PL) : px_R px_E D mo_44 [] 5 [.ref 46, .ref 2, .int (nI w)] [] h 0 (fun r => ∃ h', r = (.inl none, h', 0) ∧ lR 188 E tx n o p cs h h') := by
  obtain ⟨r, cs1, L⟩ := F
  refine w_al (j := 6) rfl rfl rfl ?_
  refine w_al (j := 7) rfl rfl rfl ?_
  refine w_cvU (j := 8) rfl rfl rfl rfl (by first | assumption | rfl) rfl rfl (sp_41f r) (Nat.ble_eq.mpr (by omega)) ?_
  exact c44_8f hD ⟨r, cs1, L⟩ Bd
theorem c44_2f {D E w K PL : Nat} {cs : List (Nat × Nat)} (hD : 4 ≤ D) (F : lCF h tx n (o + 1) K PL) (Bd : lB 188 E tx n o p K PL) : px_R px_E D mo_44 [] 2 [.ref 46, .ref 2, .int (nI w)] [] h 0 (fun r => ∃ h', r = (.inl none, h', 0) ∧ lR 188 E tx n o p cs h h') := by
  obtain ⟨r, cs1, L⟩ := F
  refine w_al (j := 3) rfl rfl rfl ?_
  refine w_bi (j := 4) (a := nI 91) rfl rfl (by decide) ?_
  refine w_cvPU (j := 5) rfl rfl rfl rfl (by first | assumption | rfl) rfl rfl (sp_63f (c := 91) (by decide) r) (Nat.ble_eq.mpr (by omega)) ?_
  rintro h1 ⟨u1, u2⟩
  exact px_mono (c44_5f hD ⟨u2, cs1, L.f2 u1⟩ Bd) (fun r q => lR.frR u1.lc q)
def lCQ (Dc E : Nat) (tx : Nat → Nat) (n o : Nat) : Prop := ∀ h p cs, lCS h tx n p o cs → px_PU Dc 41 [.ref 46, .ref 2] h (lR 184 E tx n o p cs h)
theorem pf_wf_two {ds ds2 : List (Nat × Nat)} {w : Nat} (w1 : ∀ d, pf_wf ds d (d + 1)) (w2 : ∀ d, pf_wf ds2 d (d + 1)) (hw : 2 ≤ w) (hw2 : w ≤ 8) : ∀ d, pf_wf (ds ++ ds2 ++ [(w, 0)]) d (d + 1) := fun d => by
  refine pf_wf_app _ _ d (d + 2) _ (pf_wf_app _ _ d (d + 1) _ (w1 d) (w2 (d + 1))) ?_
  exact Or.inr ⟨hw, hw2, by show 0 < 1000; decide, by omega, by show d + 2 - 1 = d + 1; omega⟩
theorem sp_44 {Dc E w e s : Nat} {cs : List (Nat × Nat)} (hp : p ≤ n) (hn : n ≤ 150) (hl : cs.length ≤ p) (hD : 4 ≤ Dc) (hE : 6 ≤ E) (es : gx_sk tx n p = s) (ez : gx_lt tx n s = e) (hw : (w = 7 ∧ gx_is tx s e gw_least) ∨ (w = 8 ∧ gx_is tx s e gw_most)) (IH : o = 6 ∨ (o < 6 ∧ lCQ Dc E tx n (o + 1))) (L : px_lx h 46 cs) (r : px_rd h tx n e s o 0 (-1)) : px_PU (Dc + 1) 44 [.ref 46, .ref 2, .int (nI w)] h (lR 188 (E + 1) tx n o p cs h) := by
  have ho : o < 1000 := by rcases IH with q | q <;> omega
  refine px_M (M := mt_44) (ops := mo_44) tb_44 rfl rfl rfl rfl rfl ?_
  refine w_al (j := 1) rfl rfl rfl ?_
  refine w_cvPU (j := 2) rfl rfl rfl rfl (by first | assumption | rfl) rfl rfl (sp_67 ho r) (Nat.ble_eq.mpr (by omega)) ?_
  rintro h1 ⟨u1, u2⟩
  have L1 := L.f2 u1
  refine px_mono (Q := fun r => ∃ h', r = (.inl none, h', 0) ∧ lR 188 (E + 1) tx n o p cs h1 h') ?_ (fun r q => lR.frR u1.lc q)
  have hw' : (w = 7 ∧ gx_is tx (gx_sk tx n p) (gx_lt tx n (gx_sk tx n p)) gw_least) ∨ (w = 8 ∧ gx_is tx (gx_sk tx n p) (gx_lt tx n (gx_sk tx n p)) gw_most) := by rw [es, ez]; exact hw
  have ez' : gx_lt tx n (gx_sk tx n p) = e := by rw [es]; exact ez
  rcases IH with rfl | ⟨o6, IH⟩
  · rw [if_pos (by decide), if_pos (by decide)] at u2
    refine c44_2f (K := 3) (PL := s) hD ⟨⟨by decide, _, _, by simpa [gx_fk, gx_fp] using u2⟩, cs, L1⟩ ?_
    rw [← es]
    exact lU_t3 hE hw'
  rw [if_neg (by omega), if_neg (by omega)] at u2
  have sl := gx_sk_le (tx := tx) hp
  have ll := gx_lt_le (tx := tx) sl.2
  rw [ez', es] at ll
  have sle := gx_sk_le (tx := tx) ll.2
  refine w_al (j := 3) rfl rfl rfl ?_
  refine w_bi (j := 4) (a := nI 91) rfl rfl (by decide) ?_
  refine w_cvPU (j := 5) rfl rfl rfl rfl (by first | assumption | rfl) rfl rfl (sp_63 (c := 91) (by decide) u2) (Nat.ble_eq.mpr (by omega)) ?_
  rintro h2 ⟨v1, v2⟩
  have L2 := L1.f2 v1
  refine px_mono (Q := fun r => ∃ h', r = (.inl none, h', 0) ∧ lR 188 (E + 1) tx n o p cs h2 h') ?_ (fun r q => lR.frR v1.lc q)
  by_cases hz : gx_sk tx n e < n ∧ tx (gx_sk tx n e) = 91
  rotate_left
  · rw [if_neg hz] at v2
    refine c44_5f (K := 1) (PL := gx_sk tx n e) hD ⟨⟨by decide, _, _, by simpa [gx_fk, gx_fp] using v2⟩, cs, L2⟩ ?_
    have := lU_t1 (w := w) (o := o) hE o6 hw' (by rw [ez']; exact hz)
    rw [ez'] at this
    exact this
  rw [if_pos hz] at v2
  refine w_al (j := 6) rfl rfl rfl ?_
  refine w_al (j := 7) rfl rfl rfl ?_
  refine w_cvPU (j := 8) rfl rfl rfl rfl (by first | assumption | rfl) rfl rfl (IH h2 (gx_sk tx n e + 1) cs ⟨hn, by omega, L2, _, v2⟩) (Nat.ble_eq.mpr (by omega)) ?_
  rintro h3 ⟨F3, q⟩
  refine px_mono (Q := fun r => ∃ h', r = (.inl none, h', 0) ∧ lR 188 (E + 1) tx n o p cs h3 h') ?_ (fun r q => lR.frR F3 q)
  rcases q with ⟨K, PL, Bd, F⟩ | ⟨p1, ds, p1l, G, wf1, n1, l1, L3, pc3, r3⟩
  · exact c44_8f hD F (lU_t2 hE o6 hw' ez' hz F.1.1 Bd)
  have g1 := G.1
  have sl1 := gx_sk_le (tx := tx) g1.2
  refine w_al (j := 9) rfl rfl rfl ?_
  refine w_bi (j := 10) (a := nI 44) rfl rfl (by decide) ?_
  refine w_cvPU (j := 11) rfl rfl rfl rfl (by first | assumption | rfl) rfl rfl (sp_63 (c := 44) (by decide) r3) (Nat.ble_eq.mpr (by omega)) ?_
  rintro h4 ⟨x1, x2⟩
  have L4 := L3.f2 x1
  refine px_mono (Q := fun r => ∃ h', r = (.inl none, h', 0) ∧ lR 188 (E + 1) tx n o p cs h4 h') ?_ (fun r q => lR.frR x1.lc q)
  by_cases hz1 : gx_sk tx n p1 < n ∧ tx (gx_sk tx n p1) = 44
  rotate_left
  · rw [if_neg hz1] at x2
    exact c44_11f (K := 1) (PL := gx_sk tx n p1) hD ⟨⟨by decide, _, _, by simpa [gx_fk, gx_fp] using x2⟩, _, L4⟩ (lU_t4 hE o6 hw' ez' hz G hz1)
  rw [if_pos hz1] at x2
  refine w_al (j := 12) rfl rfl rfl ?_
  refine w_al (j := 13) rfl rfl rfl ?_
  refine w_cvPU (j := 14) rfl rfl rfl rfl (by first | assumption | rfl) rfl rfl (IH h4 (gx_sk tx n p1 + 1) (cs ++ ds) ⟨hn, by omega, L4, _, x2⟩) (Nat.ble_eq.mpr (by omega)) ?_
  rintro h5 ⟨F5, q⟩
  refine px_mono (Q := fun r => ∃ h', r = (.inl none, h', 0) ∧ lR 188 (E + 1) tx n o p cs h5 h') ?_ (fun r q => lR.frR F5 q)
  rcases q with ⟨K, PL, Bd, F⟩ | ⟨p2, ds2, p2l, G2, wf2, n2, l2, L5, pc5, r5⟩
  · exact c44_14f hD F (lU_t5 hE o6 hw' ez' hz G hz1 F.1.1 Bd)
  have g2 := G2.1
  have sl2 := gx_sk_le (tx := tx) g2.2
  refine w_al (j := 15) rfl rfl rfl ?_
  refine w_bi (j := 16) (a := nI 93) rfl rfl (by decide) ?_
  refine w_cvPU (j := 17) rfl rfl rfl rfl (by first | assumption | rfl) rfl rfl (sp_63 (c := 93) (by decide) r5) (Nat.ble_eq.mpr (by omega)) ?_
  rintro h6 ⟨y1, y2⟩
  have L6 := L5.f2 y1
  refine px_mono (Q := fun r => ∃ h', r = (.inl none, h', 0) ∧ lR 188 (E + 1) tx n o p cs h6 h') ?_ (fun r q => lR.frR y1.lc q)
  by_cases hz2 : gx_sk tx n p2 < n ∧ tx (gx_sk tx n p2) = 93
  rotate_left
  · rw [if_neg hz2] at y2
    exact c44_17f (K := 1) (PL := gx_sk tx n p2) hD ⟨⟨by decide, _, _, by simpa [gx_fk, gx_fp] using y2⟩, _, L6⟩ (lU_t6 hE o6 hw' ez' hz G hz1 G2 hz2)
  rw [if_pos hz2] at y2
  have lc : (cs ++ ds ++ ds2).length = cs.length + ds.length + ds2.length := by rw [List.length_append, List.length_append]
  have lc2 : (cs ++ (ds ++ ds2 ++ [(w, 0)])).length = cs.length + (ds.length + ds2.length + 1) := by rw [List.length_append, List.length_append, List.length_append, List.length_singleton]
  refine w_al (j := 18) rfl rfl rfl ?_
  refine w_cvPU (j := 19) rfl rfl rfl rfl (by first | assumption | rfl) rfl rfl (sp_68 (by omega) y2) (Nat.ble_eq.mpr (by omega)) ?_
  rintro h7 ⟨z1, z2⟩
  rw [Nat.add_sub_cancel] at z2
  refine w_al (j := 20) rfl rfl rfl ?_
  refine w_il (j := 21) rfl rfl rfl ?_
  refine w_ic (n := 0) (j := 22) rfl rfl ?_
  refine w_cvPU (j := 23) rfl rfl rfl rfl (by first | assumption | rfl) rfl rfl (sp_39 (a := w) (b := 0) px_Lr46 (L6.f2 z1)) (Nat.ble_eq.mpr (by omega)) ?_
  rintro h8 ⟨a1, a2⟩
  rw [gx_em_lt (by omega)] at a2
  refine w_rt rfl ?_
  refine ⟨_, rfl, z1.lc.tr a1.lx, Or.inr ⟨gx_sk tx n p2 + 1, ds ++ ds2 ++ [(w, 0)], by omega, lU_tg hp hE o6 hw' ez' hz G hz1 G2 hz2, pf_wf_two wf1 wf2 (by omega) (by omega), hn, by omega, ?_, _, z2.fr a1 (by decide) (by decide) (by decide)⟩⟩
  rw [← List.append_assoc, ← List.append_assoc]
  exact a2
end LC
