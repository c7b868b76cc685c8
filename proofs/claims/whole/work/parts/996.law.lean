theorem px_sh159 : ∀ k, k < 160 → ix_sh (158 + 1 + k) = (1, 2, 0) := by decide
theorem px_sh319 : ∀ k, k < 160 → ix_sh (319 + 1 + k) = (1, 2, 0) := by decide
section LC
variable {h : ix_H} {tx : Nat → Nat} {n p pc o k : Nat} {pl : Int32}
theorem lCQ_all : ∀ k o, o + k = 6 → lCQ (9 + 4 * k) (9 + 3 * k) tx n o
  | 0, o, ho => fun h p cs S => sp_41 (D := 8) (E := 8) (by decide) (by decide) (fun h p cs S => sp_42 (D := 7) (E := 7) (by decide) (by decide) (fun h p cs S => sp_43 (Dc := 5) (E := 6) (by decide) (by decide) (Or.inl (by omega)) S) S) S
  | k + 1, o, ho => fun h p cs S => sp_41 (D := 9 + 4 * k + 3) (E := 9 + 3 * k + 2) (by omega) (by omega) (fun h p cs S => sp_42 (D := 9 + 4 * k + 2) (E := 9 + 3 * k + 1) (by omega) (by omega) (fun h p cs S => sp_43 (Dc := 9 + 4 * k) (E := 9 + 3 * k) (by omega) (by omega) (Or.inr ⟨by omega, lCQ_all k (o + 1) (by omega)⟩) S) S) S
-- the class reads a law
def lRd (tx : Nat → Nat) (n : Nat) (h h' : ix_H) : Prop := lcF h h' ∧ ((∃ K PL, (lB 184 27 tx n 0 0 K PL ∨ ∃ p1 ds, lG 184 27 tx n 0 0 p1 ds ∧ gx_sk tx n p1 < n ∧ K = 1 ∧ PL = gx_sk tx n p1) ∧ px_rf h' tx n 0 K (nI PL)) ∨ ∃ p1 ds, lG 184 27 tx n 0 0 p1 ds ∧ ¬ gx_sk tx n p1 < n ∧ (∀ d, pf_wf ds d (d + 1)) ∧ px_lx h' 46 ds ∧ ∃ p pc, px_rd h' tx n p pc 0 0 (-1))
theorem sp_40 (hn : n ≤ 150) (r : px_rd h tx n 0 pc 0 0 (-1)) : px_PU 34 40 [.ref 46, .ref 2] h (lRd tx n h) := by
  have S : lCS (ix_up h 46 4 (nI 0)) tx n 0 0 [] := ⟨hn, Nat.le_refl _, ⟨px_up_at, by decide, fun k c hk => by cases hk⟩, _, r.fr (S := [46]) (px_fr.rf.up (by decide)) (by decide) (by decide) (by decide)⟩
  have T : px_PU 33 41 [.ref 46, .ref 2] (ix_up h 46 4 (nI 0)) (lR 184 27 tx n 0 0 [] (ix_up h 46 4 (nI 0))) := lCQ_all 6 0 rfl _ _ _ S
  have F0 : lcF h (ix_up h 46 4 (nI 0)) := fun a _ ha => ix_up_ne (by omega)
  refine px_M (M := mt_40) (ops := mo_40) tb_40 rfl rfl rfl rfl rfl ?_
  refine w_al (j := 1) rfl rfl rfl ?_
  refine w_ic (n := 0) (j := 2) rfl rfl ?_
  refine w_pf (j := 3) rfl rfl (by first | assumption | rfl) (by first | assumption | rfl) rfl ?_
  refine w_al (j := 4) rfl rfl rfl ?_
  refine w_al (j := 5) rfl rfl rfl ?_
  refine w_cvPU (j := 6) rfl rfl rfl rfl (by first | assumption | rfl) rfl rfl (T) rfl ?_
  rintro h1 ⟨F1, q⟩
  refine w_al (j := 7) rfl rfl rfl ?_
  rcases q with ⟨K, PL, Bd, rf, -⟩ | ⟨p1, ds, p1l, G, wf1, n1, l1, L1, pc1, r1⟩
  ·
    refine w_cvPI (j := 8) rfl rfl rfl rfl (by first | assumption | rfl) rfl rfl (sp_61f rf) rfl ?_
    rintro v h2 ⟨rfl, rfl⟩
    refine w_eqB (j := 9) rfl rfl (fun _ => ?_) (fun c => absurd c (by simp))
    refine w_rt rfl ?_
    exact ⟨_, rfl, F0.tr F1, Or.inl ⟨K, PL, Or.inl Bd, rf⟩⟩
  ·
    refine w_cvPI (j := 8) rfl rfl rfl rfl (by first | assumption | rfl) rfl rfl (sp_61 r1) rfl ?_
    rintro v h2 ⟨q1, q2, q3⟩
    rw [if_pos rfl] at q3
    subst q1
    by_cases hs : gx_sk tx n p1 < n
    · rw [decide_eq_true ⟨rfl, hs⟩]
      refine w_eqB (j := 9) rfl rfl (fun c => absurd c (by simp)) (fun _ => ?_)
      refine w_al (j := 10) rfl rfl rfl ?_
      refine w_ic (n := 1) (j := 11) rfl rfl ?_
      refine w_cvPU (j := 12) rfl rfl rfl rfl (by first | assumption | rfl) rfl rfl (sp_59 (kd := 1) (by decide) q3) rfl ?_
      rintro h3 ⟨u1, u2⟩
      refine w_rt rfl ?_
      exact ⟨_, rfl, ((F0.tr F1).tr q2.lc).tr u1.lc, Or.inl ⟨1, _, Or.inr ⟨p1, ds, G, hs, rfl, rfl⟩, by decide, _, _, by simpa [gx_fk, gx_fp] using u2⟩⟩
    · rw [decide_eq_false (fun z => hs z.2)]
      refine w_eqB (j := 9) rfl rfl (fun _ => ?_) (fun c => absurd c (by simp))
      refine w_rt rfl ?_
      exact ⟨_, rfl, (F0.tr F1).tr q2.lc, Or.inr ⟨p1, ds, G, hs, wf1, L1.f2 q2, _, _, q3⟩⟩
theorem sp_38 : px_PU 1 38 [.ref 41, .ref 46] h (fun h1 => px_fr [41, 43, 44] h h1 ∧ h1 41 4 = h 46 4 ∧ ∀ q, q < 150 → h1 43 q = h 48 q ∧ h1 44 q = h 49 q) := by
  refine px_M (M := mt_38) (ops := mo_38) tb_38 rfl rfl rfl rfl rfl ?_
  refine w_al (j := 1) rfl rfl rfl ?_
  refine w_al (j := 2) rfl rfl rfl ?_
  first | refine w_gr (j := 3) rfl rfl (by first | assumption | rfl) (by first | assumption | rfl) rfl ?_ | refine w_gi (j := 3) rfl rfl (by first | assumption | rfl) (by first | assumption | rfl) rfl rfl ?_
  refine w_pf (j := 4) rfl rfl (by first | assumption | rfl) (by first | assumption | rfl) rfl ?_
  refine w_al (j := 5) rfl rfl rfl ?_
  first | refine w_gr (j := 6) rfl rfl (by first | assumption | rfl) (by first | assumption | rfl) rfl ?_ | refine w_gi (j := 6) rfl rfl (by first | assumption | rfl) (by first | assumption | rfl) rfl rfl ?_
  refine w_ic (n := 0) (j := 7) rfl rfl ?_
  refine w_al (j := 8) rfl rfl rfl ?_
  first | refine w_gr (j := 9) rfl rfl (by first | assumption | rfl) (by first | assumption | rfl) rfl ?_ | refine w_gi (j := 9) rfl rfl (by first | assumption | rfl) (by first | assumption | rfl) rfl rfl ?_
  refine w_ic (n := 0) (j := 10) rfl rfl ?_
  refine w_si (j := 11) (a := nI 150) rfl rfl (by decide) ?_
  refine w_ac (j := 12) rfl rfl (by first | assumption | rfl) (by first | assumption | rfl) rfl rfl rfl rfl rfl (by omega) (by omega) rfl ?_
  refine w_al (j := 13) rfl rfl rfl ?_
  first | refine w_gr (j := 14) rfl rfl (by first | assumption | rfl) (by first | assumption | rfl) rfl ?_ | refine w_gi (j := 14) rfl rfl (by first | assumption | rfl) (by first | assumption | rfl) rfl rfl ?_
  refine w_ic (n := 0) (j := 15) rfl rfl ?_
  refine w_al (j := 16) rfl rfl rfl ?_
  first | refine w_gr (j := 17) rfl rfl (by first | assumption | rfl) (by first | assumption | rfl) rfl ?_ | refine w_gi (j := 17) rfl rfl (by first | assumption | rfl) (by first | assumption | rfl) rfl rfl ?_
  refine w_ic (n := 0) (j := 18) rfl rfl ?_
  refine w_si (j := 19) (a := nI 150) rfl rfl (by decide) ?_
  refine w_ac (j := 20) rfl rfl (by first | assumption | rfl) (by first | assumption | rfl) rfl rfl rfl rfl rfl (by omega) (by omega) rfl ?_
  refine w_rt rfl ?_
  refine ⟨_, rfl, ?_, ?_, fun q hq => ⟨?_, ?_⟩⟩
  · repeat first | exact px_fr.rf | refine px_fr.up ?_ (by decide) | refine px_fr.row ?_ (by decide)
  · rw [px_cpy_na (by decide), px_cpy_na (by decide), px_up_at]
  · rw [px_cpy_na (by decide), px_cpy_in (by omega) (by omega), px_up_na (by decide)]
    congr 1; omega
  · rw [px_cpy_in (by omega) (by omega), px_cpy_na (by decide), px_up_na (by decide)]
    congr 1; omega
theorem MX_law {w : Int32} {t : Nat} (ht : h 100 1 = nI t) (hw : ¬ (0 ≤ w ∧ w ≤ nI 150 ∧ w ≤ nI t)) : px_PI 2 189 [.ref 100, .int w] h (fun v h2 => h2 100 0 = nI 1 ∧ px_kp (ix_up h 102 1 (h 102 1 + nI 1)) h2) := by
  have ht' : ix_up h 100 0 (nI 0) 100 1 = nI t := by rw [px_up_nk (by decide)]; exact ht
  have bad : px_R px_E 1 mo_189 [] 13 [.ref 100, .int w] [.ref 100] (ix_up h 100 0 (nI 0)) 0 (fun r => ∃ v h', r = (.inl (some (.int v)), h', 0) ∧ h' 100 0 = nI 1 ∧ px_kp (ix_up h 102 1 (h 102 1 + nI 1)) h') := by
    refine w_ic (n := 1) (j := 14) rfl rfl ?_
    refine w_go rfl ?_
    refine w_ic (n := 1) (j := 17) rfl rfl ?_
    refine w_ic (n := 1) (j := 18) rfl rfl ?_
    refine w_cvI (j := 19) rfl rfl rfl rfl (by first | assumption | rfl) rfl rfl (sp_154t (p := 1) (w := 1) rfl (by decide) (by decide) (by decide)) rfl ?_
    refine w_eqB (j := 20) rfl rfl (fun c => absurd c (by simp)) (fun _ => ?_)
    refine w_ic (n := 0) (j := 21) rfl rfl ?_
    refine w_ir rfl ?_
    exact ⟨_, _, rfl, rfl, px_kpB (px_kp.rf.up (by decide) (fun _ => by decide)) (by decide)⟩
  refine px_M (M := mt_189) (ops := mo_189) tb_189 rfl rfl rfl rfl rfl ?_
  refine w_al (j := 1) rfl rfl rfl ?_
  refine w_ic (n := 0) (j := 2) rfl rfl ?_
  refine w_pf (j := 3) rfl rfl (by first | assumption | rfl) (by first | assumption | rfl) rfl ?_
  refine w_al (j := 4) rfl rfl rfl ?_
  refine w_il (j := 5) rfl rfl rfl ?_
  refine w_ic (n := 0) (j := 6) rfl rfl ?_
  refine w_al (j := 7) rfl rfl rfl ?_
  first | refine w_gr (j := 8) rfl rfl (by first | assumption | rfl) (by first | assumption | rfl) rfl ?_ | refine w_gi (j := 8) rfl rfl (by first | assumption | rfl) (by first | assumption | rfl) rfl ht' ?_
  refine w_csI (j := 9) rfl rfl rfl rfl rfl (sp_155) rfl ?_
  by_cases cc : nI 0 ≤ w ∧ w ≤ nI t
  · rw [decide_eq_true cc]
    refine w_eqB (j := 10) rfl rfl (fun c => absurd c (by simp)) (fun _ => ?_)
    refine w_il (j := 11) rfl rfl rfl ?_
    refine w_si (j := 12) (a := nI 150) rfl rfl (by decide) ?_
    refine w_le (j := 13) rfl rfl (fun c => absurd c (fun z => hw ⟨cc.1, z, cc.2⟩)) (fun _ => ?_)
    exact bad
  · rw [decide_eq_false cc]
    refine w_eqB (j := 10) rfl rfl (fun _ => ?_) (fun c => absurd c (by simp))
    exact bad
theorem ml_start {t q : Nat} {Q : ix_R → Prop} (ht : h 100 1 = nI t) (X : px_tx h tx q) (q60 : q ≤ 150) (qt : q ≤ t) (t6 : t ≤ 600) (H : ∀ h1, (∀ a, a ≠ 100 → h1 a = h a) → (∀ j, 8 < j → j ≠ 21 → h1 100 j = h 100 j) → h1 100 0 = nI 0 → h1 100 1 = nI 0 → lMS h1 tx q 0 0 [] → px_R px_E 27 mo_189 [] 28 [.ref 100, .int (nI q)] [] h1 0 Q) : px_T px_E 28 189 [.ref 100, .int (nI q)] h Q := by
  have ht' : ix_up h 100 0 (nI 0) 100 1 = nI t := by rw [px_up_nk (by decide)]; exact ht
  have X' : px_tx (ix_up h 100 0 (nI 0)) tx q := X.of (ix_up_ne (by decide)) (ix_up_ne (by decide))
  refine px_M (M := mt_189) (ops := mo_189) tb_189 rfl rfl rfl rfl rfl ?_
  refine w_al (j := 1) rfl rfl rfl ?_
  refine w_ic (n := 0) (j := 2) rfl rfl ?_
  refine w_pf (j := 3) rfl rfl (by first | assumption | rfl) (by first | assumption | rfl) rfl ?_
  refine w_al (j := 4) rfl rfl rfl ?_
  refine w_il (j := 5) rfl rfl rfl ?_
  refine w_ic (n := 0) (j := 6) rfl rfl ?_
  refine w_al (j := 7) rfl rfl rfl ?_
  first | refine w_gr (j := 8) rfl rfl (by first | assumption | rfl) (by first | assumption | rfl) rfl ?_ | refine w_gi (j := 8) rfl rfl (by first | assumption | rfl) (by first | assumption | rfl) rfl ht' ?_
  refine w_csI (j := 9) rfl rfl rfl rfl rfl (sp_155) rfl ?_
  rw [decide_eq_true ⟨nI_le (Nat.zero_le _) (by omega), nI_le qt (by omega)⟩]
  refine w_eqB (j := 10) rfl rfl (fun c => absurd c (by simp)) (fun _ => ?_)
  refine w_il (j := 11) rfl rfl rfl ?_
  refine w_si (j := 12) (a := nI 150) rfl rfl (by decide) ?_
  refine w_leN (j := 13) rfl rfl (by omega) (by omega) (fun _ => ?_) (fun c => absurd c (fun c => by omega))
  refine w_ic (n := 0) (j := 16) rfl rfl ?_
  refine w_ic (n := 1) (j := 17) rfl rfl ?_
  refine w_ic (n := 1) (j := 18) rfl rfl ?_
  refine w_cvI (j := 19) rfl rfl rfl rfl (by first | assumption | rfl) rfl rfl (sp_154f (h := ix_up h 100 0 (nI 0)) rfl) rfl ?_
  refine w_eqB (j := 20) rfl rfl (fun _ => ?_) (fun c => absurd c (by simp))
  refine w_al (j := 23) rfl rfl rfl ?_
  refine w_il (j := 24) rfl rfl rfl ?_
  refine w_cvPU (j := 25) rfl rfl rfl rfl (by first | assumption | rfl) rfl rfl (sp_173 X') rfl ?_
  rintro h1 ⟨f2, z1, z7, r⟩
  refine w_al (j := 26) rfl rfl rfl ?_
  refine w_ic (n := 0) (j := 27) rfl rfl ?_
  refine w_pf (j := 28) rfl rfl (by first | assumption | rfl) (by first | assumption | rfl) rfl ?_
  have sl := gx_sk_le (tx := tx) (Nat.zero_le q)
  refine H _ (fun a ha => by rw [ix_up_ne ha, f2.1 a ha, ix_up_ne ha]) (fun j j8 j21 => by rw [px_up_nk j21, f2.2 j (Or.inl j8), px_up_nk (by omega)]) (by rw [px_up_nk (by decide), f2.2 0 (by omega), px_up_at]) (by rw [px_up_nk (by decide)]; exact z1) ⟨q60, Nat.le_refl _, Nat.zero_le _, ⟨px_up_at, fun k c hk => by cases hk⟩, gx_sk tx q 0, sl.2, gx_sk_sk (Nat.zero_le _), r.of (ix_up_ne (by decide)) (ix_up_ne (by decide)) (fun j hj => px_up_nk (by omega))⟩
-- the model's law, with a fault
theorem ml_end {K PL : Nat} (hK : K ≠ 0) (F : lMF h tx n 0 K PL) : px_R px_E 27 mo_189 [] 45 [.ref 100, .int (nI n)] [] h 0 (fun r => ∃ h', r = (.inl (some (.int (nI K - nI 10))), h', 0) ∧ h' = ix_up h 100 3 (nI PL)) := by
  obtain ⟨p, r⟩ := F
  have s5 := r.2.2.2.2.1
  have s3 := r.2.2.2.2.2.1
  have s6 := r.2.2.2.2.2.2.1
  refine w_al (j := 46) rfl rfl rfl ?_
  first | refine w_gr (j := 47) rfl rfl (by first | assumption | rfl) (by first | assumption | rfl) rfl ?_ | refine w_gi (j := 47) rfl rfl (by first | assumption | rfl) (by first | assumption | rfl) rfl s5 ?_
  refine w_eqM (j := 48) rfl rfl (by omega) (fun c => absurd c (fun c => by omega)) (fun _ => ?_)
  refine w_al (j := 49) rfl rfl rfl ?_
  refine w_cvI (j := 50) rfl rfl rfl rfl (by first | assumption | rfl) rfl rfl (sp_174) rfl ?_
  rw [s5, s6]
  refine w_ir rfl ?_
  exact ⟨_, rfl, rfl⟩
theorem ml_bad {t q K PL : Nat} (ht : h 100 1 = nI t) (X : px_tx h tx q) (q60 : q ≤ 150) (qt : q ≤ t) (t6 : t ≤ 600) (hK : K ≠ 0) (Bd : lB 184 27 tx q 0 0 K PL ∨ ∃ p1 ds, lG 184 27 tx q 0 0 p1 ds ∧ gx_sk tx q p1 < q ∧ K = 1 ∧ PL = gx_sk tx q p1) : px_PI 28 189 [.ref 100, .int (nI q)] h (fun v h' => v = nI K - nI 10 ∧ h' 100 0 = nI 0 ∧ h' 100 1 = nI 0 ∧ h' 100 3 = nI PL ∧ (∀ a, a ≠ 100 → ¬ (320 ≤ a ∧ a ≤ 479) → h' a = h a) ∧ ∀ j, 8 < j → j ≠ 21 → h' 100 j = h 100 j) := by
  refine ml_start ht X q60 qt t6 (fun h1 e1 e2 z0 z1 S => ?_)
  have fin : ∀ h2, lF h1 h2 → lMF h2 tx q 0 K PL → px_R px_E 27 mo_189 [] 45 [.ref 100, .int (nI q)] [] h2 0 (fun r => ∃ v h', r = (.inl (some (.int v)), h', 0) ∧ v = nI K - nI 10 ∧ h' 100 0 = nI 0 ∧ h' 100 1 = nI 0 ∧ h' 100 3 = nI PL ∧ (∀ a, a ≠ 100 → ¬ (320 ≤ a ∧ a ≤ 479) → h' a = h a) ∧ ∀ j, 8 < j → j ≠ 21 → h' 100 j = h 100 j) := fun h2 F2 q => by
    refine px_mono (ml_end hK q) ?_
    rintro _ ⟨h', rfl, rfl⟩
    refine ⟨_, _, rfl, rfl, ?_, ?_, px_up_at, fun a a1 a2 => ?_, fun j j1 j2 => ?_⟩
    · rw [px_up_nk (by decide), F2.2 0 (by omega)]; exact z0
    · rw [px_up_nk (by decide), F2.2 1 (by omega)]; exact z1
    · rw [ix_up_ne a1, F2.1 a a1 a2]; exact e1 a a1
    · rw [px_up_nk (by omega), F2.2 j (by omega)]; exact e2 j j1 j2
  rcases Bd with Bd | ⟨p1, ds, G, hs, rfl, rfl⟩
  · have B1 := Bd h1 [] S
    refine w_al (j := 29) rfl rfl rfl ?_
    refine w_cvPU (j := 30) rfl rfl rfl rfl (by first | assumption | rfl) rfl rfl (B1) rfl ?_
    rintro h2 ⟨F2, p2, r2⟩
    refine w_al (j := 31) rfl rfl rfl ?_
    refine w_cvPU (j := 32) rfl rfl rfl rfl (by first | assumption | rfl) rfl rfl (sp_161 r2) rfl ?_
    rintro h3 ⟨f3, r3⟩
    have s5 := r3.2.2.2.2.1
    have s3 := r3.2.2.2.2.2.1
    refine w_al (j := 33) rfl rfl rfl ?_
    first | refine w_gr (j := 34) rfl rfl (by first | assumption | rfl) (by first | assumption | rfl) rfl ?_ | refine w_gi (j := 34) rfl rfl (by first | assumption | rfl) (by first | assumption | rfl) rfl s5 ?_
    refine w_neM (j := 35) rfl rfl (by omega) (fun _ => ?_) (fun c => absurd c (fun c => by omega))
    exact fin h3 (F2.tr f3.lF) ⟨_, r3⟩
  · have G1 := G.2 h1 [] S
    refine w_al (j := 29) rfl rfl rfl ?_
    refine w_cvPU (j := 30) rfl rfl rfl rfl (by first | assumption | rfl) rfl rfl (G1) rfl ?_
    rintro h2 ⟨F2, a1, a2, a3, L2, p0, b1, b2, r2⟩
    refine w_al (j := 31) rfl rfl rfl ?_
    refine w_cvPU (j := 32) rfl rfl rfl rfl (by first | assumption | rfl) rfl rfl (sp_161 r2) rfl ?_
    rintro h3 ⟨f3, r3⟩
    rw [b2] at r3
    have s5 := r3.2.2.2.2.1
    have s4 := r3.2.2.1
    have s2 := r3.2.1
    generalize gx_sk tx q p1 = s at *
    refine w_al (j := 33) rfl rfl rfl ?_
    first | refine w_gr (j := 34) rfl rfl (by first | assumption | rfl) (by first | assumption | rfl) rfl ?_ | refine w_gi (j := 34) rfl rfl (by first | assumption | rfl) (by first | assumption | rfl) rfl s5 ?_
    refine w_neM (j := 35) rfl rfl (by omega) (fun c => absurd c (fun c => by omega)) (fun _ => ?_)
    refine w_al (j := 36) rfl rfl rfl ?_
    first | refine w_gr (j := 37) rfl rfl (by first | assumption | rfl) (by first | assumption | rfl) rfl ?_ | refine w_gi (j := 37) rfl rfl (by first | assumption | rfl) (by first | assumption | rfl) rfl s4 ?_
    refine w_al (j := 38) rfl rfl rfl ?_
    first | refine w_gr (j := 39) rfl rfl (by first | assumption | rfl) (by first | assumption | rfl) rfl ?_ | refine w_gi (j := 39) rfl rfl (by first | assumption | rfl) (by first | assumption | rfl) rfl s2 ?_
    refine w_geN (j := 40) rfl rfl (by omega) (by omega) (fun c => absurd c (fun c => by omega)) (fun _ => ?_)
    refine w_al (j := 41) rfl rfl rfl ?_
    refine w_ic (n := 1) (j := 42) rfl rfl ?_
    refine w_al (j := 43) rfl rfl rfl ?_
    first | refine w_gr (j := 44) rfl rfl (by first | assumption | rfl) (by first | assumption | rfl) rfl ?_ | refine w_gi (j := 44) rfl rfl (by first | assumption | rfl) (by first | assumption | rfl) rfl s4 ?_
    refine w_cvPU (j := 45) rfl rfl rfl rfl (by first | assumption | rfl) rfl rfl (sp_162 (kd := 1) (by decide) r3) rfl ?_
    rintro h4 ⟨f4, r4⟩
    rw [if_pos rfl, if_pos rfl] at r4
    exact fin h4 ((F2.tr f3.lF).tr f4.lF) ⟨_, r4⟩
theorem ml_good {t q p1 : Nat} {ds : List (Nat × Nat)} (ht : h 100 1 = nI t) (X : px_tx h tx q) (q60 : q ≤ 150) (qt : q ≤ t) (t6 : t ≤ 600) (G : lG 184 27 tx q 0 0 p1 ds) (hs : ¬ gx_sk tx q p1 < q) : px_PI 28 189 [.ref 100, .int (nI q)] h (fun v h' => v = nI 1 ∧ h' 100 0 = nI 0 ∧ h' 100 1 = nI 0 ∧ h' 100 3 = -1 ∧ (∀ a, a ≠ 100 → ¬ (159 ≤ a ∧ a ≤ 318) → ¬ (320 ≤ a ∧ a ≤ 479) → h' a = h a) ∧ (∀ j, 8 < j → j ≠ 20 → j ≠ 21 → h' 100 j = h 100 j) ∧ h' 100 20 = nI ds.length ∧ ∀ (k : Nat) (c : Nat × Nat), ds[k]? = some c → h' (159 + k) 0 = nI c.1 ∧ h' (159 + k) 1 = nI c.2) := by
  refine ml_start ht X q60 qt t6 (fun h1 e1 e2 z0 z1 S => ?_)
  have G1 := G.2 h1 [] S
  have g1 := G.1
  refine w_al (j := 29) rfl rfl rfl ?_
  refine w_cvPU (j := 30) rfl rfl rfl rfl (by first | assumption | rfl) rfl rfl (G1) rfl ?_
  rintro h2 ⟨F2, a1, a2, a3, L2, p0, b1, b2, r2⟩
  rw [List.nil_append] at L2
  refine w_al (j := 31) rfl rfl rfl ?_
  refine w_cvPU (j := 32) rfl rfl rfl rfl (by first | assumption | rfl) rfl rfl (sp_161 r2) rfl ?_
  rintro h3 ⟨f3, r3⟩
  rw [b2] at r3
  have L3 := L2.f1 f3
  have s5 := r3.2.2.2.2.1
  have s4 := r3.2.2.1
  have s2 := r3.2.1
  have s3 := r3.2.2.2.1
  generalize gx_sk tx q p1 = s at *
  refine w_al (j := 33) rfl rfl rfl ?_
  first | refine w_gr (j := 34) rfl rfl (by first | assumption | rfl) (by first | assumption | rfl) rfl ?_ | refine w_gi (j := 34) rfl rfl (by first | assumption | rfl) (by first | assumption | rfl) rfl s5 ?_
  refine w_neM (j := 35) rfl rfl (by omega) (fun c => absurd c (fun c => by omega)) (fun _ => ?_)
  refine w_al (j := 36) rfl rfl rfl ?_
  first | refine w_gr (j := 37) rfl rfl (by first | assumption | rfl) (by first | assumption | rfl) rfl ?_ | refine w_gi (j := 37) rfl rfl (by first | assumption | rfl) (by first | assumption | rfl) rfl s4 ?_
  refine w_al (j := 38) rfl rfl rfl ?_
  first | refine w_gr (j := 39) rfl rfl (by first | assumption | rfl) (by first | assumption | rfl) rfl ?_ | refine w_gi (j := 39) rfl rfl (by first | assumption | rfl) (by first | assumption | rfl) rfl s2 ?_
  refine w_geN (j := 40) rfl rfl (by omega) (by omega) (fun _ => ?_) (fun c => absurd c (fun c => by omega))
  refine w_al (j := 46) rfl rfl rfl ?_
  first | refine w_gr (j := 47) rfl rfl (by first | assumption | rfl) (by first | assumption | rfl) rfl ?_ | refine w_gi (j := 47) rfl rfl (by first | assumption | rfl) (by first | assumption | rfl) rfl s5 ?_
  refine w_eqM (j := 48) rfl rfl (by omega) (fun _ => ?_) (fun c => absurd c (fun c => by omega))
  have l1 : ix_up h3 100 3 (-1) 100 21 = nI ds.length := by rw [px_up_nk (by decide)]; exact L3.1
  have l2 : ix_up (ix_up h3 100 3 (-1)) 100 20 (nI ds.length) 100 20 = nI ds.length := px_up_at
  refine w_al (j := 52) rfl rfl rfl ?_
  refine w_im (j := 53) rfl rfl ?_
  refine w_pf (j := 54) rfl rfl (by first | assumption | rfl) (by first | assumption | rfl) rfl ?_
  refine w_al (j := 55) rfl rfl rfl ?_
  refine w_al (j := 56) rfl rfl rfl ?_
  first | refine w_gr (j := 57) rfl rfl (by first | assumption | rfl) (by first | assumption | rfl) rfl ?_ | refine w_gi (j := 57) rfl rfl (by first | assumption | rfl) (by first | assumption | rfl) rfl l1 ?_
  refine w_pf (j := 58) rfl rfl (by first | assumption | rfl) (by first | assumption | rfl) rfl ?_
  refine w_al (j := 59) rfl rfl rfl ?_
  first | refine w_gr (j := 60) rfl rfl (by first | assumption | rfl) (by first | assumption | rfl) rfl ?_ | refine w_gi (j := 60) rfl rfl (by first | assumption | rfl) (by first | assumption | rfl) rfl rfl ?_
  refine w_al (j := 61) rfl rfl rfl ?_
  first | refine w_gr (j := 62) rfl rfl (by first | assumption | rfl) (by first | assumption | rfl) rfl ?_ | refine w_gi (j := 62) rfl rfl (by first | assumption | rfl) (by first | assumption | rfl) rfl rfl ?_
  refine w_al (j := 63) rfl rfl rfl ?_
  first | refine w_gr (j := 64) rfl rfl (by first | assumption | rfl) (by first | assumption | rfl) rfl ?_ | refine w_gi (j := 64) rfl rfl (by first | assumption | rfl) (by first | assumption | rfl) rfl l2 ?_
  refine w_csPU (j := 65) rfl rfl rfl rfl rfl (sp_178 (m := ds.length) (N := 160) (l := 2) rfl rfl px_sh319 px_sh159 rfl rfl (by omega) (Or.inr (by decide))) rfl ?_
  rintro h4 ⟨u1, u2⟩
  refine w_ic (n := 1) (j := 66) rfl rfl ?_
  refine w_ir rfl ?_
  have E : ∀ a, a ≠ 100 → ¬ (159 ≤ a ∧ a ≤ 318) → ¬ (320 ≤ a ∧ a ≤ 479) → h4 a = h a := fun a x1 x2 x3 => by rw [u1 a (by omega), ix_up_ne x1, ix_up_ne x1, f3.1 a x1, F2.1 a x1 x3]; exact e1 a x1
  have E1 : ∀ j, j ≠ 3 → j ≠ 20 → h4 100 j = h3 100 j := fun j x1 x2 => by rw [u1 100 (by omega), px_up_nk x2, px_up_nk x1]
  refine ⟨_, _, rfl, rfl, ?_, ?_, ?_, E, fun j j1 j2 j3 => ?_, ?_, fun k c hk => ?_⟩
  · rw [E1 0 (by decide) (by decide), f3.lF.2 0 (by omega), F2.2 0 (by omega)]; exact z0
  · rw [E1 1 (by decide) (by decide), f3.lF.2 1 (by omega), F2.2 1 (by omega)]; exact z1
  · rw [u1 100 (by omega), px_up_nk (by decide), px_up_at]
  · rw [E1 j (by omega) j2, f3.lF.2 j (by omega), F2.2 j (by omega)]; exact e2 j j1 j3
  · rw [u1 100 (by omega), px_up_at]
  · have kl := (List.getElem?_eq_some_iff.mp hk).1
    have w0 := u2 k kl 0 (by decide)
    have w1 := u2 k kl 1 (by decide)
    rw [ix_up_ne (by omega), ix_up_ne (by omega)] at w0 w1
    exact ⟨w0.trans (L3.2 k c hk).1, w1.trans (L3.2 k c hk).2⟩
end LC
