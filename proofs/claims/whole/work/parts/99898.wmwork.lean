section WC
variable {z : we} {h : ix_H} {tx : Nat → Nat} {n p pc o k : Nat} {pl : Int32}
theorem MX_work {w : Int32} {t : Nat} (ht : h 100 1 = nI t) (hw : ¬ (0 ≤ w ∧ w ≤ nI 150 ∧ w ≤ nI t)) : px_PI 2 207 [.ref 100, .int w] h (fun v h2 => h2 100 0 = nI 1 ∧ px_kp (ix_up h 102 1 (h 102 1 + nI 1)) h2) := by
  have ht' : ix_up h 100 0 (nI 0) 100 1 = nI t := by rw [px_up_nk (by decide)]; exact ht
  have bad : px_R px_E 1 mo_207 [] 13 [.ref 100, .int w] [.ref 100] (ix_up h 100 0 (nI 0)) 0 (fun r => ∃ v h', r = (.inl (some (.int v)), h', 0) ∧ h' 100 0 = nI 1 ∧ px_kp (ix_up h 102 1 (h 102 1 + nI 1)) h') := by
    refine w_ic (n := 1) (j := 14) rfl rfl ?_
    refine w_go rfl ?_
    refine w_ic (n := 1) (j := 17) rfl rfl ?_
    refine w_ic (n := 1) (j := 18) rfl rfl ?_
    refine w_cvI (j := 19) rfl rfl rfl rfl (by first | assumption | rfl) rfl rfl (sp_154t (p := 1) (w := 1) rfl (by decide) (by decide) (by decide)) rfl ?_
    refine w_eqB (j := 20) rfl rfl (fun c => absurd c (by simp)) (fun _ => ?_)
    refine w_ic (n := 0) (j := 21) rfl rfl ?_
    refine w_ir rfl ?_
    exact ⟨_, _, rfl, rfl, px_kpB (px_kp.rf.up (by decide) (fun _ => by decide)) (by decide)⟩
  refine px_M (M := mt_207) (ops := mo_207) tb_207 rfl rfl rfl rfl rfl ?_
  refine w_al (j := 1) rfl rfl rfl ?_
  refine w_ic (n := 0) (j := 2) rfl rfl ?_
  refine w_pf (j := 3) rfl rfl (by first | assumption | rfl) (by first | assumption | rfl) rfl ?_
  refine w_al (j := 4) rfl rfl rfl ?_
  refine w_il (j := 5) rfl rfl rfl ?_
  refine w_ic (n := 0) (j := 6) rfl rfl ?_
  refine w_al (j := 7) rfl rfl rfl ?_
  first | refine w_gr (j := 8) rfl rfl (by first | assumption | rfl) (by first | assumption | rfl) rfl ?_ | refine w_gi (j := 8) rfl rfl (by first | assumption | rfl) (by first | assumption | rfl) rfl ht' ?_
  refine w_csI (j := 9) rfl rfl rfl rfl rfl (sp_155) rfl ?_
  by_cases cc : nI 0 ≤ w ∧ w ≤ nI t
  · rw [decide_eq_true cc]
    refine w_eqB (j := 10) rfl rfl (fun c => absurd c (by simp)) (fun _ => ?_)
    refine w_il (j := 11) rfl rfl rfl ?_
    refine w_si (j := 12) (a := nI 150) rfl rfl (by decide) ?_
    refine w_le (j := 13) rfl rfl (fun c => absurd c (fun z => hw ⟨cc.1, z, cc.2⟩)) (fun _ => ?_)
    exact bad
  · rw [decide_eq_false cc]
    refine w_eqB (j := 10) rfl rfl (fun _ => ?_) (fun c => absurd c (by simp))
    exact bad
-- the model's work, its rows full
theorem mk_full {t q : Nat} (ht : h 100 1 = nI t) (q60 : q ≤ 150) (qt : q ≤ t) (t6 : t ≤ 600) (hW : h 100 36 = nI 16) : px_PI 16 207 [.ref 100, .int (nI q)] h (fun v h' => v = -20 ∧ h' = ix_up (ix_up (ix_up h 100 0 (nI 0)) 100 1 (nI 0)) 100 3 (-1)) := by
  have ht' : ix_up h 100 0 (nI 0) 100 1 = nI t := by rw [px_up_nk (by decide)]; exact ht
  have hW' : ix_up h 100 0 (nI 0) 100 36 = nI 16 := by rw [px_up_nk (by decide)]; exact hW
  refine px_M (M := mt_207) (ops := mo_207) tb_207 rfl rfl rfl rfl rfl ?_
  refine w_al (j := 1) rfl rfl rfl ?_
  refine w_ic (n := 0) (j := 2) rfl rfl ?_
  refine w_pf (j := 3) rfl rfl (by first | assumption | rfl) (by first | assumption | rfl) rfl ?_
  refine w_al (j := 4) rfl rfl rfl ?_
  refine w_il (j := 5) rfl rfl rfl ?_
  refine w_ic (n := 0) (j := 6) rfl rfl ?_
  refine w_al (j := 7) rfl rfl rfl ?_
  first | refine w_gr (j := 8) rfl rfl (by first | assumption | rfl) (by first | assumption | rfl) rfl ?_ | refine w_gi (j := 8) rfl rfl (by first | assumption | rfl) (by first | assumption | rfl) rfl ht' ?_
  refine w_csI (j := 9) rfl rfl rfl rfl rfl (sp_155) rfl ?_
  rw [decide_eq_true ⟨nI_le (Nat.zero_le _) (by omega), nI_le qt (by omega)⟩]
  refine w_eqB (j := 10) rfl rfl (fun c => absurd c (by simp)) (fun _ => ?_)
  refine w_il (j := 11) rfl rfl rfl ?_
  refine w_si (j := 12) (a := nI 150) rfl rfl (by decide) ?_
  refine w_leN (j := 13) rfl rfl (by omega) (by omega) (fun _ => ?_) (fun c => absurd c (fun c => by omega))
  refine w_ic (n := 0) (j := 16) rfl rfl ?_
  refine w_ic (n := 1) (j := 17) rfl rfl ?_
  refine w_ic (n := 1) (j := 18) rfl rfl ?_
  refine w_cvI (j := 19) rfl rfl rfl rfl (by first | assumption | rfl) rfl rfl (sp_154f (h := ix_up h 100 0 (nI 0)) rfl) rfl ?_
  refine w_eqB (j := 20) rfl rfl (fun _ => ?_) (fun c => absurd c (by simp))
  refine w_al (j := 23) rfl rfl rfl ?_
  first | refine w_gr (j := 24) rfl rfl (by first | assumption | rfl) (by first | assumption | rfl) rfl ?_ | refine w_gi (j := 24) rfl rfl (by first | assumption | rfl) (by first | assumption | rfl) rfl hW' ?_
  refine w_bi (j := 25) (a := nI 16) rfl rfl (by decide) ?_
  refine w_neN (j := 26) rfl rfl (by omega) (by omega) (fun c => absurd c (fun z => z rfl)) (fun _ => ?_)
  refine w_al (j := 27) rfl rfl rfl ?_
  refine w_ic (n := 0) (j := 28) rfl rfl ?_
  refine w_pf (j := 29) rfl rfl (by first | assumption | rfl) (by first | assumption | rfl) rfl ?_
  refine w_al (j := 30) rfl rfl rfl ?_
  refine w_im (j := 31) rfl rfl ?_
  refine w_pf (j := 32) rfl rfl (by first | assumption | rfl) (by first | assumption | rfl) rfl ?_
  refine w_bi (j := 33) (a := (-20)) rfl rfl (by decide) ?_
  refine w_ir rfl ?_
  exact ⟨_, _, rfl, rfl, rfl⟩
theorem mk_start {t q W : Nat} {Q : ix_R → Prop} (ht : h 100 1 = nI t) (X : px_tx h tx q) (q60 : q ≤ 150) (qt : q ≤ t) (t6 : t ≤ 600) (hW : h 100 36 = nI W) (W16 : W < 16) (T : wT z h) (H : ∀ h1, (∀ a, a ≠ 100 → h1 a = h a) → (∀ j, 8 < j → j ≠ 29 → h1 100 j = h 100 j) → h1 100 0 = nI 0 → h1 100 1 = nI 0 → wM0 z h1 tx q 0 0 0 → px_R px_E 15 mo_207 [] 40 [.ref 100, .int (nI q)] [] h1 0 Q) : px_T px_E 16 207 [.ref 100, .int (nI q)] h Q := by
  have ht' : ix_up h 100 0 (nI 0) 100 1 = nI t := by rw [px_up_nk (by decide)]; exact ht
  have hW' : ix_up h 100 0 (nI 0) 100 36 = nI W := by rw [px_up_nk (by decide)]; exact hW
  have X' : px_tx (ix_up h 100 0 (nI 0)) tx q := X.of (ix_up_ne (by decide)) (ix_up_ne (by decide))
  refine px_M (M := mt_207) (ops := mo_207) tb_207 rfl rfl rfl rfl rfl ?_
  refine w_al (j := 1) rfl rfl rfl ?_
  refine w_ic (n := 0) (j := 2) rfl rfl ?_
  refine w_pf (j := 3) rfl rfl (by first | assumption | rfl) (by first | assumption | rfl) rfl ?_
  refine w_al (j := 4) rfl rfl rfl ?_
  refine w_il (j := 5) rfl rfl rfl ?_
  refine w_ic (n := 0) (j := 6) rfl rfl ?_
  refine w_al (j := 7) rfl rfl rfl ?_
  first | refine w_gr (j := 8) rfl rfl (by first | assumption | rfl) (by first | assumption | rfl) rfl ?_ | refine w_gi (j := 8) rfl rfl (by first | assumption | rfl) (by first | assumption | rfl) rfl ht' ?_
  refine w_csI (j := 9) rfl rfl rfl rfl rfl (sp_155) rfl ?_
  rw [decide_eq_true ⟨nI_le (Nat.zero_le _) (by omega), nI_le qt (by omega)⟩]
  refine w_eqB (j := 10) rfl rfl (fun c => absurd c (by simp)) (fun _ => ?_)
  refine w_il (j := 11) rfl rfl rfl ?_
  refine w_si (j := 12) (a := nI 150) rfl rfl (by decide) ?_
  refine w_leN (j := 13) rfl rfl (by omega) (by omega) (fun _ => ?_) (fun c => absurd c (fun c => by omega))
  refine w_ic (n := 0) (j := 16) rfl rfl ?_
  refine w_ic (n := 1) (j := 17) rfl rfl ?_
  refine w_ic (n := 1) (j := 18) rfl rfl ?_
  refine w_cvI (j := 19) rfl rfl rfl rfl (by first | assumption | rfl) rfl rfl (sp_154f (h := ix_up h 100 0 (nI 0)) rfl) rfl ?_
  refine w_eqB (j := 20) rfl rfl (fun _ => ?_) (fun c => absurd c (by simp))
  refine w_al (j := 23) rfl rfl rfl ?_
  first | refine w_gr (j := 24) rfl rfl (by first | assumption | rfl) (by first | assumption | rfl) rfl ?_ | refine w_gi (j := 24) rfl rfl (by first | assumption | rfl) (by first | assumption | rfl) rfl hW' ?_
  refine w_bi (j := 25) (a := nI 16) rfl rfl (by decide) ?_
  refine w_neN (j := 26) rfl rfl (by omega) (by omega) (fun _ => ?_) (fun c => absurd c (fun c => by omega))
  refine w_al (j := 35) rfl rfl rfl ?_
  refine w_il (j := 36) rfl rfl rfl ?_
  refine w_cvPU (j := 37) rfl rfl rfl rfl (by first | assumption | rfl) rfl rfl (sp_173 X') rfl ?_
  rintro h1 ⟨f2, z1, z7, r⟩
  refine w_al (j := 38) rfl rfl rfl ?_
  refine w_ic (n := 0) (j := 39) rfl rfl ?_
  refine w_pf (j := 40) rfl rfl (by first | assumption | rfl) (by first | assumption | rfl) rfl ?_
  have E : ∀ a, a ≠ 100 → ix_up h1 100 29 (nI 0) a = h a := fun a ha => by rw [ix_up_ne ha, f2.1 a ha, ix_up_ne ha]
  refine H _ E (fun j j8 j29 => by rw [px_up_nk j29, f2.2 j (Or.inl j8), px_up_nk (by omega)]) (by rw [px_up_nk (by decide), f2.2 0 (by omega), px_up_at]) (by rw [px_up_nk (by decide)]; exact z1) ⟨q60, Nat.zero_le _, Nat.zero_le _, px_up_at, T.of (E 104 (by decide)), r.of (ix_up_ne (by decide)) (ix_up_ne (by decide)) (fun j hj => px_up_nk (by omega))⟩
theorem m40_g {D : Nat} {g1 : Value} {Q : ix_R → Prop} (hD : 2 ≤ D) {D' : Nat} (hD' : D' ≤ D) (p p1 : Nat) (D1 : pw_s → pw_s) (h : ix_H) (j : Nat) (c : gx_sk tx n p < n) (S : wM0 z h tx n p o j) (x : wG z D' tx n o p p1 D1) (H : ∀ h1, wL z tx n o j p1 D1 h h1 → px_R px_E D mo_207 [] 40 [.ref 100, g1] [] h1 0 Q) : px_R px_E D mo_207 [] 40 [.ref 100, g1] [] h 0 Q := by
  have r := S.2.2.2.2.2
  have r4 := r.2.2.1
  have r5 := r.2.2.2.2.1
  have r2 := r.2.1
  have S1 := S.1
  refine w_al (j := 41) rfl rfl rfl ?_
  first | refine w_gr (j := 42) rfl rfl (by first | assumption | rfl) (by first | assumption | rfl) rfl ?_ | refine w_gi (j := 42) rfl rfl (by first | assumption | rfl) (by first | assumption | rfl) rfl r5 ?_
  refine w_neM (j := 43) rfl rfl (by omega) (fun c => absurd c (fun c => by omega)) (fun _ => ?_)
  refine w_al (j := 44) rfl rfl rfl ?_
  first | refine w_gr (j := 45) rfl rfl (by first | assumption | rfl) (by first | assumption | rfl) rfl ?_ | refine w_gi (j := 45) rfl rfl (by first | assumption | rfl) (by first | assumption | rfl) rfl r4 ?_
  refine w_al (j := 46) rfl rfl rfl ?_
  first | refine w_gr (j := 47) rfl rfl (by first | assumption | rfl) (by first | assumption | rfl) rfl ?_ | refine w_gi (j := 47) rfl rfl (by first | assumption | rfl) (by first | assumption | rfl) rfl r2 ?_
  refine w_geN (j := 48) rfl rfl (by omega) (by omega) (fun c => absurd c (fun c => by omega)) (fun _ => ?_)
  refine w_al (j := 49) rfl rfl rfl ?_
  refine w_cvPU (j := 50) rfl rfl rfl rfl (by first | assumption | rfl) rfl rfl (x.2 h j S) (Nat.ble_eq.mpr (by omega)) ?_
  rintro h1 N1
  skip
  have N1' := N1
  obtain ⟨j', P, N1, N2, N3, N4, N5, N6⟩ := N1'
  obtain ⟨p0, a1, a2, r1⟩ := N3.2.2.2.2.2
  refine w_al (j := 51) rfl rfl rfl ?_
  refine w_cvPU (j := 52) rfl rfl rfl rfl (by first | assumption | rfl) rfl rfl (sp_161 r1) (Nat.ble_eq.mpr (by omega)) ?_
  rintro h2 ⟨f2, r2⟩
  rw [a2] at r2
  refine w_go rfl ?_
  exact H h2 (wN_L ⟨j', P, N1, N2, N3, N4, N5, N6⟩ f2 r2)
theorem m40_b {D K PL : Nat} {g1 : Value} {Q : ix_R → Prop} (hD : 2 ≤ D) {D' : Nat} (hD' : D' ≤ D) (p : Nat) (h : ix_H) (j : Nat) (c : gx_sk tx n p < n) (S : wM0 z h tx n p o j) (x : wB z D' tx n o p K PL) (H : ∀ h1, wF j h h1 → lMF h1 tx n o K PL → px_R px_E D mo_207 [] 40 [.ref 100, g1] [] h1 0 Q) : px_R px_E D mo_207 [] 40 [.ref 100, g1] [] h 0 Q := by
  have r := S.2.2.2.2.2
  have r4 := r.2.2.1
  have r5 := r.2.2.2.2.1
  have r2 := r.2.1
  have S1 := S.1
  refine w_al (j := 41) rfl rfl rfl ?_
  first | refine w_gr (j := 42) rfl rfl (by first | assumption | rfl) (by first | assumption | rfl) rfl ?_ | refine w_gi (j := 42) rfl rfl (by first | assumption | rfl) (by first | assumption | rfl) rfl r5 ?_
  refine w_neM (j := 43) rfl rfl (by omega) (fun c => absurd c (fun c => by omega)) (fun _ => ?_)
  refine w_al (j := 44) rfl rfl rfl ?_
  first | refine w_gr (j := 45) rfl rfl (by first | assumption | rfl) (by first | assumption | rfl) rfl ?_ | refine w_gi (j := 45) rfl rfl (by first | assumption | rfl) (by first | assumption | rfl) rfl r4 ?_
  refine w_al (j := 46) rfl rfl rfl ?_
  first | refine w_gr (j := 47) rfl rfl (by first | assumption | rfl) (by first | assumption | rfl) rfl ?_ | refine w_gi (j := 47) rfl rfl (by first | assumption | rfl) (by first | assumption | rfl) rfl r2 ?_
  refine w_geN (j := 48) rfl rfl (by omega) (by omega) (fun c => absurd c (fun c => by omega)) (fun _ => ?_)
  refine w_al (j := 49) rfl rfl rfl ?_
  refine w_cvPU (j := 50) rfl rfl rfl rfl (by first | assumption | rfl) rfl rfl (x h j S) (Nat.ble_eq.mpr (by omega)) ?_
  rintro h1 ⟨F1, p1, r1⟩
  skip
  refine w_al (j := 51) rfl rfl rfl ?_
  refine w_cvPU (j := 52) rfl rfl rfl rfl (by first | assumption | rfl) rfl rfl (sp_161 r1) (Nat.ble_eq.mpr (by omega)) ?_
  rintro h2 ⟨f2, r2⟩
  refine w_go rfl ?_
  exact H h2 (F1.tr f2.wF (Nat.le_refl _)) ⟨_, r2⟩
theorem m40_end {K PL : Nat} (hK : K ≠ 0) (F : lMF h tx n 0 K PL) : px_R px_E 15 mo_207 [] 40 [.ref 100, .int (nI n)] [] h 0 (fun r => ∃ h', r = (.inl (some (.int (nI K - nI 10))), h', 0) ∧ h' = ix_up h 100 3 (nI PL)) := by
  obtain ⟨p, r⟩ := F
  have s5 := r.2.2.2.2.1
  have s3 := r.2.2.2.2.2.1
  have s6 := r.2.2.2.2.2.2.1
  refine w_al (j := 41) rfl rfl rfl ?_
  first | refine w_gr (j := 42) rfl rfl (by first | assumption | rfl) (by first | assumption | rfl) rfl ?_ | refine w_gi (j := 42) rfl rfl (by first | assumption | rfl) (by first | assumption | rfl) rfl s5 ?_
  refine w_neM (j := 43) rfl rfl (by omega) (fun _ => ?_) (fun c => absurd c (fun c => by omega))
  refine w_al (j := 54) rfl rfl rfl ?_
  first | refine w_gr (j := 55) rfl rfl (by first | assumption | rfl) (by first | assumption | rfl) rfl ?_ | refine w_gi (j := 55) rfl rfl (by first | assumption | rfl) (by first | assumption | rfl) rfl s5 ?_
  refine w_eqM (j := 56) rfl rfl (by omega) (fun c => absurd c (fun c => by omega)) (fun _ => ?_)
  refine w_al (j := 57) rfl rfl rfl ?_
  refine w_cvI (j := 58) rfl rfl rfl rfl (by first | assumption | rfl) rfl rfl (sp_174) rfl ?_
  rw [s5, s6]
  refine w_ir rfl ?_
  exact ⟨_, rfl, rfl⟩
theorem mk_bad {t q W K PL : Nat} (ht : h 100 1 = nI t) (X : px_tx h tx q) (q60 : q ≤ 150) (qt : q ≤ t) (t6 : t ≤ 600) (hW : h 100 36 = nI W) (W16 : W < 16) (T : wT z h) (hK : K ≠ 0) (Bd : (∃ m, wSB z 12 tx q 0 m 0 K PL) ∨ ∃ m p2 DD, wSG z 12 tx q 0 m 0 p2 DD ∧ p2 < q ∧ K = 1 ∧ PL = p2) : px_PI 16 207 [.ref 100, .int (nI q)] h (fun v h' => v = nI K - nI 10 ∧ h' 100 0 = nI 0 ∧ h' 100 1 = nI 0 ∧ h' 100 3 = nI PL ∧ (∀ a, a ≠ 100 → ¬ (497 ≤ a ∧ a ≤ 576) → h' a = h a) ∧ ∀ j, 8 < j → j ≠ 29 → h' 100 j = h 100 j) := by
  refine mk_start ht X q60 qt t6 hW W16 T (fun h1 e1 e2 z0 z1 S => ?_)
  have fin : ∀ h2, wF 0 h1 h2 → lMF h2 tx q 0 K PL → px_R px_E 15 mo_207 [] 40 [.ref 100, .int (nI q)] [] h2 0 (fun r => ∃ v h', r = (.inl (some (.int v)), h', 0) ∧ v = nI K - nI 10 ∧ h' 100 0 = nI 0 ∧ h' 100 1 = nI 0 ∧ h' 100 3 = nI PL ∧ (∀ a, a ≠ 100 → ¬ (497 ≤ a ∧ a ≤ 576) → h' a = h a) ∧ ∀ j, 8 < j → j ≠ 29 → h' 100 j = h 100 j) := fun h2 F2 q => by
    refine px_mono (m40_end hK q) ?_
    rintro _ ⟨h', rfl, rfl⟩
    refine ⟨_, _, rfl, rfl, ?_, ?_, px_up_at, fun a a1 a2 => ?_, fun j j1 j2 => ?_⟩
    · rw [px_up_nk (by decide), F2.2 0 (by decide) (by decide) (by decide) (by decide) (by decide)]; exact z0
    · rw [px_up_nk (by decide), F2.2 1 (by decide) (by decide) (by decide) (by decide) (by decide)]; exact z1
    · rw [ix_up_ne a1, F2.1 a a1 (by omega)]; exact e1 a a1
    · rw [px_up_nk (by omega), F2.2 j (by omega) (by omega) (by omega) (by omega) j2]; exact e2 j j1 j2
  rcases Bd with ⟨m, sb⟩ | ⟨m, p2, DD, sg, c, rfl, rfl⟩
  · exact wS_b (Rn := fun h1 => px_R px_E 15 mo_207 [] 40 [.ref 100, .int (nI q)] [] h1 0 _) (fun p p1 D1 h j c S x H => m40_g (by decide) (by decide) p p1 D1 h j c.1 S x H) (fun p h j c S x H => m40_b (by decide) (by decide) p h j c.1 S x H) m _ h1 0 sb S (fun h2 F2 q => fin h2 F2 q)
  · have xl := wSG_le _ _ _ sg
    refine wS_g (Rn := fun h1 => px_R px_E 15 mo_207 [] 40 [.ref 100, .int (nI q)] [] h1 0 _) (fun p p1 D1 h j c S x H => m40_g (by decide) (by decide) p p1 D1 h j c.1 S x H) m _ _ h1 0 sg S (fun h2 L2 => ?_)
    obtain ⟨j2, P, a1, a2, a3, a4, a5, a6⟩ := L2
    have t93 : tx PL = 93 := Classical.byContradiction (fun q => xl.2.2.2 ⟨c, q⟩)
    have nb : wB z 6 tx q 0 PL 1 PL := by
      have := wB_none (z := z) (o := 0) (p := PL) (tx := tx) (n := q) (D := 5) (by decide) (fun k k8 kw => ?_)
      · rw [xl.2.2.1] at this
        exact this
      · rw [xl.2.2.1] at kw
        have t0 := kw.2 0 (by have := gx_V_len k k8; omega)
        rw [Nat.add_zero, t93] at t0
        have : ∀ k, k < 8 → 93 ≠ (gx_V k).getD 0 0 := by decide
        exact this k k8 t0
    exact m40_b (by decide) (by decide) PL h2 j2 (by rw [xl.2.2.1]; exact c) a3 nb (fun h3 F3 q => fin h3 (a2.tr F3 a1) q)
theorem mk_good {t q W m p2 : Nat} {DD : pw_s → pw_s} {X0 : pw_X} (ht : h 100 1 = nI t) (X : px_tx h tx q) (q60 : q ≤ 150) (qt : q ≤ t) (t6 : t ≤ 600) (hW : h 100 36 = nI W) (W16 : W < 16) (T : wT z h) (sg : wSG z 12 tx q 0 m 0 p2 DD) (c : ¬ p2 < q) (hDD : pw_D z.2.2.1 DD) (E : pw_mE z.1 z.2.1 z.2.2.1 z.2.2.2.1 z.2.2.2.2.1 z.2.2.2.2.2.1 z.2.2.2.2.2.2 h) (ok : pw_ok z.2.2.1 X0) (R : pw_mR X0 (h 577)) : px_PI 16 207 [.ref 100, .int (nI q)] h (fun v h' => v = nI (DD ((0, 0, 0), X0)).1.2.1 ∧ h' 100 0 = nI 0 ∧ h' 100 1 = nI 0 ∧ h' 100 3 = -1 ∧ h' 100 36 = nI (W + 1) ∧ h' 100 37 = nI (DD ((0, 0, 0), X0)).1.2.2 ∧ pw_mR (DD ((0, 0, 0), X0)).2 (h' 577) ∧ (∀ j, j < 32 → h' (581 + W) j = h 577 j) ∧ (∀ a, a ≠ 100 → a ≠ 494 → a ≠ 495 → a ≠ 577 → a ≠ 579 → a ≠ 581 + W → ¬ (497 ≤ a ∧ a ≤ 576) → h' a = h a) ∧ ∀ j, 8 < j → j ≠ 29 → j ≠ 36 → j ≠ 37 → j ≠ 40 → j ≠ 41 → h' 100 j = h 100 j) := by
  refine mk_start ht X q60 qt t6 hW W16 T (fun h1 e1 e2 z0 z1 S => ?_)
  have xl := wSG_le _ _ _ sg
  refine wS_g (Rn := fun h1 => px_R px_E 15 mo_207 [] 40 [.ref 100, .int (nI q)] [] h1 0 _) (fun p p1 D1 h j c S x H => m40_g (by decide) (by decide) p p1 D1 h j c.1 S x H) m _ _ h1 0 sg S (fun h2 L2 => ?_)
  obtain ⟨j2, P, a1, a2, ⟨b1, b2, b3, b4, b5, r⟩, a4, a5, a6⟩ := L2
  rw [xl.2.2.1] at r
  have r4 := r.2.2.1
  have r5 := r.2.2.2.2.1
  have r2 := r.2.1
  have s581 := sh_581 W W16
  have w36 : h2 100 36 = nI W := by rw [a2.2 36 (by decide) (by decide) (by decide) (by decide) (by decide), e2 36 (by decide) (by decide)]; exact hW
  have w36' : ix_up h2 100 3 (-1) 100 36 = nI W := by rw [px_up_nk (by decide)]; exact w36
  refine w_al (j := 41) rfl rfl rfl ?_
  first | refine w_gr (j := 42) rfl rfl (by first | assumption | rfl) (by first | assumption | rfl) rfl ?_ | refine w_gi (j := 42) rfl rfl (by first | assumption | rfl) (by first | assumption | rfl) rfl r5 ?_
  refine w_neM (j := 43) rfl rfl (by omega) (fun c => absurd c (fun c => by omega)) (fun _ => ?_)
  refine w_al (j := 44) rfl rfl rfl ?_
  first | refine w_gr (j := 45) rfl rfl (by first | assumption | rfl) (by first | assumption | rfl) rfl ?_ | refine w_gi (j := 45) rfl rfl (by first | assumption | rfl) (by first | assumption | rfl) rfl r4 ?_
  refine w_al (j := 46) rfl rfl rfl ?_
  first | refine w_gr (j := 47) rfl rfl (by first | assumption | rfl) (by first | assumption | rfl) rfl ?_ | refine w_gi (j := 47) rfl rfl (by first | assumption | rfl) (by first | assumption | rfl) rfl r2 ?_
  refine w_geN (j := 48) rfl rfl (by omega) (by omega) (fun _ => ?_) (fun c => absurd c (fun c => by omega))
  refine w_al (j := 54) rfl rfl rfl ?_
  first | refine w_gr (j := 55) rfl rfl (by first | assumption | rfl) (by first | assumption | rfl) rfl ?_ | refine w_gi (j := 55) rfl rfl (by first | assumption | rfl) (by first | assumption | rfl) rfl r5 ?_
  refine w_eqM (j := 56) rfl rfl (by omega) (fun _ => ?_) (fun c => absurd c (fun c => by omega))
  refine w_al (j := 60) rfl rfl rfl ?_
  refine w_im (j := 61) rfl rfl ?_
  refine w_pf (j := 62) rfl rfl (by first | assumption | rfl) (by first | assumption | rfl) rfl ?_
  refine w_al (j := 63) rfl rfl rfl ?_
  first | refine w_gr (j := 64) rfl rfl (by first | assumption | rfl) (by first | assumption | rfl) rfl ?_ | refine w_gi (j := 64) rfl rfl (by first | assumption | rfl) (by first | assumption | rfl) rfl rfl ?_
  refine w_al (j := 65) rfl rfl rfl ?_
  first | refine w_gr (j := 66) rfl rfl (by first | assumption | rfl) (by first | assumption | rfl) rfl ?_ | refine w_gi (j := 66) rfl rfl (by first | assumption | rfl) (by first | assumption | rfl) rfl rfl ?_
  refine w_al (j := 67) rfl rfl rfl ?_
  first | refine w_gr (j := 68) rfl rfl (by first | assumption | rfl) (by first | assumption | rfl) rfl ?_ | refine w_gi (j := 68) rfl rfl (by first | assumption | rfl) (by first | assumption | rfl) rfl w36' ?_
  refine w_aal (j := 69) rfl rfl (by first | assumption | rfl) rfl (by omega) rfl ?_
  refine w_csPU (j := 70) rfl rfl rfl rfl rfl (sp_179 (a := 577) (b := 581 + W) (by decide) s581 (by omega)) rfl ?_
  rintro h3 ⟨f3, q3⟩
  have g3 : h3 100 = ix_up h2 100 3 (-1) 100 := f3 100 (by simp; omega)
  have w36'' : h3 100 36 = nI W := by rw [g3]; exact w36'
  refine w_al (j := 71) rfl rfl rfl ?_
  first | refine w_dupr (j := 72) rfl rfl ?_ | refine w_dupi (j := 72) rfl rfl ?_
  first | refine w_gr (j := 73) rfl rfl (by first | assumption | rfl) (by first | assumption | rfl) rfl ?_ | refine w_gi (j := 73) rfl rfl (by first | assumption | rfl) (by first | assumption | rfl) rfl w36'' ?_
  refine w_ic (n := 1) (j := 74) rfl rfl ?_
  first | refine w_add0 (j := 75) rfl rfl ?_ | refine w_addN (j := 75) rfl rfl ?_ | refine w_add (j := 75) rfl rfl ?_
  refine w_pf (j := 76) rfl rfl (by first | assumption | rfl) (by first | assumption | rfl) rfl ?_
  refine w_al (j := 77) rfl rfl rfl ?_
  refine w_ic (n := 0) (j := 78) rfl rfl ?_
  refine w_pf (j := 79) rfl rfl (by first | assumption | rfl) (by first | assumption | rfl) rfl ?_
  refine w_al (j := 80) rfl rfl rfl ?_
  refine w_ic (n := 0) (j := 81) rfl rfl ?_
  refine w_pf (j := 82) rfl rfl (by first | assumption | rfl) (by first | assumption | rfl) rfl ?_
  refine w_al (j := 83) rfl rfl rfl ?_
  refine w_ic (n := 0) (j := 84) rfl rfl ?_
  refine w_pf (j := 85) rfl rfl (by first | assumption | rfl) (by first | assumption | rfl) rfl ?_
  generalize hh : ix_up (ix_up (ix_up (ix_up h3 100 36 (nI (W + 1))) 100 40 (nI 0)) 100 41 (nI 0)) 100 37 (nI 0) = h4
  have f4 : ∀ a, a ≠ 100 → h4 a = h3 a := fun a ha => by rw [← hh, ix_up_ne ha, ix_up_ne ha, ix_up_ne ha, ix_up_ne ha]
  have g4 : ∀ j, j ≠ 36 → j ≠ 37 → j ≠ 40 → j ≠ 41 → h4 100 j = ix_up h2 100 3 (-1) 100 j := fun j j1 j2 j3 j4 => by rw [← hh, px_up_nk j2, px_up_nk j4, px_up_nk j3, px_up_nk j1, g3]
  have k36 : h4 100 36 = nI (W + 1) := by rw [← hh, px_up_nk (by decide), px_up_nk (by decide), px_up_nk (by decide), px_up_at]
  have k37 : h4 100 37 = nI 0 := by rw [← hh, px_up_at]
  have k40 : h4 100 40 = nI 0 := by rw [← hh, px_up_nk (by decide), px_up_nk (by decide), px_up_at]
  have k41 : h4 100 41 = nI 0 := by rw [← hh, px_up_nk (by decide), px_up_at]
  have k29 : h4 100 29 = nI j2 := by rw [g4 29 (by decide) (by decide) (by decide) (by decide), px_up_nk (by decide)]; exact b4
  have A : ∀ a, a ≠ 100 → a ≠ 581 + W → ¬ (497 ≤ a ∧ a ≤ 576) → h4 a = h a := fun a x1 x2 x3 => by rw [f4 a x1, f3 a (by simpa using x2), ix_up_ne x1, a2.1 a x1 (by omega)]; exact e1 a x1
  have B4 : ∀ a, 497 ≤ a → a ≤ 576 → h4 a = h2 a := fun a x1 x2 => by rw [f4 a (by omega), f3 a (by simp; omega), ix_up_ne (by omega)]
  have A1 : ∀ j, 8 < j → j ≠ 29 → j ≠ 36 → j ≠ 37 → j ≠ 40 → j ≠ 41 → h4 100 j = h 100 j := fun j x1 x2 x3 x4 x5 x6 => by rw [g4 j x3 x4 x5 x6, px_up_nk (by omega), a2.2 j (by omega) (by omega) (by omega) (by omega) x2]; exact e2 j x1 x2
  have E4 : pw_mE z.1 z.2.1 z.2.2.1 z.2.2.2.1 z.2.2.2.2.1 z.2.2.2.2.2.1 z.2.2.2.2.2.2 h4 := by
    obtain ⟨x1, x2, x3, x4, x5, x6, x7⟩ := E
    have e104 := A 104 (by decide) (by omega) (by omega)
    refine ⟨by rw [e104]; exact x1, x2, by rw [e104]; exact x3, fun b hb => by rw [A (113 + b) (by omega) (by omega) (by omega)]; exact x4 b hb, fun c hc => by rw [A (129 + c) (by omega) (by omega) (by omega)]; exact x5 c hc, ?_, x7⟩
    rcases x6 with ⟨l1, l2, l3, l4⟩ | ⟨l1, l2⟩
    · refine Or.inl ⟨by rw [A1 20 (by decide) (by decide) (by decide) (by decide) (by decide) (by decide)]; exact l1, l2, l3, fun k c hk => ?_⟩
      have kl := (List.getElem?_eq_some_iff.mp hk).1
      rw [A (159 + k) (by omega) (by omega) (by omega)]; exact l4 k c hk
    · exact Or.inr ⟨by rw [A1 20 (by decide) (by decide) (by decide) (by decide) (by decide) (by decide)]; exact l1, l2⟩
  have P4 : P h4 := a4.2 _ _ (fun k k1 k2 => B4 _ (by omega) (by have := a4.1; omega)) a5
  have so : pw_so z.2.2.1 ((0, 0, 0), X0) := ⟨Nat.zero_le _, Nat.le_refl _, Nat.le_refl _, ok⟩
  have st : pw_mst ((0, 0, 0), X0) h4 := ⟨k40, k41, k37, by rw [A 577 (by decide) (by omega) (by omega)]; exact R⟩
  refine w_al (j := 86) rfl rfl rfl ?_
  refine w_ic (n := 0) (j := 87) rfl rfl ?_
  refine w_al (j := 88) rfl rfl rfl ?_
  first | refine w_gr (j := 89) rfl rfl (by first | assumption | rfl) (by first | assumption | rfl) rfl ?_ | refine w_gi (j := 89) rfl rfl (by first | assumption | rfl) (by first | assumption | rfl) rfl k29 ?_
  refine w_cvPU (j := 90) rfl rfl rfl rfl (by first | assumption | rfl) rfl rfl (pw_mgo (d := 14) (i := 0) (j := j2) (s := ((0, 0, 0), X0)) a4.1 a6 E4 P4 so st) rfl ?_
  rintro h5 ⟨f5, st5⟩
  obtain ⟨d1, d2, d3, d4⟩ := st5
  refine w_al (j := 91) rfl rfl rfl ?_
  first | refine w_gr (j := 92) rfl rfl (by first | assumption | rfl) (by first | assumption | rfl) rfl ?_ | refine w_gi (j := 92) rfl rfl (by first | assumption | rfl) (by first | assumption | rfl) rfl d2 ?_
  refine w_ir rfl ?_
  refine ⟨_, _, rfl, rfl, ?_, ?_, ?_, ?_, d3, d4, fun j hj => ?_, fun a x1 x2 x3 x4 x5 x6 x7 => ?_, fun j x1 x2 x3 x4 x5 x6 => ?_⟩
  · rw [f5.2 0 (by decide) (by decide) (by decide), g4 0 (by decide) (by decide) (by decide) (by decide), px_up_nk (by decide), a2.2 0 (by decide) (by decide) (by decide) (by decide) (by decide)]; exact z0
  · rw [f5.2 1 (by decide) (by decide) (by decide), g4 1 (by decide) (by decide) (by decide) (by decide), px_up_nk (by decide), a2.2 1 (by decide) (by decide) (by decide) (by decide) (by decide)]; exact z1
  · rw [f5.2 3 (by decide) (by decide) (by decide), g4 3 (by decide) (by decide) (by decide) (by decide), px_up_at]
  · rw [f5.2 36 (by decide) (by decide) (by decide)]; exact k36
  · rw [f5.1 _ (by omega) (by omega) (by omega) (by omega) (by omega), f4 _ (by omega), q3 j hj, px_up_na (by decide), a2.1 577 (by decide) (by omega), e1 577 (by decide)]
  · rw [f5.1 a x1 x2 x3 x4 x5]; exact A a x1 x6 x7
  · rw [f5.2 j x4 x5 x6]; exact A1 j x1 x2 x3 x4 x5 x6
end WC
