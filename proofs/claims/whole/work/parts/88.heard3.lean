theorem px_Itx {h h2 : ix_H} {B N T L W I t : Nat} {cs : List (Nat × Nat)} (hI : px_I h B N T cs L W I t) (e : ∀ a, pf_pers a = true → a ≠ 0 → h2 a = h a) (e0 : ∀ j, j ≠ 16 → j ≠ 17 → h2 0 j = h 0 j) (e1 : ∀ j, pf_pf j = true → j ≠ 1 → j ≠ 3 → h2 100 j = h 100 j) (z0 : h2 0 16 = nI 0) (z1 : h2 100 1 = nI 0) (z2 : h2 0 17 = h2 100 3) : px_I h2 B N T cs L W I 0 := by
  have K : px_kp h (ix_row (ix_row h2 0 (h 0)) 100 (fun j => if j = 1 ∨ j = 3 then h 100 j else h2 100 j)) := by
    refine ⟨fun a ha => ?_, fun j hj => ?_⟩
    · rw [px_row_ne (fun z => by subst z; cases ha)]
      by_cases a0 : a = 0
      · subst a0; rw [px_row_eq]
      · rw [px_row_ne a0]; exact e a ha a0
    · rw [px_row_eq]
      show (if j = 1 ∨ j = 3 then h 100 j else h2 100 j) = h 100 j
      by_cases a0 : j = 1 ∨ j = 3
      · rw [if_pos a0]
      · rw [if_neg a0]; exact e1 j hj (by omega) (by omega)
  have G : ∀ a, a ≠ 0 → a ≠ 100 → h2 a = ix_row (ix_row h2 0 (h 0)) 100 (fun j => if j = 1 ∨ j = 3 then h 100 j else h2 100 j) a := fun a a0 a1 => by rw [px_row_ne a1, px_row_ne a0]
  have G1 : ∀ j, j ≠ 1 → j ≠ 3 → h2 100 j = ix_row (ix_row h2 0 (h 0)) 100 (fun j => if j = 1 ∨ j = 3 then h 100 j else h2 100 j) 100 j := fun j j1 j3 => by
    rw [px_row_eq]
    show _ = (if j = 1 ∨ j = 3 then h 100 j else h2 100 j)
    rw [if_neg (by omega)]
  obtain ⟨ld, lw, ln, nw, hi, tp, ct, fp⟩ := hI
  refine ⟨(ld.kp K).of (fun a h1 h2 => G a (by omega) (by omega)) (fun a h1 h2 => G a (by omega) (by omega)), (lw.kp K).of (fun a h1 h2 h3 => G a (by omega) (by omega)) (G1 _ (by decide) (by decide)) (fun a h1 h2 => G a (by omega) (by omega)), (ln.kp K).of (fun a h1 h2 => G a (by omega) (by omega)) (G1 _ (by decide) (by decide)) (fun a h1 h2 => G a (by omega) (by omega)), px_nowO (fun a h1 h2 => G a (by omega) (by omega)) (G 577 (by decide) (by decide)) (px_nowK K nw), (hi.kp K).of (fun a h1 h2 => G a (by omega) (by omega)) (G1 _ (by decide) (by decide)) (G1 _ (by decide) (by decide)) (G1 _ (by decide) (by decide)) (fun a h1 h2 => G a (by omega) (by omega)), ⟨by decide, z0, z1, fun i hi => by omega⟩, ?_, z2⟩
  rw [e0 18 (by decide) (by decide), e0 19 (by decide) (by decide), e 102 (by decide) (by decide)]
  exact ct
theorem px_Jx {f h h2 : ix_H} {x : Nat} (hx : x ≤ 1) (hJ : px_J f h) (k : px_kp (ix_up (px_hX x h) 102 (1 - x) (px_hX x h 102 (1 - x) + nI 1)) h2) : px_J f h2 := by
  obtain ⟨hf, B, N, T, cs, L, W, I, t, ld, lw, ln, nw, hi, tp, ct, fp⟩ := hJ
  have G : ∀ a, a ≠ 0 → a ≠ 102 → ix_up (px_hX x h) 102 (1 - x) (px_hX x h 102 (1 - x) + nI 1) a = h a := fun a a0 a1 => by
    unfold px_hX
    rw [ix_up_ne a1, ix_up_ne a0]
  have G0 : ∀ j, j < 18 → ix_up (px_hX x h) 102 (1 - x) (px_hX x h 102 (1 - x) + nI 1) 0 j = h 0 j := fun j hj => by
    unfold px_hX
    rw [px_up_na (by decide), px_up_nk (by omega)]
  refine ⟨fun a ha => (k.1 a (pf_pers_i (by omega))).trans ((G a (by omega) (by omega)).trans (hf a ha)), B, N, T, cs, L, W, I, t, px_I.kp k ⟨ld.of (fun a h1 h2 => G a (by omega) (by omega)) (fun a h1 h2 => G a (by omega) (by omega)), lw.of (fun a h1 h2 h3 => G a (by omega) (by omega)) (by rw [G 100 (by decide) (by decide)]) (fun a h1 h2 => G a (by omega) (by omega)), ln.of (fun a h1 h2 => G a (by omega) (by omega)) (by rw [G 100 (by decide) (by decide)]) (fun a h1 h2 => G a (by omega) (by omega)), px_nowO (fun a h1 h2 => G a (by omega) (by omega)) (G 577 (by decide) (by decide)) nw, hi.of (fun a h1 h2 => G a (by omega) (by omega)) (by rw [G 100 (by decide) (by decide)]) (by rw [G 100 (by decide) (by decide)]) (by rw [G 100 (by decide) (by decide)]) (fun a h1 h2 => G a (by omega) (by omega)), tp.of (G0 16 (by decide)) (G 1 (by decide) (by decide)) (G 101 (by decide) (by decide)) (by rw [G 100 (by decide) (by decide)]), ?_, by rw [G0 17 (by decide), G 100 (by decide) (by decide)]; exact fp⟩⟩
  unfold px_hX
  rcases (show x = 0 ∨ x = 1 by omega) with rfl | rfl
  · exact ⟨ct.1, by
      show h 0 19 + nI 1 = h 102 1 + nI 1
      rw [ct.2]⟩
  · exact ⟨by
      show h 0 18 + nI 1 = h 102 0 + nI 1
      rw [ct.1], ct.2⟩
section HD
variable {h : ix_H} {tx : Nat → Nat} {n p pc o k : Nat} {pl : Int32}
theorem MX_heard {w : Int32} {t : Nat} (ht : h 100 1 = nI t) (hw : ¬ (0 ≤ w ∧ w ≤ nI 60 ∧ w ≤ nI t)) : px_PI 2 194 [.ref 100, .int w] h (fun v h2 => h2 100 0 = nI 1 ∧ px_kp (ix_up h 102 1 (h 102 1 + nI 1)) h2) := by
  have ht' : ix_up h 100 0 (nI 0) 100 1 = nI t := by rw [px_up_nk (by decide)]; exact ht
  have bad : px_R px_E 1 mo_194 [] 13 [.ref 100, .int w, .null, .null, .null, .null] [.ref 100] (ix_up h 100 0 (nI 0)) 0 (fun r => ∃ v h', r = (.inl (some (.int v)), h', 0) ∧ h' 100 0 = nI 1 ∧ px_kp (ix_up h 102 1 (h 102 1 + nI 1)) h') := by
    refine w_ic (n := 1) (j := 14) rfl rfl ?_
    refine w_go rfl ?_
    refine w_ic (n := 1) (j := 17) rfl rfl ?_
    refine w_ic (n := 1) (j := 18) rfl rfl ?_
    refine w_cvI (j := 19) rfl rfl rfl rfl (by first | assumption | rfl) rfl rfl (sp_154t (p := 1) (w := 1) rfl (by decide) (by decide) (by decide)) rfl ?_
    refine w_eqB (j := 20) rfl rfl (fun c => absurd c (by simp)) (fun _ => ?_)
    refine w_ic (n := 0) (j := 21) rfl rfl ?_
    refine w_ir rfl ?_
    exact ⟨_, _, rfl, rfl, px_kpB (px_kp.rf.up (by decide) (fun _ => by decide)) (by decide)⟩
  refine px_M (M := mt_194) (ops := mo_194) tb_194 rfl rfl rfl rfl rfl ?_
  refine w_al (j := 1) rfl rfl rfl ?_
  refine w_ic (n := 0) (j := 2) rfl rfl ?_
  refine w_pf (j := 3) rfl rfl (by first | assumption | rfl) (by first | assumption | rfl) rfl ?_
  refine w_al (j := 4) rfl rfl rfl ?_
  refine w_il (j := 5) rfl rfl rfl ?_
  refine w_ic (n := 0) (j := 6) rfl rfl ?_
  refine w_al (j := 7) rfl rfl rfl ?_
  first | refine w_gr (j := 8) rfl rfl (by first | assumption | rfl) (by first | assumption | rfl) rfl ?_ | refine w_gi (j := 8) rfl rfl (by first | assumption | rfl) (by first | assumption | rfl) rfl ht' ?_
  refine w_csI (j := 9) rfl rfl rfl rfl rfl (sp_155) rfl ?_
  by_cases cc : nI 0 ≤ w ∧ w ≤ nI t
  · rw [decide_eq_true cc]
    refine w_eqB (j := 10) rfl rfl (fun c => absurd c (by simp)) (fun _ => ?_)
    refine w_il (j := 11) rfl rfl rfl ?_
    refine w_bi (j := 12) (a := nI 60) rfl rfl (by decide) ?_
    refine w_le (j := 13) rfl rfl (fun c => absurd c (fun z => hw ⟨cc.1, z, cc.2⟩)) (fun _ => ?_)
    exact bad
  · rw [decide_eq_false cc]
    refine w_eqB (j := 10) rfl rfl (fun _ => ?_) (fun c => absurd c (by simp))
    exact bad
theorem mh_start {t q K PL : Nat} {ls : List (Nat × Nat)} (ht : h 100 1 = nI t) (X : px_tx h tx q) (q60 : q ≤ 60) (qt : q ≤ t) (t6 : t ≤ 600) (D : gH tx q [] (gx_sk tx q 0) K PL ls) : px_PI 4 194 [.ref 100, .int (nI q)] h (fun v h' => v = (if K = 0 then nI ls.length else nI K - nI 10) ∧ (∀ a, a ≠ 100 → ¬ (488 ≤ a ∧ a ≤ 493) → ¬ (481 ≤ a ∧ a ≤ 486 ∧ K = 0) → h' a = h a) ∧ (∀ j, 8 < j → j ≠ 35 ∨ K ≠ 0 → h' 100 j = h 100 j) ∧ h' 100 0 = nI 0 ∧ h' 100 1 = nI 0 ∧ h' 100 3 = (if K = 0 then -1 else nI PL) ∧ (K = 0 → h' 100 35 = nI ls.length ∧ ∀ (q : Nat) (c : Nat × Nat), ls[q]? = some c → h' (481 + q) 0 = nI c.1 ∧ h' (481 + q) 1 = nI c.2)) := by
  have ht' : ix_up h 100 0 (nI 0) 100 1 = nI t := by rw [px_up_nk (by decide)]; exact ht
  have X' : px_tx (ix_up h 100 0 (nI 0)) tx q := X.of (ix_up_ne (by decide)) (ix_up_ne (by decide))
  refine px_M (M := mt_194) (ops := mo_194) tb_194 rfl rfl rfl rfl rfl ?_
  refine w_al (j := 1) rfl rfl rfl ?_
  refine w_ic (n := 0) (j := 2) rfl rfl ?_
  refine w_pf (j := 3) rfl rfl (by first | assumption | rfl) (by first | assumption | rfl) rfl ?_
  refine w_al (j := 4) rfl rfl rfl ?_
  refine w_il (j := 5) rfl rfl rfl ?_
  refine w_ic (n := 0) (j := 6) rfl rfl ?_
  refine w_al (j := 7) rfl rfl rfl ?_
  first | refine w_gr (j := 8) rfl rfl (by first | assumption | rfl) (by first | assumption | rfl) rfl ?_ | refine w_gi (j := 8) rfl rfl (by first | assumption | rfl) (by first | assumption | rfl) rfl ht' ?_
  refine w_csI (j := 9) rfl rfl rfl rfl rfl (sp_155) rfl ?_
  rw [decide_eq_true ⟨nI_le (Nat.zero_le _) (by omega), nI_le qt (by omega)⟩]
  refine w_eqB (j := 10) rfl rfl (fun c => absurd c (by simp)) (fun _ => ?_)
  refine w_il (j := 11) rfl rfl rfl ?_
  refine w_bi (j := 12) (a := nI 60) rfl rfl (by decide) ?_
  refine w_leN (j := 13) rfl rfl (by omega) (by omega) (fun _ => ?_) (fun c => absurd c (fun c => by omega))
  refine w_ic (n := 0) (j := 16) rfl rfl ?_
  refine w_ic (n := 1) (j := 17) rfl rfl ?_
  refine w_ic (n := 1) (j := 18) rfl rfl ?_
  refine w_cvI (j := 19) rfl rfl rfl rfl (by first | assumption | rfl) rfl rfl (sp_154f (h := ix_up h 100 0 (nI 0)) rfl) rfl ?_
  refine w_eqB (j := 20) rfl rfl (fun _ => ?_) (fun c => absurd c (by simp))
  refine w_al (j := 23) rfl rfl rfl ?_
  refine w_il (j := 24) rfl rfl rfl ?_
  refine w_cvPU (j := 25) rfl rfl rfl rfl (by first | assumption | rfl) rfl rfl (sp_173 X') rfl ?_
  rintro h1 ⟨f2, z1, z7, r⟩
  refine w_ic (n := 0) (j := 26) rfl rfl ?_
  refine w_is (j := 27) rfl rfl rfl ?_
  refine px_mono (D h1 (nI q) _ _ _ r ⟨by decide, fun q c hq => by cases hq⟩) ?_
  rintro _ ⟨v, h', rfl, v1, v2, v3, v4, v5⟩
  refine ⟨_, _, rfl, v1, fun a a1 a2 a3 => ?_, fun j j8 j35 => ?_, ?_, ?_, v4, v5⟩
  · rw [v2 a a1 a2 a3, f2.1 a a1, ix_up_ne a1]
  · rw [v3 j (Or.inl ⟨j8, j35⟩), f2.2 j (Or.inl j8), px_up_nk (by omega)]
  · rw [v3 0 (by omega), f2.2 0 (by omega), px_up_at]
  · rw [v3 1 (by omega), z1]
theorem sp_12u (r : px_rd h tx n p pc 0 0 (-1)) : px_PU 4 12 [.ref 54, .ref 2] h (fun h' => ∃ K PL ls', gH tx n [] (gx_sk tx n p) K PL ls' ∧ px_fr [2, 54, 55, 56] h h' ∧ (K ≠ 0 → px_rf h' tx n 0 K (nI PL)) ∧ (K = 0 → (∃ p pc, px_rd h' tx n p pc 0 0 (-1)) ∧ gh_cl h' ls')) := by
  obtain ⟨r, ⟨K, PL, ls', h', e, q⟩, F⟩ := sp_12 r
  exact ⟨r, ⟨h', e, K, PL, ls', q⟩, F⟩
theorem sp_10 : px_PU 1 10 [.ref 51, .ref 54] h (fun h1 => px_fr [51, 52, 53] h h1 ∧ h1 51 2 = h 54 2 ∧ ∀ q, q < 6 → h1 52 q = h 55 q ∧ h1 53 q = h 56 q) := by
  refine px_M (M := mt_10) (ops := mo_10) tb_10 rfl rfl rfl rfl rfl ?_
  refine w_al (j := 1) rfl rfl rfl ?_
  refine w_al (j := 2) rfl rfl rfl ?_
  first | refine w_gr (j := 3) rfl rfl (by first | assumption | rfl) (by first | assumption | rfl) rfl ?_ | refine w_gi (j := 3) rfl rfl (by first | assumption | rfl) (by first | assumption | rfl) rfl rfl ?_
  refine w_pf (j := 4) rfl rfl (by first | assumption | rfl) (by first | assumption | rfl) rfl ?_
  refine w_al (j := 5) rfl rfl rfl ?_
  first | refine w_gr (j := 6) rfl rfl (by first | assumption | rfl) (by first | assumption | rfl) rfl ?_ | refine w_gi (j := 6) rfl rfl (by first | assumption | rfl) (by first | assumption | rfl) rfl rfl ?_
  refine w_ic (n := 0) (j := 7) rfl rfl ?_
  refine w_al (j := 8) rfl rfl rfl ?_
  first | refine w_gr (j := 9) rfl rfl (by first | assumption | rfl) (by first | assumption | rfl) rfl ?_ | refine w_gi (j := 9) rfl rfl (by first | assumption | rfl) (by first | assumption | rfl) rfl rfl ?_
  refine w_ic (n := 0) (j := 10) rfl rfl ?_
  refine w_bi (j := 11) (a := nI 6) rfl rfl (by decide) ?_
  refine w_ac (j := 12) rfl rfl (by first | assumption | rfl) (by first | assumption | rfl) rfl rfl rfl rfl rfl (by omega) (by omega) rfl ?_
  refine w_al (j := 13) rfl rfl rfl ?_
  first | refine w_gr (j := 14) rfl rfl (by first | assumption | rfl) (by first | assumption | rfl) rfl ?_ | refine w_gi (j := 14) rfl rfl (by first | assumption | rfl) (by first | assumption | rfl) rfl rfl ?_
  refine w_ic (n := 0) (j := 15) rfl rfl ?_
  refine w_al (j := 16) rfl rfl rfl ?_
  first | refine w_gr (j := 17) rfl rfl (by first | assumption | rfl) (by first | assumption | rfl) rfl ?_ | refine w_gi (j := 17) rfl rfl (by first | assumption | rfl) (by first | assumption | rfl) rfl rfl ?_
  refine w_ic (n := 0) (j := 18) rfl rfl ?_
  refine w_bi (j := 19) (a := nI 6) rfl rfl (by decide) ?_
  refine w_ac (j := 20) rfl rfl (by first | assumption | rfl) (by first | assumption | rfl) rfl rfl rfl rfl rfl (by omega) (by omega) rfl ?_
  refine w_rt rfl ?_
  refine ⟨_, rfl, ?_, ?_, fun q hq => ⟨?_, ?_⟩⟩
  · repeat first | exact px_fr.rf | refine px_fr.up ?_ (by decide) | refine px_fr.row ?_ (by decide)
  · rw [px_cpy_na (by decide), px_cpy_na (by decide), px_up_at]
  · rw [px_cpy_na (by decide), px_cpy_in (by omega) (by omega), px_up_na (by decide)]
    congr 1; omega
  · rw [px_cpy_in (by omega) (by omega), px_cpy_na (by decide), px_up_na (by decide)]
    congr 1; omega
theorem P_heard {f : ix_H} {w : Int32} (hJ : px_J f h) : px_CO 5 108 [.ref 0, .int w] h (fun v h1 => px_PI 4 194 [.ref 100, .int w] h1 (fun v2 h2 => v = v2 ∧ h2 100 0 = nI 0 ∧ px_J f h2)) (fun x h1 => x = 0 ∧ px_PI 4 194 [.ref 100, .int w] h1 (fun v2 h2 => h2 100 0 = nI 1 ∧ px_J f h2)) := by
  have hJ' := hJ
  obtain ⟨hf, B, N, T, cs, L, W, I, t, hI⟩ := hJ
  have hI' := hI
  obtain ⟨ld, lw, ln, nw, hi, tp, ct, fp⟩ := hI
  obtain ⟨tx, X⟩ := px_tapeX tp
  obtain ⟨t6, h16, h1001, -⟩ := tp
  refine px_M (M := mt_108) (ops := mo_108) tb_108 rfl rfl rfl rfl rfl ?_
  refine w_al (j := 1) rfl rfl rfl ?_
  refine w_il (j := 2) rfl rfl rfl ?_
  refine w_bi (j := 3) (a := nI 60) rfl rfl (by decide) ?_
  refine w_opn (j := 4) rfl rfl rfl rfl (by first | assumption | rfl) rfl rfl (sp_109p (w := w) (m := 60) h16 X (by decide)) rfl (fun g => ?_) (fun h1 hp => ?_)
  · refine Or.inr ⟨0, _, rfl, rfl, px_PIi (px_lift (MX_heard (t := t) h1001 g) rfl) (fun v h2 q => ⟨q.1, px_Jx (x := 0) (by decide) hJ' q.2⟩)⟩
  obtain ⟨q, q60, qt, rfl, f1, e16, z16, r⟩ := hp
  refine w_al (j := 5) rfl rfl rfl ?_
  first | refine w_gr (j := 6) rfl rfl (by first | assumption | rfl) (by first | assumption | rfl) rfl ?_ | refine w_gi (j := 6) rfl rfl (by first | assumption | rfl) (by first | assumption | rfl) rfl rfl ?_
  refine w_al (j := 7) rfl rfl rfl ?_
  first | refine w_gr (j := 8) rfl rfl (by first | assumption | rfl) (by first | assumption | rfl) rfl ?_ | refine w_gi (j := 8) rfl rfl (by first | assumption | rfl) (by first | assumption | rfl) rfl rfl ?_
  refine w_cvPU (j := 9) rfl rfl rfl rfl (by first | assumption | rfl) rfl rfl (sp_12u r) rfl ?_
  rintro h2 ⟨K, PL, ls, D, f2, kf, k0⟩
  have X2 : px_tx h2 tx q := (X.le qt).of ((f2 1 (by decide)).trans (f1 1 (by decide))) ((f2 101 (by decide)).trans (f1 101 (by decide)))
  have F12 : ∀ a, a ≠ 0 → a ≠ 2 → a ≠ 54 → a ≠ 55 → a ≠ 56 → h2 a = h a := fun a a0 a2 a3 a4 a5 => (f2 a (by simp; omega)).trans (f1 a (by simp; omega))
  have F0 : ∀ j, j ≠ 16 → h2 0 j = h 0 j := fun j hj => by rw [f2 0 (by decide)]; exact e16 j hj
  have Z0 : h2 0 16 = nI 0 := by rw [f2 0 (by decide)]; exact z16
  refine w_al (j := 10) rfl rfl rfl ?_
  by_cases hK : K = 0
  rotate_left
  · obtain ⟨-, p', pc', r2⟩ := kf hK
    refine w_cvPI (j := 11) rfl rfl rfl rfl (by first | assumption | rfl) rfl rfl (sp_110 r2) rfl ?_
    rintro v h3 ⟨y1, y2⟩
    rw [decide_eq_true hK] at y1
    rw [if_neg hK] at y2
    subst y1
    refine w_eqB (j := 12) rfl rfl (fun c => absurd c (by simp)) (fun _ => ?_)
    have r3 : px_rd h3 tx q p' pc' 0 K (nI PL) := by
      rw [y2]
      exact ⟨r2.1.of (ix_up_ne (by decide)) (ix_up_ne (by decide)), by rw [ix_up_ne (by decide)]; exact r2.2⟩
    have K3 := r2.2.2.2.2.2.2.2.2.2.1
    refine w_al (j := 13) rfl rfl rfl ?_
    first | refine w_gr (j := 14) rfl rfl (by first | assumption | rfl) (by first | assumption | rfl) rfl ?_ | refine w_gi (j := 14) rfl rfl (by first | assumption | rfl) (by first | assumption | rfl) rfl rfl ?_
    refine w_cvI (j := 15) rfl rfl rfl rfl (by first | assumption | rfl) rfl rfl (sp_57 r3) rfl ?_
    refine w_bi (j := 16) (a := nI 10) rfl rfl (by decide) ?_
    refine w_sub (j := 17) rfl rfl ?_
    refine w_ir rfl ?_
    subst y2
    refine Or.inl ⟨_, _, rfl, px_PIi (mh_start (t := t) (K := K) (PL := PL) (ls := ls) ?_ ?_ q60 qt t6 D) ?_⟩
    · rw [ix_up_ne (by decide), F12 100 (by decide) (by decide) (by decide) (by decide) (by decide)]; exact h1001
    · exact X2.of (ix_up_ne (by decide)) (ix_up_ne (by decide))
    · rintro v h4 ⟨v1, v2, v3, v4, v5, v6, -⟩
      have F4 : ∀ a, a ≠ 0 → a ≠ 2 → a ≠ 54 → a ≠ 55 → a ≠ 56 → a ≠ 100 → ¬ (488 ≤ a ∧ a ≤ 493) → h4 a = h a := fun a a0 a1 a2 a3 a4 a5 a6 => by rw [v2 a a5 a6 (by omega), ix_up_ne a0]; exact F12 a a0 a1 a2 a3 a4
      refine ⟨by rw [v1, if_neg hK], v4, fun a ha => (F4 a (by omega) (by omega) (by omega) (by omega) (by omega) (by omega) (by omega)).trans (hf a ha), B, N, T, cs, L, W, I, 0, px_Itx hI' (fun a ha a0 => ?_) (fun j j1 j2 => ?_) (fun j hj j1 j3 => ?_) ?_ v5 ?_⟩
      · have ha := of_decide_eq_true ha
        exact F4 a a0 (by omega) (by omega) (by omega) (by omega) (by omega) (by omega)
      · rw [v2 0 (by decide) (by decide) (by omega), px_up_nk j2]; exact F0 j j1
      · have hj := of_decide_eq_true hj
        rw [v3 j (by omega) (Or.inr hK), ix_up_ne (by decide), F12 100 (by decide) (by decide) (by decide) (by decide) (by decide)]
      · rw [v2 0 (by decide) (by decide) (by omega), px_up_nk (by decide)]; exact Z0
      · rw [v2 0 (by decide) (by decide) (by omega), px_up_at, v6, if_neg hK]
  · obtain ⟨⟨p', pc', r2⟩, c1, c2, c3, c4⟩ := k0 hK
    subst hK
    refine w_cvPI (j := 11) rfl rfl rfl rfl (by first | assumption | rfl) rfl rfl (sp_110 r2) rfl ?_
    rintro v h3 ⟨y1, y2⟩
    rw [decide_eq_false (fun z => z rfl)] at y1
    rw [if_pos rfl] at y2
    subst y1
    refine w_eqB (j := 12) rfl rfl (fun _ => ?_) (fun c => absurd c (by simp))
    refine w_al (j := 19) rfl rfl rfl ?_
    first | refine w_gr (j := 20) rfl rfl (by first | assumption | rfl) (by first | assumption | rfl) rfl ?_ | refine w_gi (j := 20) rfl rfl (by first | assumption | rfl) (by first | assumption | rfl) rfl rfl ?_
    refine w_al (j := 21) rfl rfl rfl ?_
    first | refine w_gr (j := 22) rfl rfl (by first | assumption | rfl) (by first | assumption | rfl) rfl ?_ | refine w_gi (j := 22) rfl rfl (by first | assumption | rfl) (by first | assumption | rfl) rfl rfl ?_
    refine w_cvPU (j := 23) rfl rfl rfl rfl (by first | assumption | rfl) rfl rfl (sp_10) rfl ?_
    rintro h4 ⟨w1, w2, w3⟩
    have e51 : h4 51 2 = nI ls.length := by rw [w2, y2, px_up_na (by decide)]; exact c1
    refine w_al (j := 24) rfl rfl rfl ?_
    first | refine w_gr (j := 25) rfl rfl (by first | assumption | rfl) (by first | assumption | rfl) rfl ?_ | refine w_gi (j := 25) rfl rfl (by first | assumption | rfl) (by first | assumption | rfl) rfl rfl ?_
    first | refine w_gr (j := 26) rfl rfl (by first | assumption | rfl) (by first | assumption | rfl) rfl ?_ | refine w_gi (j := 26) rfl rfl (by first | assumption | rfl) (by first | assumption | rfl) rfl e51 ?_
    refine w_ir rfl ?_
    refine Or.inl ⟨_, _, rfl, px_PIi (mh_start (t := t) (K := 0) (PL := PL) (ls := ls) ?_ ?_ q60 qt t6 D) ?_⟩
    · rw [w1 100 (by decide), y2, ix_up_ne (by decide), F12 100 (by decide) (by decide) (by decide) (by decide) (by decide)]; exact h1001
    · exact X2.of (by rw [w1 1 (by decide), y2, ix_up_ne (by decide)]) (by rw [w1 101 (by decide), y2, ix_up_ne (by decide)])
    · rintro v h5 ⟨v1, v2, v3, v4, v5, v6, v7⟩
      have F4 : ∀ a, a ≠ 0 → a ≠ 2 → ¬ (51 ≤ a ∧ a ≤ 56) → a ≠ 100 → ¬ (481 ≤ a ∧ a ≤ 493) → h5 a = h a := fun a a0 a1 a2 a3 a4 => by rw [v2 a a3 (by omega) (by omega), w1 a (by simp; omega), y2, ix_up_ne a0]; exact F12 a a0 a1 (by omega) (by omega) (by omega)
      have G0 : h5 0 = ix_up h2 0 17 (-1) 0 := by rw [v2 0 (by decide) (by decide) (by omega), w1 0 (by decide), y2]
      have G1 : ∀ j, 8 < j → j ≠ 35 → h5 100 j = h 100 j := fun j j1 j2 => by rw [v3 j j1 (Or.inl j2), w1 100 (by decide), y2, ix_up_ne (by decide), F12 100 (by decide) (by decide) (by decide) (by decide) (by decide)]
      have l55 : ∀ k, k < ls.length → h5 52 k = h2 55 k ∧ h5 53 k = h2 56 k := fun k hk => by
        rw [v2 52 (by decide) (by decide) (by omega), v2 53 (by decide) (by decide) (by omega), (w3 k (by omega)).1, (w3 k (by omega)).2, y2, px_up_na (by decide), px_up_na (by decide)]
        exact ⟨rfl, rfl⟩
      refine ⟨by rw [v1, if_pos rfl], v4, fun a ha => (F4 a (by omega) (by omega) (by omega) (by omega) (by omega)).trans (hf a ha), B, N, T, cs, ls.length, W, I, 0, ?_, ?_, ?_, ?_, ?_, ?_, ?_, ?_⟩
      · exact ld.of (fun a h1 h2 => F4 a (by omega) (by omega) (by omega) (by omega) (by omega)) (fun a h1 h2 => F4 a (by omega) (by omega) (by omega) (by omega) (by omega))
      · exact lw.of (fun a h1 h2 h3 => F4 a (by omega) (by omega) (by omega) (by omega) (by omega)) (G1 _ (by decide) (by decide)) (fun a h1 h2 => F4 a (by omega) (by omega) (by omega) (by omega) (by omega))
      · refine ⟨c2, ?_, (v7 rfl).1, fun k hk => ?_, fun i j hij hj => ?_⟩
        · rw [v2 51 (by decide) (by decide) (by omega)]; exact e51
        · have hg := List.getElem?_eq_getElem hk
          obtain ⟨d1, d2⟩ := (v7 rfl).2 k _ hg
          obtain ⟨d3, d4, d5, d6⟩ := c3 k _ hg
          rw [(l55 k hk).1, (l55 k hk).2, d1, d2, d3, d4]
          exact ⟨rfl, rfl, ⟨_, d5, rfl⟩, _, d6, rfl⟩
        · have hgi := List.getElem?_eq_getElem (show i < ls.length by omega)
          have hgj := List.getElem?_eq_getElem hj
          obtain ⟨d3, d4, d5, d6⟩ := c3 i _ hgi
          obtain ⟨d3', d4', d5', d6'⟩ := c3 j _ hgj
          rw [(l55 i (by omega)).1, (l55 j hj).1, d3, d3']
          exact fun z => c4 i j _ _ hij hgi hgj ((px_neq (by omega) (by omega)).mp z)
      · exact px_nowO (fun a h1 h2 => F4 a (by omega) (by omega) (by omega) (by omega) (by omega)) (F4 577 (by decide) (by decide) (by decide) (by decide) (by decide)) nw
      · exact hi.of (fun a h1 h2 => F4 a (by omega) (by omega) (by omega) (by omega) (by omega)) (G1 _ (by decide) (by decide)) (G1 _ (by decide) (by decide)) (G1 _ (by decide) (by decide)) (fun a h1 h2 => F4 a (by omega) (by omega) (by omega) (by omega) (by omega))
      · refine ⟨by decide, ?_, v5, fun i hi => by omega⟩
        rw [G0, px_up_nk (by decide)]; exact Z0
      · rw [G0, px_up_nk (by decide), px_up_nk (by decide), F0 18 (by decide), F0 19 (by decide), F4 102 (by decide) (by decide) (by decide) (by decide) (by decide)]; exact ct
      · rw [G0, px_up_at, v6, if_pos rfl]
end HD
