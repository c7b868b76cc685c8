section WC
variable {h : ix_H}
theorem px_sav_eq {f f' : Nat → Int32} {o : Nat} {m m' : Nat → Int32} {B : Nat} (e : ∀ j, o ≤ j → j < o + 27 → f' j = f j) (em : ∀ j, j < 32 → m' j = m j) (x : px_sav f o m B) : px_sav f' o m' B := by
  unfold px_sav at x ⊢
  refine px_sq_congr (fun c hc => ?_) (fun c hc => ?_) (fun c hc => ?_) (e _ (by omega) (by omega)) (e _ (by omega) (by omega)) (e _ (by omega) (by omega)) em x
  · exact e _ (by omega) (by omega)
  · exact e _ (by omega) (by omega)
  · exact e _ (by omega) (by omega)
theorem P_work {f : ix_H} {w : Int32} (hJ : px_J f h) : px_CO 27 107 [.ref 0, .int w] h (fun v h1 => px_PI 16 207 [.ref 100, .int w] h1 (fun v2 h2 => v = v2 ∧ h2 100 0 = nI 0 ∧ px_J f h2)) (fun x h1 => x = 0 ∧ px_PI 16 207 [.ref 100, .int w] h1 (fun v2 h2 => h2 100 0 = nI 1 ∧ px_J f h2)) := by
  have hJ' := hJ
  obtain ⟨hf, B, N, T, cs, L, W, I, t, hI⟩ := hJ
  have hI' := hI
  obtain ⟨ld, lw, ln, nw, hi, tp, ct, fp⟩ := hI
  have ld' := ld
  have hi' := hi
  obtain ⟨i1, i2, i3, i4, i5, i6, i7, i8, i9⟩ := hi'
  obtain ⟨a1, a2, a3, a4, a5, a6, a7, a8, a9, a10, a11, a12, a13, a14, a15⟩ := ld'
  obtain ⟨tx, X⟩ := px_tapeX tp
  obtain ⟨t6, h16, h1001, -⟩ := tp
  refine px_M (M := mt_107) (ops := mo_107) tb_107 rfl rfl rfl rfl rfl ?_
  refine w_al (j := 1) rfl rfl rfl ?_
  refine w_il (j := 2) rfl rfl rfl ?_
  refine w_si (j := 3) (a := nI 150) rfl rfl (by decide) ?_
  refine w_opn (j := 4) rfl rfl rfl rfl (by first | assumption | rfl) rfl rfl (sp_109p (w := w) (m := 150) h16 X (by decide)) rfl (fun g => ?_) (fun h1 hp => ?_)
  · refine Or.inr ⟨0, _, rfl, rfl, px_PIi (px_lift (MX_work (t := t) h1001 g) rfl) (fun v h2 q => ⟨q.1, px_Jx (x := 0) (by decide) hJ' q.2⟩)⟩
  obtain ⟨q, q60, qt, rfl, f1, e16, z16, r⟩ := hp
  have V := sp_14 (h := h1) i1 (by rw [f1 72 (by decide)]; exact i2)
  refine w_al (j := 5) rfl rfl rfl ?_
  first | refine w_gr (j := 6) rfl rfl (by first | assumption | rfl) (by first | assumption | rfl) rfl ?_ | refine w_gi (j := 6) rfl rfl (by first | assumption | rfl) (by first | assumption | rfl) rfl rfl ?_
  refine w_cvI (j := 7) rfl rfl rfl rfl (by first | assumption | rfl) rfl rfl (V) rfl ?_
  by_cases c16 : W = 16
  · rw [decide_eq_true c16]
    subst c16
    refine w_eqB (j := 8) rfl rfl (fun c => absurd c (by simp)) (fun _ => ?_)
    refine w_al (j := 9) rfl rfl rfl ?_
    refine w_im (j := 10) rfl rfl ?_
    refine w_pf (j := 11) rfl rfl (by first | assumption | rfl) (by first | assumption | rfl) rfl ?_
    refine w_bi (j := 12) (a := (-20)) rfl rfl (by decide) ?_
    refine w_ir rfl ?_
    refine Or.inl ⟨_, _, rfl, px_PIi (mk_full (t := t) ?_ q60 qt t6 ?_) ?_⟩
    · rw [ix_up_ne (by decide), f1 100 (by decide)]; exact h1001
    · rw [ix_up_ne (by decide), f1 100 (by decide)]; exact i3
    · rintro v h4 ⟨v1, rfl⟩
      have F4 : ∀ a, a ≠ 0 → a ≠ 2 → a ≠ 100 → ix_up (ix_up (ix_up (ix_up h1 0 17 (-1)) 100 0 (nI 0)) 100 1 (nI 0)) 100 3 (-1) a = h a := fun a x0 x2 x1 => by rw [ix_up_ne x1, ix_up_ne x1, ix_up_ne x1, ix_up_ne x0]; exact f1 a (by simp; omega)
      refine ⟨v1.symm, ?_, fun a ha => (F4 a (by omega) (by omega) (by omega)).trans (hf a ha), B, N, T, cs, L, 16, I, 0, px_Itx hI' (fun a ha x0 => ?_) (fun j j1 j2 => ?_) (fun j hj j1 j3 => ?_) ?_ ?_ ?_⟩
      · rw [px_up_nk (by decide), px_up_nk (by decide), px_up_at]
      · have ha := of_decide_eq_true ha
        exact F4 a x0 (by omega) (by omega)
      · rw [ix_up_ne (by decide), ix_up_ne (by decide), ix_up_ne (by decide), px_up_nk j2]; exact e16 j j1
      · have hj := of_decide_eq_true hj
        rw [px_up_nk j3, px_up_nk j1, px_up_nk (by omega), ix_up_ne (by decide), f1 100 (by decide)]
      · rw [ix_up_ne (by decide), ix_up_ne (by decide), ix_up_ne (by decide), px_up_nk (by decide)]; exact z16
      · rw [px_up_nk (by decide), px_up_at]
      · rw [ix_up_ne (by decide), ix_up_ne (by decide), ix_up_ne (by decide), px_up_at, px_up_at]
  rw [decide_eq_false c16]
  refine w_eqB (j := 8) rfl rfl (fun _ => ?_) (fun c => absurd c (by simp))
  refine w_al (j := 14) rfl rfl rfl ?_
  first | refine w_gr (j := 15) rfl rfl (by first | assumption | rfl) (by first | assumption | rfl) rfl ?_ | refine w_gi (j := 15) rfl rfl (by first | assumption | rfl) (by first | assumption | rfl) rfl rfl ?_
  refine w_al (j := 16) rfl rfl rfl ?_
  first | refine w_gr (j := 17) rfl rfl (by first | assumption | rfl) (by first | assumption | rfl) rfl ?_ | refine w_gi (j := 17) rfl rfl (by first | assumption | rfl) (by first | assumption | rfl) rfl rfl ?_
  refine w_al (j := 18) rfl rfl rfl ?_
  first | refine w_gr (j := 19) rfl rfl (by first | assumption | rfl) (by first | assumption | rfl) rfl ?_ | refine w_gi (j := 19) rfl rfl (by first | assumption | rfl) (by first | assumption | rfl) rfl rfl ?_
  have W16 : W < 16 := by omega
  have tc : wTc (cs, N, B, T, h 5, h 4, h 6) h1 := by
    unfold wTc
    rw [f1 3 (by decide)]
    exact ⟨⟨a1, a3⟩, a4, a6⟩
  refine w_cvPU (j := 20) rfl rfl rfl rfl (by first | assumption | rfl) rfl rfl (sp_93 q60 tc r) rfl ?_
  rintro h2 ⟨⟨f2, f257⟩, C⟩
  have X2 : px_tx h2 tx q := (X.le qt).of ((f2 1 (by decide) (by omega)).trans (f1 1 (by decide))) ((f2 101 (by decide) (by omega)).trans (f1 101 (by decide)))
  have F12 : ∀ a, a ≠ 0 → a ≠ 2 → ¬ (57 ≤ a ∧ a ≤ 60) → h2 a = h a := fun a a0 a2 a3 => (f2 a a2 a3).trans (f1 a (by simp; omega))
  have F0 : ∀ j, j ≠ 16 → h2 0 j = h 0 j := fun j hj => by rw [f2 0 (by decide) (by omega)]; exact e16 j hj
  have Z0 : h2 0 16 = nI 0 := by rw [f2 0 (by decide) (by omega)]; exact z16
  refine w_al (j := 21) rfl rfl rfl ?_
  rcases C with ⟨K, PL, Bd, hK, p', pc', r2⟩ | ⟨m, p2, DD, i', sg, c2, hDD, n4, i150, ⟨P, P1, P2, P3⟩, p', pc', r2⟩
  ·
    refine w_cvPI (j := 22) rfl rfl rfl rfl (by first | assumption | rfl) rfl rfl (sp_110 r2) rfl ?_
    rintro v h3 ⟨y1, y2⟩
    rw [decide_eq_true hK] at y1
    rw [if_neg hK] at y2
    subst y1
    refine w_eqB (j := 23) rfl rfl (fun c => absurd c (by simp)) (fun _ => ?_)
    have r3 : px_rd h3 tx q p' pc' 0 K (nI PL) := by
      rw [y2]
      exact r2.of (ix_up_ne (by decide)) (ix_up_ne (by decide)) (ix_up_ne (by decide))
    have K3 := r2.2.2.2.2.2.2.2.2.2.1
    refine w_al (j := 24) rfl rfl rfl ?_
    first | refine w_gr (j := 25) rfl rfl (by first | assumption | rfl) (by first | assumption | rfl) rfl ?_ | refine w_gi (j := 25) rfl rfl (by first | assumption | rfl) (by first | assumption | rfl) rfl rfl ?_
    refine w_cvI (j := 26) rfl rfl rfl rfl (by first | assumption | rfl) rfl rfl (sp_57 r3) rfl ?_
    refine w_bi (j := 27) (a := nI 10) rfl rfl (by decide) ?_
    refine w_sub (j := 28) rfl rfl ?_
    refine w_ir rfl ?_
    subst y2
    have tm : wT (cs, N, B, T, h 5, h 4, h 6) (ix_up h2 0 17 (nI PL)) := by
      unfold wT
      rw [ix_up_ne (by decide), F12 104 (by decide) (by decide) (by omega)]
      exact ⟨⟨a2, a3⟩, a5, a6⟩
    refine Or.inl ⟨_, _, rfl, px_PIi (mk_bad (t := t) (W := W) (K := K) (PL := PL) ?_ ?_ q60 qt t6 ?_ W16 tm hK Bd) ?_⟩
    · rw [ix_up_ne (by decide), F12 100 (by decide) (by decide) (by omega)]; exact h1001
    · exact X2.of (ix_up_ne (by decide)) (ix_up_ne (by decide))
    · rw [ix_up_ne (by decide), F12 100 (by decide) (by decide) (by omega)]; exact i3
    · rintro v h4 ⟨v1, v2, v3, v4, v5, v6⟩
      have F4 : ∀ a, pf_pers a = true → a ≠ 0 → h4 a = h a := fun a ha a0 => by
        have ha := of_decide_eq_true ha
        rw [v5 a (by omega) (by omega), ix_up_ne a0]; exact F12 a a0 (by omega) (by omega)
      refine ⟨v1.symm, v2, fun a ha => (F4 a (pf_pers_i (by omega)) (by omega)).trans (hf a ha), B, N, T, cs, L, W, I, 0, px_Itx hI' F4 (fun j j1 j2 => ?_) (fun j hj j1 j3 => ?_) ?_ v3 ?_⟩
      · rw [v5 0 (by decide) (by omega), px_up_nk j2]; exact F0 j j1
      · have hj := of_decide_eq_true hj
        rw [v6 j (by omega) (by omega), ix_up_ne (by decide), F12 100 (by decide) (by decide) (by omega)]
      · rw [v5 0 (by decide) (by omega), px_up_nk (by decide)]; exact Z0
      · rw [v5 0 (by decide) (by omega), px_up_at, v4]
  ·
    refine w_cvPI (j := 22) rfl rfl rfl rfl (by first | assumption | rfl) rfl rfl (sp_110 r2) rfl ?_
    rintro v h3 ⟨y1, y2⟩
    rw [decide_eq_false (fun z => z rfl)] at y1
    rw [if_pos rfl] at y2
    subst y1
    refine w_eqB (j := 23) rfl rfl (fun _ => ?_) (fun c => absurd c (by simp))
    refine w_al (j := 30) rfl rfl rfl ?_
    first | refine w_gr (j := 31) rfl rfl (by first | assumption | rfl) (by first | assumption | rfl) rfl ?_ | refine w_gi (j := 31) rfl rfl (by first | assumption | rfl) (by first | assumption | rfl) rfl rfl ?_
    refine w_al (j := 32) rfl rfl rfl ?_
    first | refine w_gr (j := 33) rfl rfl (by first | assumption | rfl) (by first | assumption | rfl) rfl ?_ | refine w_gi (j := 33) rfl rfl (by first | assumption | rfl) (by first | assumption | rfl) rfl rfl ?_
    have A3 : ∀ a, a ≠ 0 → h3 a = h2 a := fun a x => by rw [y2, ix_up_ne x]
    refine w_cvPU (j := 34) rfl rfl rfl rfl (by first | assumption | rfl) rfl rfl (sp_15 W16 (by rw [A3 72 (by decide), F12 72 (by decide) (by decide) (by omega)]; exact i2)) rfl ?_
    rintro h4 ⟨h40, sq, e4⟩
    have A4 : ∀ a, a ≠ 0 → a ≠ 72 → a ≠ 73 → h4 a = h2 a := fun a x0 x1 x2 => by rw [e4, ix_up_ne x1, sq.1 a (by simpa using x2)]; exact A3 a x0
    have A4h : ∀ a, a ≠ 0 → a ≠ 2 → ¬ (57 ≤ a ∧ a ≤ 60) → a ≠ 72 → a ≠ 73 → h4 a = h a := fun a x0 x1 x2 x3 x4 => (A4 a x0 x3 x4).trans (F12 a x0 x1 x2)
    obtain ⟨nx1, nx2, nx3⟩ := px_nowX nw
    have E4 : pw_cE cs N B T (h 5) (h 4) (h 6) h4 := by
      refine ⟨?_, ?_, ?_, ?_, ?_, ?_, ?_, lw.2.2⟩
      · rw [A4h 3 (by decide) (by decide) (by omega) (by decide) (by decide)]; exact ⟨a4, a6⟩
      · rw [A4h 3 (by decide) (by decide) (by omega) (by decide) (by decide)]; exact ⟨a1, a3⟩
      · rw [A4h 3 (by decide) (by decide) (by omega) (by decide) (by decide)]; exact a7
      · exact A4h 5 (by decide) (by decide) (by omega) (by decide) (by decide)
      · exact A4h 4 (by decide) (by decide) (by omega) (by decide) (by decide)
      · exact A4h 6 (by decide) (by decide) (by omega) (by decide) (by decide)
      · have := lw.1
        unfold px_lw at this ⊢
        rw [A4h 41 (by decide) (by decide) (by omega) (by decide) (by decide), A4h 43 (by decide) (by decide) (by omega) (by decide) (by decide), A4h 44 (by decide) (by decide) (by omega) (by decide) (by decide)]
        exact this
    have R4 : pw_cR (pf_cS h 64, h 64 5) h4 := by
      obtain ⟨⟨s1, s2, s3, s4, s5⟩, s6⟩ := nx2
      unfold pw_cR pf_cR
      rw [A4h 64 (by decide) (by decide) (by omega) (by decide) (by decide), A4h (64 + 1) (by decide) (by decide) (by omega) (by decide) (by decide), A4h (64 + 2) (by decide) (by decide) (by omega) (by decide) (by decide), A4h (64 + 3) (by decide) (by decide) (by omega) (by decide) (by decide)]
      exact ⟨⟨s1, s2, s3, s4, s5⟩, s6⟩
    have P4 : P h4 := P1 _ _ (fun k _ _ => by rw [A4 58 (by decide) (by decide) (by decide), A4 59 (by decide) (by decide) (by decide), A4 60 (by decide) (by decide) (by decide)]; exact ⟨rfl, rfl, rfl⟩) P2
    refine w_al (j := 35) rfl rfl rfl ?_
    first | refine w_gr (j := 36) rfl rfl (by first | assumption | rfl) (by first | assumption | rfl) rfl ?_ | refine w_gi (j := 36) rfl rfl (by first | assumption | rfl) (by first | assumption | rfl) rfl rfl ?_
    refine w_al (j := 37) rfl rfl rfl ?_
    first | refine w_gr (j := 38) rfl rfl (by first | assumption | rfl) (by first | assumption | rfl) rfl ?_ | refine w_gi (j := 38) rfl rfl (by first | assumption | rfl) (by first | assumption | rfl) rfl rfl ?_
    refine w_al (j := 39) rfl rfl rfl ?_
    first | refine w_gr (j := 40) rfl rfl (by first | assumption | rfl) (by first | assumption | rfl) rfl ?_ | refine w_gi (j := 40) rfl rfl (by first | assumption | rfl) (by first | assumption | rfl) rfl rfl ?_
    refine w_cvPU (j := 41) rfl rfl rfl rfl (by first | assumption | rfl) rfl rfl (sp_97 (z := (cs, N, B, T, h 5, h 4, h 6)) i150 (by rw [A4 57 (by decide) (by decide) (by decide)]; exact n4) P1 P4 P3 E4 hDD nx1 R4) rfl ?_
    rintro h5 ⟨f5, st5⟩
    obtain ⟨d5, d6, d7⟩ := st5
    generalize hs : DD ((0, 0, 0), (pf_cS h 64, h 64 5)) = s at *
    have so2 := (hDD.2 ((0, 0, 0), (pf_cS h 64, h 64 5)) ⟨Nat.zero_le _, Nat.le_refl _, Nat.le_refl _, nx1⟩).1
    rw [hs] at so2
    have d5' : ix_up h5 72 5 (nI s.1.2.2) 57 5 = nI s.1.2.1 := by rw [px_up_na (by decide)]; exact d5
    refine w_al (j := 42) rfl rfl rfl ?_
    first | refine w_gr (j := 43) rfl rfl (by first | assumption | rfl) (by first | assumption | rfl) rfl ?_ | refine w_gi (j := 43) rfl rfl (by first | assumption | rfl) (by first | assumption | rfl) rfl rfl ?_
    refine w_al (j := 44) rfl rfl rfl ?_
    first | refine w_gr (j := 45) rfl rfl (by first | assumption | rfl) (by first | assumption | rfl) rfl ?_ | refine w_gi (j := 45) rfl rfl (by first | assumption | rfl) (by first | assumption | rfl) rfl rfl ?_
    first | refine w_gr (j := 46) rfl rfl (by first | assumption | rfl) (by first | assumption | rfl) rfl ?_ | refine w_gi (j := 46) rfl rfl (by first | assumption | rfl) (by first | assumption | rfl) rfl d6 ?_
    refine w_pf (j := 47) rfl rfl (by first | assumption | rfl) (by first | assumption | rfl) rfl ?_
    refine w_al (j := 48) rfl rfl rfl ?_
    first | refine w_gr (j := 49) rfl rfl (by first | assumption | rfl) (by first | assumption | rfl) rfl ?_ | refine w_gi (j := 49) rfl rfl (by first | assumption | rfl) (by first | assumption | rfl) rfl rfl ?_
    first | refine w_gr (j := 50) rfl rfl (by first | assumption | rfl) (by first | assumption | rfl) rfl ?_ | refine w_gi (j := 50) rfl rfl (by first | assumption | rfl) (by first | assumption | rfl) rfl d5' ?_
    refine w_ir rfl ?_
    have A6 : ∀ a, a ≠ 0 → a ≠ 2 → a ≠ 42 → a ≠ 45 → ¬ (57 ≤ a ∧ a ≤ 67) → a ≠ 72 → a ≠ 73 → ix_up h5 72 5 (nI s.1.2.2) a = h a := fun a x0 x1 x2 x3 x4 x5 x6 => by rw [ix_up_ne x5, f5 a (by simp; omega)]; exact A4h a x0 x1 (by omega) x5 x6
    have G0 : ix_up h5 72 5 (nI s.1.2.2) 0 = ix_up h2 0 17 (-1) 0 := by rw [ix_up_ne (by decide), f5 0 (by decide), e4, ix_up_ne (by decide), sq.1 0 (by decide), y2]
    have G73 : ix_up h5 72 5 (nI s.1.2.2) 73 = h40 73 := by rw [ix_up_ne (by decide), f5 73 (by decide), e4, ix_up_ne (by decide)]
    have G72 : ∀ j, j ≠ 3 → j ≠ 5 → ix_up h5 72 5 (nI s.1.2.2) 72 j = h 72 j := fun j j1 j2 => by rw [px_up_nk j2, f5 72 (by decide), e4, px_up_nk j1, sq.1 72 (by decide), A3 72 (by decide), F12 72 (by decide) (by decide) (by omega)]
    have G723 : ix_up h5 72 5 (nI s.1.2.2) 72 3 = nI (W + 1) := by rw [px_up_nk (by decide), f5 72 (by decide), e4, px_up_at]
    have tm : wT (cs, N, B, T, h 5, h 4, h 6) (ix_up h5 72 5 (nI s.1.2.2)) := by
      unfold wT
      rw [A6 104 (by decide) (by decide) (by decide) (by decide) (by omega) (by decide) (by decide)]
      exact ⟨⟨a2, a3⟩, a5, a6⟩
    have E6 : pw_mE cs N B T (h 5) (h 4) (h 6) (ix_up h5 72 5 (nI s.1.2.2)) := by
      have e104 := A6 104 (by decide) (by decide) (by decide) (by decide) (by omega) (by decide) (by decide)
      refine ⟨by rw [e104]; exact ⟨a5, a6⟩, a3, by rw [e104]; exact a8, fun b hb => ?_, fun c hc => ?_, ?_, lw.2.2⟩
      · rw [A6 (113 + b) (by omega) (by omega) (by omega) (by omega) (by omega) (by omega) (by omega)]
        exact ⟨(a12 b hb).2.1.symm, (a12 b hb).1.symm⟩
      · rw [A6 (129 + c) (by omega) (by omega) (by omega) (by omega) (by omega) (by omega) (by omega)]
        exact (a13 c hc).1.symm
      · rcases lw.2.1 with ⟨l1, l2, l3, l4⟩ | ⟨l1, l2⟩
        · refine Or.inl ⟨by rw [A6 100 (by decide) (by decide) (by decide) (by decide) (by omega) (by decide) (by decide)]; exact l1, l2, l3, fun k c hk => ?_⟩
          have kl := (List.getElem?_eq_some_iff.mp hk).1
          rw [A6 (159 + k) (by omega) (by omega) (by omega) (by omega) (by omega) (by omega) (by omega)]; exact l4 k c hk
        · exact Or.inr ⟨by rw [A6 100 (by decide) (by decide) (by decide) (by decide) (by omega) (by decide) (by decide)]; exact l1, l2⟩
    refine Or.inl ⟨_, _, rfl, px_PIi (mk_good (t := t) (W := W) (X0 := (pf_cS h 64, h 64 5)) ?_ ?_ q60 qt t6 ?_ W16 tm sg c2 hDD E6 nx1 ?_) ?_⟩
    · rw [A6 100 (by decide) (by decide) (by decide) (by decide) (by omega) (by decide) (by decide)]; exact h1001
    · exact (X.le qt).of (A6 1 (by decide) (by decide) (by decide) (by decide) (by omega) (by decide) (by decide)) (A6 101 (by decide) (by decide) (by decide) (by decide) (by omega) (by decide) (by decide))
    · rw [A6 100 (by decide) (by decide) (by decide) (by decide) (by omega) (by decide) (by decide)]; exact i3
    · rw [A6 577 (by decide) (by decide) (by decide) (by decide) (by omega) (by decide) (by decide)]; exact nx3
    · rintro v h7 ⟨v1, v2, v3, v4, v5, v6, v7, v8, v9, v10⟩
      rw [hs] at v1 v6 v7
      have A7 : ∀ a, a ≠ 0 → a ≠ 2 → a ≠ 42 → a ≠ 45 → ¬ (57 ≤ a ∧ a ≤ 67) → a ≠ 72 → a ≠ 73 → a ≠ 100 → ¬ (494 ≤ a ∧ a ≤ 579) → a ≠ 581 + W → h7 a = h a := fun a x0 x1 x2 x3 x4 x5 x6 x7 x8 x9 => by rw [v9 a x7 (by omega) (by omega) (by omega) (by omega) x9 (by omega)]; exact A6 a x0 x1 x2 x3 x4 x5 x6
      have C7 : ∀ a, a ≤ 99 → h7 a = ix_up h5 72 5 (nI s.1.2.2) a := fun a x => v9 a (by omega) (by omega) (by omega) (by omega) (by omega) (by omega) (by omega)
      have J7 : ∀ j, 8 < j → j ≠ 29 → j ≠ 36 → j ≠ 37 → j ≠ 40 → j ≠ 41 → h7 100 j = h 100 j := fun j x1 x2 x3 x4 x5 x6 => by rw [v10 j x1 x2 x3 x4 x5 x6, A6 100 (by decide) (by decide) (by decide) (by decide) (by omega) (by decide) (by decide)]
      refine ⟨v1.symm, v2, fun a ha => (A7 a (by omega) (by omega) (by omega) (by omega) (by omega) (by omega) (by omega) (by omega) (by omega) (by omega)).trans (hf a ha), B, N, T, cs, L, W + 1, I, 0, ?_, ?_, ?_, ?_, ?_, ?_, ?_, ?_⟩
      · exact ld.of (fun a h1 h2 => A7 a (by omega) (by omega) (by omega) (by omega) (by omega) (by omega) (by omega) (by omega) (by omega) (by omega)) (fun a h1 h2 => A7 a (by omega) (by omega) (by omega) (by omega) (by omega) (by omega) (by omega) (by omega) (by omega) (by omega))
      · exact lw.of (fun a h1 h2 h3 => A7 a (by omega) (by omega) (by omega) (by omega) (by omega) (by omega) (by omega) (by omega) (by omega) (by omega)) (J7 20 (by decide) (by decide) (by decide) (by decide) (by decide) (by decide)) (fun a h1 h2 => A7 a (by omega) (by omega) (by omega) (by omega) (by omega) (by omega) (by omega) (by omega) (by omega) (by omega))
      · exact ln.of (fun a h1 h2 => A7 a (by omega) (by omega) (by omega) (by omega) (by omega) (by omega) (by omega) (by omega) (by omega) (by omega)) (J7 35 (by decide) (by decide) (by decide) (by decide) (by decide) (by decide)) (fun a h1 h2 => A7 a (by omega) (by omega) (by omega) (by omega) (by omega) (by omega) (by omega) (by omega) (by omega) (by omega))
      · refine px_nowY so2.2.2.2 ?_ v7
        obtain ⟨⟨s1, s2, s3, s4, s5⟩, s6⟩ := d7
        unfold pw_cR pf_cR
        rw [C7 64 (by decide), C7 (64 + 1) (by decide), C7 (64 + 2) (by decide), C7 (64 + 3) (by decide), ix_up_ne (by decide), ix_up_ne (by decide), ix_up_ne (by decide), ix_up_ne (by decide)]
        exact ⟨⟨s1, s2, s3, s4, s5⟩, s6⟩
      · unfold px_hist
        rw [C7 72 (by decide), C7 73 (by decide), G723, G72 4 (by decide) (by decide), px_up_at, G73, v5, v6, J7 38 (by decide) (by decide) (by decide) (by decide) (by decide) (by decide), A7 74 (by decide) (by decide) (by decide) (by decide) (by omega) (by decide) (by decide) (by decide) (by omega) (by omega), A7 75 (by decide) (by decide) (by decide) (by decide) (by omega) (by decide) (by decide) (by decide) (by omega) (by omega)]
        obtain ⟨sq1, sq2, sq3, sq4, sq5, sq6, sq7, sq8⟩ := sq
        have h73 : h3 73 = h 73 := (A3 73 (by decide)).trans (F12 73 (by decide) (by decide) (by omega))
        refine ⟨by omega, rfl, rfl, i4, i5, i6, rfl, fun w hw => ?_, fun i hi => ?_⟩
        · by_cases e : w = W
          · subst e
            have K3 : ∀ a, 64 ≤ a → a ≤ 67 → h3 a = h a := fun a x1 x2 => (A3 a (by omega)).trans (F12 a (by omega) (by omega) (by omega))
            refine px_sq_congr (fun c hc => ?_) (fun c hc => ?_) (fun c hc => ?_) ?_ ?_ ?_ (fun j hj => ?_) nw
            · exact (sq2 c hc).trans (by rw [K3 65 (by decide) (by decide)])
            · exact (sq3 c hc).trans (by rw [K3 66 (by decide) (by decide)])
            · exact (sq4 c hc).trans (by rw [K3 67 (by decide) (by decide)])
            · exact sq5.trans (by rw [K3 64 (by decide) (by decide)])
            · exact sq6.trans (by rw [K3 64 (by decide) (by decide)])
            · exact sq7.trans (by rw [K3 64 (by decide) (by decide)])
            · rw [v8 j hj, A6 577 (by decide) (by decide) (by decide) (by decide) (by omega) (by decide) (by decide)]
          · refine px_sav_eq (fun j j1 j2 => ?_) (fun j _ => ?_) (i8 w (by omega))
            · rw [sq8 j (by omega), h73]
            · rw [A7 (581 + w) (by omega) (by omega) (by omega) (by omega) (by omega) (by omega) (by omega) (by omega) (by omega) (by omega)]
        · rw [A7 (598 + i) (by omega) (by omega) (by omega) (by omega) (by omega) (by omega) (by omega) (by omega) (by omega) (by omega)]; exact i9 i hi
      · refine ⟨by decide, ?_, v3, fun i hi => by omega⟩
        rw [C7 0 (by decide), G0, px_up_nk (by decide)]; exact Z0
      · rw [C7 0 (by decide), G0, px_up_nk (by decide), px_up_nk (by decide), F0 18 (by decide), F0 19 (by decide), A7 102 (by decide) (by decide) (by decide) (by decide) (by omega) (by decide) (by decide) (by decide) (by omega) (by omega)]; exact ct
      · rw [C7 0 (by decide), G0, px_up_at, v4]
end WC
