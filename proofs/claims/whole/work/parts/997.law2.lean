section LC
variable {h : ix_H}
theorem P_law {f : ix_H} {w : Int32} (hJ : px_J f h) : px_CO 35 106 [.ref 0, .int w] h (fun v h1 => px_PI 28 189 [.ref 100, .int w] h1 (fun v2 h2 => v = v2 ∧ h2 100 0 = nI 0 ∧ px_J f h2)) (fun x h1 => x = 0 ∧ px_PI 28 189 [.ref 100, .int w] h1 (fun v2 h2 => h2 100 0 = nI 1 ∧ px_J f h2)) := by
  have hJ' := hJ
  obtain ⟨hf, B, N, T, cs, L, W, I, t, hI⟩ := hJ
  have hI' := hI
  obtain ⟨ld, lw, ln, nw, hi, tp, ct, fp⟩ := hI
  obtain ⟨tx, X⟩ := px_tapeX tp
  obtain ⟨t6, h16, h1001, -⟩ := tp
  refine px_M (M := mt_106) (ops := mo_106) tb_106 rfl rfl rfl rfl rfl ?_
  refine w_al (j := 1) rfl rfl rfl ?_
  refine w_il (j := 2) rfl rfl rfl ?_
  refine w_si (j := 3) (a := nI 150) rfl rfl (by decide) ?_
  refine w_opn (j := 4) rfl rfl rfl rfl (by first | assumption | rfl) rfl rfl (sp_109p (w := w) (m := 150) h16 X (by decide)) rfl (fun g => ?_) (fun h1 hp => ?_)
  · refine Or.inr ⟨0, _, rfl, rfl, px_PIi (px_lift (MX_law (t := t) h1001 g) rfl) (fun v h2 q => ⟨q.1, px_Jx (x := 0) (by decide) hJ' q.2⟩)⟩
  obtain ⟨q, q60, qt, rfl, f1, e16, z16, r⟩ := hp
  refine w_al (j := 5) rfl rfl rfl ?_
  first | refine w_gr (j := 6) rfl rfl (by first | assumption | rfl) (by first | assumption | rfl) rfl ?_ | refine w_gi (j := 6) rfl rfl (by first | assumption | rfl) (by first | assumption | rfl) rfl rfl ?_
  refine w_al (j := 7) rfl rfl rfl ?_
  first | refine w_gr (j := 8) rfl rfl (by first | assumption | rfl) (by first | assumption | rfl) rfl ?_ | refine w_gi (j := 8) rfl rfl (by first | assumption | rfl) (by first | assumption | rfl) rfl rfl ?_
  refine w_cvPU (j := 9) rfl rfl rfl rfl (by first | assumption | rfl) rfl rfl (sp_40 q60 r) rfl ?_
  rintro h2 ⟨f2, C⟩
  have X2 : px_tx h2 tx q := (X.le qt).of ((f2 1 (by decide) (by omega)).trans (f1 1 (by decide))) ((f2 101 (by decide) (by omega)).trans (f1 101 (by decide)))
  have F12 : ∀ a, a ≠ 0 → a ≠ 2 → ¬ (46 ≤ a ∧ a ≤ 50) → h2 a = h a := fun a a0 a2 a3 => (f2 a a2 a3).trans (f1 a (by simp; omega))
  have F0 : ∀ j, j ≠ 16 → h2 0 j = h 0 j := fun j hj => by rw [f2 0 (by decide) (by omega)]; exact e16 j hj
  have Z0 : h2 0 16 = nI 0 := by rw [f2 0 (by decide) (by omega)]; exact z16
  refine w_al (j := 10) rfl rfl rfl ?_
  rcases C with ⟨K, PL, Bd, hK, p', pc', r2⟩ | ⟨p1, ds, G, hs, wf, Lx, p', pc', r2⟩
  ·
    refine w_cvPI (j := 11) rfl rfl rfl rfl (by first | assumption | rfl) rfl rfl (sp_110 r2) rfl ?_
    rintro v h3 ⟨y1, y2⟩
    rw [decide_eq_true hK] at y1
    rw [if_neg hK] at y2
    subst y1
    refine w_eqB (j := 12) rfl rfl (fun c => absurd c (by simp)) (fun _ => ?_)
    have r3 : px_rd h3 tx q p' pc' 0 K (nI PL) := by
      rw [y2]
      exact r2.of (ix_up_ne (by decide)) (ix_up_ne (by decide)) (ix_up_ne (by decide))
    have K3 := r2.2.2.2.2.2.2.2.2.2.1
    refine w_al (j := 13) rfl rfl rfl ?_
    first | refine w_gr (j := 14) rfl rfl (by first | assumption | rfl) (by first | assumption | rfl) rfl ?_ | refine w_gi (j := 14) rfl rfl (by first | assumption | rfl) (by first | assumption | rfl) rfl rfl ?_
    refine w_cvI (j := 15) rfl rfl rfl rfl (by first | assumption | rfl) rfl rfl (sp_57 r3) rfl ?_
    refine w_bi (j := 16) (a := nI 10) rfl rfl (by decide) ?_
    refine w_sub (j := 17) rfl rfl ?_
    refine w_ir rfl ?_
    subst y2
    refine Or.inl ⟨_, _, rfl, px_PIi (ml_bad (t := t) (K := K) (PL := PL) ?_ ?_ q60 qt t6 hK Bd) ?_⟩
    · rw [ix_up_ne (by decide), F12 100 (by decide) (by decide) (by omega)]; exact h1001
    · exact X2.of (ix_up_ne (by decide)) (ix_up_ne (by decide))
    · rintro v h4 ⟨v1, v2, v3, v4, v5, v6⟩
      have F4 : ∀ a, pf_pers a = true → a ≠ 0 → h4 a = h a := fun a ha a0 => by
        have ha := of_decide_eq_true ha
        rw [v5 a (by omega) (by omega), ix_up_ne a0]; exact F12 a a0 (by omega) (by omega)
      refine ⟨v1.symm, v2, fun a ha => (F4 a (pf_pers_i (by omega)) (by omega)).trans (hf a ha), B, N, T, cs, L, W, I, 0, px_Itx hI' F4 (fun j j1 j2 => ?_) (fun j hj j1 j3 => ?_) ?_ v3 ?_⟩
      · rw [v5 0 (by decide) (by omega), px_up_nk j2]; exact F0 j j1
      · have hj := of_decide_eq_true hj
        rw [v6 j (by omega) (by omega), ix_up_ne (by decide), F12 100 (by decide) (by decide) (by omega)]
      · rw [v5 0 (by decide) (by omega), px_up_nk (by decide)]; exact Z0
      · rw [v5 0 (by decide) (by omega), px_up_at, v4]
  ·
    refine w_cvPI (j := 11) rfl rfl rfl rfl (by first | assumption | rfl) rfl rfl (sp_110 r2) rfl ?_
    rintro v h3 ⟨y1, y2⟩
    rw [decide_eq_false (fun z => z rfl)] at y1
    rw [if_pos rfl] at y2
    subst y1
    refine w_eqB (j := 12) rfl rfl (fun _ => ?_) (fun c => absurd c (by simp))
    refine w_al (j := 19) rfl rfl rfl ?_
    first | refine w_gr (j := 20) rfl rfl (by first | assumption | rfl) (by first | assumption | rfl) rfl ?_ | refine w_gi (j := 20) rfl rfl (by first | assumption | rfl) (by first | assumption | rfl) rfl rfl ?_
    refine w_al (j := 21) rfl rfl rfl ?_
    first | refine w_gr (j := 22) rfl rfl (by first | assumption | rfl) (by first | assumption | rfl) rfl ?_ | refine w_gi (j := 22) rfl rfl (by first | assumption | rfl) (by first | assumption | rfl) rfl rfl ?_
    refine w_cvPU (j := 23) rfl rfl rfl rfl (by first | assumption | rfl) rfl rfl (sp_38) rfl ?_
    rintro h4 ⟨w1, w2, w3⟩
    refine w_ic (n := 1) (j := 24) rfl rfl ?_
    refine w_ir rfl ?_
    have g1 := G.1
    have dn : 1 ≤ ds.length := by
      cases ds with
      | nil => have := wf 0; unfold pf_wf at this; omega
      | cons a b => rw [List.length_cons]; omega
    refine Or.inl ⟨_, _, rfl, px_PIi (ml_good (t := t) (ds := ds) ?_ ?_ q60 qt t6 G hs) ?_⟩
    · rw [w1 100 (by decide), y2, ix_up_ne (by decide), F12 100 (by decide) (by decide) (by omega)]; exact h1001
    · exact X2.of (by rw [w1 1 (by decide), y2, ix_up_ne (by decide)]) (by rw [w1 101 (by decide), y2, ix_up_ne (by decide)])
    · rintro v h5 ⟨v1, v2, v3, v4, v5, v6, v7, v8⟩
      have A5 : ∀ a, a ≠ 0 → a ≠ 2 → ¬ (41 ≤ a ∧ a ≤ 50) → a ≠ 100 → ¬ (159 ≤ a ∧ a ≤ 318) → ¬ (320 ≤ a ∧ a ≤ 479) → h5 a = h a := fun a a0 a1 a2 a3 a4 a5 => by rw [v5 a a3 a4 a5, w1 a (by simp; omega), y2, ix_up_ne a0]; exact F12 a a0 a1 (by omega)
      have G0 : h5 0 = ix_up h2 0 17 (-1) 0 := by rw [v5 0 (by decide) (by omega) (by omega), w1 0 (by decide), y2]
      have G1 : ∀ j, 8 < j → j ≠ 20 → j ≠ 21 → h5 100 j = h 100 j := fun j j1 j2 j3 => by rw [v6 j j1 j2 j3, w1 100 (by decide), y2, ix_up_ne (by decide), F12 100 (by decide) (by decide) (by omega)]
      refine ⟨v1.symm, v2, fun a ha => (A5 a (by omega) (by omega) (by omega) (by omega) (by omega) (by omega)).trans (hf a ha), B, N, T, ds, L, W, I, 0, ?_, ?_, ?_, ?_, ?_, ?_, ?_, ?_⟩
      · exact ld.of (fun a h1 h2 => A5 a (by omega) (by omega) (by omega) (by omega) (by omega) (by omega)) (fun a h1 h2 => A5 a (by omega) (by omega) (by omega) (by omega) (by omega) (by omega))
      · refine ⟨⟨?_, Lx.2.1, fun k c hk => ?_⟩, Or.inl ⟨v7, dn, Lx.2.1, v8⟩, wf 0⟩
        · rw [v5 41 (by decide) (by omega) (by omega), w2, y2, px_up_na (by decide)]; exact Lx.1
        · have kl := (List.getElem?_eq_some_iff.mp hk).1
          have l150 := Lx.2.1
          rw [v5 43 (by decide) (by omega) (by omega), v5 44 (by decide) (by omega) (by omega), (w3 k (by omega)).1, (w3 k (by omega)).2, y2, px_up_na (by decide), px_up_na (by decide)]
          exact Lx.2.2 k c hk
      · exact ln.of (fun a h1 h2 => A5 a (by omega) (by omega) (by omega) (by omega) (by omega) (by omega)) (G1 _ (by decide) (by decide) (by decide)) (fun a h1 h2 => A5 a (by omega) (by omega) (by omega) (by omega) (by omega) (by omega))
      · exact px_nowO (fun a h1 h2 => A5 a (by omega) (by omega) (by omega) (by omega) (by omega) (by omega)) (A5 577 (by decide) (by decide) (by decide) (by decide) (by decide) (by decide)) nw
      · exact hi.of (fun a h1 h2 => A5 a (by omega) (by omega) (by omega) (by omega) (by omega) (by omega)) (G1 _ (by decide) (by decide) (by decide)) (G1 _ (by decide) (by decide) (by decide)) (G1 _ (by decide) (by decide) (by decide)) (fun a h1 h2 => A5 a (by omega) (by omega) (by omega) (by omega) (by omega) (by omega))
      · refine ⟨by decide, ?_, v3, fun i hi => by omega⟩
        rw [G0, px_up_nk (by decide)]; exact Z0
      · rw [G0, px_up_nk (by decide), px_up_nk (by decide), F0 18 (by decide), F0 19 (by decide), A5 102 (by decide) (by decide) (by decide) (by decide) (by decide) (by decide)]; exact ct
      · rw [G0, px_up_at, v4]
end LC
