section GO
variable {h : ix_H} {tx : Nat → Nat} {n p pc o k : Nat} {pl : Int32}
theorem sp_19u (r : px_rd h tx n p pc 0 0 (-1)) : px_PU 6 19 [.ref 22, .ref 2] h (fun h' => ∃ K PL st', gG tx n 0 gx_s0 (gx_sk tx n p) K PL st' ∧ gcF h h' ∧ (K ≠ 0 → px_rf h' tx n 0 K (nI PL)) ∧ (K = 0 → (∃ p pc, px_rd h' tx n p pc 0 0 (-1)) ∧ gx_ws st' ∧ gx_cs h' st' ∧ ∀ a b, a < 6 → b < 6 → h' (35 + a) b = gx_en (gx_D1 (gx_D0 (fun a b => st' (5 + a) b)) 6 a b))) := by
  obtain ⟨r, ⟨K, PL, ls', h', e, q⟩, F⟩ := sp_19 r
  exact ⟨r, ⟨h', e, K, PL, ls', q⟩, F⟩
theorem pf_bt0 : ∀ b, b < 6 → pf_bt (nI 0) b = nI 0 := by decide
theorem P_gorge {f : ix_H} {w : Int32} (hJ : px_J f h) : px_CO 7 104 [.ref 0, .int w] h (fun v h1 => px_PI 7 177 [.ref 100, .int w] h1 (fun v2 h2 => v = v2 ∧ h2 100 0 = nI 0 ∧ px_J f h2)) (fun x h1 => x = 0 ∧ px_PI 7 177 [.ref 100, .int w] h1 (fun v2 h2 => h2 100 0 = nI 1 ∧ px_J f h2)) := by
  have hJ' := hJ
  obtain ⟨hf, B, N, T, cs, L, W, I, t, hI⟩ := hJ
  have hI' := hI
  obtain ⟨ld, lw, ln, nw, hi, tp, ct, fp⟩ := hI
  obtain ⟨tx, X⟩ := px_tapeX tp
  obtain ⟨t6, h16, h1001, -⟩ := tp
  refine px_M (M := mt_104) (ops := mo_104) tb_104 rfl rfl rfl rfl rfl ?_
  refine w_al (j := 1) rfl rfl rfl ?_
  refine w_il (j := 2) rfl rfl rfl ?_
  refine w_si (j := 3) (a := nI 600) rfl rfl (by decide) ?_
  refine w_opn (j := 4) rfl rfl rfl rfl (by first | assumption | rfl) rfl rfl (sp_109p (w := w) (m := 600) h16 X (by decide)) rfl (fun g => ?_) (fun h1 hp => ?_)
  · refine Or.inr ⟨0, _, rfl, rfl, px_PIi (px_lift (MX_gorge (t := t) h1001 g t6) rfl) (fun v h2 q => ⟨q.1, px_Jx (x := 0) (by decide) hJ' q.2⟩)⟩
  obtain ⟨q, q60, qt, rfl, f1, e16, z16, r⟩ := hp
  refine w_al (j := 5) rfl rfl rfl ?_
  first | refine w_gr (j := 6) rfl rfl (by first | assumption | rfl) (by first | assumption | rfl) rfl ?_ | refine w_gi (j := 6) rfl rfl (by first | assumption | rfl) (by first | assumption | rfl) rfl rfl ?_
  refine w_al (j := 7) rfl rfl rfl ?_
  first | refine w_gr (j := 8) rfl rfl (by first | assumption | rfl) (by first | assumption | rfl) rfl ?_ | refine w_gi (j := 8) rfl rfl (by first | assumption | rfl) (by first | assumption | rfl) rfl rfl ?_
  refine w_cvPU (j := 9) rfl rfl rfl rfl (by first | assumption | rfl) rfl rfl (sp_19u r) rfl ?_
  rintro h2 ⟨K, PL, st, D, f2, kf, k0⟩
  have X2 : px_tx h2 tx q := (X.le qt).of ((f2 1 (by omega)).trans (f1 1 (by decide))) ((f2 101 (by omega)).trans (f1 101 (by decide)))
  have F12 : ∀ a, a ≠ 0 → ¬ (a = 2 ∨ (22 ≤ a ∧ a ≤ 40)) → h2 a = h a := fun a a0 a2 => (f2 a a2).trans (f1 a (by simp; omega))
  have F0 : ∀ j, j ≠ 16 → h2 0 j = h 0 j := fun j hj => by rw [f2 0 (by omega)]; exact e16 j hj
  have Z0 : h2 0 16 = nI 0 := by rw [f2 0 (by omega)]; exact z16
  refine w_al (j := 10) rfl rfl rfl ?_
  by_cases hK : K = 0
  rotate_left
  · obtain ⟨-, p', pc', r2⟩ := kf hK
    refine w_cvPI (j := 11) rfl rfl rfl rfl (by first | assumption | rfl) rfl rfl (sp_110 r2) rfl ?_
    rintro v h3 ⟨y1, y2⟩
    rw [decide_eq_true hK] at y1
    rw [if_neg hK] at y2
    subst y1
    refine w_eqB (j := 12) rfl rfl (fun c => absurd c (by simp)) (fun _ => ?_)
    have r3 : px_rd h3 tx q p' pc' 0 K (nI PL) := by
      rw [y2]
      exact r2.of (ix_up_ne (by decide)) (ix_up_ne (by decide)) (ix_up_ne (by decide))
    have K3 := r2.2.2.2.2.2.2.2.2.2.1
    refine w_al (j := 13) rfl rfl rfl ?_
    first | refine w_gr (j := 14) rfl rfl (by first | assumption | rfl) (by first | assumption | rfl) rfl ?_ | refine w_gi (j := 14) rfl rfl (by first | assumption | rfl) (by first | assumption | rfl) rfl rfl ?_
    refine w_cvI (j := 15) rfl rfl rfl rfl (by first | assumption | rfl) rfl rfl (sp_57 r3) rfl ?_
    refine w_bi (j := 16) (a := nI 10) rfl rfl (by decide) ?_
    refine w_sub (j := 17) rfl rfl ?_
    refine w_ir rfl ?_
    subst y2
    refine Or.inl ⟨_, _, rfl, px_PIi (mg_start (t := t) (K := K) (PL := PL) (st := st) ?_ ?_ qt t6 (fun z => absurd z hK) D) ?_⟩
    · rw [ix_up_ne (by decide), F12 100 (by decide) (by omega)]; exact h1001
    · exact X2.of (ix_up_ne (by decide)) (ix_up_ne (by decide))
    · rintro v h4 ⟨v0, v1, v2, -⟩
      obtain ⟨v3, v4, v5, v6⟩ := v2 hK
      have A4 : ∀ a, a ≠ 100 → ¬ (a = 103 ∨ (105 ≤ a ∧ a ≤ 111) ∨ (119 ≤ a ∧ a ≤ 127) ∨ (137 ≤ a ∧ a ≤ 143)) → h4 a = ix_up h2 0 17 (nI PL) a := fun a a1 a2 => by
        have := v5 a a1 a2
        rw [ix_up_ne a1, ix_up_ne a1, ix_up_ne a1, ix_up_ne a1] at this
        exact this
      have F4 : ∀ a, pf_pers a = true → a ≠ 0 → h4 a = h a := fun a ha a0 => by
        have ha := of_decide_eq_true ha
        rw [A4 a (by omega) (by omega), ix_up_ne a0]; exact F12 a a0 (by omega)
      refine ⟨v3.symm, v0, fun a ha => (F4 a (pf_pers_i (by omega)) (by omega)).trans (hf a ha), B, N, T, cs, L, W, I, 0, px_Itx hI' F4 (fun j j1 j2 => ?_) (fun j hj j1 j3 => ?_) ?_ v1 ?_⟩
      · rw [A4 0 (by decide) (by omega), px_up_nk j2]; exact F0 j j1
      · have hj := of_decide_eq_true hj
        have := v6 j (by omega)
        rw [px_up_nk (by omega), px_up_nk j3, px_up_nk j1, px_up_nk (by omega), ix_up_ne (by decide), F12 100 (by decide) (by omega)] at this
        exact this
      · rw [A4 0 (by decide) (by omega), px_up_nk (by decide)]; exact Z0
      · rw [A4 0 (by decide) (by omega), px_up_at, v4]
  · obtain ⟨⟨p', pc', r2⟩, ws, cs2, ds⟩ := k0 hK
    subst hK
    have w1 := ws.1
    have w2 := ws.2.1
    refine w_cvPI (j := 11) rfl rfl rfl rfl (by first | assumption | rfl) rfl rfl (sp_110 r2) rfl ?_
    rintro v h3 ⟨y1, y2⟩
    rw [decide_eq_false (fun z => z rfl)] at y1
    rw [if_pos rfl] at y2
    subst y1
    refine w_eqB (j := 12) rfl rfl (fun _ => ?_) (fun c => absurd c (by simp))
    refine w_al (j := 19) rfl rfl rfl ?_
    first | refine w_gr (j := 20) rfl rfl (by first | assumption | rfl) (by first | assumption | rfl) rfl ?_ | refine w_gi (j := 20) rfl rfl (by first | assumption | rfl) (by first | assumption | rfl) rfl rfl ?_
    refine w_al (j := 21) rfl rfl rfl ?_
    first | refine w_gr (j := 22) rfl rfl (by first | assumption | rfl) (by first | assumption | rfl) rfl ?_ | refine w_gi (j := 22) rfl rfl (by first | assumption | rfl) (by first | assumption | rfl) rfl rfl ?_
    refine w_cvPU (j := 23) rfl rfl rfl rfl (by first | assumption | rfl) rfl rfl (sp_27) rfl ?_
    rintro h4 ⟨a1, a2, a3, a4, a5⟩
    have c3 : gx_cs h3 st := cs2.of (fun a _ _ => by rw [y2, ix_up_ne (by omega)])
    have d3 : ∀ a b, a < 6 → b < 6 → h3 (35 + a) b = gx_en (gx_D1 (gx_D0 (fun a b => st (5 + a) b)) 6 a b) := fun a b ha hb => by rw [y2, ix_up_ne (by omega)]; exact ds a b ha hb
    have n4 : h4 3 7 = nI (st 0 1) := a2.2.1.trans c3.1.2.1
    refine w_al (j := 24) rfl rfl rfl ?_
    refine w_cvPU (j := 25) rfl rfl rfl rfl (by first | assumption | rfl) rfl rfl (sp_105 (N := st 0 1) n4 w2) rfl ?_
    rintro h5 ⟨b1, b2, b3, b4, b5, b6, b7, b8⟩
    have n5 : h5 3 7 = nI (st 0 1) := by rw [b1 3 (by decide)]; exact n4
    refine w_al (j := 26) rfl rfl rfl ?_
    first | refine w_gr (j := 27) rfl rfl (by first | assumption | rfl) (by first | assumption | rfl) rfl ?_ | refine w_gi (j := 27) rfl rfl (by first | assumption | rfl) (by first | assumption | rfl) rfl rfl ?_
    first | refine w_gr (j := 28) rfl rfl (by first | assumption | rfl) (by first | assumption | rfl) rfl ?_ | refine w_gi (j := 28) rfl rfl (by first | assumption | rfl) (by first | assumption | rfl) rfl n5 ?_
    refine w_ir rfl ?_
    refine Or.inl ⟨_, _, rfl, px_PIi (mg_start (t := t) (K := 0) (PL := PL) (st := st) ?_ ?_ qt t6 (fun _ => ws) D) ?_⟩
    · rw [b1 100 (by decide), a1 100 (by omega), y2, ix_up_ne (by decide), F12 100 (by decide) (by omega)]; exact h1001
    · exact X2.of (by rw [b1 1 (by decide), a1 1 (by omega), y2, ix_up_ne (by decide)]) (by rw [b1 101 (by decide), a1 101 (by omega), y2, ix_up_ne (by decide)])
    · rintro v h6 ⟨v0, v1, -, v2⟩
      obtain ⟨v3, v4, h7, ⟨v5, v6⟩, g1, g2, g3, g4, g5, g6, g7, g8, g9, g10, g11⟩ := v2 rfl
      have V5 : ∀ a, a ≠ 100 → ¬ (a = 103 ∨ (105 ≤ a ∧ a ≤ 111) ∨ (119 ≤ a ∧ a ≤ 127) ∨ (137 ≤ a ∧ a ≤ 143)) → h7 a = h5 a := fun a a1 a2 => by
        have := v5 a a1 a2
        rw [ix_up_ne a1, ix_up_ne a1, ix_up_ne a1, ix_up_ne a1] at this
        exact this
      have C6 : ∀ a, a < 100 → h6 a = h5 a := fun a ha => by rw [g1 a (by omega), V5 a (by omega) (by omega)]
      have C4 : ∀ a, 3 ≤ a → a ≤ 21 → h6 a = h4 a := fun a x1 x2 => by rw [C6 a (by omega), b1 a (by simp; omega)]
      have O6 : ∀ a, 3000 ≤ a → h6 a = h a := fun a ha => by rw [g1 a (by omega), V5 a (by omega) (by omega), b1 a (by simp; omega), a1 a (by omega), y2, ix_up_ne (by omega)]; exact F12 a (by omega) (by omega)
      have G0 : h6 0 = ix_up h2 0 17 (-1) 0 := by rw [C6 0 (by decide), b1 0 (by decide), a1 0 (by omega), y2]
      have BI := gx_BI_1 (gx_BI_0 (P := fun a b => st (5 + a) b) ws.2.2.2.2.2.2.2) 6 (by decide)
      refine ⟨v3.symm, v0, fun a ha => (O6 a ha).trans (hf a ha), st 0 0, st 0 1, st 0 2, pf_usual, 0, 0, 0, 0, ?_, ?_, ?_, ?_, ?_, ?_, ?_, ?_⟩
      · unfold px_land
        rw [C4 3 (by decide) (by decide), C4 4 (by decide) (by decide), C4 5 (by decide) (by decide), C4 6 (by decide) (by decide), C4 7 (by decide) (by decide), a2.1, a2.2.1, a2.2.2.1, a2.2.2.2, c3.1.1, c3.1.2.1, c3.1.2.2.1, c3.1.2.2.2, g4 0 (by decide), g4 1 (by decide), g4 2 (by decide), g4 3 (by decide)]
        refine ⟨rfl, rfl, w1, rfl, rfl, w2, rfl, rfl, ws.2.2.1, ws.2.2.2.1, rfl, fun b hb => ?_, fun c hc => ?_, fun a b ha hb => ?_, fun _ a b ha hb => ?_⟩
        · rw [(a3 b (by omega)).1, (a3 b (by omega)).2, (c3.2.1 b hb).1, (c3.2.1 b hb).2, (g5 b hb).1, (g5 b hb).2]
          exact ⟨rfl, rfl, _, (ws.2.2.2.2.2.1 b hb).2.1, (ws.2.2.2.2.2.1 b hb).2.2, rfl⟩
        · rw [(a4 c (by omega)).1, (a4 c (by omega)).2, (c3.2.2.1 c hc).1, (c3.2.2.1 c hc).2, (g6 c hc).1, (g6 c hc).2]
          exact ⟨rfl, ⟨_, (ws.2.2.2.2.2.2.1 c hc).1, rfl⟩, rfl, _, (ws.2.2.2.2.2.2.1 c hc).2.1, (ws.2.2.2.2.2.2.1 c hc).2.2, rfl⟩
        · rw [C4 _ (by omega) (by omega), (a5 a b ha hb).1, c3.2.2.2 a b ha hb, (g7 a b ha hb).1]
          exact ⟨rfl, _, ws.2.2.2.2.2.2.2 a b ha hb, rfl⟩
        · rw [C4 _ (by omega) (by omega), (a5 a b ha hb).2, d3 a b ha hb, (g7 a b ha hb).2]
          obtain ⟨i1, i2⟩ := BI a b ha hb
          generalize gx_D1 (gx_D0 (fun a b => st (5 + a) b)) 6 a b = z at i1 i2
          rcases i1 with i1 | i1
          · subst i1
            exact Or.inl ⟨fun e => by have := i2.mpr e; omega, if_pos rfl, rfl⟩
          · exact Or.inr ⟨z, by omega, if_neg (by omega), rfl, i2⟩
      · refine ⟨?_, Or.inr ⟨g3.1, rfl⟩, pf_wfu⟩
        have := b2.of (h' := h6) (C6 41 (by decide)) (C6 (41 + 2) (by decide)) (C6 (41 + 3) (by decide))
        exact this
      · refine ⟨by decide, ?_, g3.2.1, fun k hk => by omega, fun i j _ hj => by omega⟩
        rw [C6 51 (by decide)]; exact b3
      · unfold px_now px_sq
        rw [C6 64 (by decide), C6 (64 + 1) (by decide), C6 (64 + 2) (by decide), C6 (64 + 3) (by decide)]
        refine ⟨fun c hc => ?_, fun c hc => ?_, fun c hc => ?_, ⟨0, by decide, b6⟩, fun b hb => ?_, ?_, ?_, 0, by decide, b8, fun c hc => ⟨0, by decide, (b5 c hc).2.1⟩⟩
        · have e1 := (b5 c hc).1
          have e2 := (g8 c hc).2
          show h5 65 c = h6 577 (8 + c) ∧ ∃ q, q ≤ 99 ∧ h5 65 c = nI q
          rw [e1, e2]
          by_cases d : c < st 0 1
          · rw [if_pos d, if_pos d, (a4 c hc).2, (c3.2.2.1 c d).2]
            exact ⟨rfl, _, (ws.2.2.2.2.2.2.1 c d).2.2, rfl⟩
          · rw [if_neg d, if_neg d]
            exact ⟨rfl, 0, by decide, rfl⟩
        · show h5 66 c = h6 577 (16 + c)
          rw [(b5 c hc).2.1, g9 _ (by omega) (by omega)]
        · show h5 67 c = h6 577 c ∧ (h5 67 c = -2 ∨ h5 67 c = -1 ∨ ∃ b, b < st 0 0 ∧ h5 67 c = nI b)
          rw [(b5 c hc).2.2, (g8 c hc).1]
          exact ⟨rfl, Or.inr (Or.inl rfl)⟩
        · rw [b6, pf_bt0 b hb, g9 _ (by omega) (by omega)]
        · rw [b7, g10, a2.2.2.2, c3.1.2.2.2]
        · rw [b8, g11]
      · refine ⟨by decide, ?_, g3.2.2.1, by decide, ?_, g3.2.2.2.2, ?_, fun w hw => by omega, fun i hi => by omega⟩
        · rw [C6 72 (by decide)]; exact b4.1
        · rw [C6 72 (by decide)]; exact b4.2.1
        · rw [C6 72 (by decide), b4.2.2, g3.2.2.2.1]
      · refine ⟨by decide, ?_, v1, fun i hi => by omega⟩
        rw [G0, px_up_nk (by decide)]; exact Z0
      · rw [G0, px_up_nk (by decide), px_up_nk (by decide), F0 18 (by decide), F0 19 (by decide), g1 102 (by omega), V5 102 (by decide) (by omega), b1 102 (by decide), a1 102 (by omega), y2, ix_up_ne (by decide), F12 102 (by decide) (by omega)]; exact ct
      · rw [G0, px_up_at, v4]
end GO
