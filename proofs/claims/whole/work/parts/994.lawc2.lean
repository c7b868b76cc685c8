section LC
variable {h : ix_H} {tx : Nat → Nat} {n p pc o k : Nat} {pl : Int32}
theorem gx_lt_no {s : Nat} (hs : s ≤ n) (hc : s < n → ¬ (97 ≤ tx s ∧ tx s ≤ 122)) : gx_lt tx n s = s := by
  refine gx_end_fix hs ?_
  by_cases e : s < n
  · exact Or.inr (decide_eq_false (hc e))
  · exact Or.inl (by omega)
theorem gx_dg_no {s : Nat} (hs : s ≤ n) (hc : s < n → ¬ (48 ≤ tx s ∧ tx s ≤ 57)) : gx_dg tx n s = s := by
  refine gx_end_fix hs ?_
  by_cases e : s < n
  · exact Or.inr (decide_eq_false (hc e))
  · exact Or.inl (by omega)
theorem gx_is_no {s : Nat} {w : List Nat} (e : gx_lt tx n s = s) (hw : 0 < w.length) : ¬ gx_is tx s (gx_lt tx n s) w := fun q => by
  have := q.1
  rw [e] at this
  omega
theorem c43_22f {D E K PL : Nat} {cs : List (Nat × Nat)} (hD : 5 ≤ D) (F : lCF h tx n (o + 1) K PL) (Bd : lB 188 E tx n o p K PL) : px_R px_E D mo_43 [] 22 [.ref 46, .ref 2] [] h 0 (fun r => ∃ h', r = (.inl none, h', 0) ∧ lR 188 E tx n o p cs h h') := by
  obtain ⟨r, cs1, L⟩ := F
  refine w_al (j := 23) rfl rfl rfl ?_
  refine w_al (j := 24) rfl rfl rfl ?_
  refine w_cvU (j := 25) rfl rfl rfl rfl (by first | assumption | rfl) rfl rfl (sp_41f r) (Nat.ble_eq.mpr (by omega)) ?_
  refine w_al (j := 26) rfl rfl rfl ?_
  refine w_bi (j := 27) (a := nI 41) rfl rfl (by decide) ?_
  refine w_cvPU (j := 28) rfl rfl rfl rfl (by first | assumption | rfl) rfl rfl (sp_63f (c := 41) (by decide) r) (Nat.ble_eq.mpr (by omega)) ?_
  rintro h1 ⟨u1, u2⟩
  refine w_al (j := 29) rfl rfl rfl ?_
  refine w_cvPU (j := 30) rfl rfl rfl rfl (by first | assumption | rfl) rfl rfl (sp_68f (by omega) u2) (Nat.ble_eq.mpr (by omega)) ?_
  rintro h2 ⟨u3, u4⟩
  rw [Nat.add_sub_cancel] at u4
  refine w_go rfl ?_
  refine w_rt rfl ?_
  exact ⟨_, rfl, u1.lc.tr u3.lc, Or.inl ⟨_, _, Bd, u4, cs1, (L.f2 u1).f2 u3⟩⟩
theorem sp_43 {Dc E : Nat} {cs : List (Nat × Nat)} (hD : 5 ≤ Dc) (hE : 6 ≤ E) (IH : o = 6 ∨ (o < 6 ∧ lCQ Dc E tx n (o + 1))) (S : lCS h tx n p o cs) : px_PU (Dc + 2) 43 [.ref 46, .ref 2] h (lR 188 (E + 1) tx n o p cs h) := by
  obtain ⟨hn, hl, L, pc, r⟩ := S
  have hp := r.2.2.2.1
  have ho : o < 1000 := by rcases IH with q | q <;> omega
  have sl := gx_sk_le (tx := tx) hp
  have ss := gx_sk_sk (tx := tx) hp
  refine px_M (M := mt_43) (ops := mo_43) tb_43 rfl rfl rfl rfl rfl ?_
  refine w_al (j := 1) rfl rfl rfl ?_
  refine w_cvI (j := 2) rfl rfl rfl rfl (by first | assumption | rfl) rfl rfl (sp_56z r) (Nat.ble_eq.mpr (by omega)) ?_
  refine w_eqB (j := 3) rfl rfl (fun _ => ?_) (fun c => absurd c (by simp))
  refine w_al (j := 5) rfl rfl rfl ?_
  refine w_cvPI (j := 6) rfl rfl rfl rfl (by first | assumption | rfl) rfl rfl (sp_60 r) (Nat.ble_eq.mpr (by omega)) ?_
  rintro v h1 ⟨v1, u1, r1⟩
  have L1 := L.f2 u1
  refine px_mono (Q := fun r => ∃ h', r = (.inl none, h', 0) ∧ lR 188 (E + 1) tx n o p cs h1 h') ?_ (fun r q => lR.frR u1.lc q)
  have b1 : gx_sk tx n p < n → tx (gx_sk tx n p) < 256 := fun z => (r1.1.2 _ z).1
  have rg := gx_rng (n := n) (tx := tx) (s := gx_sk tx n p) (A := 48) (Z := 57) b1 (by decide) (by decide)
  subst v1
  refine w_csI (j := 7) rfl rfl rfl rfl rfl (sp_69) (Nat.ble_eq.mpr (by omega)) ?_
  by_cases dg : gx_sk tx n p < n ∧ 48 ≤ tx (gx_sk tx n p) ∧ tx (gx_sk tx n p) ≤ 57
  · rw [decide_eq_true (rg.mpr dg)]
    have lt0 := gx_lt_no (tx := tx) sl.2 (fun _ => by omega)
    have nb := lU_nb (o := o) (D := E) hE (gx_is_no lt0 (by decide)) (gx_is_no lt0 (by decide)) (fun z => by omega) (fun k hk => gx_is_no lt0 (by
      have : ∀ k, k < 8 → 0 < (gx_N k).length := by decide
      exact this k hk))
    have ng := lU_ng (o := o) (D := E) hp hE (gx_is_no lt0 (by decide)) (gx_is_no lt0 (by decide)) (fun z => by omega) (fun k hk => gx_is_no lt0 (by
      have : ∀ k, k < 8 → 0 < (gx_N k).length := by decide
      exact this k hk))
    have nz := gx_nk0 (tx := tx) (lo := 0) (H := 1000) sl.2 ss
    clear lt0 rg dg
    refine w_eqB (j := 8) rfl rfl (fun c => absurd c (by simp)) (fun _ => ?_)
    refine w_al (j := 9) rfl rfl rfl ?_
    refine w_ic (n := 0) (j := 10) rfl rfl ?_
    refine w_al (j := 11) rfl rfl rfl ?_
    refine w_ic (n := 0) (j := 12) rfl rfl ?_
    refine w_si (j := 13) (a := nI 999) rfl rfl (by decide) ?_
    refine w_cvPI (j := 14) rfl rfl rfl rfl (by first | assumption | rfl) rfl rfl (sp_64d (lo := 0) (H := 1000) (by decide) (px_hiN (a := 999) (by decide)) (by decide) r1) (Nat.ble_eq.mpr (by omega)) ?_
    rintro v h2 ⟨u2, q⟩
    have L2 := L1.f2 u2
    rcases q with ⟨k1, y1, l1, l2, r2⟩ | ⟨k1, ⟨q, -, y1⟩, r2⟩
    · subst y1
      have nz := nz k1
      have ng := ng k1
      generalize gx_nv tx n (gx_sk tx n p) = V at *
      generalize gx_ne tx n (gx_sk tx n p) = P1 at *
      refine w_cvPU (j := 15) rfl rfl rfl rfl (by first | assumption | rfl) rfl rfl (sp_39 (a := 0) (b := V) px_Lr46 L2) (Nat.ble_eq.mpr (by omega)) ?_
      rintro h3 ⟨u3, L3⟩
      rw [gx_em_lt (by omega)] at L3
      refine w_go rfl ?_
      refine w_rt rfl ?_
      refine ⟨_, rfl, u2.lc.tr u3.lx, Or.inr ⟨P1, _, by omega, ng, fun d => Or.inl ⟨by show 0 < 2; decide, (fun z => by cases z), (by show V < 1000; omega), rfl⟩, hn, ?_, L3, _, r2.fr u3 (by decide) (by decide) (by decide)⟩⟩
      rw [List.length_append, List.length_singleton]
      omega
    · subst y1
      refine w_cvPU (j := 15) rfl rfl rfl rfl (by first | assumption | rfl) rfl rfl (sp_39 (a := 0) (b := q) px_Lr46 L2) (Nat.ble_eq.mpr (by omega)) ?_
      rintro h3 ⟨u3, L3⟩
      refine w_go rfl ?_
      refine w_rt rfl ?_
      refine ⟨_, rfl, u2.lc.tr u3.lx, Or.inl ⟨_, _, nb k1, ?_, _, L3⟩⟩
      rw [ss] at r2
      exact r2.lx u3
  rw [decide_eq_false (fun z => dg (rg.mp z))]
  refine w_eqB (j := 8) rfl rfl (fun _ => ?_) (fun c => absurd c (by simp))
  refine w_al (j := 17) rfl rfl rfl ?_
  refine w_bi (j := 18) (a := nI 40) rfl rfl (by decide) ?_
  refine w_cvPI (j := 19) rfl rfl rfl rfl (by first | assumption | rfl) rfl rfl (sp_62 (c := 40) (by decide) r1) (Nat.ble_eq.mpr (by omega)) ?_
  rintro v h2 ⟨v2, u2, r2⟩
  rw [ss] at v2 r2
  have L2 := L1.f2 u2
  refine px_mono (Q := fun r => ∃ h', r = (.inl none, h', 0) ∧ lR 188 (E + 1) tx n o p cs h2 h') ?_ (fun r q => lR.frR u2.lc q)
  subst v2
  by_cases np : gx_sk tx n p < n ∧ tx (gx_sk tx n p) = 40
  · rw [if_pos np] at r2
    rw [decide_eq_true np]
    refine w_eqB (j := 20) rfl rfl (fun c => absurd c (by simp)) (fun _ => ?_)
    refine w_al (j := 21) rfl rfl rfl ?_
    refine w_cvPU (j := 22) rfl rfl rfl rfl (by first | assumption | rfl) rfl rfl (sp_67 ho r2) (Nat.ble_eq.mpr (by omega)) ?_
    rintro h3 ⟨u3, r3⟩
    have L3 := L2.f2 u3
    refine px_mono (Q := fun r => ∃ h', r = (.inl none, h', 0) ∧ lR 188 (E + 1) tx n o p cs h3 h') ?_ (fun r q => lR.frR u3.lc q)
    rcases IH with rfl | ⟨o6, IH⟩
    · rw [if_pos (by decide), if_pos (by decide)] at r3
      exact c43_22f (K := 3) (PL := gx_sk tx n p) (by omega) ⟨⟨by decide, _, _, by simpa [gx_fk, gx_fp] using r3⟩, cs, L3⟩ (lU_p3 hE np)
    rw [if_neg (by omega), if_neg (by omega)] at r3
    refine w_al (j := 23) rfl rfl rfl ?_
    refine w_al (j := 24) rfl rfl rfl ?_
    refine w_cvPU (j := 25) rfl rfl rfl rfl (by first | assumption | rfl) rfl rfl (IH h3 (gx_sk tx n p + 1) cs ⟨hn, by omega, L3, _, r3⟩) (Nat.ble_eq.mpr (by omega)) ?_
    rintro h4 ⟨F4, q⟩
    refine px_mono (Q := fun r => ∃ h', r = (.inl none, h', 0) ∧ lR 188 (E + 1) tx n o p cs h4 h') ?_ (fun r q => lR.frR F4 q)
    rcases q with ⟨K, PL, Bd, rf, cs4, L4⟩ | ⟨p1, ds, p1l, G, wf1, n1, l1, L4, pc4, r4⟩
    · have B2 := lU_pb hE o6 np rf.1 Bd
      refine w_al (j := 26) rfl rfl rfl ?_
      refine w_bi (j := 27) (a := nI 41) rfl rfl (by decide) ?_
      refine w_cvPU (j := 28) rfl rfl rfl rfl (by first | assumption | rfl) rfl rfl (sp_63f (c := 41) (by decide) rf) (Nat.ble_eq.mpr (by omega)) ?_
      rintro h5 ⟨u5, r5⟩
      refine w_al (j := 29) rfl rfl rfl ?_
      refine w_cvPU (j := 30) rfl rfl rfl rfl (by first | assumption | rfl) rfl rfl (sp_68f (by omega) r5) (Nat.ble_eq.mpr (by omega)) ?_
      rintro h6 ⟨u6, r6⟩
      rw [Nat.add_sub_cancel] at r6
      refine w_go rfl ?_
      refine w_rt rfl ?_
      exact ⟨_, rfl, u5.lc.tr u6.lc, Or.inl ⟨_, _, B2, r6, cs4, (L4.f2 u5).f2 u6⟩⟩
    have sl1 := gx_sk_le (tx := tx) G.1.2
    have g1 := G.1
    refine w_al (j := 26) rfl rfl rfl ?_
    refine w_bi (j := 27) (a := nI 41) rfl rfl (by decide) ?_
    refine w_cvPU (j := 28) rfl rfl rfl rfl (by first | assumption | rfl) rfl rfl (sp_63 (c := 41) (by decide) r4) (Nat.ble_eq.mpr (by omega)) ?_
    rintro h5 ⟨u5, r5⟩
    by_cases hz : gx_sk tx n p1 < n ∧ tx (gx_sk tx n p1) = 41
    · rw [if_pos hz] at r5
      refine w_al (j := 29) rfl rfl rfl ?_
      refine w_cvPU (j := 30) rfl rfl rfl rfl (by first | assumption | rfl) rfl rfl (sp_68 (by omega) r5) (Nat.ble_eq.mpr (by omega)) ?_
      rintro h6 ⟨u6, r6⟩
      rw [Nat.add_sub_cancel] at r6
      refine w_go rfl ?_
      refine w_rt rfl ?_
      exact ⟨_, rfl, u5.lc.tr u6.lc, Or.inr ⟨_, ds, by omega, lU_pg hp hE o6 np G hz, wf1, hn, by omega, (L4.f2 u5).f2 u6, _, r6⟩⟩
    · rw [if_neg hz] at r5
      refine w_al (j := 29) rfl rfl rfl ?_
      refine w_cvPU (j := 30) rfl rfl rfl rfl (by first | assumption | rfl) rfl rfl (sp_68 (by omega) r5) (Nat.ble_eq.mpr (by omega)) ?_
      rintro h6 ⟨u6, r6⟩
      rw [Nat.add_sub_cancel] at r6
      refine w_go rfl ?_
      refine w_rt rfl ?_
      exact ⟨_, rfl, u5.lc.tr u6.lc, Or.inl ⟨1, _, lU_ps hE o6 np G hz, ⟨by decide, _, _, by simpa [gx_fk, gx_fp] using r6⟩, _, (L4.f2 u5).f2 u6⟩⟩
  rw [if_neg np] at r2
  rw [decide_eq_false np]
  refine w_eqB (j := 20) rfl rfl (fun _ => ?_) (fun c => absurd c (by simp))
  refine w_al (j := 32) rfl rfl rfl ?_
  refine w_cvPU (j := 33) rfl rfl rfl rfl (by first | assumption | rfl) rfl rfl (sp_65 r2) (Nat.ble_eq.mpr (by omega)) ?_
  rintro h3 ⟨u3, r3⟩
  rw [ss] at r3
  have L3 := L2.f2 u3
  refine px_mono (Q := fun r => ∃ h', r = (.inl none, h', 0) ∧ lR 188 (E + 1) tx n o p cs h3 h') ?_ (fun r q => lR.frR u3.lc q)
  refine w_al (j := 34) rfl rfl rfl ?_
  refine w_ls (j := 35) rfl rfl ?_
  refine w_cvPI (j := 36) rfl rfl rfl rfl (by first | assumption | rfl) rfl rfl (sp_66 gwd_least r3) (Nat.ble_eq.mpr (by omega)) ?_
  rintro v h4 ⟨rfl, d, rfl, d0⟩
  refine w_eqB (j := 37) rfl rfl (fun c0 => ?_) (fun c0 => ?_)
  rotate_left
  ·
    refine w_al (j := 38) rfl rfl rfl ?_
    refine w_al (j := 39) rfl rfl rfl ?_
    refine w_bi (j := 40) (a := nI 7) rfl rfl (by decide) ?_
    refine w_cvPU (j := 41) rfl rfl rfl rfl (by first | assumption | rfl) rfl rfl (sp_44 (w := 7) hp hn hl (by omega) hE rfl rfl (Or.inl ⟨rfl, d0.mp c0⟩) IH L3 r3) (Nat.ble_eq.mpr (by omega)) ?_
    rintro h5 q
    refine w_go rfl ?_
    refine w_rt rfl ?_
    exact ⟨_, rfl, q⟩
  have nl : ¬ gx_is tx (gx_sk tx n p) (gx_lt tx n (gx_sk tx n p)) gw_least := fun q => by rw [d0.mpr q] at c0; cases c0
  clear d0 c0
  refine w_al (j := 43) rfl rfl rfl ?_
  refine w_ls (j := 44) rfl rfl ?_
  refine w_cvPI (j := 45) rfl rfl rfl rfl (by first | assumption | rfl) rfl rfl (sp_66 gwd_most r3) (Nat.ble_eq.mpr (by omega)) ?_
  rintro v h4 ⟨rfl, d, rfl, d0⟩
  refine w_eqB (j := 46) rfl rfl (fun c0 => ?_) (fun c0 => ?_)
  rotate_left
  ·
    refine w_al (j := 47) rfl rfl rfl ?_
    refine w_al (j := 48) rfl rfl rfl ?_
    refine w_bi (j := 49) (a := nI 8) rfl rfl (by decide) ?_
    refine w_cvPU (j := 50) rfl rfl rfl rfl (by first | assumption | rfl) rfl rfl (sp_44 (w := 8) hp hn hl (by omega) hE rfl rfl (Or.inr ⟨rfl, d0.mp c0⟩) IH L3 r3) (Nat.ble_eq.mpr (by omega)) ?_
    rintro h5 q
    refine w_go rfl ?_
    refine w_rt rfl ?_
    exact ⟨_, rfl, q⟩
  have nm : ¬ gx_is tx (gx_sk tx n p) (gx_lt tx n (gx_sk tx n p)) gw_most := fun q => by rw [d0.mpr q] at c0; cases c0
  clear d0 c0
  refine w_al (j := 52) rfl rfl rfl ?_
  refine w_ic (n := 1) (j := 53) rfl rfl ?_
  refine w_al (j := 54) rfl rfl rfl ?_
  refine w_csPI (j := 55) rfl rfl rfl rfl rfl (sp_45 r3) (Nat.ble_eq.mpr (by omega)) ?_
  rintro v h5 q
  rcases q with ⟨k, hk, rfl, is, rfl⟩ | ⟨rfl, nk, u5, r5⟩
  · have ll := gx_lt_le (tx := tx) sl.2
    have wl : ∀ k, k < 8 → 0 < (gx_N k).length := by decide
    have el := gx_is_len is (wl k hk)
    have wk := wl k hk
    have G := lU_name (o := o) (D := E) hp hE hk is
    generalize gx_lt tx n (gx_sk tx n p) = P1 at *
    refine w_cvPU (j := 56) rfl rfl rfl rfl (by first | assumption | rfl) rfl rfl (sp_39 (a := 1) (b := k) px_Lr46 L3) (Nat.ble_eq.mpr (by omega)) ?_
    rintro h6 ⟨u6, L6⟩
    rw [gx_em_lt (by omega)] at L6
    refine w_rt rfl ?_
    refine ⟨_, rfl, u6.lx, Or.inr ⟨P1, _, by omega, G, fun d => Or.inl ⟨by show 1 < 2; decide, fun _ => hk, by show k < 1000; omega, rfl⟩, hn, ?_, L6, _, r3.fr u6 (by decide) (by decide) (by decide)⟩⟩
    rw [List.length_append, List.length_singleton]
    omega
  · have d1 : gx_nk tx n 0 1000 (gx_sk tx n p) = 1 := by
      unfold gx_nk
      rw [ss, if_pos (gx_dg_no sl.2 (fun z q => dg ⟨z, q.1, q.2⟩))]
    have nb := lU_nb (o := o) (D := E) hE nl nm np nk (by rw [d1]; decide)
    rw [d1] at nb
    refine w_cvPU (j := 56) rfl rfl rfl rfl (by first | assumption | rfl) rfl rfl (sp_39 (a := 1) (b := 7) px_Lr46 (L3.f2 u5)) (Nat.ble_eq.mpr (by omega)) ?_
    rintro h6 ⟨u6, L6⟩
    refine w_rt rfl ?_
    exact ⟨_, rfl, u5.lc.tr u6.lx, Or.inl ⟨_, _, nb, r5.lx u6, _, L6⟩⟩
end LC
