section LC
variable {h : ix_H} {tx : Nat → Nat} {n p pc o k : Nat} {pl : Int32}
theorem pf_wf_stp {ds ds' : List (Nat × Nat)} {w : Nat} (w1 : ∀ d, pf_wf ds d (d + 1)) (w2 : ∀ d, pf_wf ds' (d + 1) (d + 1)) (hw : 2 ≤ w) (hw2 : w ≤ 8) : ∀ d, pf_wf (ds ++ [(w, 0)] ++ ds') (d + 1) (d + 1) := fun d => by
  refine pf_wf_app _ _ (d + 1) (d + 1) _ (pf_wf_app _ _ (d + 1) (d + 2) _ (w1 (d + 1)) ?_) (w2 d)
  exact Or.inr ⟨hw, hw2, by show 0 < 1000; decide, by omega, by show d + 2 - 1 = d + 1; omega⟩
def lLP (E : Nat) (tx : Nat → Nat) (n o p : Nat) (cs : List (Nat × Nat)) (h h' : ix_H) : Prop := lcF h h' ∧ ((∃ K PL, lPB E tx n o p K PL ∧ lCF h' tx n o K PL) ∨ ∃ p' ds, p ≤ p' ∧ lPG E tx n o p p' ds ∧ (∀ d, pf_wf ds (d + 1) (d + 1)) ∧ lCS h' tx n p' o (cs ++ ds))
theorem lLP.frR {E : Nat} {cs : List (Nat × Nat)} {h h1 : ix_H} {r : ix_R} (f : lcF h h1) (q : ∃ h', r = (.inl none, h', 0) ∧ lLP E tx n o p cs h1 h') : ∃ h', r = (.inl none, h', 0) ∧ lLP E tx n o p cs h h' := by
  obtain ⟨h', e, q⟩ := q
  exact ⟨h', e, f.tr q.1, q.2⟩
def lUP (D E : Nat) (tx : Nat → Nat) (n o : Nat) : Prop := ∀ h p cs, lCS h tx n p o cs → px_PU D 43 [.ref 46, .ref 2] h (lR 188 E tx n o p cs h)
theorem c42_5f {D K PL i : Nat} {g3 : Value} (hD : 1 ≤ D) (hi : i ≤ 200) (F : lCF h tx n o K PL) : px_R px_E D mo_42 [] 5 [.ref 46, .ref 2, .int (nI i), g3] [] h 0 (fun r => r = (.inl none, h, 0)) := by
  obtain ⟨rf, -⟩ := F
  refine w_il (j := 6) rfl rfl rfl ?_
  refine w_si (j := 7) (a := nI 150) rfl rfl (by decide) ?_
  refine w_geN (j := 8) rfl rfl (by omega) (by omega) (fun c => ?_) (fun c => ?_)
  ·
    refine w_rt rfl ?_
    rfl
  ·
    refine w_al (j := 9) rfl rfl rfl ?_
    refine w_cvI (j := 10) rfl rfl rfl rfl (by first | assumption | rfl) rfl rfl (sp_56f rf) (Nat.ble_eq.mpr (by omega)) ?_
    refine w_neB (j := 11) rfl rfl (fun _ => ?_) (fun c => absurd c (by simp))
    refine w_rt rfl ?_
    rfl
theorem c42_unit {D E w i : Nat} {cs : List (Nat × Nat)} (hD : 3 ≤ D) (hE : 3 ≤ E) (hn : n ≤ 150) (hi : i + 1 ≤ p) (hp : p ≤ n) (hl : cs.length ≤ p) (hU : lUP D E tx n o) (IH : ∀ (p1 : Nat) (h : ix_H) (cs : List (Nat × Nat)) (i : Nat) (g3 : Value), p < p1 → i + 1 ≤ p1 → lCS h tx n p1 o cs → px_R px_E D mo_42 [] 5 [.ref 46, .ref 2, .int (nI i), g3] [] h 0 (fun r => ∃ h', r = (.inl none, h', 0) ∧ lLP E tx n o p1 cs h h')) (hs : gx_sk tx n p < n) (hw : (tx (gx_sk tx n p) = 42 ∧ w = 4) ∨ (tx (gx_sk tx n p) = 47 ∧ w = 5) ∨ (tx (gx_sk tx n p) = 37 ∧ w = 6)) (L : px_lx h 46 cs) (r : px_rd h tx n (gx_sk tx n p + 1) pc o 0 (-1)) : px_R px_E D mo_42 [] 35 [.ref 46, .ref 2, .int (nI i), .int (nI w)] [] h 0 (fun r => ∃ h', r = (.inl none, h', 0) ∧ lLP E tx n o p cs h h') := by
  have sl := gx_sk_le (tx := tx) hp
  have w2 : 2 ≤ w ∧ w ≤ 8 := by omega
  refine w_al (j := 36) rfl rfl rfl ?_
  refine w_al (j := 37) rfl rfl rfl ?_
  refine w_cvPU (j := 38) rfl rfl rfl rfl (by first | assumption | rfl) rfl rfl (hU h (gx_sk tx n p + 1) cs ⟨hn, by omega, L, _, r⟩) (Nat.ble_eq.mpr (by omega)) ?_
  rintro h1 ⟨F1, q⟩
  rcases q with ⟨K, PL, Bd, rf, cs1, L1⟩ | ⟨p1, ds, p1l, G, wf1, n1, l1, L1, pc1, r1⟩
  · have B2 := lPB_u hE hs hw rf.1 Bd
    refine w_al (j := 39) rfl rfl rfl ?_
    refine w_il (j := 40) rfl rfl rfl ?_
    refine w_ic (n := 0) (j := 41) rfl rfl ?_
    refine w_cvPU (j := 42) rfl rfl rfl rfl (by first | assumption | rfl) rfl rfl (sp_39 (a := w) (b := 0) px_Lr46 L1) (Nat.ble_eq.mpr (by omega)) ?_
    rintro h2 ⟨u2, L2⟩
    first | refine w_incN (j := 43) rfl rfl rfl ?_ | refine w_inc (j := 43) rfl rfl rfl rfl ?_
    refine w_go rfl ?_
    refine px_mono (c42_5f (by omega) (by omega) ⟨rf.lx u2, _, L2⟩) ?_
    rintro _ rfl
    exact ⟨_, rfl, F1.tr u2.lx, Or.inl ⟨_, _, B2, rf.lx u2, _, L2⟩⟩
  · have g1 := G.1
    have lc : (cs ++ ds).length = cs.length + ds.length := List.length_append
    have lc2 : (cs ++ ds ++ [(w, 0)]).length = cs.length + ds.length + 1 := by rw [List.length_append, List.length_append, List.length_singleton]
    refine w_al (j := 39) rfl rfl rfl ?_
    refine w_il (j := 40) rfl rfl rfl ?_
    refine w_ic (n := 0) (j := 41) rfl rfl ?_
    refine w_cvPU (j := 42) rfl rfl rfl rfl (by first | assumption | rfl) rfl rfl (sp_39 (a := w) (b := 0) px_Lr46 L1) (Nat.ble_eq.mpr (by omega)) ?_
    rintro h2 ⟨u2, L2⟩
    rw [gx_em_lt (by omega)] at L2
    first | refine w_incN (j := 43) rfl rfl rfl ?_ | refine w_inc (j := 43) rfl rfl rfl rfl ?_
    refine w_go rfl ?_
    refine px_mono (IH p1 h2 (cs ++ ds ++ [(w, 0)]) (i + 1) _ (by omega) (by omega) ⟨hn, by omega, L2, _, r1.fr u2 (by decide) (by decide) (by decide)⟩) ?_
    rintro _ ⟨h3, rfl, F3, q⟩
    refine ⟨_, rfl, (F1.tr u2.lx).tr F3, ?_⟩
    rcases q with ⟨K, PL, B3, F⟩ | ⟨p', ds', pl', G', wf', S'⟩
    · exact Or.inl ⟨_, _, lPB_s hE hs hw G B3, F⟩
    · refine Or.inr ⟨p', ds ++ [(w, 0)] ++ ds', by omega, lPG_s hp hE hs hw G G', pf_wf_stp wf1 wf' w2.1 w2.2, ?_⟩
      rw [← List.append_assoc, ← List.append_assoc]
      exact S'
theorem c42_body {D E i : Nat} {cs : List (Nat × Nat)} {g3 : Value} (hD : 3 ≤ D) (hE : 3 ≤ E) (hi : i + 1 ≤ p) (hU : lUP D E tx n o) (IH : ∀ (p1 : Nat) (h : ix_H) (cs : List (Nat × Nat)) (i : Nat) (g3 : Value), p < p1 → i + 1 ≤ p1 → lCS h tx n p1 o cs → px_R px_E D mo_42 [] 5 [.ref 46, .ref 2, .int (nI i), g3] [] h 0 (fun r => ∃ h', r = (.inl none, h', 0) ∧ lLP E tx n o p1 cs h h')) (S : lCS h tx n p o cs) : px_R px_E D mo_42 [] 5 [.ref 46, .ref 2, .int (nI i), g3] [] h 0 (fun r => ∃ h', r = (.inl none, h', 0) ∧ lLP E tx n o p cs h h') := by
  obtain ⟨hn, hl, L, pc, r⟩ := S
  have hp := r.2.2.2.1
  have ss := gx_sk_sk (tx := tx) hp
  have sl := gx_sk_le (tx := tx) hp
  refine w_il (j := 6) rfl rfl rfl ?_
  refine w_si (j := 7) (a := nI 150) rfl rfl (by decide) ?_
  refine w_geN (j := 8) rfl rfl (by omega) (by omega) (fun c => absurd c (fun c => by omega)) (fun _ => ?_)
  refine w_al (j := 9) rfl rfl rfl ?_
  refine w_cvI (j := 10) rfl rfl rfl rfl (by first | assumption | rfl) rfl rfl (sp_56z r) (Nat.ble_eq.mpr (by omega)) ?_
  refine w_neB (j := 11) rfl rfl (fun c => absurd c (by simp)) (fun _ => ?_)
  refine w_al (j := 12) rfl rfl rfl ?_
  refine w_bi (j := 13) (a := nI 42) rfl rfl (by decide) ?_
  refine w_cvPI (j := 14) rfl rfl rfl rfl (by first | assumption | rfl) rfl rfl (sp_62 (c := 42) (by decide) r) (Nat.ble_eq.mpr (by omega)) ?_
  rintro v h1 ⟨v0, u0, r0⟩
  skip
  have L0 := L.f2 u0
  refine px_mono (Q := fun r => ∃ h', r = (.inl none, h', 0) ∧ lLP E tx n o p cs h1 h') ?_ (fun r q => lLP.frR u0.lc q)
  subst v0
  by_cases c0 : gx_sk tx n p < n ∧ tx (gx_sk tx n p) = 42
  · rw [if_pos c0] at r0
    rw [decide_eq_true c0]
    refine w_eqB (j := 15) rfl rfl (fun c => absurd c (by simp)) (fun _ => ?_)
    refine w_ic (n := 4) (j := 16) rfl rfl ?_
    refine w_go rfl ?_
    refine w_is (j := 31) rfl rfl rfl ?_
    refine w_il (j := 32) rfl rfl rfl ?_
    refine w_im (j := 33) rfl rfl ?_
    refine w_ne (j := 34) rfl rfl (fun _ => ?_) (fun c => absurd c (fun z => px_nm1 (by omega) z))
    exact c42_unit hD hE hn hi hp hl hU IH c0.1 (by omega) L0 r0
  rw [if_neg c0] at r0
  rw [decide_eq_false c0]
  refine w_eqB (j := 15) rfl rfl (fun _ => ?_) (fun c => absurd c (by simp))
  refine w_al (j := 18) rfl rfl rfl ?_
  refine w_bi (j := 19) (a := nI 47) rfl rfl (by decide) ?_
  refine w_cvPI (j := 20) rfl rfl rfl rfl (by first | assumption | rfl) rfl rfl (sp_62 (c := 47) (by decide) r0) (Nat.ble_eq.mpr (by omega)) ?_
  rintro v h2 ⟨v1, u1, r1⟩
  rw [ss] at v1 r1
  have L1 := L0.f2 u1
  refine px_mono (Q := fun r => ∃ h', r = (.inl none, h', 0) ∧ lLP E tx n o p cs h2 h') ?_ (fun r q => lLP.frR u1.lc q)
  subst v1
  by_cases c1 : gx_sk tx n p < n ∧ tx (gx_sk tx n p) = 47
  · rw [if_pos c1] at r1
    rw [decide_eq_true c1]
    refine w_eqB (j := 21) rfl rfl (fun c => absurd c (by simp)) (fun _ => ?_)
    refine w_ic (n := 5) (j := 22) rfl rfl ?_
    refine w_go rfl ?_
    refine w_is (j := 31) rfl rfl rfl ?_
    refine w_il (j := 32) rfl rfl rfl ?_
    refine w_im (j := 33) rfl rfl ?_
    refine w_ne (j := 34) rfl rfl (fun _ => ?_) (fun c => absurd c (fun z => px_nm1 (by omega) z))
    exact c42_unit hD hE hn hi hp hl hU IH c1.1 (by omega) L1 r1
  rw [if_neg c1] at r1
  rw [decide_eq_false c1]
  refine w_eqB (j := 21) rfl rfl (fun _ => ?_) (fun c => absurd c (by simp))
  refine w_al (j := 24) rfl rfl rfl ?_
  refine w_bi (j := 25) (a := nI 37) rfl rfl (by decide) ?_
  refine w_cvPI (j := 26) rfl rfl rfl rfl (by first | assumption | rfl) rfl rfl (sp_62 (c := 37) (by decide) r1) (Nat.ble_eq.mpr (by omega)) ?_
  rintro v h3 ⟨v2, u2, r2⟩
  rw [ss] at v2 r2
  have L2 := L1.f2 u2
  refine px_mono (Q := fun r => ∃ h', r = (.inl none, h', 0) ∧ lLP E tx n o p cs h3 h') ?_ (fun r q => lLP.frR u2.lc q)
  subst v2
  by_cases c2 : gx_sk tx n p < n ∧ tx (gx_sk tx n p) = 37
  · rw [if_pos c2] at r2
    rw [decide_eq_true c2]
    refine w_eqB (j := 27) rfl rfl (fun c => absurd c (by simp)) (fun _ => ?_)
    refine w_bi (j := 28) (a := nI 6) rfl rfl (by decide) ?_
    refine w_go rfl ?_
    refine w_is (j := 31) rfl rfl rfl ?_
    refine w_il (j := 32) rfl rfl rfl ?_
    refine w_im (j := 33) rfl rfl ?_
    refine w_ne (j := 34) rfl rfl (fun _ => ?_) (fun c => absurd c (fun z => px_nm1 (by omega) z))
    exact c42_unit hD hE hn hi hp hl hU IH c2.1 (by omega) L2 r2
  rw [if_neg c2] at r2
  rw [decide_eq_false c2]
  refine w_eqB (j := 27) rfl rfl (fun _ => ?_) (fun c => absurd c (by simp))
  refine w_im (j := 30) rfl rfl ?_
  refine w_is (j := 31) rfl rfl rfl ?_
  refine w_il (j := 32) rfl rfl rfl ?_
  refine w_im (j := 33) rfl rfl ?_
  refine w_ne (j := 34) rfl rfl (fun c => absurd c (fun z => z rfl)) (fun _ => ?_)
  refine w_rt rfl ?_
  refine ⟨_, rfl, lcF.rf, Or.inr ⟨_, [], sl.1, lPG_end hp hE ⟨c0, c1, c2⟩, fun d => rfl, hn, ?_, ?_, _, r2⟩⟩
  · rw [List.append_nil]; omega
  · rw [List.append_nil]; exact L2
theorem c42_loop {D E : Nat} (hD : 3 ≤ D) (hE : 3 ≤ E) (hU : lUP D E tx n o) : ∀ (m p : Nat) (h : ix_H) (cs : List (Nat × Nat)) (i : Nat) (g3 : Value), n - p ≤ m → i + 1 ≤ p → lCS h tx n p o cs → px_R px_E D mo_42 [] 5 [.ref 46, .ref 2, .int (nI i), g3] [] h 0 (fun r => ∃ h', r = (.inl none, h', 0) ∧ lLP E tx n o p cs h h') := by
  intro m
  induction m with
  | zero =>
    intro p h cs i g3 hm hi S
    refine c42_body hD hE hi hU (fun p1 h cs i g3 z1 z2 S1 => ?_) S
    obtain ⟨-, -, -, pc, r⟩ := S1
    have := r.2.2.2.1
    omega
  | succ m ih =>
    intro p h cs i g3 hm hi S
    refine c42_body hD hE hi hU (fun p1 h cs i g3 z1 z2 S1 => ?_) S
    have := S1
    obtain ⟨-, -, -, pc, r⟩ := this
    have := r.2.2.2.1
    exact ih p1 h cs i g3 (by omega) z2 S1
theorem sp_42 {D E : Nat} {cs : List (Nat × Nat)} (hD : 3 ≤ D) (hE : 3 ≤ E) (hU : lUP D E tx n o) (S : lCS h tx n p o cs) : px_PU (D + 1) 42 [.ref 46, .ref 2] h (lR 185 (E + 1) tx n o p cs h) := by
  have T := hU h p cs S
  refine px_M (M := mt_42) (ops := mo_42) tb_42 rfl rfl rfl rfl rfl ?_
  refine w_al (j := 1) rfl rfl rfl ?_
  refine w_al (j := 2) rfl rfl rfl ?_
  refine w_cvPU (j := 3) rfl rfl rfl rfl (by first | assumption | rfl) rfl rfl (T) (Nat.ble_eq.mpr (by omega)) ?_
  rintro h1 ⟨F1, q⟩
  rcases q with ⟨K, PL, Bd, F⟩ | ⟨p1, ds, p1l, G, wf1, S1⟩
  ·
    refine w_ic (n := 0) (j := 4) rfl rfl ?_
    refine w_is (j := 5) rfl rfl rfl ?_
    refine px_mono (c42_5f (by omega) (by omega) F) ?_
    rintro _ rfl
    exact ⟨_, rfl, F1, Or.inl ⟨_, _, lP_b0 F.1.1 Bd, F⟩⟩
  ·
    refine w_ic (n := 0) (j := 4) rfl rfl ?_
    refine w_is (j := 5) rfl rfl rfl ?_
    refine px_mono (c42_loop hD hE hU (n - p1) p1 h1 (cs ++ ds) 0 _ (Nat.le_refl _) (by omega) S1) ?_
    rintro _ ⟨h3, rfl, F3, q⟩
    refine ⟨_, rfl, F1.tr F3, ?_⟩
    rcases q with ⟨K, PL, B3, F⟩ | ⟨p', ds', pl', G', wf', S'⟩
    · exact Or.inl ⟨_, _, lP_b G B3, F⟩
    · refine Or.inr ⟨p', ds ++ ds', by omega, lP_g G G', fun d => pf_wf_app _ _ d (d + 1) _ (wf1 d) (wf' d), ?_⟩
      rw [← List.append_assoc]
      exact S'
def lLS (E : Nat) (tx : Nat → Nat) (n o p : Nat) (cs : List (Nat × Nat)) (h h' : ix_H) : Prop := lcF h h' ∧ ((∃ K PL, lSB E tx n o p K PL ∧ lCF h' tx n o K PL) ∨ ∃ p' ds, p ≤ p' ∧ lSG E tx n o p p' ds ∧ (∀ d, pf_wf ds (d + 1) (d + 1)) ∧ lCS h' tx n p' o (cs ++ ds))
theorem lLS.frR {E : Nat} {cs : List (Nat × Nat)} {h h1 : ix_H} {r : ix_R} (f : lcF h h1) (q : ∃ h', r = (.inl none, h', 0) ∧ lLS E tx n o p cs h1 h') : ∃ h', r = (.inl none, h', 0) ∧ lLS E tx n o p cs h h' := by
  obtain ⟨h', e, q⟩ := q
  exact ⟨h', e, f.tr q.1, q.2⟩
def lUS (D E : Nat) (tx : Nat → Nat) (n o : Nat) : Prop := ∀ h p cs, lCS h tx n p o cs → px_PU D 42 [.ref 46, .ref 2] h (lR 185 E tx n o p cs h)
theorem c41_5f {D K PL i : Nat} {g3 : Value} (hD : 1 ≤ D) (hi : i ≤ 200) (F : lCF h tx n o K PL) : px_R px_E D mo_41 [] 5 [.ref 46, .ref 2, .int (nI i), g3] [] h 0 (fun r => r = (.inl none, h, 0)) := by
  obtain ⟨rf, -⟩ := F
  refine w_il (j := 6) rfl rfl rfl ?_
  refine w_si (j := 7) (a := nI 150) rfl rfl (by decide) ?_
  refine w_geN (j := 8) rfl rfl (by omega) (by omega) (fun c => ?_) (fun c => ?_)
  ·
    refine w_rt rfl ?_
    rfl
  ·
    refine w_al (j := 9) rfl rfl rfl ?_
    refine w_cvI (j := 10) rfl rfl rfl rfl (by first | assumption | rfl) rfl rfl (sp_56f rf) (Nat.ble_eq.mpr (by omega)) ?_
    refine w_neB (j := 11) rfl rfl (fun _ => ?_) (fun c => absurd c (by simp))
    refine w_rt rfl ?_
    rfl
theorem c41_unit {D E w i : Nat} {cs : List (Nat × Nat)} (hD : 3 ≤ D) (hE : 3 ≤ E) (hn : n ≤ 150) (hi : i + 1 ≤ p) (hp : p ≤ n) (hl : cs.length ≤ p) (hU : lUS D E tx n o) (IH : ∀ (p1 : Nat) (h : ix_H) (cs : List (Nat × Nat)) (i : Nat) (g3 : Value), p < p1 → i + 1 ≤ p1 → lCS h tx n p1 o cs → px_R px_E D mo_41 [] 5 [.ref 46, .ref 2, .int (nI i), g3] [] h 0 (fun r => ∃ h', r = (.inl none, h', 0) ∧ lLS E tx n o p1 cs h h')) (hs : gx_sk tx n p < n) (hw : (tx (gx_sk tx n p) = 43 ∧ w = 2) ∨ (tx (gx_sk tx n p) = 45 ∧ w = 3)) (L : px_lx h 46 cs) (r : px_rd h tx n (gx_sk tx n p + 1) pc o 0 (-1)) : px_R px_E D mo_41 [] 29 [.ref 46, .ref 2, .int (nI i), .int (nI w)] [] h 0 (fun r => ∃ h', r = (.inl none, h', 0) ∧ lLS E tx n o p cs h h') := by
  have sl := gx_sk_le (tx := tx) hp
  have w2 : 2 ≤ w ∧ w ≤ 8 := by omega
  refine w_al (j := 30) rfl rfl rfl ?_
  refine w_al (j := 31) rfl rfl rfl ?_
  refine w_cvPU (j := 32) rfl rfl rfl rfl (by first | assumption | rfl) rfl rfl (hU h (gx_sk tx n p + 1) cs ⟨hn, by omega, L, _, r⟩) (Nat.ble_eq.mpr (by omega)) ?_
  rintro h1 ⟨F1, q⟩
  rcases q with ⟨K, PL, Bd, rf, cs1, L1⟩ | ⟨p1, ds, p1l, G, wf1, n1, l1, L1, pc1, r1⟩
  · have B2 := lSB_u hE hs hw rf.1 Bd
    refine w_al (j := 33) rfl rfl rfl ?_
    refine w_il (j := 34) rfl rfl rfl ?_
    refine w_ic (n := 0) (j := 35) rfl rfl ?_
    refine w_cvPU (j := 36) rfl rfl rfl rfl (by first | assumption | rfl) rfl rfl (sp_39 (a := w) (b := 0) px_Lr46 L1) (Nat.ble_eq.mpr (by omega)) ?_
    rintro h2 ⟨u2, L2⟩
    first | refine w_incN (j := 37) rfl rfl rfl ?_ | refine w_inc (j := 37) rfl rfl rfl rfl ?_
    refine w_go rfl ?_
    refine px_mono (c41_5f (by omega) (by omega) ⟨rf.lx u2, _, L2⟩) ?_
    rintro _ rfl
    exact ⟨_, rfl, F1.tr u2.lx, Or.inl ⟨_, _, B2, rf.lx u2, _, L2⟩⟩
  · have g1 := G.1
    have lc : (cs ++ ds).length = cs.length + ds.length := List.length_append
    have lc2 : (cs ++ ds ++ [(w, 0)]).length = cs.length + ds.length + 1 := by rw [List.length_append, List.length_append, List.length_singleton]
    refine w_al (j := 33) rfl rfl rfl ?_
    refine w_il (j := 34) rfl rfl rfl ?_
    refine w_ic (n := 0) (j := 35) rfl rfl ?_
    refine w_cvPU (j := 36) rfl rfl rfl rfl (by first | assumption | rfl) rfl rfl (sp_39 (a := w) (b := 0) px_Lr46 L1) (Nat.ble_eq.mpr (by omega)) ?_
    rintro h2 ⟨u2, L2⟩
    rw [gx_em_lt (by omega)] at L2
    first | refine w_incN (j := 37) rfl rfl rfl ?_ | refine w_inc (j := 37) rfl rfl rfl rfl ?_
    refine w_go rfl ?_
    refine px_mono (IH p1 h2 (cs ++ ds ++ [(w, 0)]) (i + 1) _ (by omega) (by omega) ⟨hn, by omega, L2, _, r1.fr u2 (by decide) (by decide) (by decide)⟩) ?_
    rintro _ ⟨h3, rfl, F3, q⟩
    refine ⟨_, rfl, (F1.tr u2.lx).tr F3, ?_⟩
    rcases q with ⟨K, PL, B3, F⟩ | ⟨p', ds', pl', G', wf', S'⟩
    · exact Or.inl ⟨_, _, lSB_s hE hs hw G B3, F⟩
    · refine Or.inr ⟨p', ds ++ [(w, 0)] ++ ds', by omega, lSG_s hp hE hs hw G G', pf_wf_stp wf1 wf' w2.1 w2.2, ?_⟩
      rw [← List.append_assoc, ← List.append_assoc]
      exact S'
theorem c41_body {D E i : Nat} {cs : List (Nat × Nat)} {g3 : Value} (hD : 3 ≤ D) (hE : 3 ≤ E) (hi : i + 1 ≤ p) (hU : lUS D E tx n o) (IH : ∀ (p1 : Nat) (h : ix_H) (cs : List (Nat × Nat)) (i : Nat) (g3 : Value), p < p1 → i + 1 ≤ p1 → lCS h tx n p1 o cs → px_R px_E D mo_41 [] 5 [.ref 46, .ref 2, .int (nI i), g3] [] h 0 (fun r => ∃ h', r = (.inl none, h', 0) ∧ lLS E tx n o p1 cs h h')) (S : lCS h tx n p o cs) : px_R px_E D mo_41 [] 5 [.ref 46, .ref 2, .int (nI i), g3] [] h 0 (fun r => ∃ h', r = (.inl none, h', 0) ∧ lLS E tx n o p cs h h') := by
  obtain ⟨hn, hl, L, pc, r⟩ := S
  have hp := r.2.2.2.1
  have ss := gx_sk_sk (tx := tx) hp
  have sl := gx_sk_le (tx := tx) hp
  refine w_il (j := 6) rfl rfl rfl ?_
  refine w_si (j := 7) (a := nI 150) rfl rfl (by decide) ?_
  refine w_geN (j := 8) rfl rfl (by omega) (by omega) (fun c => absurd c (fun c => by omega)) (fun _ => ?_)
  refine w_al (j := 9) rfl rfl rfl ?_
  refine w_cvI (j := 10) rfl rfl rfl rfl (by first | assumption | rfl) rfl rfl (sp_56z r) (Nat.ble_eq.mpr (by omega)) ?_
  refine w_neB (j := 11) rfl rfl (fun c => absurd c (by simp)) (fun _ => ?_)
  refine w_al (j := 12) rfl rfl rfl ?_
  refine w_bi (j := 13) (a := nI 43) rfl rfl (by decide) ?_
  refine w_cvPI (j := 14) rfl rfl rfl rfl (by first | assumption | rfl) rfl rfl (sp_62 (c := 43) (by decide) r) (Nat.ble_eq.mpr (by omega)) ?_
  rintro v h1 ⟨v0, u0, r0⟩
  skip
  have L0 := L.f2 u0
  refine px_mono (Q := fun r => ∃ h', r = (.inl none, h', 0) ∧ lLS E tx n o p cs h1 h') ?_ (fun r q => lLS.frR u0.lc q)
  subst v0
  by_cases c0 : gx_sk tx n p < n ∧ tx (gx_sk tx n p) = 43
  · rw [if_pos c0] at r0
    rw [decide_eq_true c0]
    refine w_eqB (j := 15) rfl rfl (fun c => absurd c (by simp)) (fun _ => ?_)
    refine w_ic (n := 2) (j := 16) rfl rfl ?_
    refine w_go rfl ?_
    refine w_is (j := 25) rfl rfl rfl ?_
    refine w_il (j := 26) rfl rfl rfl ?_
    refine w_im (j := 27) rfl rfl ?_
    refine w_ne (j := 28) rfl rfl (fun _ => ?_) (fun c => absurd c (fun z => px_nm1 (by omega) z))
    exact c41_unit hD hE hn hi hp hl hU IH c0.1 (by omega) L0 r0
  rw [if_neg c0] at r0
  rw [decide_eq_false c0]
  refine w_eqB (j := 15) rfl rfl (fun _ => ?_) (fun c => absurd c (by simp))
  refine w_al (j := 18) rfl rfl rfl ?_
  refine w_bi (j := 19) (a := nI 45) rfl rfl (by decide) ?_
  refine w_cvPI (j := 20) rfl rfl rfl rfl (by first | assumption | rfl) rfl rfl (sp_62 (c := 45) (by decide) r0) (Nat.ble_eq.mpr (by omega)) ?_
  rintro v h2 ⟨v1, u1, r1⟩
  rw [ss] at v1 r1
  have L1 := L0.f2 u1
  refine px_mono (Q := fun r => ∃ h', r = (.inl none, h', 0) ∧ lLS E tx n o p cs h2 h') ?_ (fun r q => lLS.frR u1.lc q)
  subst v1
  by_cases c1 : gx_sk tx n p < n ∧ tx (gx_sk tx n p) = 45
  · rw [if_pos c1] at r1
    rw [decide_eq_true c1]
    refine w_eqB (j := 21) rfl rfl (fun c => absurd c (by simp)) (fun _ => ?_)
    refine w_ic (n := 3) (j := 22) rfl rfl ?_
    refine w_go rfl ?_
    refine w_is (j := 25) rfl rfl rfl ?_
    refine w_il (j := 26) rfl rfl rfl ?_
    refine w_im (j := 27) rfl rfl ?_
    refine w_ne (j := 28) rfl rfl (fun _ => ?_) (fun c => absurd c (fun z => px_nm1 (by omega) z))
    exact c41_unit hD hE hn hi hp hl hU IH c1.1 (by omega) L1 r1
  rw [if_neg c1] at r1
  rw [decide_eq_false c1]
  refine w_eqB (j := 21) rfl rfl (fun _ => ?_) (fun c => absurd c (by simp))
  refine w_im (j := 24) rfl rfl ?_
  refine w_is (j := 25) rfl rfl rfl ?_
  refine w_il (j := 26) rfl rfl rfl ?_
  refine w_im (j := 27) rfl rfl ?_
  refine w_ne (j := 28) rfl rfl (fun c => absurd c (fun z => z rfl)) (fun _ => ?_)
  refine w_rt rfl ?_
  refine ⟨_, rfl, lcF.rf, Or.inr ⟨_, [], sl.1, lSG_end hp hE ⟨c0, c1⟩, fun d => rfl, hn, ?_, ?_, _, r1⟩⟩
  · rw [List.append_nil]; omega
  · rw [List.append_nil]; exact L1
theorem c41_loop {D E : Nat} (hD : 3 ≤ D) (hE : 3 ≤ E) (hU : lUS D E tx n o) : ∀ (m p : Nat) (h : ix_H) (cs : List (Nat × Nat)) (i : Nat) (g3 : Value), n - p ≤ m → i + 1 ≤ p → lCS h tx n p o cs → px_R px_E D mo_41 [] 5 [.ref 46, .ref 2, .int (nI i), g3] [] h 0 (fun r => ∃ h', r = (.inl none, h', 0) ∧ lLS E tx n o p cs h h') := by
  intro m
  induction m with
  | zero =>
    intro p h cs i g3 hm hi S
    refine c41_body hD hE hi hU (fun p1 h cs i g3 z1 z2 S1 => ?_) S
    obtain ⟨-, -, -, pc, r⟩ := S1
    have := r.2.2.2.1
    omega
  | succ m ih =>
    intro p h cs i g3 hm hi S
    refine c41_body hD hE hi hU (fun p1 h cs i g3 z1 z2 S1 => ?_) S
    have := S1
    obtain ⟨-, -, -, pc, r⟩ := this
    have := r.2.2.2.1
    exact ih p1 h cs i g3 (by omega) z2 S1
theorem sp_41 {D E : Nat} {cs : List (Nat × Nat)} (hD : 3 ≤ D) (hE : 3 ≤ E) (hU : lUS D E tx n o) (S : lCS h tx n p o cs) : px_PU (D + 1) 41 [.ref 46, .ref 2] h (lR 184 (E + 1) tx n o p cs h) := by
  have T := hU h p cs S
  refine px_M (M := mt_41) (ops := mo_41) tb_41 rfl rfl rfl rfl rfl ?_
  refine w_al (j := 1) rfl rfl rfl ?_
  refine w_al (j := 2) rfl rfl rfl ?_
  refine w_cvPU (j := 3) rfl rfl rfl rfl (by first | assumption | rfl) rfl rfl (T) (Nat.ble_eq.mpr (by omega)) ?_
  rintro h1 ⟨F1, q⟩
  rcases q with ⟨K, PL, Bd, F⟩ | ⟨p1, ds, p1l, G, wf1, S1⟩
  ·
    refine w_ic (n := 0) (j := 4) rfl rfl ?_
    refine w_is (j := 5) rfl rfl rfl ?_
    refine px_mono (c41_5f (by omega) (by omega) F) ?_
    rintro _ rfl
    exact ⟨_, rfl, F1, Or.inl ⟨_, _, lS_b0 F.1.1 Bd, F⟩⟩
  ·
    refine w_ic (n := 0) (j := 4) rfl rfl ?_
    refine w_is (j := 5) rfl rfl rfl ?_
    refine px_mono (c41_loop hD hE hU (n - p1) p1 h1 (cs ++ ds) 0 _ (Nat.le_refl _) (by omega) S1) ?_
    rintro _ ⟨h3, rfl, F3, q⟩
    refine ⟨_, rfl, F1.tr F3, ?_⟩
    rcases q with ⟨K, PL, B3, F⟩ | ⟨p', ds', pl', G', wf', S'⟩
    · exact Or.inl ⟨_, _, lS_b G B3, F⟩
    · refine Or.inr ⟨p', ds ++ ds', by omega, lS_g G G', fun d => pf_wf_app _ _ d (d + 1) _ (wf1 d) (wf' d), ?_⟩
      rw [← List.append_assoc]
      exact S'
end LC
