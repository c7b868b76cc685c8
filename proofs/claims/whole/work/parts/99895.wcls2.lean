section WC
variable {z : we} {h : ix_H} {tx : Nat → Nat} {n p pc o k : Nat} {pl : Int32}
-- again, once the reader has failed
theorem wCF.fr {K PL : Nat} {h h' : ix_H} (f : px_fr [2] h h') (rf : px_rf h' tx n o K (nI PL)) {o' : Nat} (x : wCF z h tx n o' K PL) : wCF z h' tx n o K PL := ⟨rf, by rw [f 57 (by decide)]; exact x.2.1, x.2.2.of (f 3 (by decide))⟩
theorem sp_94f {K PL : Nat} {D : Nat} (hD : 2 ≤ D) (F : wCF z h tx n o K PL) : px_PU (D + 1) 94 [.ref 57, .ref 2, .ref 3] h (fun h1 => h1 = h) := by
  refine px_M (M := mt_94) (ops := mo_94) tb_94 rfl rfl rfl rfl rfl ?_
  refine w_ic (n := 0) (j := 1) rfl rfl ?_
  refine w_is (j := 2) rfl rfl rfl ?_
  refine w_il (j := 3) rfl rfl rfl ?_
  refine w_si (j := 4) (a := nI 150) rfl rfl (by decide) ?_
  refine w_geN (j := 5) rfl rfl (by omega) (by omega) (fun c => absurd c (fun c => by omega)) (fun _ => ?_)
  refine w_al (j := 6) rfl rfl rfl ?_
  refine w_cvPI (j := 7) rfl rfl rfl rfl (by first | assumption | rfl) rfl rfl (sp_61f F.1) (Nat.ble_eq.mpr (by omega)) ?_
  rintro v h1 ⟨rfl, rfl⟩
  refine w_eqB (j := 8) rfl rfl (fun _ => ?_) (fun c => absurd c (by simp))
  refine w_rt rfl ?_
  exact ⟨_, rfl, rfl⟩
theorem c96_25f {K PL i : Nat} {D : Nat} {g3 : Value} (hD : 3 ≤ D) (hi : i ≤ 150) (F : wCF z h tx n (o + 1) K PL) : px_R px_E D mo_96 [] 25 [.ref 57, .ref 2, .ref 3, g3, .int (nI i)] [] h 0 (fun r => ∃ h', r = (.inl none, h', 0) ∧ wcF h h' ∧ wCF z h' tx n o K PL) := by
  refine w_al (j := 26) rfl rfl rfl ?_
  refine w_cvPU (j := 27) rfl rfl rfl rfl (by first | assumption | rfl) rfl rfl (sp_68f (by omega) F.1) (Nat.ble_eq.mpr (by omega)) ?_
  rintro h2 ⟨u2, rf2⟩
  have F2 := F.fr u2 rf2
  rw [Nat.add_sub_cancel] at F2
  obtain ⟨rf, ⟨q, hq, lq⟩, t⟩ := F2
  refine w_iL (j := 28) rfl rfl rfl ?_
  refine w_al (j := 29) rfl rfl rfl ?_
  first | refine w_gr (j := 30) rfl rfl (by first | assumption | rfl) (by first | assumption | rfl) rfl ?_ | refine w_gi (j := 30) rfl rfl (by first | assumption | rfl) (by first | assumption | rfl) rfl rfl ?_
  refine w_alen (j := 31) rfl rfl (by first | assumption | rfl) (by decide) ?_
  refine w_geN (j := 32) rfl rfl (by omega) (by omega) (fun c => ?_) (fun c => ?_)
  ·
    refine w_al (j := 39) rfl rfl rfl ?_
    refine w_bi (j := 40) (a := nI 8) rfl rfl (by decide) ?_
    refine w_iL (j := 41) rfl rfl rfl ?_
    refine w_ic (n := 0) (j := 42) rfl rfl ?_
    refine w_cvPU (j := 43) rfl rfl rfl rfl (by first | assumption | rfl) rfl rfl (sp_92f ⟨rf, ⟨q, hq, lq⟩, t⟩) (Nat.ble_eq.mpr (by omega)) ?_
    rintro h3 ⟨w1, w2⟩
    refine w_rt rfl ?_
    exact ⟨_, rfl, u2.wc.tr w1, w2⟩
  ·
    refine w_al (j := 33) rfl rfl rfl ?_
    first | refine w_gr (j := 34) rfl rfl (by first | assumption | rfl) (by first | assumption | rfl) rfl ?_ | refine w_gi (j := 34) rfl rfl (by first | assumption | rfl) (by first | assumption | rfl) rfl rfl ?_
    refine w_iL (j := 35) rfl rfl rfl ?_
    refine w_al (j := 36) rfl rfl rfl ?_
    first | refine w_gr (j := 37) rfl rfl (by first | assumption | rfl) (by first | assumption | rfl) rfl ?_ | refine w_gi (j := 37) rfl rfl (by first | assumption | rfl) (by first | assumption | rfl) rfl lq ?_
    refine w_ias (j := 38) rfl rfl (by first | assumption | rfl) rfl (by omega) rfl ?_
    have fx : px_fr [57, 58, 59, 60] h2 (ix_up h2 60 i (nI q)) := px_fr.rf.up (by decide)
    have wx : wcF h2 (ix_up h2 60 i (nI q)) := ⟨fun a _ ha => ix_up_ne (by omega), fun k _ => px_up_na (by decide)⟩
    refine w_al (j := 39) rfl rfl rfl ?_
    refine w_bi (j := 40) (a := nI 8) rfl rfl (by decide) ?_
    refine w_iL (j := 41) rfl rfl rfl ?_
    refine w_ic (n := 0) (j := 42) rfl rfl ?_
    refine w_cvPU (j := 43) rfl rfl rfl rfl (by first | assumption | rfl) rfl rfl (sp_92f ⟨rf.fr fx (by decide) (by decide) (by decide), ⟨q, hq, by rw [px_up_na (by decide)]; exact lq⟩, t.fr wx⟩) (Nat.ble_eq.mpr (by omega)) ?_
    rintro h3 ⟨w1, w2⟩
    refine w_rt rfl ?_
    exact ⟨_, rfl, (u2.wc.tr wx).tr w1, w2⟩
theorem wfr {K PL : Nat} {h h1 : ix_H} {r : ix_R} (f : wcF h h1) (q : ∃ h', r = (.inl none, h', 0) ∧ wcF h1 h' ∧ wCF z h' tx n o K PL) : ∃ h', r = (.inl none, h', 0) ∧ wcF h h' ∧ wCF z h' tx n o K PL := by
  obtain ⟨h', e, q1, q2⟩ := q
  exact ⟨h', e, f.tr q1, q2⟩
theorem c96_22f {K PL i : Nat} {D : Nat} {g3 : Value} (hD : 3 ≤ D) (hi : i ≤ 150) (F : wCF z h tx n (o + 1) K PL) : px_R px_E D mo_96 [] 22 [.ref 57, .ref 2, .ref 3, g3, .int (nI i)] [] h 0 (fun r => ∃ h', r = (.inl none, h', 0) ∧ wcF h h' ∧ wCF z h' tx n o K PL) := by
  refine w_al (j := 23) rfl rfl rfl ?_
  refine w_bi (j := 24) (a := nI 93) rfl rfl (by decide) ?_
  refine w_cvPU (j := 25) rfl rfl rfl rfl (by first | assumption | rfl) rfl rfl (sp_63f (c := 93) (by decide) F.1) (Nat.ble_eq.mpr (by omega)) ?_
  rintro h1 ⟨u1, rf1⟩
  exact px_mono (c96_25f hD hi (F.fr u1 rf1)) (fun r q => wfr u1.wc q)
theorem c96_10f {K PL q3 : Nat} {D : Nat} {g4 : Value} (hD : 3 ≤ D) (F : wCF z h tx n (o + 1) K PL) : px_R px_E D mo_96 [] 10 [.ref 57, .ref 2, .ref 3, .int (nI q3), g4] [] h 0 (fun r => ∃ h', r = (.inl none, h', 0) ∧ wcF h h' ∧ wCF z h' tx n o K PL) := by
  have F' := F
  obtain ⟨rf, ⟨q, hq, lq⟩, t⟩ := F'
  refine w_al (j := 11) rfl rfl rfl ?_
  first | refine w_gr (j := 12) rfl rfl (by first | assumption | rfl) (by first | assumption | rfl) rfl ?_ | refine w_gi (j := 12) rfl rfl (by first | assumption | rfl) (by first | assumption | rfl) rfl lq ?_
  refine w_iS (j := 13) rfl rfl rfl ?_
  refine w_al (j := 14) rfl rfl rfl ?_
  refine w_bi (j := 15) (a := nI 7) rfl rfl (by decide) ?_
  refine w_il (j := 16) rfl rfl rfl ?_
  refine w_ic (n := 0) (j := 17) rfl rfl ?_
  refine w_cvPU (j := 18) rfl rfl rfl rfl (by first | assumption | rfl) rfl rfl (sp_92f F) (Nat.ble_eq.mpr (by omega)) ?_
  rintro h1 ⟨w1, w2⟩
  refine w_al (j := 19) rfl rfl rfl ?_
  refine w_al (j := 20) rfl rfl rfl ?_
  refine w_al (j := 21) rfl rfl rfl ?_
  refine w_cvPU (j := 22) rfl rfl rfl rfl (by first | assumption | rfl) rfl rfl (sp_94f (show 2 ≤ D - 1 by omega) w2) (Nat.ble_eq.mpr (by omega)) ?_
  rintro h2 e2
  subst e2
  refine px_mono (c96_22f hD hq w2) (fun r q => wfr w1 q)
theorem c96_2f {K PL : Nat} {D : Nat} {g3 g4 : Value} (hD : 3 ≤ D) (F : wCF z h tx n (o + 1) K PL) : px_R px_E D mo_96 [] 2 [.ref 57, .ref 2, .ref 3, g3, g4] [] h 0 (fun r => ∃ h', r = (.inl none, h', 0) ∧ wcF h h' ∧ wCF z h' tx n o K PL) := by
  refine w_al (j := 3) rfl rfl rfl ?_
  refine w_ic (n := 0) (j := 4) rfl rfl ?_
  refine w_bi (j := 5) (a := nI 40) rfl rfl (by decide) ?_
  refine w_cvPI (j := 6) rfl rfl rfl rfl (by first | assumption | rfl) rfl rfl (sp_64f (lo := 0) (H := 41) (by decide) (px_hiN (by omega)) (by omega) F.1) (Nat.ble_eq.mpr (by omega)) ?_
  rintro v h1 ⟨u1, rf1, q, q1, rfl⟩
  have F1 := F.fr u1 rf1
  refine w_is (j := 7) rfl rfl rfl ?_
  refine w_al (j := 8) rfl rfl rfl ?_
  refine w_bi (j := 9) (a := nI 91) rfl rfl (by decide) ?_
  refine w_cvPU (j := 10) rfl rfl rfl rfl (by first | assumption | rfl) rfl rfl (sp_63f (c := 91) (by decide) F1.1) (Nat.ble_eq.mpr (by omega)) ?_
  rintro h2 ⟨u2, rf2⟩
  have F2 := F1.fr u2 rf2
  exact px_mono (c96_10f hD F2) (fun r q => wfr (u1.tr u2).wc q)
theorem c96_7f {K PL q3 : Nat} {D : Nat} {g4 : Value} (hD : 3 ≤ D) (F : wCF z h tx n (o + 1) K PL) : px_R px_E D mo_96 [] 7 [.ref 57, .ref 2, .ref 3, .int (nI q3), g4] [] h 0 (fun r => ∃ h', r = (.inl none, h', 0) ∧ wcF h h' ∧ wCF z h' tx n o K PL) := by
  refine w_al (j := 8) rfl rfl rfl ?_
  refine w_bi (j := 9) (a := nI 91) rfl rfl (by decide) ?_
  refine w_cvPU (j := 10) rfl rfl rfl rfl (by first | assumption | rfl) rfl rfl (sp_63f (c := 91) (by decide) F.1) (Nat.ble_eq.mpr (by omega)) ?_
  rintro h2 ⟨u2, rf2⟩
  have F2 := F.fr u2 rf2
  exact px_mono (c96_10f hD F2) (fun r q => wfr u2.wc q)
theorem wR_of {E i K PL : Nat} {h h1 : ix_H} {r : ix_R} (f : wcF h h1) (b : wB z (E + 1) tx n o p K PL) (q : ∃ h', r = (.inl none, h', 0) ∧ wcF h1 h' ∧ wCF z h' tx n o K PL) : ∃ h', r = (.inl none, h', 0) ∧ wR z E tx n o p i h h' := by
  obtain ⟨h', e, q1, q2⟩ := q
  exact ⟨h', e, f.tr q1, Or.inl ⟨_, _, b, q2⟩⟩
def wU (z : we) (D E : Nat) (tx : Nat → Nat) (n o : Nat) : Prop := ∀ h p i, p ≤ n → wCS z h tx n p o i → px_PU D 94 [.ref 57, .ref 2, .ref 3] h (wRS z E tx n o p i h)
-- again
theorem sp_96_6 {D i e : Nat} (hD : 3 ≤ D) (hn : n ≤ 150) (hp : p ≤ n) (hi : i ≤ p) (l : h 57 4 = nI i) (t : wTc z h) (kw : gx_is tx (gx_sk tx n p) (gx_lt tx n (gx_sk tx n p)) (gx_V 7)) (ez : gx_lt tx n (gx_sk tx n p) = e) (r : px_rd h tx n e (gx_sk tx n p) 6 0 (-1)) {E : Nat} (hE : 5 ≤ E) : px_PU (D + 1) 96 [.ref 57, .ref 2, .ref 3] h (wR z E tx n 6 p i h) := by
  have el := gx_V_e (by decide) hp kw ez
  refine px_M (M := mt_96) (ops := mo_96) tb_96 rfl rfl rfl rfl rfl ?_
  refine w_al (j := 1) rfl rfl rfl ?_
  refine w_cvPU (j := 2) rfl rfl rfl rfl (by first | assumption | rfl) rfl rfl (sp_67 (by decide) r) (Nat.ble_eq.mpr (by omega)) ?_
  rintro h1 ⟨u1, r1⟩
  rw [if_pos (by decide), if_pos (by decide)] at r1
  have F : wCF z h1 tx n (6 + 1) 3 (gx_sk tx n p) := ⟨⟨by decide, _, _, r1⟩, ⟨i, by omega, by rw [u1 57 (by decide)]; exact l⟩, t.of (u1 3 (by decide))⟩
  exact px_mono (c96_2f hD F) (fun r q => wR_of u1.wc (wB_a3 hE kw) q)
theorem sp_96 {D E i e : Nat} (hD : 3 ≤ D) (hE : 5 ≤ E) (ho : o < 6) (hn : n ≤ 150) (hp : p ≤ n) (hi : i ≤ p) (l : h 57 4 = nI i) (t : wTc z h) (kw : gx_is tx (gx_sk tx n p) (gx_lt tx n (gx_sk tx n p)) (gx_V 7)) (ez : gx_lt tx n (gx_sk tx n p) = e) (r : px_rd h tx n e (gx_sk tx n p) o 0 (-1)) (U : wU z D E tx n (o + 1)) : px_PU (D + 1) 96 [.ref 57, .ref 2, .ref 3] h (wR z (E + 1) tx n o p i h) := by
  have el := gx_V_e (by decide) hp kw ez
  refine px_M (M := mt_96) (ops := mo_96) tb_96 rfl rfl rfl rfl rfl ?_
  refine w_al (j := 1) rfl rfl rfl ?_
  refine w_cvPU (j := 2) rfl rfl rfl rfl (by first | assumption | rfl) rfl rfl (sp_67 (by omega) r) (Nat.ble_eq.mpr (by omega)) ?_
  rintro h1 ⟨u1, r1⟩
  rw [if_neg (by omega), if_neg (by omega)] at r1
  refine w_al (j := 3) rfl rfl rfl ?_
  refine w_ic (n := 0) (j := 4) rfl rfl ?_
  refine w_bi (j := 5) (a := nI 40) rfl rfl (by decide) ?_
  refine w_cvPI (j := 6) rfl rfl rfl rfl (by first | assumption | rfl) rfl rfl (sp_64 (lo := 0) (H := 41) (by decide) (px_hiN (by omega)) (by omega) r1) (Nat.ble_eq.mpr (by omega)) ?_
  rintro v h2 ⟨v2, u2, r2⟩
  skip
  by_cases c1 : gx_nk tx n 0 41 e = 0
  rotate_left
  ·
    rw [if_neg c1, if_neg c1] at r2
    subst v2
    have F : wCF z h2 tx n (o + 1) (gx_nk tx n 0 41 e) (gx_sk tx n e) := ⟨⟨c1, _, _, r2⟩, ⟨i, by omega, by rw [(u1.tr u2) 57 (by decide)]; exact l⟩, t.of ((u1.tr u2) 3 (by decide))⟩
    refine w_is (j := 7) rfl rfl rfl ?_
    exact px_mono (c96_7f hD F) (fun r q => wR_of (u1.tr u2).wc (wB_a1 (by omega) ho hn hp kw ez c1) q)
  rw [if_pos c1, if_pos c1] at r2
  have b1 := gx_nv41 c1
  have l1 := gx_ne_le (tx := tx) el.2
  rw [Nat.min_eq_left (by omega)] at v2
  subst v2
  generalize d1 : gx_ne tx n e = e1 at *
  generalize y1 : gx_nv tx n e = a at *
  have sl := gx_sk_le (tx := tx) l1.2
  refine w_is (j := 7) rfl rfl rfl ?_
  refine w_al (j := 8) rfl rfl rfl ?_
  refine w_bi (j := 9) (a := nI 91) rfl rfl (by decide) ?_
  refine w_cvPU (j := 10) rfl rfl rfl rfl (by first | assumption | rfl) rfl rfl (sp_63 (c := 91) (by decide) r2) (Nat.ble_eq.mpr (by omega)) ?_
  rintro h3 ⟨u3, r3⟩
  skip
  have U3 := (u1.tr u2).tr u3
  have g4 : h3 57 4 = nI i := by rw [U3 57 (by decide)]; exact l
  have t3 : wTc z h3 := t.of (U3 3 (by decide))
  by_cases c2 : gx_sk tx n e1 < n ∧ tx (gx_sk tx n e1) = 91
  rotate_left
  ·
    rw [if_neg c2] at r3
    have F : wCF z h3 tx n (o + 1) 1 (gx_sk tx n e1) := ⟨⟨by decide, _, _, r3⟩, ⟨i, by omega, g4⟩, t3⟩
    exact px_mono (c96_10f hD F) (fun r q => wR_of U3.wc (wB_a2 (by omega) ho hn hp kw ez c1 d1 c2) q)
  rw [if_pos c2] at r3
  refine w_al (j := 11) rfl rfl rfl ?_
  first | refine w_gr (j := 12) rfl rfl (by first | assumption | rfl) (by first | assumption | rfl) rfl ?_ | refine w_gi (j := 12) rfl rfl (by first | assumption | rfl) (by first | assumption | rfl) rfl g4 ?_
  refine w_iS (j := 13) rfl rfl rfl ?_
  refine w_al (j := 14) rfl rfl rfl ?_
  refine w_bi (j := 15) (a := nI 7) rfl rfl (by decide) ?_
  refine w_il (j := 16) rfl rfl rfl ?_
  refine w_ic (n := 0) (j := 17) rfl rfl ?_
  refine w_cvPU (j := 18) rfl rfl rfl rfl (by first | assumption | rfl) rfl rfl (sp_92e (i := i) (by omega) g4) (Nat.ble_eq.mpr (by omega)) ?_
  rintro h4 ⟨w1, w2, w3, w4, w5, w6, w7⟩
  have t4 : wTc z h4 := t3.fr w2
  have r4 := r3.fr w1 (by decide) (by decide) (by decide)
  refine w_al (j := 19) rfl rfl rfl ?_
  refine w_al (j := 20) rfl rfl rfl ?_
  refine w_al (j := 21) rfl rfl rfl ?_
  refine w_cvPU (j := 22) rfl rfl rfl rfl (by first | assumption | rfl) rfl rfl (U h4 (gx_sk tx n e1 + 1) (i + 1) (by omega) ⟨hn, by omega, w3, t4, _, r4⟩) (Nat.ble_eq.mpr (by omega)) ?_
  rintro h5 ⟨F5, q⟩
  rcases q with ⟨m, K, PL, sb, F⟩ | ⟨m, p2, DD, i', sg, hDD, ⟨-, a2, a3, a4, pc5, r5⟩, k1, k2, P, k3, k4, k5⟩
  · have hK := F.1.1
    refine px_mono (c96_22f hD (by omega) F) (fun r q => wR_of ((U3.wc.tr w2).tr F5) (wB_ab (by omega) ho hn hp kw ez c1 d1 c2 hK sb) q)
  have xl := wSG_le _ _ _ sg
  refine w_al (j := 23) rfl rfl rfl ?_
  refine w_bi (j := 24) (a := nI 93) rfl rfl (by decide) ?_
  refine w_cvPU (j := 25) rfl rfl rfl rfl (by first | assumption | rfl) rfl rfl (sp_63 (c := 93) (by decide) r5) (Nat.ble_eq.mpr (by omega)) ?_
  rintro h6 ⟨u6, r6⟩
  rw [xl.2.2.1] at r6
  by_cases c3 : p2 < n ∧ tx p2 = 93
  rotate_left
  ·
    rw [if_neg c3] at r6
    have F : wCF z h6 tx n (o + 1) 1 p2 := ⟨⟨by decide, _, _, r6⟩, ⟨i', by omega, by rw [u6 57 (by decide)]; exact a3⟩, (t4.fr F5).of (u6 3 (by decide))⟩
    exact px_mono (c96_25f hD (by omega) F) (fun r q => wR_of (((U3.wc.tr w2).tr F5).tr u6.wc) (wB_ae hE ho hn hp kw ez c1 d1 c2 sg c3) q)
  rw [if_pos c3] at r6
  refine w_al (j := 26) rfl rfl rfl ?_
  refine w_cvPU (j := 27) rfl rfl rfl rfl (by first | assumption | rfl) rfl rfl (sp_68 (by omega) r6) (Nat.ble_eq.mpr (by omega)) ?_
  rintro h7 ⟨u7, r7⟩
  rw [Nat.add_sub_cancel] at r7
  have g7 : h7 57 4 = nI i' := by rw [(u6.tr u7) 57 (by decide)]; exact a3
  refine w_iL (j := 28) rfl rfl rfl ?_
  refine w_al (j := 29) rfl rfl rfl ?_
  first | refine w_gr (j := 30) rfl rfl (by first | assumption | rfl) (by first | assumption | rfl) rfl ?_ | refine w_gi (j := 30) rfl rfl (by first | assumption | rfl) (by first | assumption | rfl) rfl rfl ?_
  refine w_alen (j := 31) rfl rfl (by first | assumption | rfl) (by decide) ?_
  refine w_geN (j := 32) rfl rfl (by omega) (by omega) (fun c => absurd c (fun c => by omega)) (fun _ => ?_)
  refine w_al (j := 33) rfl rfl rfl ?_
  first | refine w_gr (j := 34) rfl rfl (by first | assumption | rfl) (by first | assumption | rfl) rfl ?_ | refine w_gi (j := 34) rfl rfl (by first | assumption | rfl) (by first | assumption | rfl) rfl rfl ?_
  refine w_iL (j := 35) rfl rfl rfl ?_
  refine w_al (j := 36) rfl rfl rfl ?_
  first | refine w_gr (j := 37) rfl rfl (by first | assumption | rfl) (by first | assumption | rfl) rfl ?_ | refine w_gi (j := 37) rfl rfl (by first | assumption | rfl) (by first | assumption | rfl) rfl g7 ?_
  refine w_ias (j := 38) rfl rfl (by first | assumption | rfl) rfl (by omega) rfl ?_
  have fx : px_fr [57, 58, 59, 60] h7 (ix_up h7 60 i (nI i')) := px_fr.rf.up (by decide)
  have wx : wcF h7 (ix_up h7 60 i (nI i')) := ⟨fun a _ ha => ix_up_ne (by omega), fun k _ => px_up_na (by decide)⟩
  refine w_al (j := 39) rfl rfl rfl ?_
  refine w_bi (j := 40) (a := nI 8) rfl rfl (by decide) ?_
  refine w_iL (j := 41) rfl rfl rfl ?_
  refine w_ic (n := 0) (j := 42) rfl rfl ?_
  refine w_cvPU (j := 43) rfl rfl rfl rfl (by first | assumption | rfl) rfl rfl (sp_92e (i := i') (by omega) (by rw [px_up_na (by decide)]; exact g7)) (Nat.ble_eq.mpr (by omega)) ?_
  rintro h9 ⟨x1, x2, x3, x4, x5, x6, x7⟩
  refine w_rt rfl ?_
  have row : ∀ k, k ≠ i → k < i' → h9 58 k = h5 58 k ∧ h9 59 k = h5 59 k ∧ h9 60 k = h5 60 k := fun k ki kl => by
    obtain ⟨s1, s2, s3⟩ := x4 k kl
    rw [s1, s2, s3, px_up_na (by decide), px_up_na (by decide), px_up_nk ki, (u6.tr u7) 58 (by decide), (u6.tr u7) 59 (by decide), (u6.tr u7) 60 (by decide)]
    exact ⟨rfl, rfl, rfl⟩
  obtain ⟨s1, s2, s3⟩ := x4 i (by omega)
  rw [px_up_na (by decide), (u6.tr u7) 58 (by decide), (k2 i (by omega)).1, w5] at s1
  rw [px_up_na (by decide), (u6.tr u7) 59 (by decide), (k2 i (by omega)).2.1, w6] at s2
  rw [px_up_at] at s3
  refine ⟨_, rfl, ((((U3.wc.tr w2).tr F5).tr (u6.tr u7).wc).tr wx).tr x2, Or.inr ⟨p2 + 1, _, i' + 1, wH_a (by omega) ho hn hp kw ez c1 d1 y1 c2 hDD sg c3, pw_D_ag hDD, ⟨hn, by omega, x3, (((t4.fr F5).of ((u6.tr u7) 3 (by decide))).fr wx).fr x2, _, (r7.fr fx (by decide) (by decide) (by decide)).fr x1 (by decide) (by decide) (by decide)⟩, by omega, ?_, _, ?_, ?_, pw_cx_ag (by omega) (by omega) (by omega) k3 hDD k5⟩⟩
  · intro k hk
    obtain ⟨s1, s2, s3⟩ := row k (by omega) (by omega)
    obtain ⟨y1, y2, y3⟩ := k2 k (by omega)
    obtain ⟨v1, v2, v3⟩ := w4 k hk
    rw [s1, s2, s3, y1, y2, y3, v1, v2, v3, U3 58 (by decide), U3 59 (by decide), U3 60 (by decide)]
    exact ⟨rfl, rfl, rfl⟩
  · rintro g g' ee ⟨z1, z2, z3, z4, z5, z6⟩
    obtain ⟨m1, m2, m3⟩ := ee i (Nat.le_refl _) (by omega)
    obtain ⟨n1, n2, n3⟩ := ee i' (by omega) (by omega)
    exact ⟨k3 _ _ (fun k q1 q2 => ee k (by omega) (by omega)) z1, m1.trans z2, m2.trans z3, m3.trans z4, n1.trans z5, n2.trans z6⟩
  · exact ⟨k3 _ _ (fun k q1 q2 => row k (by omega) q2) k4, s1, s2, s3, x5, x6⟩
-- a step
theorem sp_95 {D E i : Nat} (hD : 3 ≤ D) (hE : 5 ≤ E) (ho : o ≤ 6) (hp : p ≤ n) (S : wCS z h tx n p o i) (H : ∀ h1 e, px_fr [2] h h1 → gx_is tx (gx_sk tx n p) (gx_lt tx n (gx_sk tx n p)) (gx_V 7) → gx_lt tx n (gx_sk tx n p) = e → px_rd h1 tx n e (gx_sk tx n p) o 0 (-1) → px_PU D 96 [.ref 57, .ref 2, .ref 3] h1 (wR z E tx n o p i h1)) : px_PU (D + 1) 95 [.ref 57, .ref 2, .ref 3] h (wR z E tx n o p i h) := by
  obtain ⟨hn, hi, l, t, pc, r⟩ := S
  have sl := gx_sk_le (tx := tx) hp
  have t7 := t.2.1
  have t6 := t.1.1
  refine px_M (M := mt_95) (ops := mo_95) tb_95 rfl rfl rfl rfl rfl ?_
  refine w_al (j := 1) rfl rfl rfl ?_
  first | refine w_gr (j := 2) rfl rfl (by first | assumption | rfl) (by first | assumption | rfl) rfl ?_ | refine w_gi (j := 2) rfl rfl (by first | assumption | rfl) (by first | assumption | rfl) rfl t7 ?_
  refine w_ic (n := 1) (j := 3) rfl rfl ?_
  refine w_sub (j := 4) rfl rfl ?_
  refine w_is (j := 5) rfl rfl rfl ?_
  refine w_al (j := 6) rfl rfl rfl ?_
  first | refine w_gr (j := 7) rfl rfl (by first | assumption | rfl) (by first | assumption | rfl) rfl ?_ | refine w_gi (j := 7) rfl rfl (by first | assumption | rfl) (by first | assumption | rfl) rfl t6 ?_
  refine w_ic (n := 1) (j := 8) rfl rfl ?_
  refine w_sub (j := 9) rfl rfl ?_
  refine w_iS (j := 10) rfl rfl rfl ?_
  refine w_al (j := 11) rfl rfl rfl ?_
  refine w_cvPU (j := 12) rfl rfl rfl rfl (by first | assumption | rfl) rfl rfl (sp_65 r) (Nat.ble_eq.mpr (by omega)) ?_
  rintro h1 ⟨u1, r1⟩
  have l1 : h1 57 4 = nI i := by rw [u1 57 (by decide)]; exact l
  have t1 : wTc z h1 := t.of (u1 3 (by decide))
  refine px_mono (Q := fun r => ∃ h', r = (.inl none, h', 0) ∧ wR z E tx n o p i h1 h') ?_ (fun r q => wR.frR u1 q)
  generalize ez : gx_lt tx n (gx_sk tx n p) = e at *
  refine w_al (j := 13) rfl rfl rfl ?_
  refine w_ls (j := 14) rfl rfl ?_
  refine w_cvPI (j := 15) rfl rfl rfl rfl (by first | assumption | rfl) rfl rfl (sp_66 gwd_v0 r1) (Nat.ble_eq.mpr (by omega)) ?_
  rintro v h2 ⟨rfl, d, rfl, d0⟩
  refine w_eqB (j := 16) rfl rfl (fun c0 => ?_) (fun c0 => ?_)
  rotate_left
  ·
    have kw := d0.mp c0
    rw [← ez] at kw
    exact c95_0 hD hE ho hn hp hi l1 t1 kw ez r1
  have n0 : ¬ gx_is tx (gx_sk tx n p) e (gx_V 0) := fun q => by rw [d0.mpr q] at c0; cases c0
  clear d0 c0
  refine w_al (j := 31) rfl rfl rfl ?_
  refine w_ls (j := 32) rfl rfl ?_
  refine w_cvPI (j := 33) rfl rfl rfl rfl (by first | assumption | rfl) rfl rfl (sp_66 gwd_v1 r1) (Nat.ble_eq.mpr (by omega)) ?_
  rintro v h2 ⟨rfl, d, rfl, d0⟩
  refine w_eqB (j := 34) rfl rfl (fun c0 => ?_) (fun c0 => ?_)
  rotate_left
  ·
    have kw := d0.mp c0
    rw [← ez] at kw
    exact c95_1 hD hE ho hn hp hi l1 t1 kw ez r1
  have n1 : ¬ gx_is tx (gx_sk tx n p) e (gx_V 1) := fun q => by rw [d0.mpr q] at c0; cases c0
  clear d0 c0
  refine w_al (j := 44) rfl rfl rfl ?_
  refine w_ls (j := 45) rfl rfl ?_
  refine w_cvPI (j := 46) rfl rfl rfl rfl (by first | assumption | rfl) rfl rfl (sp_66 gwd_v2 r1) (Nat.ble_eq.mpr (by omega)) ?_
  rintro v h2 ⟨rfl, d, rfl, d0⟩
  refine w_eqB (j := 47) rfl rfl (fun c0 => ?_) (fun c0 => ?_)
  rotate_left
  ·
    have kw := d0.mp c0
    rw [← ez] at kw
    exact c95_2 hD hE ho hn hp hi l1 t1 kw ez r1
  have n2 : ¬ gx_is tx (gx_sk tx n p) e (gx_V 2) := fun q => by rw [d0.mpr q] at c0; cases c0
  clear d0 c0
  refine w_al (j := 57) rfl rfl rfl ?_
  refine w_ls (j := 58) rfl rfl ?_
  refine w_cvPI (j := 59) rfl rfl rfl rfl (by first | assumption | rfl) rfl rfl (sp_66 gwd_v3 r1) (Nat.ble_eq.mpr (by omega)) ?_
  rintro v h2 ⟨rfl, d, rfl, d0⟩
  refine w_eqB (j := 60) rfl rfl (fun c0 => ?_) (fun c0 => ?_)
  rotate_left
  ·
    have kw := d0.mp c0
    rw [← ez] at kw
    exact c95_3 hD hE ho hn hp hi l1 t1 kw ez r1
  have n3 : ¬ gx_is tx (gx_sk tx n p) e (gx_V 3) := fun q => by rw [d0.mpr q] at c0; cases c0
  clear d0 c0
  refine w_al (j := 70) rfl rfl rfl ?_
  refine w_ls (j := 71) rfl rfl ?_
  refine w_cvPI (j := 72) rfl rfl rfl rfl (by first | assumption | rfl) rfl rfl (sp_66 gwd_v4 r1) (Nat.ble_eq.mpr (by omega)) ?_
  rintro v h2 ⟨rfl, d, rfl, d0⟩
  refine w_eqB (j := 73) rfl rfl (fun c0 => ?_) (fun c0 => ?_)
  rotate_left
  ·
    have kw := d0.mp c0
    rw [← ez] at kw
    exact c95_4 hD hE ho hn hp hi l1 t1 kw ez r1
  have n4 : ¬ gx_is tx (gx_sk tx n p) e (gx_V 4) := fun q => by rw [d0.mpr q] at c0; cases c0
  clear d0 c0
  refine w_al (j := 88) rfl rfl rfl ?_
  refine w_ls (j := 89) rfl rfl ?_
  refine w_cvPI (j := 90) rfl rfl rfl rfl (by first | assumption | rfl) rfl rfl (sp_66 gwd_v5 r1) (Nat.ble_eq.mpr (by omega)) ?_
  rintro v h2 ⟨rfl, d, rfl, d0⟩
  refine w_eqB (j := 91) rfl rfl (fun c0 => ?_) (fun c0 => ?_)
  rotate_left
  ·
    have kw := d0.mp c0
    rw [← ez] at kw
    exact c95_5 hD hE ho hn hp hi l1 t1 kw ez r1
  have n5 : ¬ gx_is tx (gx_sk tx n p) e (gx_V 5) := fun q => by rw [d0.mpr q] at c0; cases c0
  clear d0 c0
  refine w_al (j := 101) rfl rfl rfl ?_
  refine w_ls (j := 102) rfl rfl ?_
  refine w_cvPI (j := 103) rfl rfl rfl rfl (by first | assumption | rfl) rfl rfl (sp_66 gwd_v6 r1) (Nat.ble_eq.mpr (by omega)) ?_
  rintro v h2 ⟨rfl, d, rfl, d0⟩
  refine w_eqB (j := 104) rfl rfl (fun c0 => ?_) (fun c0 => ?_)
  rotate_left
  ·
    have kw := d0.mp c0
    rw [← ez] at kw
    exact c95_6 hD hE ho hn hp hi l1 t1 kw ez r1
  have n6 : ¬ gx_is tx (gx_sk tx n p) e (gx_V 6) := fun q => by rw [d0.mpr q] at c0; cases c0
  clear d0 c0
  refine w_al (j := 111) rfl rfl rfl ?_
  refine w_ls (j := 112) rfl rfl ?_
  refine w_cvPI (j := 113) rfl rfl rfl rfl (by first | assumption | rfl) rfl rfl (sp_66 gwd_v7 r1) (Nat.ble_eq.mpr (by omega)) ?_
  rintro v h2 ⟨rfl, d, rfl, d0⟩
  refine w_eqB (j := 114) rfl rfl (fun c0 => ?_) (fun c0 => ?_)
  rotate_left
  ·
    have kw := d0.mp c0
    rw [← ez] at kw
    refine w_al (j := 115) rfl rfl rfl ?_
    refine w_al (j := 116) rfl rfl rfl ?_
    refine w_al (j := 117) rfl rfl rfl ?_
    refine w_cvPU (j := 118) rfl rfl rfl rfl (by first | assumption | rfl) rfl rfl (H _ e u1 (d0.mp c0) rfl r1) (Nat.ble_eq.mpr (by omega)) ?_
    rintro h3 q3
    refine w_go rfl ?_
    refine w_rt rfl ?_
    exact ⟨_, rfl, q3⟩
  have n7 : ¬ gx_is tx (gx_sk tx n p) e (gx_V 7) := fun q => by rw [d0.mpr q] at c0; cases c0
  clear d0 c0
  refine w_al (j := 120) rfl rfl rfl ?_
  refine w_ic (n := 1) (j := 121) rfl rfl ?_
  refine w_cvPU (j := 122) rfl rfl rfl rfl (by first | assumption | rfl) rfl rfl (sp_59 (kd := 1) (by decide) r1) (Nat.ble_eq.mpr (by omega)) ?_
  rintro h3 ⟨u3, r3⟩
  refine w_rt rfl ?_
  refine ⟨_, rfl, u3.wc, Or.inl ⟨1, gx_sk tx n p, wB_none hE (fun k hk => ?_), ⟨by decide, _, _, r3⟩, ⟨i, by omega, by rw [u3 57 (by decide)]; exact l1⟩, t1.of (u3 3 (by decide))⟩⟩
  rw [ez]
  rcases (show k = 0 ∨ k = 1 ∨ k = 2 ∨ k = 3 ∨ k = 4 ∨ k = 5 ∨ k = 6 ∨ k = 7 by omega) with rfl | rfl | rfl | rfl | rfl | rfl | rfl | rfl
  · exact n0
  · exact n1
  · exact n2
  · exact n3
  · exact n4
  · exact n5
  · exact n6
  · exact n7
end WC
