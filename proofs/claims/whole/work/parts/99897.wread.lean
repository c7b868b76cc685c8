def wRd (z : we) (tx : Nat → Nat) (n : Nat) (h h' : ix_H) : Prop := wcF h h' ∧ ((∃ K PL, ((∃ m, wSB z 12 tx n 0 m 0 K PL) ∨ ∃ m p2 DD, wSG z 12 tx n 0 m 0 p2 DD ∧ p2 < n ∧ K = 1 ∧ PL = p2) ∧ px_rf h' tx n 0 K (nI PL)) ∨ ∃ m p2 DD i', wSG z 12 tx n 0 m 0 p2 DD ∧ ¬ p2 < n ∧ pw_D z.2.2.1 DD ∧ h' 57 4 = nI i' ∧ i' ≤ 150 ∧ (∃ P, pw_rP 0 i' P ∧ P h' ∧ wcx z 0 i' P DD) ∧ ∃ p pc, px_rd h' tx n p pc 0 0 (-1))
section WC
variable {z : we} {h : ix_H} {tx : Nat → Nat} {n p pc o k : Nat} {pl : Int32}
theorem sp_93 (hn : n ≤ 150) (t : wTc z h) (r : px_rd h tx n 0 pc 0 0 (-1)) : px_PU 25 93 [.ref 57, .ref 2, .ref 3] h (wRd z tx n h) := by
  have F0 : wcF h (ix_up h 57 4 (nI 0)) := ⟨fun a _ ha => ix_up_ne (by omega), fun k hk => px_up_nk hk⟩
  have S : wCS z (ix_up h 57 4 (nI 0)) tx n 0 0 0 := ⟨hn, Nat.le_refl _, px_up_at, t.fr F0, _, r.fr (S := [57]) (px_fr.rf.up (by decide)) (by decide) (by decide) (by decide)⟩
  have T : px_PU 24 94 [.ref 57, .ref 2, .ref 3] (ix_up h 57 4 (nI 0)) (wRS z 11 tx n 0 0 0 (ix_up h 57 4 (nI 0))) := wU_all 6 0 rfl _ _ _ (Nat.zero_le _) S
  refine px_M (M := mt_93) (ops := mo_93) tb_93 rfl rfl rfl rfl rfl ?_
  refine w_al (j := 1) rfl rfl rfl ?_
  refine w_ic (n := 0) (j := 2) rfl rfl ?_
  refine w_pf (j := 3) rfl rfl (by first | assumption | rfl) (by first | assumption | rfl) rfl ?_
  refine w_al (j := 4) rfl rfl rfl ?_
  refine w_al (j := 5) rfl rfl rfl ?_
  refine w_al (j := 6) rfl rfl rfl ?_
  refine w_cvPU (j := 7) rfl rfl rfl rfl (by first | assumption | rfl) rfl rfl (T) rfl ?_
  rintro h1 ⟨F1, q⟩
  refine w_al (j := 8) rfl rfl rfl ?_
  rcases q with ⟨m, K, PL, sb, rf, -⟩ | ⟨m, p2, DD, i', sg, hDD, ⟨-, a2, a3, a4, pc2, r2⟩, k1, k2, kP⟩
  ·
    refine w_cvPI (j := 9) rfl rfl rfl rfl (by first | assumption | rfl) rfl rfl (sp_61f rf) rfl ?_
    rintro v h2 ⟨rfl, rfl⟩
    refine w_eqB (j := 10) rfl rfl (fun _ => ?_) (fun c => absurd c (by simp))
    refine w_rt rfl ?_
    exact ⟨_, rfl, F0.tr F1, Or.inl ⟨K, PL, Or.inl ⟨m, sb⟩, rf⟩⟩
  have xl := wSG_le _ _ _ sg
  refine w_cvPI (j := 9) rfl rfl rfl rfl (by first | assumption | rfl) rfl rfl (sp_61 r2) rfl ?_
  rintro v h2 ⟨v2, u2, r3⟩
  rw [if_pos rfl, xl.2.2.1] at r3
  rw [xl.2.2.1] at v2
  subst v2
  by_cases c : p2 < n
  ·
    rw [decide_eq_true ⟨rfl, c⟩]
    refine w_eqB (j := 10) rfl rfl (fun c => absurd c (by simp)) (fun _ => ?_)
    refine w_al (j := 11) rfl rfl rfl ?_
    refine w_ic (n := 1) (j := 12) rfl rfl ?_
    refine w_cvPU (j := 13) rfl rfl rfl rfl (by first | assumption | rfl) rfl rfl (sp_59 (kd := 1) (by decide) r3) rfl ?_
    rintro h3 ⟨u3, r4⟩
    refine w_rt rfl ?_
    exact ⟨_, rfl, (F0.tr F1).tr (u2.tr u3).wc, Or.inl ⟨1, p2, Or.inr ⟨m, p2, DD, sg, c, rfl, rfl⟩, by decide, _, _, r4⟩⟩
  rw [decide_eq_false (fun q => c q.2)]
  refine w_eqB (j := 10) rfl rfl (fun _ => ?_) (fun c => absurd c (by simp))
  refine w_rt rfl ?_
  obtain ⟨P, q1, q2, q3⟩ := kP
  exact ⟨_, rfl, (F0.tr F1).tr u2.wc, Or.inr ⟨m, p2, DD, i', sg, c, hDD, by rw [u2 57 (by decide)]; exact a3, by omega, ⟨P, q1, q1 _ _ (fun k _ _ => by rw [u2 58 (by decide), u2 59 (by decide), u2 60 (by decide)]; exact ⟨rfl, rfl, rfl⟩) q2, q3⟩, _, _, r3⟩⟩
theorem sp_14 {W : Nat} (hW : W ≤ 16) (l : h 72 3 = nI W) : px_V 1 14 [.ref 72] h (some (.int (px_b (decide (W = 16))))) h := by
  refine px_M (M := mt_14) (ops := mo_14) tb_14 rfl rfl rfl rfl rfl ?_
  refine w_al (j := 1) rfl rfl rfl ?_
  first | refine w_gr (j := 2) rfl rfl (by first | assumption | rfl) (by first | assumption | rfl) rfl ?_ | refine w_gi (j := 2) rfl rfl (by first | assumption | rfl) (by first | assumption | rfl) rfl l ?_
  refine w_bi (j := 3) (a := nI 16) rfl rfl (by decide) ?_
  refine w_ltN (j := 4) rfl rfl (by omega) (by omega) (fun c => ?_) (fun c => ?_)
  ·
    refine w_ic (n := 0) (j := 7) rfl rfl ?_
    refine w_irB rfl (by first | exact Or.inl rfl | exact Or.inr rfl | exact px_b01 _) ?_
    rw [decide_eq_false (by omega)]
    rfl
  ·
    refine w_ic (n := 1) (j := 5) rfl rfl ?_
    refine w_go rfl ?_
    refine w_irB rfl (by first | exact Or.inl rfl | exact Or.inr rfl | exact px_b01 _) ?_
    rw [decide_eq_true (by omega)]
    rfl
theorem sp_15 {W : Nat} (hW : W < 16) (l : h 72 3 = nI W) : px_PU 3 15 [.ref 72, .ref 64] h (fun h1 => ∃ h0, px_stq h h0 73 (27 * W) ∧ h1 = ix_up h0 72 3 (nI (W + 1))) := by
  have V := sp_14 (Nat.le_of_lt hW) l
  rw [decide_eq_false (by omega)] at V
  refine px_M (M := mt_15) (ops := mo_15) tb_15 rfl rfl rfl rfl rfl ?_
  refine w_al (j := 1) rfl rfl rfl ?_
  refine w_cvI (j := 2) rfl rfl rfl rfl (by first | assumption | rfl) rfl rfl (V) rfl ?_
  refine w_neB (j := 3) rfl rfl (fun c => absurd c (by simp)) (fun _ => ?_)
  refine w_al (j := 4) rfl rfl rfl ?_
  refine w_al (j := 5) rfl rfl rfl ?_
  first | refine w_gr (j := 6) rfl rfl (by first | assumption | rfl) (by first | assumption | rfl) rfl ?_ | refine w_gi (j := 6) rfl rfl (by first | assumption | rfl) (by first | assumption | rfl) rfl rfl ?_
  refine w_al (j := 7) rfl rfl rfl ?_
  first | refine w_gr (j := 8) rfl rfl (by first | assumption | rfl) (by first | assumption | rfl) rfl ?_ | refine w_gi (j := 8) rfl rfl (by first | assumption | rfl) (by first | assumption | rfl) rfl l ?_
  refine w_bi (j := 9) (a := nI 27) rfl rfl (by decide) ?_
  first | refine w_mulN (j := 10) rfl rfl ?_ | refine w_mul (j := 10) rfl rfl ?_
  rw [Nat.mul_comm W 27]
  refine w_cvPU (j := 11) rfl rfl rfl rfl (by first | assumption | rfl) rfl rfl (sp_75 (l := 432) (o := 27 * W) (by decide) rfl (by omega) (by decide)) rfl ?_
  rintro h3 q3
  have l3 : h3 72 3 = nI W := by rw [q3.1 72 (by decide)]; exact l
  refine w_al (j := 12) rfl rfl rfl ?_
  first | refine w_dupr (j := 13) rfl rfl ?_ | refine w_dupi (j := 13) rfl rfl ?_
  first | refine w_gr (j := 14) rfl rfl (by first | assumption | rfl) (by first | assumption | rfl) rfl ?_ | refine w_gi (j := 14) rfl rfl (by first | assumption | rfl) (by first | assumption | rfl) rfl l3 ?_
  refine w_ic (n := 1) (j := 15) rfl rfl ?_
  first | refine w_add0 (j := 16) rfl rfl ?_ | refine w_addN (j := 16) rfl rfl ?_ | refine w_add (j := 16) rfl rfl ?_
  refine w_pf (j := 17) rfl rfl (by first | assumption | rfl) (by first | assumption | rfl) rfl ?_
  refine w_rt rfl ?_
  exact ⟨_, rfl, _, q3, rfl⟩
theorem sp_97 {i' : Nat} {P : ix_H → Prop} {DD : pw_s → pw_s} {X : pw_X} (hi : i' ≤ 150) (l : h 57 4 = nI i') (p : pw_rP 0 i' P) (hP : P h) (x : wcx z 0 i' P DD) (E : pw_cE z.1 z.2.1 z.2.2.1 z.2.2.2.1 z.2.2.2.2.1 z.2.2.2.2.2.1 z.2.2.2.2.2.2 h) (hDD : pw_D z.2.2.1 DD) (ok : pw_ok z.2.2.1 X) (R : pw_cR X h) : px_PU 7 97 [.ref 57, .ref 64, .ref 62] h (fun h' => px_fr [42, 45, 57, 61, 63, 64, 65, 66, 67] h h' ∧ pw_cst (DD ((0, 0, 0), X)) h') := by
  have so : pw_so z.2.2.1 ((0, 0, 0), X) := ⟨Nat.zero_le _, Nat.le_refl _, Nat.le_refl _, ok⟩
  have f0 : pw_cfr 0 i' h (ix_up (ix_up h 57 5 (nI 0)) 57 6 (nI 0)) := ⟨(px_fr.rf.up (by decide)).up (by decide), fun k k5 k6 => by rw [px_up_nk k6, px_up_nk k5], fun k _ => by rw [px_up_na (by decide), px_up_na (by decide)]⟩
  have so2 := hDD.2 _ so
  have b200 := so2.1.1
  refine px_M (M := mt_97) (ops := mo_97) tb_97 rfl rfl rfl rfl rfl ?_
  refine w_al (j := 1) rfl rfl rfl ?_
  refine w_ic (n := 0) (j := 2) rfl rfl ?_
  refine w_pf (j := 3) rfl rfl (by first | assumption | rfl) (by first | assumption | rfl) rfl ?_
  refine w_al (j := 4) rfl rfl rfl ?_
  refine w_ic (n := 0) (j := 5) rfl rfl ?_
  refine w_pf (j := 6) rfl rfl (by first | assumption | rfl) (by first | assumption | rfl) rfl ?_
  refine w_ic (n := 0) (j := 7) rfl rfl ?_
  refine w_is (j := 8) rfl rfl rfl ?_
  refine w_ic (n := 0) (j := 9) rfl rfl ?_
  refine w_iS (j := 10) rfl rfl rfl ?_
  refine w_ic (n := 0) (j := 11) rfl rfl ?_
  refine w_iS (j := 12) rfl rfl rfl ?_
  refine x _ ((0, 0, 0), X) 0 _ (E.fr f0) (p.fr f0 hP) ⟨i', hi, Nat.le_refl _, by rw [px_up_nk (by decide), px_up_nk (by decide)]; exact l⟩ so ⟨by rw [px_up_nk (by decide), px_up_at], px_up_at, ?_⟩ (Nat.zero_le _) (fun h' tick f1 st1 ht => ?_) (fun h' f1 st1 _ => ?_)
  · obtain ⟨⟨r1, r2, r3, r4, r5⟩, r6⟩ := R
    exact ⟨⟨fun c hc => by rw [px_up_na (by decide), px_up_na (by decide)]; exact r1 c hc, fun c hc => by rw [px_up_na (by decide), px_up_na (by decide)]; exact r2 c hc, fun c hc => by rw [px_up_na (by decide), px_up_na (by decide)]; exact r3 c hc, by rw [px_up_na (by decide), px_up_na (by decide)]; exact r4, by rw [px_up_na (by decide), px_up_na (by decide)]; exact r5⟩, by rw [px_up_na (by decide), px_up_na (by decide)]; exact r6⟩
  · have g4 : h' 57 4 = nI i' := by rw [f1.2.1 4 (by decide) (by decide), px_up_nk (by decide), px_up_nk (by decide)]; exact l
    have ht2 : tick ≤ 0 + 41 * ((DD ((0, 0, 0), X)).1.1 - 0) := ht
    generalize (DD ((0, 0, 0), X)).1.1 = bb at *
    refine w_iL (j := 13) rfl rfl rfl ?_
    refine w_lc (j := 14) (a := nI 100000) rfl rfl (by decide) ?_
    refine w_geN (j := 15) rfl rfl (by omega) (by omega) (fun c => absurd c (fun c => by omega)) (fun _ => ?_)
    refine w_iL (j := 16) rfl rfl rfl ?_
    refine w_ltM (j := 17) rfl rfl (by omega) ?_
    refine w_iL (j := 18) rfl rfl rfl ?_
    refine w_al (j := 19) rfl rfl rfl ?_
    first | refine w_gr (j := 20) rfl rfl (by first | assumption | rfl) (by first | assumption | rfl) rfl ?_ | refine w_gi (j := 20) rfl rfl (by first | assumption | rfl) (by first | assumption | rfl) rfl g4 ?_
    refine w_geN (j := 21) rfl rfl (by omega) (by omega) (fun _ => ?_) (fun c => absurd c (fun c => by omega))
    refine w_rt rfl ?_
    exact ⟨_, rfl, (f0.tr f1).1, st1⟩
  · exact ⟨_, rfl, (f0.tr f1).1, st1⟩
theorem px_nowX {B : Nat} (nw : px_now h 64 577 B 300) : pw_ok B (pf_cS h 64, h 64 5) ∧ pw_cR (pf_cS h 64, h 64 5) h ∧ pw_mR (pf_cS h 64, h 64 5) (h 577) := by
  have S := px_nowS nw
  obtain ⟨n1, n2, n3, n4, n5, n6, n7, y, n8, n9, n10⟩ := nw
  exact ⟨⟨S.2, y, n8, n9, n10⟩, ⟨⟨fun _ _ => rfl, fun _ _ => rfl, fun _ _ => rfl, rfl, rfl⟩, rfl⟩, S.1, n6.symm⟩
theorem px_nowY {B : Nat} {X : pw_X} (ok : pw_ok B X) (c : pw_cR X h) (m : pw_mR X (h 577)) : px_now h 64 577 B 300 := by
  obtain ⟨⟨o1, o2, o3⟩, y, o4, o5, o6⟩ := ok
  obtain ⟨⟨c1, c2, c3, c4, c5⟩, c6⟩ := c
  obtain ⟨⟨m1, m2, m3, m4, m5⟩, m6⟩ := m
  refine ⟨fun q hq => ⟨(c1 q hq).trans (m1 q hq).symm, ?_⟩, fun q hq => (c2 q hq).trans (m2 q hq).symm, fun q hq => ⟨(c3 q hq).trans (m3 q hq).symm, ?_⟩, ?_, fun b hb => ?_, c6.trans m6.symm, c5.trans m5.symm, y, o4, c5.trans o5, fun q hq => ?_⟩
  · rw [c1 q hq]; exact o1 q hq
  · rw [c3 q hq]; exact o2 q hq
  · rw [c4]; exact o3
  · rw [c4]; exact (m4 b hb).symm
  · rw [c2 q hq]; exact o6 q hq
end WC
