theorem px_sh497 : ∀ k, k < 80 → ix_sh (497 + k) = (1, 4, 0) := by decide
theorem px_sh113b : ∀ k, k < 6 → ix_sh (113 + k) = (1, 2, 0) := by decide
theorem pw_bor : ∀ q, q < 64 → ∀ b, b < 6 → (∀ b', b' < 6 → pf_bt (nI q ||| pf_bit b) b' = if b' = b then nI 1 else pf_bt (nI q) b') ∧ ∃ q', q' < 64 ∧ nI q ||| pf_bit b = nI q' := by decide +kernel
theorem pw_ban : ∀ q, q < 64 → ∀ b, b < 6 → (∀ b', b' < 6 → pf_bt (nI q &&& (pf_bit b ^^^ (-1))) b' = if b' = b then nI 0 else pf_bt (nI q) b') ∧ ∃ q', q' < 64 ∧ nI q &&& (pf_bit b ^^^ (-1)) = nI q' := by decide +kernel
def pw_mE (cs : List (Nat × Nat)) (N B T : Nat) (hd fd pt : Nat → Int32) (h : ix_H) : Prop := (h 104 1 = nI N ∧ N ≤ 8) ∧ B ≤ 6 ∧ h 104 2 = nI T ∧ (∀ b, b < B → h (113 + b) 1 = hd b ∧ h (113 + b) 0 = fd b) ∧ (∀ c, c < N → h (129 + c) 0 = pt c) ∧ px_mw h cs ∧ pf_wf cs 0 1
def pw_row (k a b : Nat) (f : Nat → Int32) : Prop := f 0 = nI k ∧ (k = 0 → f 1 = nI a ∧ f 2 = nI b) ∧ (k = 1 ∨ k = 2 → f 2 = nI a) ∧ (k = 3 ∨ k = 5 → f 1 = nI a) ∧ (k = 4 → f 1 = nI a ∧ f 2 = nI b)
section PW
variable {h : ix_H} {B N T : Nat} {X : pw_X} {cs : List (Nat × Nat)} {hd fd pt : Nat → Int32}
theorem pw_mR.pl {c : Nat} {v : Int32} (hc : c < 8) (R : pw_mR X (h 577)) : pw_mR ((X.1.1, X.1.2.1, upd X.1.2.2.1 c v, X.1.2.2.2), X.2) (ix_up h 577 c v 577) := by
  obtain ⟨⟨r1, r2, r3, r4, r5⟩, r6⟩ := R
  refine ⟨⟨fun d hd => ?_, fun d hd => ?_, fun d hd => ?_, fun b hb => ?_, ?_⟩, ?_⟩
  · rw [px_up_nk (by omega)]; exact r1 d hd
  · rw [px_up_nk (by omega)]; exact r2 d hd
  · show ix_up h 577 c v 577 d = upd X.1.2.2.1 c v d
    by_cases e : d = c
    · rw [e, px_up_at, pk_us]
    · rw [px_up_nk e, pk_un e]; exact r3 d hd
  · rw [px_up_nk (by omega)]; exact r4 b hb
  · rw [px_up_nk (by omega)]; exact r5
  · rw [px_up_nk (by omega)]; exact r6
theorem pw_mR.st {c : Nat} {v : Int32} (hc : c < 8) (R : pw_mR X (h 577)) : pw_mR ((upd X.1.1 c v, X.1.2), X.2) (ix_up h 577 (8 + c) v 577) := by
  obtain ⟨⟨r1, r2, r3, r4, r5⟩, r6⟩ := R
  refine ⟨⟨fun d hd => ?_, fun d hd => ?_, fun d hd => ?_, fun b hb => ?_, ?_⟩, ?_⟩
  · show ix_up h 577 (8 + c) v 577 (8 + d) = upd X.1.1 c v d
    by_cases e : d = c
    · rw [e, px_up_at, pk_us]
    · rw [px_up_nk (by omega), pk_un e]; exact r1 d hd
  · rw [px_up_nk (by omega)]; exact r2 d hd
  · rw [px_up_nk (by omega)]; exact r3 d hd
  · rw [px_up_nk (by omega)]; exact r4 b hb
  · rw [px_up_nk (by omega)]; exact r5
  · rw [px_up_nk (by omega)]; exact r6
theorem pw_mR.ft {b : Nat} {v w fl : Int32} (hb : b < 6) (hw : ∀ b', b' < 6 → pf_bt w b' = if b' = b then v else pf_bt X.1.2.2.2.1 b') (R : pw_mR X (h 577)) : pw_mR ((X.1.1, X.1.2.1, X.1.2.2.1, w, X.1.2.2.2.2), fl) (ix_up (ix_up h 577 (24 + b) v) 577 30 fl 577) := by
  obtain ⟨⟨r1, r2, r3, r4, r5⟩, r6⟩ := R
  refine ⟨⟨fun d hd => ?_, fun d hd => ?_, fun d hd => ?_, fun b' hb' => ?_, ?_⟩, px_up_at⟩
  · rw [px_up_nk (by omega), px_up_nk (by omega)]; exact r1 d hd
  · rw [px_up_nk (by omega), px_up_nk (by omega)]; exact r2 d hd
  · rw [px_up_nk (by omega), px_up_nk (by omega)]; exact r3 d hd
  · show _ = pf_bt w b'
    rw [px_up_nk (by omega), hw b' hb']
    by_cases e : b' = b
    · rw [if_pos e, e, px_up_at]
    · rw [if_neg e, px_up_nk (by omega)]; exact r4 b' hb'
  · rw [px_up_nk (by omega), px_up_nk (by omega)]; exact r5
theorem sp_205 {j k a b : Nat} (E : pw_mE cs N B T hd fd pt h) (hj : j < 80) (rw' : pw_row k a b (h (497 + j))) (v : pw_vk N B k a b) (ok : pw_ok B X) (R : pw_mR X (h 577)) : px_PI 8 205 [.ref 100, .ref 577, .ref (497 + j)] h (fun v h1 => v = px_b (pw_do cs N T hd fd pt k a b X).1 ∧ px_fr [494, 495, 577, 579] h h1 ∧ pw_mR (pw_do cs N T hd fd pt k a b X).2 (h1 577)) := by
  obtain ⟨⟨e1, e2⟩, e4, e5, e6, e7, e8, e9⟩ := E
  obtain ⟨v1, v2, v3, v4, v5⟩ := v
  obtain ⟨r0, m0, m1, m3, m4⟩ := rw'
  have sj := px_sh497 j hj
  have R' := R
  obtain ⟨⟨g1, g2, g3, g4, g5⟩, g6⟩ := R'
  obtain ⟨⟨o1, o2, q, o3, o4⟩, y, y1, y2, y3⟩ := ok
  refine px_M (M := mt_205) (ops := mo_205) tb_205 rfl rfl rfl rfl rfl ?_
  refine w_al (j := 1) rfl rfl rfl ?_
  refine w_ic (n := 1) (j := 2) rfl rfl ?_
  refine w_ial (j := 3) rfl rfl (by first | assumption | rfl) rfl (by omega) rfl rfl ?_
  refine w_is (j := 4) rfl rfl rfl ?_
  refine w_al (j := 5) rfl rfl rfl ?_
  refine w_ic (n := 2) (j := 6) rfl rfl ?_
  refine w_ial (j := 7) rfl rfl (by first | assumption | rfl) rfl (by omega) rfl rfl ?_
  refine w_iS (j := 8) rfl rfl rfl ?_
  refine w_al (j := 9) rfl rfl rfl ?_
  refine w_ic (n := 0) (j := 10) rfl rfl ?_
  refine w_ial (j := 11) rfl rfl (by first | assumption | rfl) rfl (by omega) rfl r0 ?_
  have no : ∀ {p : Bool × pw_X}, p = (false, X) → ∃ v h1, ((.inl (some (.int (nI 0))), h, 0) : ix_R) = (.inl (some (.int v)), h1, 0) ∧ v = px_b p.1 ∧ px_fr [494, 495, 577, 579] h h1 ∧ pw_mR p.2 (h1 577) := fun z => by
    rw [z]
    exact ⟨_, _, rfl, rfl, px_fr.rf, R⟩
  rcases (show k = 0 ∨ k = 1 ∨ k = 2 ∨ k = 3 ∨ k = 4 ∨ k = 5 ∨ k = 6 by omega) with rfl | rfl | rfl | rfl | rfl | rfl | rfl
  · obtain ⟨m1', m2'⟩ := m0 rfl
    obtain ⟨v2, v2'⟩ := v2 rfl
    rw [m1', m2']
    have p3 := g3 a (by omega)
    have hb := (e6 b v2').1
    have sb := px_sh113b b (by omega)
    show px_R _ _ _ _ _ _ _ _ _ (fun r => ∃ v h1, r = _ ∧ v = px_b (pw_k0 N hd a b X).1 ∧ px_fr [494, 495, 577, 579] h h1 ∧ pw_mR (pw_k0 N hd a b X).2 (h1 577))
    have ct : pf_ct (h 577) (nI b) N = pf_ct X.1.2.2.1 (nI b) N := pf_ct_congr (fun d hd => g3 d (by omega))
    refine w_swN (t := 12) rfl (by decide) (by omega) rfl ?_
    refine w_al (j := 13) rfl rfl rfl ?_
    refine w_ic (n := 0) (j := 14) rfl rfl ?_
    refine w_il (j := 15) rfl rfl rfl ?_
    first | refine w_add0 (j := 16) rfl rfl ?_ | refine w_addN (j := 16) rfl rfl ?_ | refine w_add (j := 16) rfl rfl ?_
    refine w_ial (j := 17) rfl rfl (by first | assumption | rfl) rfl (by omega) rfl p3 ?_
    refine w_bi (j := 18) (a := (-2)) rfl rfl (by decide) ?_
    refine w_eq (j := 19) rfl rfl (fun d1 => ?_) (fun d1 => ?_)
    ·
      refine w_ic (n := 0) (j := 38) rfl rfl ?_
      refine w_irB rfl (by first | exact Or.inl rfl | exact Or.inr rfl | exact px_b01 _) ?_
      exact no (by unfold pw_k0; rw [if_pos (Or.inl d1)])
    refine w_al (j := 20) rfl rfl rfl ?_
    refine w_ic (n := 0) (j := 21) rfl rfl ?_
    refine w_il (j := 22) rfl rfl rfl ?_
    first | refine w_add0 (j := 23) rfl rfl ?_ | refine w_addN (j := 23) rfl rfl ?_ | refine w_add (j := 23) rfl rfl ?_
    refine w_ial (j := 24) rfl rfl (by first | assumption | rfl) rfl (by omega) rfl p3 ?_
    refine w_iL (j := 25) rfl rfl rfl ?_
    refine w_eq (j := 26) rfl rfl (fun d2 => ?_) (fun d2 => ?_)
    ·
      refine w_ic (n := 0) (j := 38) rfl rfl ?_
      refine w_irB rfl (by first | exact Or.inl rfl | exact Or.inr rfl | exact px_b01 _) ?_
      exact no (by unfold pw_k0; rw [if_pos (Or.inr (Or.inl d2))])
    refine w_al (j := 27) rfl rfl rfl ?_
    refine w_al (j := 28) rfl rfl rfl ?_
    refine w_iL (j := 29) rfl rfl rfl ?_
    refine w_cvI (j := 30) rfl rfl rfl rfl (by first | assumption | rfl) rfl rfl (sp_197 px_Rw577 e1 e2) rfl ?_
    rw [ct]
    refine w_al (j := 31) rfl rfl rfl ?_
    first | refine w_gr (j := 32) rfl rfl (by first | assumption | rfl) (by first | assumption | rfl) rfl ?_ | refine w_gi (j := 32) rfl rfl (by first | assumption | rfl) (by first | assumption | rfl) rfl rfl ?_
    refine w_iL (j := 33) rfl rfl rfl ?_
    refine w_aal (j := 34) rfl rfl (by first | assumption | rfl) rfl (by omega) rfl ?_
    refine w_ic (n := 1) (j := 35) rfl rfl ?_
    refine w_ial (j := 36) rfl rfl (by first | assumption | rfl) rfl (by omega) rfl hb ?_
    refine w_lt (j := 37) rfl rfl (fun d3 => ?_) (fun d3 => ?_)
    rotate_left
    ·
      refine w_ic (n := 0) (j := 38) rfl rfl ?_
      refine w_irB rfl (by first | exact Or.inl rfl | exact Or.inr rfl | exact px_b01 _) ?_
      exact no (by unfold pw_k0; rw [if_pos (Or.inr (Or.inr d3))])
    refine w_al (j := 40) rfl rfl rfl ?_
    refine w_ic (n := 0) (j := 41) rfl rfl ?_
    refine w_il (j := 42) rfl rfl rfl ?_
    first | refine w_add0 (j := 43) rfl rfl ?_ | refine w_addN (j := 43) rfl rfl ?_ | refine w_add (j := 43) rfl rfl ?_
    refine w_iL (j := 44) rfl rfl rfl ?_
    refine w_ias (j := 45) rfl rfl (by first | assumption | rfl) rfl (by omega) rfl ?_
    refine w_ic (n := 1) (j := 46) rfl rfl ?_
    refine w_irB rfl (by first | exact Or.inl rfl | exact Or.inr rfl | exact px_b01 _) ?_
    have z0 : ¬ (X.1.2.2.1 a = -2 ∨ X.1.2.2.1 a = nI b ∨ hd b ≤ nI (pf_ct X.1.2.2.1 (nI b) N)) := fun z => by
      rcases z with z | z | z
      · exact d1 z
      · exact d2 z
      · exact px_not_lt.mpr z d3
    unfold pw_k0
    rw [if_neg z0]
    exact ⟨_, _, rfl, rfl, px_fr.rf.up (by decide), R.pl (by omega)⟩
  · have m2' := m1 (Or.inl rfl)
    have v3 := v3 (Or.inl rfl)
    rw [m2']
    have p4 := g4 a (by omega)
    obtain ⟨bo, -⟩ := pw_bor q o3 a (by omega)
    rw [← o4] at bo
    show px_R _ _ _ _ _ _ _ _ _ (fun r => ∃ v h1, r = _ ∧ v = px_b (pw_k1 a X).1 ∧ px_fr [494, 495, 577, 579] h h1 ∧ pw_mR (pw_k1 a X).2 (h1 577))
    refine w_swN (t := 47) rfl (by decide) (by omega) rfl ?_
    refine w_al (j := 48) rfl rfl rfl ?_
    refine w_bi (j := 49) (a := nI 24) rfl rfl (by decide) ?_
    refine w_iL (j := 50) rfl rfl rfl ?_
    first | refine w_add0 (j := 51) rfl rfl ?_ | refine w_addN (j := 51) rfl rfl ?_ | refine w_add (j := 51) rfl rfl ?_
    refine w_ial (j := 52) rfl rfl (by first | assumption | rfl) rfl (by omega) rfl p4 ?_
    refine w_ic (n := 1) (j := 53) rfl rfl ?_
    refine w_eq (j := 54) rfl rfl (fun d1 => ?_) (fun d1 => ?_)
    ·
      refine w_ic (n := 0) (j := 59) rfl rfl ?_
      refine w_irB rfl (by first | exact Or.inl rfl | exact Or.inr rfl | exact px_b01 _) ?_
      exact no (by unfold pw_k1; rw [if_pos (Or.inl d1)])
    refine w_al (j := 55) rfl rfl rfl ?_
    refine w_bi (j := 56) (a := nI 30) rfl rfl (by decide) ?_
    refine w_ial (j := 57) rfl rfl (by first | assumption | rfl) rfl (by omega) rfl g6 ?_
    refine w_neZ (j := 58) rfl rfl (fun d2 => ?_) (fun d2 => ?_)
    rotate_left
    ·
      refine w_ic (n := 0) (j := 59) rfl rfl ?_
      refine w_irB rfl (by first | exact Or.inl rfl | exact Or.inr rfl | exact px_b01 _) ?_
      exact no (by unfold pw_k1; rw [if_pos (Or.inr d2)])
    have g6' : ix_up h 577 (24 + a) (nI 1) 577 30 = X.2 := by rw [px_up_nk (by omega)]; exact g6
    refine w_al (j := 61) rfl rfl rfl ?_
    refine w_bi (j := 62) (a := nI 24) rfl rfl (by decide) ?_
    refine w_iL (j := 63) rfl rfl rfl ?_
    first | refine w_add0 (j := 64) rfl rfl ?_ | refine w_addN (j := 64) rfl rfl ?_ | refine w_add (j := 64) rfl rfl ?_
    refine w_ic (n := 1) (j := 65) rfl rfl ?_
    refine w_ias (j := 66) rfl rfl (by first | assumption | rfl) rfl (by omega) rfl ?_
    refine w_al (j := 67) rfl rfl rfl ?_
    refine w_bi (j := 68) (a := nI 30) rfl rfl (by decide) ?_
    refine w_dup2 (j := 69) rfl rfl ?_
    refine w_ial (j := 70) rfl rfl (by first | assumption | rfl) rfl (by omega) rfl g6' ?_
    refine w_ic (n := 1) (j := 71) rfl rfl ?_
    refine w_sub (j := 72) rfl rfl ?_
    refine w_ias (j := 73) rfl rfl (by first | assumption | rfl) rfl (by omega) rfl ?_
    refine w_ic (n := 1) (j := 74) rfl rfl ?_
    refine w_irB rfl (by first | exact Or.inl rfl | exact Or.inr rfl | exact px_b01 _) ?_
    have z0 : ¬ (pf_bt X.1.2.2.2.1 a = nI 1 ∨ X.2 = 0) := fun z => by
      rcases z with z | z
      · exact d1 z
      · exact d2 z
    unfold pw_k1
    rw [if_neg z0]
    exact ⟨_, _, rfl, rfl, (px_fr.rf.up (by decide)).up (by decide), R.ft (by omega) bo⟩
  · have m2' := m1 (Or.inr rfl)
    have v3 := v3 (Or.inr rfl)
    rw [m2']
    have p4 := g4 a (by omega)
    obtain ⟨bo, -⟩ := pw_ban q o3 a (by omega)
    rw [← o4] at bo
    show px_R _ _ _ _ _ _ _ _ _ (fun r => ∃ v h1, r = _ ∧ v = px_b (pw_k2 a X).1 ∧ px_fr [494, 495, 577, 579] h h1 ∧ pw_mR (pw_k2 a X).2 (h1 577))
    have c1 := sp_202 (h := h) (r := 577) (b := a) px_Rw577 (by omega)
    rw [p4, g6] at c1
    refine w_swN (t := 75) rfl (by decide) (by omega) rfl ?_
    refine w_al (j := 76) rfl rfl rfl ?_
    refine w_iL (j := 77) rfl rfl rfl ?_
    refine w_csI (j := 78) rfl rfl rfl rfl rfl (c1) rfl ?_
    refine w_irB rfl (by first | exact Or.inl rfl | exact Or.inr rfl | exact px_b01 _) ?_
    unfold pw_k2
    by_cases z : pf_bt X.1.2.2.2.1 a ≠ 0
    · rw [if_pos z, if_pos z, decide_eq_true z]
      exact ⟨_, _, rfl, rfl, (px_fr.rf.up (by decide)).up (by decide), R.ft (by omega) bo⟩
    · rw [if_neg z, if_neg z, decide_eq_false z]
      exact ⟨_, _, rfl, rfl, px_fr.rf, R⟩
  · have m1' := m3 (Or.inl rfl)
    have v4 := v4 (Or.inl rfl)
    rw [m1']
    have p3 := g3 a (by omega)
    show px_R _ _ _ _ _ _ _ _ _ (fun r => ∃ v h1, r = _ ∧ v = px_b (pw_k3 a X).1 ∧ px_fr [494, 495, 577, 579] h h1 ∧ pw_mR (pw_k3 a X).2 (h1 577))
    have c1 := sp_203 (h := h) (r := 577) (c := a) px_Rw577 (by omega)
    rw [p3] at c1
    refine w_swN (t := 79) rfl (by decide) (by omega) rfl ?_
    refine w_al (j := 80) rfl rfl rfl ?_
    refine w_il (j := 81) rfl rfl rfl ?_
    refine w_csI (j := 82) rfl rfl rfl rfl rfl (c1) rfl ?_
    refine w_irB rfl (by first | exact Or.inl rfl | exact Or.inr rfl | exact px_b01 _) ?_
    unfold pw_k3
    by_cases z : 0 ≤ X.1.2.2.1 a
    · rw [if_pos z, if_pos z, decide_eq_true z]
      exact ⟨_, _, rfl, rfl, px_fr.rf.up (by decide), R.pl (by omega)⟩
    · rw [if_neg z, if_neg z, decide_eq_false z]
      exact ⟨_, _, rfl, rfl, px_fr.rf, R⟩
  · obtain ⟨m1', m2'⟩ := m4 rfl
    have v4 := v4 (Or.inr (Or.inl rfl))
    rw [m1', m2']
    have p3 := g3 a (by omega)
    have p1 := g1 a (by omega)
    obtain ⟨s, s1, s2⟩ := o1 a (by omega)
    show px_R _ _ _ _ _ _ _ _ _ (fun r => ∃ v h1, r = _ ∧ v = px_b (pw_k4 a b X).1 ∧ px_fr [494, 495, 577, 579] h h1 ∧ pw_mR (pw_k4 a b X).2 (h1 577))
    refine w_swN (t := 83) rfl (by decide) (by omega) rfl ?_
    refine w_al (j := 84) rfl rfl rfl ?_
    refine w_ic (n := 0) (j := 85) rfl rfl ?_
    refine w_il (j := 86) rfl rfl rfl ?_
    first | refine w_add0 (j := 87) rfl rfl ?_ | refine w_addN (j := 87) rfl rfl ?_ | refine w_add (j := 87) rfl rfl ?_
    refine w_ial (j := 88) rfl rfl (by first | assumption | rfl) rfl (by omega) rfl p3 ?_
    refine w_bi (j := 89) (a := (-2)) rfl rfl (by decide) ?_
    refine w_eq (j := 90) rfl rfl (fun d1 => ?_) (fun d1 => ?_)
    ·
      refine w_ic (n := 0) (j := 98) rfl rfl ?_
      refine w_irB rfl (by first | exact Or.inl rfl | exact Or.inr rfl | exact px_b01 _) ?_
      exact no (by unfold pw_k4; rw [if_pos (Or.inl d1)])
    refine w_al (j := 91) rfl rfl rfl ?_
    refine w_bi (j := 92) (a := nI 8) rfl rfl (by decide) ?_
    refine w_il (j := 93) rfl rfl rfl ?_
    first | refine w_add0 (j := 94) rfl rfl ?_ | refine w_addN (j := 94) rfl rfl ?_ | refine w_add (j := 94) rfl rfl ?_
    refine w_ial (j := 95) rfl rfl (by first | assumption | rfl) rfl (by omega) rfl p1 ?_
    refine w_bi (j := 96) (a := nI 99) rfl rfl (by decide) ?_
    refine w_ne (j := 97) rfl rfl (fun d2 => ?_) (fun d2 => ?_)
    rotate_left
    ·
      refine w_ic (n := 0) (j := 98) rfl rfl ?_
      refine w_irB rfl (by first | exact Or.inl rfl | exact Or.inr rfl | exact px_b01 _) ?_
      exact no (by unfold pw_k4; rw [if_pos (Or.inr (by rw [d2]; decide))])
    refine w_al (j := 100) rfl rfl rfl ?_
    refine w_bi (j := 101) (a := nI 8) rfl rfl (by decide) ?_
    refine w_il (j := 102) rfl rfl rfl ?_
    first | refine w_add0 (j := 103) rfl rfl ?_ | refine w_addN (j := 103) rfl rfl ?_ | refine w_add (j := 103) rfl rfl ?_
    refine w_bi (j := 104) (a := nI 99) rfl rfl (by decide) ?_
    refine w_al (j := 105) rfl rfl rfl ?_
    refine w_bi (j := 106) (a := nI 8) rfl rfl (by decide) ?_
    refine w_il (j := 107) rfl rfl rfl ?_
    first | refine w_add0 (j := 108) rfl rfl ?_ | refine w_addN (j := 108) rfl rfl ?_ | refine w_add (j := 108) rfl rfl ?_
    refine w_ial (j := 109) rfl rfl (by first | assumption | rfl) rfl (by omega) rfl p1 ?_
    refine w_iL (j := 110) rfl rfl rfl ?_
    refine w_add (j := 111) rfl rfl ?_
    refine w_csI (j := 112) rfl rfl rfl rfl rfl (sp_156) rfl ?_
    refine w_ias (j := 113) rfl rfl (by first | assumption | rfl) rfl (by omega) rfl ?_
    refine w_ic (n := 1) (j := 114) rfl rfl ?_
    refine w_irB rfl (by first | exact Or.inl rfl | exact Or.inr rfl | exact px_b01 _) ?_
    have z0 : ¬ (X.1.2.2.1 a = -2 ∨ nI 99 ≤ X.1.1 a) := fun z => by
      rcases z with z | z
      · exact d1 z
      · rw [s2, px_nle (by decide) (by omega)] at z
        exact d2 (by rw [s2, show s = 99 by omega])
    unfold pw_k4
    rw [if_neg z0]
    exact ⟨_, _, rfl, rfl, px_fr.rf.up (by decide), R.st (by omega)⟩
  · have m1' := m3 (Or.inr rfl)
    have v4 := v4 (Or.inr (Or.inr rfl))
    rw [m1']
    have p3 := g3 a (by omega)
    have p2 := g2 a (by omega)
    show px_R _ _ _ _ _ _ _ _ _ (fun r => ∃ v h1, r = _ ∧ v = px_b (pw_k5 T a X).1 ∧ px_fr [494, 495, 577, 579] h h1 ∧ pw_mR (pw_k5 T a X).2 (h1 577))
    have c1 := sp_204 (h := h) (r := 577) (c := a) px_Rw577 (by omega)
    rw [p3, p2, e5] at c1
    refine w_swN (t := 115) rfl (by decide) (by omega) rfl ?_
    refine w_al (j := 116) rfl rfl rfl ?_
    refine w_al (j := 117) rfl rfl rfl ?_
    refine w_il (j := 118) rfl rfl rfl ?_
    refine w_cvI (j := 119) rfl rfl rfl rfl (by first | assumption | rfl) rfl rfl (c1) rfl ?_
    by_cases z : X.1.2.2.1 a ≠ -2 ∧ nI T ≤ X.1.2.1 a
    · rw [decide_eq_true z]
      refine w_neB (j := 120) rfl rfl (fun _ => ?_) (fun c => absurd c (by simp))
      refine w_al (j := 123) rfl rfl rfl ?_
      refine w_ic (n := 0) (j := 124) rfl rfl ?_
      refine w_il (j := 125) rfl rfl rfl ?_
      first | refine w_add0 (j := 126) rfl rfl ?_ | refine w_addN (j := 126) rfl rfl ?_ | refine w_add (j := 126) rfl rfl ?_
      refine w_bi (j := 127) (a := (-2)) rfl rfl (by decide) ?_
      refine w_ias (j := 128) rfl rfl (by first | assumption | rfl) rfl (by omega) rfl ?_
      refine w_ic (n := 1) (j := 129) rfl rfl ?_
      refine w_irB rfl (by first | exact Or.inl rfl | exact Or.inr rfl | exact px_b01 _) ?_
      unfold pw_k5
      rw [if_pos z]
      exact ⟨_, _, rfl, rfl, px_fr.rf.up (by decide), R.pl (by omega)⟩
    · rw [decide_eq_false z]
      refine w_neB (j := 120) rfl rfl (fun c => absurd c (by simp)) (fun _ => ?_)
      refine w_ic (n := 0) (j := 121) rfl rfl ?_
      refine w_irB rfl (by first | exact Or.inl rfl | exact Or.inr rfl | exact px_b01 _) ?_
      exact no (by unfold pw_k5; rw [if_neg z])
  · show px_R _ _ _ _ _ _ _ _ _ (fun r => ∃ v h1, r = _ ∧ v = px_b (pw_k6 cs N fd pt X).1 ∧ px_fr [494, 495, 577, 579] h h1 ∧ pw_mR (pw_k6 cs N fd pt X).2 (h1 577))
    refine w_swD rfl (by decide) (by decide) ?_
    refine w_al (j := 131) rfl rfl rfl ?_
    refine w_bi (j := 132) (a := nI 31) rfl rfl (by decide) ?_
    refine w_ial (j := 133) rfl rfl (by first | assumption | rfl) rfl (by omega) rfl g5 ?_
    refine w_si (j := 134) (a := nI 300) rfl rfl (by decide) ?_
    refine w_lt (j := 135) rfl rfl (fun d1 => ?_) (fun d1 => ?_)
    rotate_left
    ·
      refine w_ic (n := 0) (j := 136) rfl rfl ?_
      refine w_irB rfl (by first | exact Or.inl rfl | exact Or.inr rfl | exact px_b01 _) ?_
      exact no (by unfold pw_k6; rw [if_neg (px_not_lt.mpr d1)])
    refine w_al (j := 138) rfl rfl rfl ?_
    refine w_al (j := 139) rfl rfl rfl ?_
    refine w_cvPU (j := 140) rfl rfl rfl rfl (by first | assumption | rfl) rfl rfl (px_passM (B := B) (fd := fd) (pt := pt) px_Rw577 e1 e2 e4 e8 e9 (fun b hb => (e6 b hb).2) e7 R.1 ⟨o1, o2, q, o3, o4⟩) rfl ?_
    rintro h1 ⟨f1, f2, f3⟩
    refine w_ic (n := 1) (j := 141) rfl rfl ?_
    refine w_irB rfl (by first | exact Or.inl rfl | exact Or.inr rfl | exact px_b01 _) ?_
    unfold pw_k6
    rw [if_pos d1]
    exact ⟨_, _, rfl, rfl, f1.sub (by decide), f2, f3.trans R.2⟩
end PW
