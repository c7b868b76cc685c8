section WC
variable {z : we} {h : ix_H} {tx : Nat → Nat} {n p pc o k : Nat} {pl : Int32}
theorem wM0_sk {j : Nat} (x : wM0 z h tx n p o j) : wM0 z h tx n (gx_sk tx n p) o j := by
  obtain ⟨x1, x2, x3, x4, x5, x6⟩ := x
  have sl := gx_sk_le (tx := tx) x3
  exact ⟨x1, by omega, sl.2, x4, x5, by rw [gx_sk_sk x3]; exact x6⟩
theorem wB_sk {E K PL : Nat} (x : wB z E tx n o (gx_sk tx n p) K PL) : wB z E tx n o p K PL := fun h j S => x h j (wM0_sk S)
theorem wH_sk {E p' : Nat} {DD : pw_s → pw_s} (hp : p ≤ n) (x : wH z E tx n o (gx_sk tx n p) p' DD) : wH z E tx n o p p' DD := by
  have sl := gx_sk_le (tx := tx) hp
  have x1 := x.1
  exact ⟨⟨by omega, by omega⟩, fun h j Q S H => x.2 h j Q (wM0_sk S) H⟩
theorem wK.seq {i i1 i2 : Nat} {D1 D2 : pw_s → pw_s} {h h1 h2 : ix_H} (hD1 : pw_D z.2.2.1 D1) (hD2 : pw_D z.2.2.1 D2) (a : wK z i i1 D1 h h1) (b : wK z i1 i2 D2 h1 h2) : wK z i i2 (fun s => D2 (D1 s)) h h2 := by
  obtain ⟨a1, a2, P, a3, a4, a5⟩ := a
  obtain ⟨b1, b2, P2, b3, b4, b5⟩ := b
  refine ⟨by omega, a2.tr b2 a1, fun h => P h ∧ P2 h, ?_, ⟨?_, b4⟩, pw_cx_seq a1 b1 b3 hD1 hD2 a5 b5⟩
  · rintro g g' e ⟨y1, y2⟩
    exact ⟨a3 _ _ (fun k k1 k2 => e k k1 (by omega)) y1, b3 _ _ (fun k k1 k2 => e k (by omega) k2) y2⟩
  · exact a3 _ _ (fun k k1 k2 => b2 k k2) a4
theorem wK.post {i i1 : Nat} {D1 : pw_s → pw_s} {h h1 h2 : ix_H} (f : px_fr [2] h1 h2) (a : wK z i i1 D1 h h1) : wK z i i1 D1 h h2 := by
  obtain ⟨a1, a2, P, a3, a4, a5⟩ := a
  exact ⟨a1, a2.tr (px_fr.wr (i := i) f) (Nat.le_refl _), P, a3, a3 _ _ (fun k k1 k2 => by rw [f 58 (by decide), f 59 (by decide), f 60 (by decide)]; exact ⟨rfl, rfl, rfl⟩) a4, a5⟩
theorem wK.id {i : Nat} : wK z i i (fun s => s) h h := ⟨Nat.le_refl _, wcR.rf, fun _ => True, fun _ _ _ _ => trivial, trivial, pw_cx_id⟩
theorem c94_19f {K PL q D : Nat} (hD : 2 ≤ D) (hq : q ≤ 200) (F : wCF z h tx n o K PL) : px_R px_E D mo_94 [] 19 [.ref 57, .ref 2, .ref 3, .int (nI q)] [] h 0 (fun r => r = (.inl none, h, 0)) := by
  first | refine w_incN (j := 20) rfl rfl rfl ?_ | refine w_inc (j := 20) rfl rfl rfl rfl ?_
  refine w_go rfl ?_
  refine w_il (j := 3) rfl rfl rfl ?_
  refine w_si (j := 4) (a := nI 150) rfl rfl (by decide) ?_
  refine w_geN (j := 5) rfl rfl (by omega) (by omega) (fun c => ?_) (fun c => ?_)
  ·
    refine w_rt rfl ?_
    rfl
  ·
    refine w_al (j := 6) rfl rfl rfl ?_
    refine w_cvPI (j := 7) rfl rfl rfl rfl (by first | assumption | rfl) rfl rfl (sp_61f F.1) (Nat.ble_eq.mpr (by omega)) ?_
    rintro v h1 ⟨rfl, rfl⟩
    refine w_eqB (j := 8) rfl rfl (fun _ => ?_) (fun c => absurd c (by simp))
    refine w_rt rfl ?_
    rfl
theorem c94_body {D E i q : Nat} (hD : 2 ≤ D) (hE : 3 ≤ E) (US : ∀ h p i, p ≤ n → wCS z h tx n p o i → px_PU D 95 [.ref 57, .ref 2, .ref 3] h (wR z E tx n o p i h)) (hq : 2 * q ≤ p) (hp : p ≤ n) (S : wCS z h tx n p o i) (IH : ∀ p1 h i q, p < p1 → 2 * q ≤ p1 → p1 ≤ n → wCS z h tx n p1 o i → px_R px_E D mo_94 [] 2 [.ref 57, .ref 2, .ref 3, .int (nI q)] [] h 0 (fun r => ∃ h', r = (.inl none, h', 0) ∧ wRS z E tx n o p1 i h h')) : px_R px_E D mo_94 [] 2 [.ref 57, .ref 2, .ref 3, .int (nI q)] [] h 0 (fun r => ∃ h', r = (.inl none, h', 0) ∧ wRS z E tx n o p i h h') := by
  obtain ⟨hn, hi, l, t, pc, r⟩ := S
  have sl := gx_sk_le (tx := tx) hp
  have ss := gx_sk_sk (tx := tx) hp
  refine w_il (j := 3) rfl rfl rfl ?_
  refine w_si (j := 4) (a := nI 150) rfl rfl (by decide) ?_
  refine w_geN (j := 5) rfl rfl (by omega) (by omega) (fun c => absurd c (fun c => by omega)) (fun _ => ?_)
  refine w_al (j := 6) rfl rfl rfl ?_
  refine w_cvPI (j := 7) rfl rfl rfl rfl (by first | assumption | rfl) rfl rfl (sp_61 r) (Nat.ble_eq.mpr (by omega)) ?_
  rintro v h1 ⟨v1, u1, r1⟩
  rw [if_pos rfl] at r1
  refine px_mono (Q := fun r => ∃ h', r = (.inl none, h', 0) ∧ wRS z E tx n o p i h1 h') ?_ (fun r q => wRS.frR u1 q)
  have l1 : h1 57 4 = nI i := by rw [u1 57 (by decide)]; exact l
  have t1 : wTc z h1 := t.of (u1 3 (by decide))
  subst v1
  by_cases c : gx_sk tx n p < n
  rotate_left
  ·
    rw [decide_eq_false (fun q => c q.2)]
    refine w_eqB (j := 8) rfl rfl (fun _ => ?_) (fun c => absurd c (by simp))
    refine w_rt rfl ?_
    exact ⟨_, rfl, wcF.rf, Or.inr ⟨0, gx_sk tx n p, _, i, ⟨rfl, hp, fun q => c q.1, rfl⟩, pw_D_id, ⟨hn, by omega, l1, t1, _, r1⟩, wK.id⟩⟩
  rw [decide_eq_true ⟨rfl, c⟩]
  refine w_eqB (j := 8) rfl rfl (fun c => absurd c (by simp)) (fun _ => ?_)
  refine w_al (j := 9) rfl rfl rfl ?_
  refine w_cvPI (j := 10) rfl rfl rfl rfl (by first | assumption | rfl) rfl rfl (sp_60 r1) (Nat.ble_eq.mpr (by omega)) ?_
  rintro v h2 ⟨v2, u2, r2⟩
  rw [ss] at v2 r2
  rw [if_pos c] at v2
  subst v2
  refine px_mono (Q := fun r => ∃ h', r = (.inl none, h', 0) ∧ wRS z E tx n o p i h2 h') ?_ (fun r q => wRS.frR u2 q)
  have l2 : h2 57 4 = nI i := by rw [u2 57 (by decide)]; exact l1
  have t2 : wTc z h2 := t1.of (u2 3 (by decide))
  have tb := (r2.1.2 _ c).1
  by_cases c3 : tx (gx_sk tx n p) = 93
  ·
    rw [c3]
    refine w_bi (j := 11) (a := nI 93) rfl rfl (by decide) ?_
    refine w_eq (j := 12) rfl rfl (fun _ => ?_) (fun c => absurd c (fun z => z rfl))
    refine w_rt rfl ?_
    exact ⟨_, rfl, wcF.rf, Or.inr ⟨0, gx_sk tx n p, _, i, ⟨rfl, hp, fun q => q.2 c3, rfl⟩, pw_D_id, ⟨hn, by omega, l2, t2, _, r2⟩, wK.id⟩⟩
  refine w_bi (j := 11) (a := nI 93) rfl rfl (by decide) ?_
  refine w_eqN (j := 12) rfl rfl (by omega) (by omega) (fun c => absurd c (fun c => by omega)) (fun _ => ?_)
  refine w_al (j := 13) rfl rfl rfl ?_
  refine w_al (j := 14) rfl rfl rfl ?_
  refine w_al (j := 15) rfl rfl rfl ?_
  refine w_cvPU (j := 16) rfl rfl rfl rfl (by first | assumption | rfl) rfl rfl (US h2 (gx_sk tx n p) i sl.2 ⟨hn, by omega, l2, t2, _, r2⟩) (Nat.ble_eq.mpr (by omega)) ?_
  rintro h3 ⟨F3, q3⟩
  rcases q3 with ⟨K, PL, b, F⟩ | ⟨p1, DD, i1, a1, a2, ⟨-, a3, a4, a5, pc3, r3⟩, a6⟩
  ·
    refine w_al (j := 17) rfl rfl rfl ?_
    refine w_bi (j := 18) (a := nI 59) rfl rfl (by decide) ?_
    refine w_cvPU (j := 19) rfl rfl rfl rfl (by first | assumption | rfl) rfl rfl (sp_63f (c := 59) (by decide) F.1) (Nat.ble_eq.mpr (by omega)) ?_
    rintro h4 ⟨u4, rf4⟩
    have F4 := F.fr u4 rf4
    refine px_mono (c94_19f hD (by omega) F4) ?_
    rintro _ rfl
    exact ⟨_, rfl, F3.tr u4.wc, Or.inl ⟨0, K, PL, ⟨⟨c, c3⟩, wB_sk b⟩, F4⟩⟩
  have a1' := wH_sk hp a1
  have h1p := a1'.1
  have sl1 := gx_sk_le (tx := tx) h1p.2
  refine w_al (j := 17) rfl rfl rfl ?_
  refine w_bi (j := 18) (a := nI 59) rfl rfl (by decide) ?_
  refine w_cvPU (j := 19) rfl rfl rfl rfl (by first | assumption | rfl) rfl rfl (sp_63 (c := 59) (by decide) r3) (Nat.ble_eq.mpr (by omega)) ?_
  rintro h4 ⟨u4, r4⟩
  skip
  by_cases c4 : gx_sk tx n p1 < n ∧ tx (gx_sk tx n p1) = 59
  rotate_left
  ·
    rw [if_neg c4] at r4
    have F4 : wCF z h4 tx n o 1 (gx_sk tx n p1) := ⟨⟨by decide, _, _, r4⟩, ⟨i1, by omega, by rw [u4 57 (by decide)]; exact a4⟩, a5.of (u4 3 (by decide))⟩
    refine px_mono (c94_19f hD (by omega) F4) ?_
    rintro _ rfl
    exact ⟨_, rfl, F3.tr u4.wc, Or.inl ⟨0, 1, _, ⟨⟨c, c3⟩, wH_B (by omega) a1' c4⟩, F4⟩⟩
  rw [if_pos c4] at r4
  have G := wH_G (by omega) a1' c4
  first | refine w_incN (j := 20) rfl rfl rfl ?_ | refine w_inc (j := 20) rfl rfl rfl rfl ?_
  refine w_go rfl ?_
  refine px_mono (IH (gx_sk tx n p1 + 1) h4 i1 (q + 1) (by omega) (by omega) (by omega) ⟨hn, by omega, by rw [u4 57 (by decide)]; exact a4, a5.of (u4 3 (by decide)), _, r4⟩) ?_
  rintro _ ⟨h5, rfl, F5, q5⟩
  refine ⟨_, rfl, (F3.tr u4.wc).tr F5, ?_⟩
  rcases q5 with ⟨m, K, PL, b, F⟩ | ⟨m, p2, D2, i2, b1, b2, b3, b4⟩
  · exact Or.inl ⟨m + 1, K, PL, ⟨⟨c, c3⟩, _, DD, a2, G, b⟩, F⟩
  · exact Or.inr ⟨m + 1, p2, _, i2, ⟨⟨c, c3⟩, _, DD, D2, a2, G, b2, b1, rfl⟩, pw_D_seq a2 b2, b3, (a6.post u4).seq a2 b2 b4⟩
theorem c94_loop {D E : Nat} (hD : 2 ≤ D) (hE : 3 ≤ E) (US : ∀ h p i, p ≤ n → wCS z h tx n p o i → px_PU D 95 [.ref 57, .ref 2, .ref 3] h (wR z E tx n o p i h)) : ∀ (m p : Nat) (h : ix_H) (i q : Nat), n - p ≤ m → 2 * q ≤ p → p ≤ n → wCS z h tx n p o i → px_R px_E D mo_94 [] 2 [.ref 57, .ref 2, .ref 3, .int (nI q)] [] h 0 (fun r => ∃ h', r = (.inl none, h', 0) ∧ wRS z E tx n o p i h h') := by
  intro m
  induction m with
  | zero =>
    intro p h i q hm hq hp S
    exact c94_body hD hE US hq hp S (fun p1 h i q a b c S => absurd a (by omega))
  | succ m ih =>
    intro p h i q hm hq hp S
    exact c94_body hD hE US hq hp S (fun p1 h i q a b c S => ih p1 h i q (by omega) b c S)
theorem sp_94 {D E i : Nat} (hD : 2 ≤ D) (hE : 3 ≤ E) (US : ∀ h p i, p ≤ n → wCS z h tx n p o i → px_PU D 95 [.ref 57, .ref 2, .ref 3] h (wR z E tx n o p i h)) (hp : p ≤ n) (S : wCS z h tx n p o i) : px_PU (D + 1) 94 [.ref 57, .ref 2, .ref 3] h (wRS z E tx n o p i h) := by
  refine px_M (M := mt_94) (ops := mo_94) tb_94 rfl rfl rfl rfl rfl ?_
  refine w_ic (n := 0) (j := 1) rfl rfl ?_
  refine w_is (j := 2) rfl rfl rfl ?_
  exact c94_loop hD hE US (n - p) p h i 0 (Nat.le_refl _) (by omega) hp S
theorem wU_all : ∀ (m o : Nat), o + m = 6 → wU z (6 + 3 * m) (5 + m) tx n o := by
  intro m
  induction m with
  | zero =>
    intro o ho h p i hp S
    obtain rfl : o = 6 := by omega
    refine sp_94 (D := 5) (by decide) (by decide) (fun h p i hp S => ?_) hp S
    refine sp_95 (D := 4) (by decide) (by decide) (by decide) hp S (fun h1 e u kw ez r => ?_)
    obtain ⟨hn, hi, l, t, -⟩ := S
    exact sp_96_6 (D := 3) (by decide) hn hp hi (by rw [u 57 (by decide)]; exact l) (t.of (u 3 (by decide))) kw ez r (by decide)
  | succ m ih =>
    intro o ho h p i hp S
    have U := ih (o + 1) (by omega)
    refine sp_94 (D := 6 + 3 * m + 2) (E := 5 + (m + 1)) (by omega) (by omega) (fun h p i hp S => ?_) hp S
    refine sp_95 (D := 6 + 3 * m + 1) (by omega) (by omega) (by omega) hp S (fun h1 e u kw ez r => ?_)
    obtain ⟨hn, hi, l, t, -⟩ := S
    exact sp_96 (D := 6 + 3 * m) (E := 5 + m) (by omega) (by omega) (by omega) hn hp hi (by rw [u 57 (by decide)]; exact l) (t.of (u 3 (by decide))) kw ez r U
end WC
