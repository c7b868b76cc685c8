-- a row of steps
def wSB (z : we) (D : Nat) (tx : Nat → Nat) (n o : Nat) : Nat → Nat → Nat → Nat → Prop
  | 0, p, K, PL => (gx_sk tx n p < n ∧ tx (gx_sk tx n p) ≠ 93) ∧ wB z D tx n o p K PL
  | m + 1, p, K, PL => (gx_sk tx n p < n ∧ tx (gx_sk tx n p) ≠ 93) ∧ ∃ p1 D1, pw_D z.2.2.1 D1 ∧ wG z D tx n o p p1 D1 ∧ wSB z D tx n o m p1 K PL
def wSG (z : we) (D : Nat) (tx : Nat → Nat) (n o : Nat) : Nat → Nat → Nat → (pw_s → pw_s) → Prop
  | 0, p, p', DD => p' = gx_sk tx n p ∧ p ≤ n ∧ ¬ (p' < n ∧ tx p' ≠ 93) ∧ DD = fun s => s
  | m + 1, p, p', DD => (gx_sk tx n p < n ∧ tx (gx_sk tx n p) ≠ 93) ∧ ∃ p1 D1 D2, pw_D z.2.2.1 D1 ∧ wG z D tx n o p p1 D1 ∧ pw_D z.2.2.1 D2 ∧ wSG z D tx n o m p1 p' D2 ∧ DD = fun s => D2 (D1 s)
def wL (z : we) (tx : Nat → Nat) (n o j p' : Nat) (DD : pw_s → pw_s) (h h' : ix_H) : Prop := ∃ (j' : Nat) (P : ix_H → Prop), j ≤ j' ∧ wF j h h' ∧ wM0 z h' tx n p' o j' ∧ pw_qP j j' P ∧ P h' ∧ wmx z (14 - o) j j' P DD
section WM
variable {z : we} {h : ix_H} {tx : Nat → Nat} {n p f o : Nat} {fp : Int32}
theorem wSG_le {D : Nat} {p' : Nat} : ∀ (m p : Nat) (DD : pw_s → pw_s), wSG z D tx n o m p p' DD → p ≤ p' ∧ p' ≤ n ∧ gx_sk tx n p' = p' ∧ ¬ (p' < n ∧ tx p' ≠ 93)
  | 0, p, DD, x => by
    obtain ⟨rfl, x2, x3, -⟩ := x
    have := gx_sk_le (tx := tx) x2
    exact ⟨this.1, this.2, gx_sk_sk x2, x3⟩
  | m + 1, p, DD, x => by
    obtain ⟨x1, p1, D1, D2, x2, x3, x4, x5, x6⟩ := x
    have a := wSG_le m p1 D2 x5
    have b := x3.1
    exact ⟨by omega, a.2⟩
theorem wS_g {D : Nat} {Rn : ix_H → Prop} (hg : ∀ p p1 D1 h j, gx_sk tx n p < n ∧ tx (gx_sk tx n p) ≠ 93 → wM0 z h tx n p o j → wG z D tx n o p p1 D1 → (∀ h1, wL z tx n o j p1 D1 h h1 → Rn h1) → Rn h) {p' : Nat} : ∀ (m p : Nat) (DD : pw_s → pw_s) (h : ix_H) (j : Nat), wSG z D tx n o m p p' DD → wM0 z h tx n p o j → (∀ h1, wL z tx n o j p' DD h h1 → Rn h1) → Rn h := by
  intro m
  induction m with
  | zero =>
    intro p DD h j x S H
    obtain ⟨rfl, x2, x3, rfl⟩ := x
    have := gx_sk_le (tx := tx) x2
    have ss := gx_sk_sk (tx := tx) x2
    obtain ⟨S1, S2, S3, S4, S5, S6⟩ := S
    refine H h ⟨j, fun _ => True, Nat.le_refl _, wF.rf, ⟨S1, by omega, by omega, S4, S5, by rw [ss]; exact S6⟩, ⟨by omega, fun _ _ _ _ => trivial⟩, trivial, pw_mx_id⟩
  | succ m ih =>
    intro p DD h j x S H
    obtain ⟨x1, p1, D1, D2, x2, x3, x4, x5, rfl⟩ := x
    refine hg p p1 D1 h j x1 S x3 (fun h1 L1 => ?_)
    obtain ⟨j1, P1, a1, a2, a3, a4, a5, a6⟩ := L1
    refine ih p1 D2 h1 j1 x5 a3 (fun h2 L2 => ?_)
    obtain ⟨j2, P2, b1, b2, b3, b4, b5, b6⟩ := L2
    refine H h2 ⟨j2, fun h => P1 h ∧ P2 h, by omega, a2.tr b2 a1, b3, ⟨b4.1, ?_⟩, ⟨?_, b5⟩, pw_mx_seq b1 b4 x2 x4 a6 b6⟩
    · rintro g g' e ⟨y1, y2⟩
      exact ⟨a4.2 _ _ (fun k k1 k2 => e k k1 (by omega)) y1, b4.2 _ _ (fun k k1 k2 => e k (by omega) k2) y2⟩
    · exact a4.2 _ _ (fun k k1 k2 => b2.1 _ (by omega) (by omega)) a5
theorem wS_b {D K PL : Nat} {Rn : ix_H → Prop} (hg : ∀ p p1 D1 h j, gx_sk tx n p < n ∧ tx (gx_sk tx n p) ≠ 93 → wM0 z h tx n p o j → wG z D tx n o p p1 D1 → (∀ h1, wL z tx n o j p1 D1 h h1 → Rn h1) → Rn h) (hb : ∀ p h j, gx_sk tx n p < n ∧ tx (gx_sk tx n p) ≠ 93 → wM0 z h tx n p o j → wB z D tx n o p K PL → (∀ h1, wF j h h1 → lMF h1 tx n o K PL → Rn h1) → Rn h) : ∀ (m p : Nat) (h : ix_H) (j : Nat), wSB z D tx n o m p K PL → wM0 z h tx n p o j → (∀ h1, wF j h h1 → lMF h1 tx n o K PL → Rn h1) → Rn h := by
  intro m
  induction m with
  | zero =>
    intro p h j x S H
    exact hb p h j x.1 S x.2 H
  | succ m ih =>
    intro p h j x S H
    obtain ⟨x1, p1, D1, x2, x3, x4⟩ := x
    refine hg p p1 D1 h j x1 S x3 (fun h1 L1 => ?_)
    obtain ⟨j1, P1, a1, a2, a3, a4, a5, a6⟩ := L1
    exact ih p1 h1 j1 x4 a3 (fun h2 f2 q => H h2 (a2.tr f2 a1) q)
-- after blanks
theorem wN_L {j p' : Nat} {DD : pw_s → pw_s} {h0 h1 h2 : ix_H} (x : wN z tx n o j p' DD h0 h1) (f : px_f1 h1 h2) (r : px_mr h2 tx n (gx_sk tx n p') 0 (-1) o) : wL z tx n o j p' DD h0 h2 := by
  obtain ⟨j', P, N1, N2, N3, N4, N5, N6⟩ := x
  obtain ⟨S1, S2, S3, S4, S5, -⟩ := N3
  exact ⟨j', P, N1, N2.tr f.wF N1, ⟨S1, S2, S3, by rw [f.2 29 (by decide) (by decide) (by decide) (by decide)]; exact S4, S5.of (f.1 104 (by decide)), r⟩, N4, N4.2 _ _ (fun k _ _ => f.1 _ (by omega)) N5, N6⟩
-- the loop in a bracket
theorem m100_g {D : Nat} {g1 g2 : Value} {Q : ix_R → Prop} (hD : 2 ≤ D) (p p1 : Nat) (D1 : pw_s → pw_s) (h : ix_H) (j : Nat) (c : gx_sk tx n p < n ∧ tx (gx_sk tx n p) ≠ 93) (S : wM0 z h tx n p o j) (x : wG z D tx n o p p1 D1) (H : ∀ h1, wL z tx n o j p1 D1 h h1 → px_R px_E D mo_193 [] 100 [.ref 100, g1, g2] [] h1 0 Q) : px_R px_E D mo_193 [] 100 [.ref 100, g1, g2] [] h 0 Q := by
  have r := S.2.2.2.2.2
  have r4 := r.2.2.1
  have r5 := r.2.2.2.2.1
  have S3 := S.2.2.1
  have sl := gx_sk_le (tx := tx) S3
  have S1 := S.1
  have V := sp_160 (k := gx_sk tx n p) (by omega) r
  rw [if_pos c.1] at V
  have tb := (r.1.2 _ c.1).1
  refine w_al (j := 101) rfl rfl rfl ?_
  first | refine w_gr (j := 102) rfl rfl (by first | assumption | rfl) (by first | assumption | rfl) rfl ?_ | refine w_gi (j := 102) rfl rfl (by first | assumption | rfl) (by first | assumption | rfl) rfl r5 ?_
  refine w_neM (j := 103) rfl rfl (by omega) (fun c => absurd c (fun c => by omega)) (fun _ => ?_)
  refine w_al (j := 104) rfl rfl rfl ?_
  refine w_al (j := 105) rfl rfl rfl ?_
  first | refine w_gr (j := 106) rfl rfl (by first | assumption | rfl) (by first | assumption | rfl) rfl ?_ | refine w_gi (j := 106) rfl rfl (by first | assumption | rfl) (by first | assumption | rfl) rfl r4 ?_
  refine w_cvI (j := 107) rfl rfl rfl rfl (by first | assumption | rfl) rfl rfl (V) (Nat.ble_eq.mpr (by omega)) ?_
  refine w_bi (j := 108) (a := nI 93) rfl rfl (by decide) ?_
  refine w_eqN (j := 109) rfl rfl (by omega) (by omega) (fun c => absurd c (fun c => by omega)) (fun _ => ?_)
  refine w_al (j := 110) rfl rfl rfl ?_
  refine w_cvPU (j := 111) rfl rfl rfl rfl (by first | assumption | rfl) rfl rfl (x.2 h j S) (Nat.ble_eq.mpr (by omega)) ?_
  rintro h1 N1
  skip
  have N1' := N1
  obtain ⟨j', P, N1, N2, N3, N4, N5, N6⟩ := N1'
  obtain ⟨p0, a1, a2, r1⟩ := N3.2.2.2.2.2
  refine w_al (j := 112) rfl rfl rfl ?_
  refine w_cvPU (j := 113) rfl rfl rfl rfl (by first | assumption | rfl) rfl rfl (sp_161 r1) (Nat.ble_eq.mpr (by omega)) ?_
  rintro h2 ⟨f2, r2⟩
  rw [a2] at r2
  refine w_go rfl ?_
  exact H h2 (wN_L ⟨j', P, N1, N2, N3, N4, N5, N6⟩ f2 r2)
theorem m100_b {D K PL : Nat} {g1 g2 : Value} {Q : ix_R → Prop} (hD : 2 ≤ D) (p : Nat) (h : ix_H) (j : Nat) (cc : ¬ (gx_sk tx n p < n ∧ tx (gx_sk tx n p) = 93)) (S : wM0 z h tx n p o j) (x : wB z D tx n o p K PL) (H : ∀ h1, wF j h h1 → lMF h1 tx n o K PL → px_R px_E D mo_193 [] 100 [.ref 100, g1, g2] [] h1 0 Q) : px_R px_E D mo_193 [] 100 [.ref 100, g1, g2] [] h 0 Q := by
  have r := S.2.2.2.2.2
  have r4 := r.2.2.1
  have r5 := r.2.2.2.2.1
  have S3 := S.2.2.1
  have sl := gx_sk_le (tx := tx) S3
  have S1 := S.1
  have V := sp_160 (k := gx_sk tx n p) (by omega) r
  refine w_al (j := 101) rfl rfl rfl ?_
  first | refine w_gr (j := 102) rfl rfl (by first | assumption | rfl) (by first | assumption | rfl) rfl ?_ | refine w_gi (j := 102) rfl rfl (by first | assumption | rfl) (by first | assumption | rfl) rfl r5 ?_
  refine w_neM (j := 103) rfl rfl (by omega) (fun c => absurd c (fun c => by omega)) (fun _ => ?_)
  refine w_al (j := 104) rfl rfl rfl ?_
  refine w_al (j := 105) rfl rfl rfl ?_
  first | refine w_gr (j := 106) rfl rfl (by first | assumption | rfl) (by first | assumption | rfl) rfl ?_ | refine w_gi (j := 106) rfl rfl (by first | assumption | rfl) (by first | assumption | rfl) rfl r4 ?_
  refine w_cvI (j := 107) rfl rfl rfl rfl (by first | assumption | rfl) rfl rfl (V) (Nat.ble_eq.mpr (by omega)) ?_
  refine w_bi (j := 108) (a := nI 93) rfl rfl (by decide) ?_
  refine w_eq (j := 109) rfl rfl (fun c => absurd c (fun e => cc ((gx_cmp (fun q => (r.1.2 _ q).1) (by decide)).mp e))) (fun _ => ?_)
  refine w_al (j := 110) rfl rfl rfl ?_
  refine w_cvPU (j := 111) rfl rfl rfl rfl (by first | assumption | rfl) rfl rfl (x h j S) (Nat.ble_eq.mpr (by omega)) ?_
  rintro h1 ⟨F1, p1, r1⟩
  skip
  refine w_al (j := 112) rfl rfl rfl ?_
  refine w_cvPU (j := 113) rfl rfl rfl rfl (by first | assumption | rfl) rfl rfl (sp_161 r1) (Nat.ble_eq.mpr (by omega)) ?_
  rintro h2 ⟨f2, r2⟩
  refine w_go rfl ?_
  exact H h2 (F1.tr f2.wF (Nat.le_refl _)) ⟨_, r2⟩
-- a bracket once something was wrong
theorem m114f {D K PL j : Nat} {g1 : Value} (hD : 3 ≤ D) (hj : j < 80) (hK : K ≠ 0) (F : lMF h tx n (o + 1) K PL) : px_R px_E D mo_193 [] 114 [.ref 100, g1, .ref (497 + j)] [] h 0 (fun r => ∃ h', r = (.inl none, h', 0) ∧ wF j h h' ∧ lMF h' tx n o K PL) := by
  obtain ⟨p, r⟩ := F
  have r8 := r.2.2.2.2.2.2.2.1
  have si := px_sh497 j hj
  refine w_al (j := 115) rfl rfl rfl ?_
  refine w_bi (j := 116) (a := nI 93) rfl rfl (by decide) ?_
  refine w_cvU (j := 117) rfl rfl rfl rfl (by first | assumption | rfl) rfl rfl (sp_171x hK r) (Nat.ble_eq.mpr (by omega)) ?_
  refine w_al (j := 118) rfl rfl rfl ?_
  first | refine w_dupr (j := 119) rfl rfl ?_ | refine w_dupi (j := 119) rfl rfl ?_
  first | refine w_gr (j := 120) rfl rfl (by first | assumption | rfl) (by first | assumption | rfl) rfl ?_ | refine w_gi (j := 120) rfl rfl (by first | assumption | rfl) (by first | assumption | rfl) rfl r8 ?_
  refine w_ic (n := 1) (j := 121) rfl rfl ?_
  first | refine w_subN (j := 122) rfl rfl (by omega) ?_ | refine w_sub (j := 122) rfl rfl ?_
  refine w_pf (j := 123) rfl rfl (by first | assumption | rfl) (by first | assumption | rfl) rfl ?_
  refine w_al (j := 124) rfl rfl rfl ?_
  refine w_ic (n := 3) (j := 125) rfl rfl ?_
  refine w_al (j := 126) rfl rfl rfl ?_
  first | refine w_gr (j := 127) rfl rfl (by first | assumption | rfl) (by first | assumption | rfl) rfl ?_ | refine w_gi (j := 127) rfl rfl (by first | assumption | rfl) (by first | assumption | rfl) rfl rfl ?_
  refine w_ias (j := 128) rfl rfl (by first | assumption | rfl) rfl (by omega) rfl ?_
  obtain ⟨p2, r2⟩ := lMF_dn r
  have r3 : px_mr (ix_up (ix_up h 100 8 (nI (o + 1 - 1))) (497 + j) 3 (ix_up h 100 8 (nI (o + 1 - 1)) 100 29)) tx n p2 K (nI PL) o := r2.of (ix_up_ne (by omega)) (ix_up_ne (by omega)) (fun i _ => px_up_na (by omega))
  refine w_al (j := 129) rfl rfl rfl ?_
  refine w_bi (j := 130) (a := nI 59) rfl rfl (by decide) ?_
  refine w_cvU (j := 131) rfl rfl rfl rfl (by first | assumption | rfl) rfl rfl (sp_171x hK r3) (Nat.ble_eq.mpr (by omega)) ?_
  refine w_rt rfl ?_
  exact ⟨_, rfl, (wF.rf.up8).upr hj, _, r3⟩
theorem m100f {D K PL j : Nat} {g1 : Value} (hD : 3 ≤ D) (hj : j < 80) (hK : K ≠ 0) (F : lMF h tx n (o + 1) K PL) : px_R px_E D mo_193 [] 100 [.ref 100, g1, .ref (497 + j)] [] h 0 (fun r => ∃ h', r = (.inl none, h', 0) ∧ wF j h h' ∧ lMF h' tx n o K PL) := by
  have F' := F
  obtain ⟨p, r⟩ := F'
  have r5 := r.2.2.2.2.1
  have K3 := r.2.2.2.2.2.1
  refine w_al (j := 101) rfl rfl rfl ?_
  first | refine w_gr (j := 102) rfl rfl (by first | assumption | rfl) (by first | assumption | rfl) rfl ?_ | refine w_gi (j := 102) rfl rfl (by first | assumption | rfl) (by first | assumption | rfl) rfl r5 ?_
  refine w_neM (j := 103) rfl rfl (by omega) (fun _ => ?_) (fun c => absurd c (fun c => by omega))
  exact m114f hD hj hK F
theorem m98f {D K PL j : Nat} {g1 : Value} (hD : 3 ≤ D) (hj : j < 80) (hK : K ≠ 0) (F : lMF h tx n (o + 1) K PL) : px_R px_E D mo_193 [] 98 [.ref 100, g1, .ref (497 + j)] [] h 0 (fun r => ∃ h', r = (.inl none, h', 0) ∧ wF j h h' ∧ lMF h' tx n o K PL) := by
  obtain ⟨p, r⟩ := F
  refine w_al (j := 99) rfl rfl rfl ?_
  refine w_cvPU (j := 100) rfl rfl rfl rfl (by first | assumption | rfl) rfl rfl (sp_161 r) (Nat.ble_eq.mpr (by omega)) ?_
  rintro h2 ⟨f2, r2⟩
  exact px_mono (m100f hD hj hK ⟨_, r2⟩) (fun r q => mw_fr f2.wF q)
-- the word again
theorem wB_a3 {D : Nat} (hD : 5 ≤ D) (kw : gx_is tx (gx_sk tx n p) (gx_lt tx n (gx_sk tx n p)) (gx_V 7)) : wB z (D + 1) tx n 6 p 3 (gx_sk tx n p) := by
  refine wB_open (fun h j S => ?_)
  obtain ⟨S1, S2, S3, S4, S5, r⟩ := S
  have ss := gx_sk_sk (tx := tx) S3
  refine w_al (j := 1) rfl rfl rfl ?_
  refine w_cvPI (j := 2) rfl rfl rfl rfl (by first | assumption | rfl) rfl rfl (sp_192 ss r) (Nat.ble_eq.mpr (by omega)) ?_
  rintro v h1 ⟨q, f1, r1⟩
  rcases q with ⟨k', k8, rfl, kw'⟩ | ⟨-, nk⟩
  rotate_left
  · exact absurd kw (nk 7 (by omega))
  obtain rfl := gx_V_u (show 7 < 8 by omega) k8 kw kw'
  refine w_is (j := 3) rfl rfl rfl ?_
  refine w_il (j := 4) rfl rfl rfl ?_
  refine w_im (j := 5) rfl rfl ?_
  refine w_ne (j := 6) rfl rfl (fun _ => ?_) (fun c => absurd c (fun z => px_nm1 (by omega) z))
  refine w_il (j := 12) rfl rfl rfl ?_
  refine w_bi (j := 13) (a := nI 7) rfl rfl (by decide) ?_
  refine w_neN (j := 14) rfl rfl (by omega) (by omega) (fun c => absurd c (fun z => z rfl)) (fun _ => ?_)
  refine w_al (j := 15) rfl rfl rfl ?_
  refine w_cvPI (j := 16) rfl rfl rfl rfl (by first | assumption | rfl) rfl rfl (sp_183x r1) (Nat.ble_eq.mpr (by omega)) ?_
  rintro v h2 ⟨zv, f2, r2⟩
  subst zv
  refine w_neB (j := 17) rfl rfl (fun c => absurd c (by simp)) (fun _ => ?_)
  refine w_rt rfl ?_
  exact ⟨_, rfl, (f1.tr f2).wF, _, r2⟩
theorem mw_40a {D j e : Nat} {Q : ix_R → Prop} (hD : 5 ≤ D) (ho : o < 6) (S : wM0 z h tx n p o j) (kw : gx_is tx (gx_sk tx n p) (gx_lt tx n (gx_sk tx n p)) (gx_V 7)) (hj : j < 80) (ez : gx_lt tx n (gx_sk tx n p) = e) (H : ∀ h1 c1 c2, wF j h h1 → wI z h1 tx n (o + 1) j 7 e c1 c2 → px_R px_E D mo_193 [] 88 [.ref 100, .int (nI 7), .ref (497 + j)] [] h1 0 Q) : px_R px_E D mo_193 [] 0 [.ref 100, .null, .null] [] h 0 Q := by
  obtain ⟨S1, S2, S3, S4, S5, r⟩ := S
  have ss := gx_sk_sk (tx := tx) S3
  refine w_al (j := 1) rfl rfl rfl ?_
  refine w_cvPI (j := 2) rfl rfl rfl rfl (by first | assumption | rfl) rfl rfl (sp_192 ss r) (Nat.ble_eq.mpr (by omega)) ?_
  rintro v h1 ⟨q, f1, r1⟩
  rcases q with ⟨k', k8, rfl, kw'⟩ | ⟨-, nk⟩
  rotate_left
  · exact absurd kw (nk 7 (by omega))
  obtain rfl := gx_V_u (show 7 < 8 by omega) k8 kw kw'
  refine w_is (j := 3) rfl rfl rfl ?_
  refine w_il (j := 4) rfl rfl rfl ?_
  refine w_im (j := 5) rfl rfl ?_
  refine w_ne (j := 6) rfl rfl (fun _ => ?_) (fun c => absurd c (fun z => px_nm1 (by omega) z))
  refine w_il (j := 12) rfl rfl rfl ?_
  refine w_bi (j := 13) (a := nI 7) rfl rfl (by decide) ?_
  refine w_neN (j := 14) rfl rfl (by omega) (by omega) (fun c => absurd c (fun z => z rfl)) (fun _ => ?_)
  refine w_al (j := 15) rfl rfl rfl ?_
  refine w_cvPI (j := 16) rfl rfl rfl rfl (by first | assumption | rfl) rfl rfl (sp_183 ho r1) (Nat.ble_eq.mpr (by omega)) ?_
  rintro v h2 ⟨zv, f2, r2⟩
  subst zv
  have r5 := r2.2.2.2.2.1
  refine w_neB (j := 17) rfl rfl (fun _ => ?_) (fun c => absurd c (by simp))
  refine w_al (j := 19) rfl rfl rfl ?_
  first | refine w_gr (j := 20) rfl rfl (by first | assumption | rfl) (by first | assumption | rfl) rfl ?_ | refine w_gi (j := 20) rfl rfl (by first | assumption | rfl) (by first | assumption | rfl) rfl r5 ?_
  refine w_eqM (j := 21) rfl rfl (by omega) (fun _ => ?_) (fun c => absurd c (fun c => by omega))
  refine mw_22 hD hj r2 ((S5.of (f1.1 104 (by decide))).of (f2.1 104 (by decide))) (by rw [f2.2 29 (by decide) (by decide) (by decide) (by decide), f1.2 29 (by decide) (by decide) (by decide) (by decide)]; exact S4) ez (fun h3 c1 c2 f3 I3 => mA_skip (by decide) (mB_skip (by decide) (mC_skip (by decide) ?_)))
  refine w_il (j := 86) rfl rfl rfl ?_
  refine w_bi (j := 87) (a := nI 7) rfl rfl (by decide) ?_
  refine w_neN (j := 88) rfl rfl (by omega) (by omega) (fun c => absurd c (fun z => z rfl)) (fun _ => ?_)
  exact H h3 c1 c2 ((f1.tr f2).wF.tr f3 (Nat.le_refl _)) I3
theorem wB_a1 {D e : Nat} (hD : 5 ≤ D) (ho : o < 6) (hn : n ≤ 150) (hp : p ≤ n) (kw : gx_is tx (gx_sk tx n p) (gx_lt tx n (gx_sk tx n p)) (gx_V 7)) (ez : gx_lt tx n (gx_sk tx n p) = e) (c : gx_nk tx n 0 41 e ≠ 0) : wB z (D + 1) tx n o p (gx_nk tx n 0 41 e) (gx_sk tx n e) := by
  have el := gx_V_e (by decide) hp kw ez
  refine wB_open (fun h j S => ?_)
  have S2 := S.2.1
  have hj : j < 80 := by omega
  have si := px_sh497 j hj
  refine mw_40a hD ho S kw hj ez (fun h1 c1 c2 F1 I1 => ?_)
  refine w_al (j := 89) rfl rfl rfl ?_
  refine w_ic (n := 1) (j := 90) rfl rfl ?_
  refine w_al (j := 91) rfl rfl rfl ?_
  refine w_ic (n := 0) (j := 92) rfl rfl ?_
  refine w_bi (j := 93) (a := nI 40) rfl rfl (by decide) ?_
  refine w_cvPI (j := 94) rfl rfl rfl rfl (by first | assumption | rfl) rfl rfl (sp_165 (lo := 0) (H := 41) (by decide) (px_hiN (by omega)) (by omega) I1.2.1) (Nat.ble_eq.mpr (by omega)) ?_
  rintro v h2 ⟨v2, f2, r2⟩
  rw [if_neg c] at v2 r2
  subst v2
  refine w_ias (j := 95) rfl rfl (by first | assumption | rfl) rfl (by omega) rfl ?_
  have r' : px_mr (ix_up h2 (497 + j) 1 (nI 0)) tx n (gx_ne tx n e) (gx_nk tx n 0 41 e) (nI (gx_sk tx n e)) (o + 1) := r2.of (ix_up_ne (by omega)) (ix_up_ne (by omega)) (fun j _ => px_up_na (by omega))
  refine w_al (j := 96) rfl rfl rfl ?_
  refine w_bi (j := 97) (a := nI 91) rfl rfl (by decide) ?_
  refine w_cvU (j := 98) rfl rfl rfl rfl (by first | assumption | rfl) rfl rfl (sp_171x c r') (Nat.ble_eq.mpr (by omega)) ?_
  exact px_mono (m98f (by omega) hj c ⟨_, r'⟩) (fun r q => mw_fr (F1.tr (f2.wF.upr hj) (Nat.le_refl _)) q)
theorem mw_95 {D j e e1 t : Nat} {Q : ix_R → Prop} (hD : 5 ≤ D) (ho : o < 6) (S : wM0 z h tx n p o j) (kw : gx_is tx (gx_sk tx n p) (gx_lt tx n (gx_sk tx n p)) (gx_V 7)) (hj : j < 80) (ez : gx_lt tx n (gx_sk tx n p) = e) (c : gx_nk tx n 0 41 e = 0) (q1 : gx_ne tx n e = e1) (v1 : gx_nv tx n e = t) (H : ∀ h1 c2, wF j h h1 → wI z h1 tx n (o + 1) j 7 e1 (nI t) c2 → px_R px_E D mo_193 [] 95 [.ref 100, .int (nI 7), .ref (497 + j)] [] h1 0 Q) : px_R px_E D mo_193 [] 0 [.ref 100, .null, .null] [] h 0 Q := by
  have si := px_sh497 j hj
  refine mw_40a hD ho S kw hj ez (fun h1 c1 c2 F1 I1 => ?_)
  refine w_al (j := 89) rfl rfl rfl ?_
  refine w_ic (n := 1) (j := 90) rfl rfl ?_
  refine w_al (j := 91) rfl rfl rfl ?_
  refine w_ic (n := 0) (j := 92) rfl rfl ?_
  refine w_bi (j := 93) (a := nI 40) rfl rfl (by decide) ?_
  refine w_cvPI (j := 94) rfl rfl rfl rfl (by first | assumption | rfl) rfl rfl (sp_165 (lo := 0) (H := 41) (by decide) (px_hiN (by omega)) (by omega) I1.2.1) (Nat.ble_eq.mpr (by omega)) ?_
  rintro v h2 ⟨v2, f2, r2⟩
  rw [if_pos c] at v2
  rw [c, if_pos rfl, q1] at r2
  rw [v1] at v2
  subst v2
  refine w_ias (j := 95) rfl rfl (by first | assumption | rfl) rfl (by omega) rfl ?_
  exact H _ _ (F1.tr (f2.wF.upr hj) (Nat.le_refl _)) ((I1.f1 f2 r2).u1)
theorem wB_a2 {D e e1 : Nat} (hD : 5 ≤ D) (ho : o < 6) (hn : n ≤ 150) (hp : p ≤ n) (kw : gx_is tx (gx_sk tx n p) (gx_lt tx n (gx_sk tx n p)) (gx_V 7)) (ez : gx_lt tx n (gx_sk tx n p) = e) (c : gx_nk tx n 0 41 e = 0) (q1 : gx_ne tx n e = e1) (c2 : ¬ (gx_sk tx n e1 < n ∧ tx (gx_sk tx n e1) = 91)) : wB z (D + 1) tx n o p 1 (gx_sk tx n e1) := by
  have el := gx_V_e (by decide) hp kw ez
  refine wB_open (fun h j S => ?_)
  have S2 := S.2.1
  have hj : j < 80 := by omega
  refine mw_95 hD ho S kw hj ez c q1 rfl (fun h1 w2 F1 I1 => ?_)
  refine w_al (j := 96) rfl rfl rfl ?_
  refine w_bi (j := 97) (a := nI 91) rfl rfl (by decide) ?_
  refine w_cvPU (j := 98) rfl rfl rfl rfl (by first | assumption | rfl) rfl rfl (sp_171 (c := 91) (by decide) I1.2.1) (Nat.ble_eq.mpr (by omega)) ?_
  rintro h2 ⟨f2, r2⟩
  rw [if_neg c2] at r2
  exact px_mono (m98f (by omega) hj (by decide) ⟨_, r2⟩) (fun r q => mw_fr (F1.tr f2.wF (Nat.le_refl _)) q)
-- in the bracket
theorem mw_100 {D j e e1 t : Nat} {Q : ix_R → Prop} (hD : 5 ≤ D) (ho : o < 6) (S : wM0 z h tx n p o j) (kw : gx_is tx (gx_sk tx n p) (gx_lt tx n (gx_sk tx n p)) (gx_V 7)) (hj : j < 80) (ez : gx_lt tx n (gx_sk tx n p) = e) (c : gx_nk tx n 0 41 e = 0) (q1 : gx_ne tx n e = e1) (v1 : gx_nv tx n e = t) (c2 : gx_sk tx n e1 < n ∧ tx (gx_sk tx n e1) = 91) (H : ∀ h1, wF j h h1 → wM0 z h1 tx n (gx_sk tx n e1 + 1) (o + 1) (j + 1) → h1 (497 + j) 0 = nI 7 → h1 (497 + j) 1 = nI t → px_R px_E D mo_193 [] 100 [.ref 100, .int (nI 7), .ref (497 + j)] [] h1 0 Q) : px_R px_E D mo_193 [] 0 [.ref 100, .null, .null] [] h 0 Q := by
  have S1 := S.1
  have S2 := S.2.1
  have S3 := S.2.2.1
  have el := gx_V_e (by decide) S3 kw ez
  have l1 := gx_ne_le (tx := tx) el.2
  rw [q1] at l1
  have sl := gx_sk_le (tx := tx) l1.2
  refine mw_95 hD ho S kw hj ez c q1 v1 (fun h1 w2 F1 I1 => ?_)
  refine w_al (j := 96) rfl rfl rfl ?_
  refine w_bi (j := 97) (a := nI 91) rfl rfl (by decide) ?_
  refine w_cvPU (j := 98) rfl rfl rfl rfl (by first | assumption | rfl) rfl rfl (sp_171 (c := 91) (by decide) I1.2.1) (Nat.ble_eq.mpr (by omega)) ?_
  rintro h2 ⟨f2, r2⟩
  rw [if_pos c2] at r2
  refine w_al (j := 99) rfl rfl rfl ?_
  refine w_cvPU (j := 100) rfl rfl rfl rfl (by first | assumption | rfl) rfl rfl (sp_161 r2) (Nat.ble_eq.mpr (by omega)) ?_
  rintro h3 ⟨f3, r3⟩
  have I3 := I1.f1 (f2.tr f3) r3
  obtain ⟨x1, x2, x3, x4, x5, x6, x7⟩ := I3
  refine H h3 (F1.tr (f2.tr f3).wF (Nat.le_refl _)) ⟨S1, by omega, by omega, x3, x4, x2⟩ x5 x6
theorem wB_ab {D m e e1 K PL : Nat} (hD : 5 ≤ D) (ho : o < 6) (hn : n ≤ 150) (hp : p ≤ n) (kw : gx_is tx (gx_sk tx n p) (gx_lt tx n (gx_sk tx n p)) (gx_V 7)) (ez : gx_lt tx n (gx_sk tx n p) = e) (c : gx_nk tx n 0 41 e = 0) (q1 : gx_ne tx n e = e1) (c2 : gx_sk tx n e1 < n ∧ tx (gx_sk tx n e1) = 91) (hK : K ≠ 0) (x : wSB z D tx n (o + 1) m (gx_sk tx n e1 + 1) K PL) : wB z (D + 1) tx n o p K PL := by
  have el := gx_V_e (by decide) hp kw ez
  refine wB_open (fun h j S => ?_)
  have S2 := S.2.1
  have hj : j < 80 := by omega
  refine mw_100 hD ho S kw hj ez c q1 rfl c2 (fun h1 F1 M1 _ _ => ?_)
  refine wS_b (Rn := fun h1 => px_R px_E D mo_193 [] 100 [.ref 100, .int (nI 7), .ref (497 + j)] [] h1 0 _) (fun p p1 D1 h j c S x H => m100_g (by omega) p p1 D1 h j c S x H) (fun p h j c S x H => m100_b (by omega) p h j (fun q => c.2 q.2) S x H) m _ h1 (j + 1) x M1 (fun h2 F2 q => ?_)
  exact px_mono (m100f (by omega) hj hK q) (fun r q => mw_fr (F1.tr F2 (by omega)) q)
theorem wB_ae {D m e e1 p2 : Nat} {DD : pw_s → pw_s} (hD : 5 ≤ D) (ho : o < 6) (hn : n ≤ 150) (hp : p ≤ n) (kw : gx_is tx (gx_sk tx n p) (gx_lt tx n (gx_sk tx n p)) (gx_V 7)) (ez : gx_lt tx n (gx_sk tx n p) = e) (c : gx_nk tx n 0 41 e = 0) (q1 : gx_ne tx n e = e1) (c2 : gx_sk tx n e1 < n ∧ tx (gx_sk tx n e1) = 91) (x : wSG z (D + 1) tx n (o + 1) m (gx_sk tx n e1 + 1) p2 DD) (c3 : ¬ (p2 < n ∧ tx p2 = 93)) : wB z (D + 2) tx n o p 1 p2 := by
  have el := gx_V_e (by decide) hp kw ez
  have xl := wSG_le _ _ _ x
  refine wB_open (fun h j S => ?_)
  have S2 := S.2.1
  have hj : j < 80 := by omega
  refine mw_100 (by omega) ho S kw hj ez c q1 rfl c2 (fun h1 F1 M1 _ _ => ?_)
  refine wS_g (Rn := fun h1 => px_R px_E (D + 1) mo_193 [] 100 [.ref 100, .int (nI 7), .ref (497 + j)] [] h1 0 _) (fun p p1 D1 h j c S x H => m100_g (by omega) p p1 D1 h j c S x H) m _ _ h1 (j + 1) x M1 (fun h2 L2 => ?_)
  obtain ⟨j2, P, a1, a2, a3, a4, a5, a6⟩ := L2
  have nb : wB z (D + 1) tx n (o + 1) p2 1 p2 := by
    have := wB_none (z := z) (o := o + 1) (p := p2) (tx := tx) (n := n) hD (fun k k8 kw => ?_)
    · rw [xl.2.2.1] at this
      exact this
    · have v := gx_V_e k8 xl.2.1 kw rfl
      rw [xl.2.2.1] at kw
      have := gx_lt_le (tx := tx) xl.2.1
      have t0 := kw.2 0 (by have := gx_V_len k k8; omega)
      rw [Nat.add_zero] at t0
      omega
  refine m100_b (by omega) p2 h2 j2 (by rw [xl.2.2.1]; exact c3) a3 nb (fun h3 F3 q => ?_)
  exact px_mono (m100f (by omega) hj (by decide) q) (fun r q => mw_fr ((F1.tr a2 (by omega)).tr F3 (by omega)) q)
theorem wH_a {D m e e1 t p2 : Nat} {DD : pw_s → pw_s} (hD : 5 ≤ D) (ho : o < 6) (hn : n ≤ 150) (hp : p ≤ n) (kw : gx_is tx (gx_sk tx n p) (gx_lt tx n (gx_sk tx n p)) (gx_V 7)) (ez : gx_lt tx n (gx_sk tx n p) = e) (c : gx_nk tx n 0 41 e = 0) (q1 : gx_ne tx n e = e1) (v1 : gx_nv tx n e = t) (c2 : gx_sk tx n e1 < n ∧ tx (gx_sk tx n e1) = 91) (hDD : pw_D z.2.2.1 DD) (x : wSG z D tx n (o + 1) m (gx_sk tx n e1 + 1) p2 DD) (c3 : p2 < n ∧ tx p2 = 93) : wH z D tx n o p (p2 + 1) (pw_ag t DD) := by
  have el := gx_V_e (by decide) hp kw ez
  have l1 := gx_ne_le (tx := tx) el.2
  rw [q1] at l1
  have sl := gx_sk_le (tx := tx) l1.2
  have xl := wSG_le _ _ _ x
  have b1 := gx_nv41 c
  rw [v1] at b1
  refine ⟨⟨by omega, by omega⟩, fun h j Q S H => ?_⟩
  have S2 := S.2.1
  have hj : j < 80 := by omega
  have si := px_sh497 j hj
  refine mw_100 (by omega) ho S kw hj ez c q1 v1 c2 (fun h1 F1 M1 y0 y1 => ?_)
  refine wS_g (Rn := fun h1 => px_R px_E D mo_193 [] 100 [.ref 100, .int (nI 7), .ref (497 + j)] [] h1 0 Q) (fun p p1 D1 h j c S x H => m100_g (by omega) p p1 D1 h j c S x H) m _ _ h1 (j + 1) x M1 (fun h2 L2 => ?_)
  obtain ⟨j2, P, a1, a2, a3, a4, a5, a6⟩ := L2
  obtain ⟨M21, M22, M23, M24, M25, r⟩ := a3
  rw [xl.2.2.1] at r
  have r4 := r.2.2.1
  have r5 := r.2.2.2.2.1
  have V := sp_160 (k := p2) (by omega) r
  rw [if_pos c3.1, c3.2] at V
  refine w_al (j := 101) rfl rfl rfl ?_
  first | refine w_gr (j := 102) rfl rfl (by first | assumption | rfl) (by first | assumption | rfl) rfl ?_ | refine w_gi (j := 102) rfl rfl (by first | assumption | rfl) (by first | assumption | rfl) rfl r5 ?_
  refine w_neM (j := 103) rfl rfl (by omega) (fun c => absurd c (fun c => by omega)) (fun _ => ?_)
  refine w_al (j := 104) rfl rfl rfl ?_
  refine w_al (j := 105) rfl rfl rfl ?_
  first | refine w_gr (j := 106) rfl rfl (by first | assumption | rfl) (by first | assumption | rfl) rfl ?_ | refine w_gi (j := 106) rfl rfl (by first | assumption | rfl) (by first | assumption | rfl) rfl r4 ?_
  refine w_cvI (j := 107) rfl rfl rfl rfl (by first | assumption | rfl) rfl rfl (V) (Nat.ble_eq.mpr (by omega)) ?_
  refine w_bi (j := 108) (a := nI 93) rfl rfl (by decide) ?_
  refine w_eq (j := 109) rfl rfl (fun _ => ?_) (fun c => absurd c (fun z => z rfl))
  refine w_al (j := 115) rfl rfl rfl ?_
  refine w_bi (j := 116) (a := nI 93) rfl rfl (by decide) ?_
  refine w_cvPU (j := 117) rfl rfl rfl rfl (by first | assumption | rfl) rfl rfl (sp_171 (c := 93) (by decide) r) (Nat.ble_eq.mpr (by omega)) ?_
  rintro h3 ⟨f3, r3⟩
  rw [xl.2.2.1, if_pos c3] at r3
  have r8 := r3.2.2.2.2.2.2.2.1
  have g29 : ix_up h3 100 8 (nI (o + 1 - 1)) 100 29 = nI j2 := by rw [px_up_nk (by decide), f3.2 29 (by decide) (by decide) (by decide) (by decide)]; exact M24
  refine w_al (j := 118) rfl rfl rfl ?_
  first | refine w_dupr (j := 119) rfl rfl ?_ | refine w_dupi (j := 119) rfl rfl ?_
  first | refine w_gr (j := 120) rfl rfl (by first | assumption | rfl) (by first | assumption | rfl) rfl ?_ | refine w_gi (j := 120) rfl rfl (by first | assumption | rfl) (by first | assumption | rfl) rfl r8 ?_
  refine w_ic (n := 1) (j := 121) rfl rfl ?_
  first | refine w_subN (j := 122) rfl rfl (by omega) ?_ | refine w_sub (j := 122) rfl rfl ?_
  refine w_pf (j := 123) rfl rfl (by first | assumption | rfl) (by first | assumption | rfl) rfl ?_
  refine w_al (j := 124) rfl rfl rfl ?_
  refine w_ic (n := 3) (j := 125) rfl rfl ?_
  refine w_al (j := 126) rfl rfl rfl ?_
  first | refine w_gr (j := 127) rfl rfl (by first | assumption | rfl) (by first | assumption | rfl) rfl ?_ | refine w_gi (j := 127) rfl rfl (by first | assumption | rfl) (by first | assumption | rfl) rfl g29 ?_
  refine w_ias (j := 128) rfl rfl (by first | assumption | rfl) rfl (by omega) rfl ?_
  have r9 : px_mr (ix_up h3 100 8 (nI (o + 1 - 1))) tx n (p2 + 1) 0 (-1) o := r3.O rfl (by omega)
  have FF : wF j h (ix_up (ix_up h3 100 8 (nI (o + 1 - 1))) (497 + j) 3 (nI j2)) := ((((F1.tr a2 (by omega)).tr (f3.wF (j := j)) (Nat.le_refl _)).up8).upr hj)
  have row : ∀ i, i ≠ 3 → ix_up (ix_up h3 100 8 (nI (o + 1 - 1))) (497 + j) 3 (nI j2) (497 + j) i = h1 (497 + j) i := fun i hi => by rw [px_up_nk hi, px_up_na (by omega), f3.1 _ (by omega), a2.1 _ (by omega) (by omega)]
  have X := pw_mx_ag (show j < j2 by omega) (show t ≤ 40 by omega) a4 hDD a6
  rw [show 14 - (o + 1) + 1 = 14 - o by omega] at X
  refine H _ _ _ ⟨j2, _, by omega, FF, ⟨hn, by omega, by omega, ?_, ?_, p2 + 1, by omega, rfl, ?_⟩, ⟨a4.1, ?_⟩, ?_, X⟩
  · rw [px_up_na (by omega)]; exact g29
  · exact M25.fr (((f3.wF (j := j)).up8).upr hj)
  · exact r9.of (ix_up_ne (by omega)) (ix_up_ne (by omega)) (fun i _ => px_up_na (by omega))
  · rintro g g' ee ⟨w1, w2, w3, w4⟩
    have e0 := ee j (Nat.le_refl _) (by omega)
    exact ⟨a4.2 _ _ (fun k k1 k2 => ee k (by omega) k2) w1, by rw [e0]; exact w2, by rw [e0]; exact w3, by rw [e0]; exact w4⟩
  · refine ⟨a4.2 _ _ (fun k k1 k2 => ?_) a5, ?_, ?_, px_up_at⟩
    · rw [ix_up_ne (by omega), ix_up_ne (by omega), f3.1 _ (by omega)]
    · rw [row 0 (by decide)]; exact y0
    · rw [row 1 (by decide)]; exact y1
end WM
