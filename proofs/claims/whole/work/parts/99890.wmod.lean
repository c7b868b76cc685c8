abbrev we : Type := List (Nat × Nat) × Nat × Nat × Nat × (Nat → Int32) × (Nat → Int32) × (Nat → Int32)
abbrev wmx (z : we) (d i j : Nat) (P : ix_H → Prop) (D : pw_s → pw_s) : Prop := pw_mx z.1 z.2.1 z.2.2.1 z.2.2.2.1 z.2.2.2.2.1 z.2.2.2.2.2.1 z.2.2.2.2.2.2 d i j P D
abbrev wcx (z : we) (i j : Nat) (P : ix_H → Prop) (D : pw_s → pw_s) : Prop := pw_cx z.1 z.2.1 z.2.2.1 z.2.2.2.1 z.2.2.2.2.1 z.2.2.2.2.2.1 z.2.2.2.2.2.2 i j P D
abbrev wdo (z : we) (k a b : Nat) : pw_X → Bool × pw_X := pw_do z.1 z.2.1 z.2.2.2.1 z.2.2.2.2.1 z.2.2.2.2.2.1 z.2.2.2.2.2.2 k a b
def wF (j : Nat) (h h' : ix_H) : Prop := (∀ a, a ≠ 100 → ¬ (497 + j ≤ a ∧ a ≤ 576) → h' a = h a) ∧ ∀ i, i ≠ 4 → i ≠ 5 → i ≠ 6 → i ≠ 8 → i ≠ 29 → h' 100 i = h 100 i
theorem wF.rf {j : Nat} {h : ix_H} : wF j h h := ⟨fun _ _ _ => rfl, fun _ _ _ _ _ _ => rfl⟩
theorem wF.tr {j j' : Nat} {h h1 h2 : ix_H} (a : wF j h h1) (b : wF j' h1 h2) (hj : j ≤ j') : wF j h h2 := ⟨fun q q1 q2 => (b.1 q q1 (by omega)).trans (a.1 q q1 q2), fun i i1 i2 i3 i4 i5 => (b.2 i i1 i2 i3 i4 i5).trans (a.2 i i1 i2 i3 i4 i5)⟩
theorem px_f1.wF {h h' : ix_H} {j : Nat} (f : px_f1 h h') : wF j h h' := ⟨fun a ha _ => f.1 a ha, fun i i1 i2 i3 i4 _ => f.2 i i1 i2 i3 i4⟩
theorem wF.upr {h h1 : ix_H} {j c : Nat} {v : Int32} (hj : j < 80) (f : wF j h h1) : wF j h (ix_up h1 (497 + j) c v) := f.tr ⟨fun q q1 q2 => ix_up_ne (by omega), fun i _ _ _ _ _ => by rw [ix_up_ne (by omega)]⟩ (Nat.le_refl _)
theorem wF.up29 {h h1 : ix_H} {j : Nat} {v : Int32} (f : wF j h h1) : wF j h (ix_up h1 100 29 v) := f.tr ⟨fun q q1 q2 => ix_up_ne q1, fun i _ _ _ _ i9 => px_up_nk i9⟩ (Nat.le_refl _)
theorem wF.up8 {h h1 : ix_H} {j : Nat} {v : Int32} (f : wF j h h1) : wF j h (ix_up h1 100 8 v) := f.tr ⟨fun q q1 q2 => ix_up_ne q1, fun i _ _ _ i8 _ => px_up_nk i8⟩ (Nat.le_refl _)
def wT (z : we) (h : ix_H) : Prop := (h 104 0 = nI z.2.2.1 ∧ z.2.2.1 ≤ 6) ∧ h 104 1 = nI z.2.1 ∧ z.2.1 ≤ 8
theorem wT.of {z : we} {h h' : ix_H} (e : h' 104 = h 104) (x : wT z h) : wT z h' := by unfold wT; rw [e]; exact x
theorem wT.fr {z : we} {j : Nat} {h h' : ix_H} (f : wF j h h') (x : wT z h) : wT z h' := x.of (f.1 104 (by decide) (by omega))
-- the model's state at a place of the text
def wMS (z : we) (h : ix_H) (tx : Nat → Nat) (n p o j : Nat) : Prop := n ≤ 150 ∧ 3 * j ≤ p ∧ p ≤ n ∧ h 100 29 = nI j ∧ wT z h ∧ ∃ p0, p0 ≤ n ∧ gx_sk tx n p0 = gx_sk tx n p ∧ px_mr h tx n p0 0 (-1) o
theorem wMS.f1 {z : we} {h h' : ix_H} {tx : Nat → Nat} {n p p' p0 o j : Nat} (f : px_f1 h h') (x : wMS z h tx n p o j) (e1 : p ≤ p') (e2 : p' ≤ n) (r : px_mr h' tx n p0 0 (-1) o) (e : gx_sk tx n p0 = gx_sk tx n p') : wMS z h' tx n p' o j := by
  obtain ⟨x1, x2, x3, x4, x5, _⟩ := x
  exact ⟨x1, by omega, e2, by rw [f.2 29 (by decide) (by decide) (by decide) (by decide)]; exact x4, x5.of (f.1 104 (by decide)), p0, r.2.2.2.1, e, r⟩
def wM0 (z : we) (h : ix_H) (tx : Nat → Nat) (n p o j : Nat) : Prop := n ≤ 150 ∧ 3 * j ≤ p ∧ p ≤ n ∧ h 100 29 = nI j ∧ wT z h ∧ px_mr h tx n (gx_sk tx n p) 0 (-1) o
def wB (z : we) (D : Nat) (tx : Nat → Nat) (n o p K PL : Nat) : Prop := ∀ h j, wM0 z h tx n p o j → px_PU D 193 [.ref 100] h (fun h' => wF j h h' ∧ lMF h' tx n o K PL)
def wN (z : we) (tx : Nat → Nat) (n o j p' : Nat) (DD : pw_s → pw_s) (h h' : ix_H) : Prop := ∃ (j' : Nat) (P : ix_H → Prop), j ≤ j' ∧ wF j h h' ∧ wMS z h' tx n p' o j' ∧ pw_qP j j' P ∧ P h' ∧ wmx z (14 - o) j j' P DD
def wG (z : we) (D : Nat) (tx : Nat → Nat) (n o p p' : Nat) (DD : pw_s → pw_s) : Prop := (p < p' ∧ p' ≤ n) ∧ ∀ h j, wM0 z h tx n p o j → px_PU D 193 [.ref 100] h (wN z tx n o j p' DD h)
-- the step read but for its sign
def wH (z : we) (D : Nat) (tx : Nat → Nat) (n o p p' : Nat) (DD : pw_s → pw_s) : Prop := (p < p' ∧ p' ≤ n) ∧ ∀ h j (Q : ix_R → Prop), wM0 z h tx n p o j → (∀ h' (g1 g2 : Value), wN z tx n o j p' DD h h' → px_R px_E D mo_193 [] 128 [.ref 100, g1, g2] [] h' 0 Q) → px_R px_E D mo_193 [] 0 [.ref 100, .null, .null] [] h 0 Q
section WM
variable {z : we} {h : ix_H} {tx : Nat → Nat} {n p f o : Nat} {fp : Int32}
theorem wB_open {D : Nat} {K PL : Nat} (H : ∀ h j, wM0 z h tx n p o j → px_R px_E D mo_193 [] 0 [.ref 100, .null, .null] [] h 0 (fun r => ∃ h', r = (.inl none, h', 0) ∧ wF j h h' ∧ lMF h' tx n o K PL)) : wB z (D + 1) tx n o p K PL := by
  intro h j S
  refine px_M (M := mt_193) (ops := mo_193) tb_193 rfl rfl rfl rfl rfl ?_
  exact H h j S
theorem wG_open {D p' : Nat} {DD : pw_s → pw_s} (F : p < p' ∧ p' ≤ n) (H : ∀ h j, wM0 z h tx n p o j → px_R px_E D mo_193 [] 0 [.ref 100, .null, .null] [] h 0 (fun r => ∃ h', r = (.inl none, h', 0) ∧ wN z tx n o j p' DD h h')) : wG z (D + 1) tx n o p p' DD := by
  refine ⟨F, fun h j S => ?_⟩
  refine px_M (M := mt_193) (ops := mo_193) tb_193 rfl rfl rfl rfl rfl ?_
  exact H h j S
theorem wH_G {D p' : Nat} {DD : pw_s → pw_s} (hD : 3 ≤ D) (x : wH z D tx n o p p' DD) (c : gx_sk tx n p' < n ∧ tx (gx_sk tx n p') = 59) : wG z (D + 1) tx n o p (gx_sk tx n p' + 1) DD := by
  have x1 := x.1
  have sl := gx_sk_le (tx := tx) x1.2
  refine wG_open ⟨by omega, by omega⟩ (fun h j S => x.2 h j _ S ?_)
  rintro h' g1 g2 ⟨j', P, N1, N2, N3, N4, N5, N6⟩
  obtain ⟨p0, a1, a2, r⟩ := N3.2.2.2.2.2
  refine w_al (j := 129) rfl rfl rfl ?_
  refine w_bi (j := 130) (a := nI 59) rfl rfl (by decide) ?_
  refine w_cvPU (j := 131) rfl rfl rfl rfl (by first | assumption | rfl) rfl rfl (sp_171 (c := 59) (by decide) r) (Nat.ble_eq.mpr (by omega)) ?_
  rintro h2 ⟨f2, r2⟩
  rw [a2, if_pos c] at r2
  refine w_rt rfl ?_
  refine ⟨_, rfl, j', P, N1, N2.tr f2.wF N1, N3.f1 f2 (by omega) (by omega) r2 rfl, N4, ?_, N6⟩
  exact N4.2 _ _ (fun k _ _ => f2.1 _ (by omega)) N5
theorem wH_B {D p' : Nat} {DD : pw_s → pw_s} (hD : 3 ≤ D) (x : wH z D tx n o p p' DD) (c : ¬ (gx_sk tx n p' < n ∧ tx (gx_sk tx n p') = 59)) : wB z (D + 1) tx n o p 1 (gx_sk tx n p') := by
  refine wB_open (fun h j S => x.2 h j _ S ?_)
  rintro h' g1 g2 ⟨j', P, N1, N2, N3, N4, N5, N6⟩
  obtain ⟨p0, a1, a2, r⟩ := N3.2.2.2.2.2
  refine w_al (j := 129) rfl rfl rfl ?_
  refine w_bi (j := 130) (a := nI 59) rfl rfl (by decide) ?_
  refine w_cvPU (j := 131) rfl rfl rfl rfl (by first | assumption | rfl) rfl rfl (sp_171 (c := 59) (by decide) r) (Nat.ble_eq.mpr (by omega)) ?_
  rintro h2 ⟨f2, r2⟩
  rw [a2, if_neg c] at r2
  refine w_rt rfl ?_
  exact ⟨_, rfl, N2.tr f2.wF N1, _, r2⟩
-- no word of a step
theorem wB_none {D : Nat} (hD : 5 ≤ D) (nw : ∀ k, k < 8 → ¬ gx_is tx (gx_sk tx n p) (gx_lt tx n (gx_sk tx n p)) (gx_V k)) : wB z (D + 1) tx n o p 1 (gx_sk tx n p) := by
  refine wB_open (fun h j S => ?_)
  obtain ⟨S1, S2, S3, S4, S5, r⟩ := S
  have ss := gx_sk_sk (tx := tx) S3
  refine w_al (j := 1) rfl rfl rfl ?_
  refine w_cvPI (j := 2) rfl rfl rfl rfl (by first | assumption | rfl) rfl rfl (sp_192 ss r) (Nat.ble_eq.mpr (by omega)) ?_
  rintro v h1 ⟨q, f1, r1⟩
  rcases q with ⟨k, k8, -, kw⟩ | ⟨rfl, -⟩
  · exact absurd kw (nw k k8)
  have r4 := r1.2.2.1
  refine w_is (j := 3) rfl rfl rfl ?_
  refine w_il (j := 4) rfl rfl rfl ?_
  refine w_im (j := 5) rfl rfl ?_
  refine w_ne (j := 6) rfl rfl (fun c => absurd c (fun z => z rfl)) (fun _ => ?_)
  refine w_al (j := 7) rfl rfl rfl ?_
  refine w_ic (n := 1) (j := 8) rfl rfl ?_
  refine w_al (j := 9) rfl rfl rfl ?_
  first | refine w_gr (j := 10) rfl rfl (by first | assumption | rfl) (by first | assumption | rfl) rfl ?_ | refine w_gi (j := 10) rfl rfl (by first | assumption | rfl) (by first | assumption | rfl) rfl r4 ?_
  refine w_cvPU (j := 11) rfl rfl rfl rfl (by first | assumption | rfl) rfl rfl (sp_162 (kd := 1) (by decide) r1) (Nat.ble_eq.mpr (by omega)) ?_
  rintro h2 ⟨f2, r2⟩
  rw [if_pos rfl, if_pos rfl] at r2
  have r5 := r2.2.2.2.2.1
  refine w_il (j := 12) rfl rfl rfl ?_
  refine w_bi (j := 13) (a := nI 7) rfl rfl (by decide) ?_
  refine w_ne (j := 14) rfl rfl (fun _ => ?_) (fun c => absurd c (by decide))
  refine w_al (j := 19) rfl rfl rfl ?_
  first | refine w_gr (j := 20) rfl rfl (by first | assumption | rfl) (by first | assumption | rfl) rfl ?_ | refine w_gi (j := 20) rfl rfl (by first | assumption | rfl) (by first | assumption | rfl) rfl r5 ?_
  refine w_eqM (j := 21) rfl rfl (by omega) (fun c => absurd c (fun c => by omega)) (fun _ => ?_)
  refine w_rt rfl ?_
  exact ⟨_, rfl, (f1.tr f2).wF, _, r2⟩
-- the word of a step, then its row begun
def wI (z : we) (h : ix_H) (tx : Nat → Nat) (n o j k p : Nat) (c1 c2 : Int32) : Prop := j < 80 ∧ px_mr h tx n p 0 (-1) o ∧ h 100 29 = nI (j + 1) ∧ wT z h ∧ h (497 + j) 0 = nI k ∧ h (497 + j) 1 = c1 ∧ h (497 + j) 2 = c2
theorem wI.f1 {h' : ix_H} {j k p' : Nat} {c1 c2 : Int32} (f : px_f1 h h') (x : wI z h tx n o j k p c1 c2) (r : px_mr h' tx n p' 0 (-1) o) : wI z h' tx n o j k p' c1 c2 := by
  obtain ⟨x1, x2, x3, x4, x5, x6, x7⟩ := x
  have e := f.1 (497 + j) (by omega)
  exact ⟨x1, r, by rw [f.2 29 (by decide) (by decide) (by decide) (by decide)]; exact x3, x4.of (f.1 104 (by decide)), by rw [e]; exact x5, by rw [e]; exact x6, by rw [e]; exact x7⟩
theorem wI.u1 {j k : Nat} {c1 c2 v : Int32} (x : wI z h tx n o j k p c1 c2) : wI z (ix_up h (497 + j) 1 v) tx n o j k p v c2 := by
  obtain ⟨x1, x2, x3, x4, x5, x6, x7⟩ := x
  exact ⟨x1, x2.of (ix_up_ne (by omega)) (ix_up_ne (by omega)) (fun j _ => px_up_na (by omega)), by rw [px_up_na (by omega)]; exact x3, x4.of (ix_up_ne (by omega)), by rw [px_up_nk (by decide)]; exact x5, px_up_at, by rw [px_up_nk (by decide)]; exact x7⟩
theorem wI.u2 {j k : Nat} {c1 c2 v : Int32} (x : wI z h tx n o j k p c1 c2) : wI z (ix_up h (497 + j) 2 v) tx n o j k p c1 v := by
  obtain ⟨x1, x2, x3, x4, x5, x6, x7⟩ := x
  exact ⟨x1, x2.of (ix_up_ne (by omega)) (ix_up_ne (by omega)) (fun j _ => px_up_na (by omega)), by rw [px_up_na (by omega)]; exact x3, x4.of (ix_up_ne (by omega)), by rw [px_up_nk (by decide)]; exact x5, by rw [px_up_nk (by decide)]; exact x6, px_up_at⟩
theorem wI.u3 {j k : Nat} {c1 c2 v : Int32} (x : wI z h tx n o j k p c1 c2) : wI z (ix_up h (497 + j) 3 v) tx n o j k p c1 c2 := by
  obtain ⟨x1, x2, x3, x4, x5, x6, x7⟩ := x
  exact ⟨x1, x2.of (ix_up_ne (by omega)) (ix_up_ne (by omega)) (fun j _ => px_up_na (by omega)), by rw [px_up_na (by omega)]; exact x3, x4.of (ix_up_ne (by omega)), by rw [px_up_nk (by decide)]; exact x5, by rw [px_up_nk (by decide)]; exact x6, by rw [px_up_nk (by decide)]; exact x7⟩
theorem mw_22 {D j k e o' : Nat} {Q : ix_R → Prop} (hD : 5 ≤ D) (hj : j < 80) (r : px_mr h tx n (gx_sk tx n p) 0 (-1) o') (t : wT z h) (h29 : h 100 29 = nI j) (ez : gx_lt tx n (gx_sk tx n p) = e) (H : ∀ h1 c1 c2, wF j h h1 → wI z h1 tx n o' j k e c1 c2 → px_R px_E D mo_193 [] 40 [.ref 100, .int (nI k), .ref (497 + j)] [] h1 0 Q) : px_R px_E D mo_193 [] 22 [.ref 100, .int (nI k), .null] [] h 0 Q := by
  have si := px_sh497 j hj
  refine w_al (j := 23) rfl rfl rfl ?_
  refine w_cvPU (j := 24) rfl rfl rfl rfl (by first | assumption | rfl) rfl rfl (sp_169 r) (Nat.ble_eq.mpr (by omega)) ?_
  rintro h2 ⟨f2, r2⟩
  have g29 : h2 100 29 = nI j := by rw [f2.2 29 (by decide) (by decide) (by decide) (by decide)]; exact h29
  refine w_al (j := 25) rfl rfl rfl ?_
  first | refine w_gr (j := 26) rfl rfl (by first | assumption | rfl) (by first | assumption | rfl) rfl ?_ | refine w_gi (j := 26) rfl rfl (by first | assumption | rfl) (by first | assumption | rfl) rfl rfl ?_
  refine w_al (j := 27) rfl rfl rfl ?_
  first | refine w_gr (j := 28) rfl rfl (by first | assumption | rfl) (by first | assumption | rfl) rfl ?_ | refine w_gi (j := 28) rfl rfl (by first | assumption | rfl) (by first | assumption | rfl) rfl g29 ?_
  refine w_aal (j := 29) rfl rfl (by first | assumption | rfl) rfl (by omega) rfl ?_
  refine w_as (j := 30) rfl rfl rfl ?_
  refine w_al (j := 31) rfl rfl rfl ?_
  first | refine w_dupr (j := 32) rfl rfl ?_ | refine w_dupi (j := 32) rfl rfl ?_
  first | refine w_gr (j := 33) rfl rfl (by first | assumption | rfl) (by first | assumption | rfl) rfl ?_ | refine w_gi (j := 33) rfl rfl (by first | assumption | rfl) (by first | assumption | rfl) rfl g29 ?_
  refine w_ic (n := 1) (j := 34) rfl rfl ?_
  first | refine w_add0 (j := 35) rfl rfl ?_ | refine w_addN (j := 35) rfl rfl ?_ | refine w_add (j := 35) rfl rfl ?_
  refine w_pf (j := 36) rfl rfl (by first | assumption | rfl) (by first | assumption | rfl) rfl ?_
  refine w_al (j := 37) rfl rfl rfl ?_
  refine w_ic (n := 0) (j := 38) rfl rfl ?_
  refine w_il (j := 39) rfl rfl rfl ?_
  refine w_ias (j := 40) rfl rfl (by first | assumption | rfl) rfl (by omega) rfl ?_
  rw [ez] at r2
  refine H _ _ _ ((wF.up29 f2.wF).upr hj) ⟨hj, ?_, ?_, ?_, px_up_at, rfl, rfl⟩
  · exact (r2.of (h' := ix_up h2 100 29 (nI (j + 1))) (ix_up_ne (by decide)) (ix_up_ne (by decide)) (fun i hi => px_up_nk (by omega))).of (ix_up_ne (by omega)) (ix_up_ne (by omega)) (fun i hi => px_up_na (by omega))
  · rw [px_up_na (by omega), px_up_at]
  · exact ((t.of (f2.1 104 (by decide))).of (h' := ix_up h2 100 29 (nI (j + 1))) (ix_up_ne (by decide))).of (ix_up_ne (by omega))
theorem mw_40 {D j k e : Nat} {Q : ix_R → Prop} (hD : 5 ≤ D) (hk : k ≤ 6) (S : wM0 z h tx n p o j) (kw : gx_is tx (gx_sk tx n p) (gx_lt tx n (gx_sk tx n p)) (gx_V k)) (hj : j < 80) (ez : gx_lt tx n (gx_sk tx n p) = e) (H : ∀ h1 c1 c2, wF j h h1 → wI z h1 tx n o j k e c1 c2 → px_R px_E D mo_193 [] 40 [.ref 100, .int (nI k), .ref (497 + j)] [] h1 0 Q) : px_R px_E D mo_193 [] 0 [.ref 100, .null, .null] [] h 0 Q := by
  obtain ⟨S1, S2, S3, S4, S5, r⟩ := S
  have ss := gx_sk_sk (tx := tx) S3
  refine w_al (j := 1) rfl rfl rfl ?_
  refine w_cvPI (j := 2) rfl rfl rfl rfl (by first | assumption | rfl) rfl rfl (sp_192 ss r) (Nat.ble_eq.mpr (by omega)) ?_
  rintro v h1 ⟨q, f1, r1⟩
  rcases q with ⟨k', k8, rfl, kw'⟩ | ⟨-, nk⟩
  rotate_left
  · exact absurd kw (nk k (by omega))
  obtain rfl := gx_V_u (show k < 8 by omega) k8 kw kw'
  have r5 := r1.2.2.2.2.1
  refine w_is (j := 3) rfl rfl rfl ?_
  refine w_il (j := 4) rfl rfl rfl ?_
  refine w_im (j := 5) rfl rfl ?_
  refine w_ne (j := 6) rfl rfl (fun _ => ?_) (fun c => absurd c (fun z => px_nm1 (by omega) z))
  refine w_il (j := 12) rfl rfl rfl ?_
  refine w_bi (j := 13) (a := nI 7) rfl rfl (by decide) ?_
  refine w_neN (j := 14) rfl rfl (by omega) (by omega) (fun _ => ?_) (fun c => absurd c (fun c => by omega))
  refine w_al (j := 19) rfl rfl rfl ?_
  first | refine w_gr (j := 20) rfl rfl (by first | assumption | rfl) (by first | assumption | rfl) rfl ?_ | refine w_gi (j := 20) rfl rfl (by first | assumption | rfl) (by first | assumption | rfl) rfl r5 ?_
  refine w_eqM (j := 21) rfl rfl (by omega) (fun _ => ?_) (fun c => absurd c (fun c => by omega))
  refine mw_22 hD hj r1 (S5.of (f1.1 104 (by decide))) (by rw [f1.2 29 (by decide) (by decide) (by decide) (by decide)]; exact S4) ez (fun h2 c1 c2 f2 I2 => H h2 c1 c2 ?_ I2)
  exact f1.wF.tr f2 (Nat.le_refl _)
end WM
