def px_mr (h : ix_H) (tx : Nat → Nat) (n p f : Nat) (fp : Int32) (o : Nat) : Prop := px_tx h tx n ∧ h 100 2 = nI n ∧ h 100 4 = nI p ∧ p ≤ n ∧ h 100 5 = nI f ∧ f ≤ 3 ∧ h 100 6 = fp ∧ h 100 8 = nI o ∧ o ≤ 1000
def px_f1 (h h' : ix_H) : Prop := (∀ a, a ≠ 100 → h' a = h a) ∧ ∀ j, j ≠ 4 → j ≠ 5 → j ≠ 6 → j ≠ 8 → h' 100 j = h 100 j
theorem px_f1.rf {h : ix_H} : px_f1 h h := ⟨fun _ _ => rfl, fun _ _ _ _ _ => rfl⟩
theorem px_f1.tr {h h1 h2 : ix_H} (a : px_f1 h h1) (b : px_f1 h1 h2) : px_f1 h h2 := ⟨fun q hq => (b.1 q hq).trans (a.1 q hq), fun j j1 j2 j3 j4 => (b.2 j j1 j2 j3 j4).trans (a.2 j j1 j2 j3 j4)⟩
theorem px_f1.up {h h1 : ix_H} {j : Nat} {v : Int32} (a : px_f1 h h1) (hj : j = 4 ∨ j = 5 ∨ j = 6 ∨ j = 8) : px_f1 h (ix_up h1 100 j v) := ⟨fun q hq => by rw [ix_up_ne hq]; exact a.1 q hq, fun i j1 j2 j3 j4 => by rw [px_up_nk (by omega)]; exact a.2 i j1 j2 j3 j4⟩
theorem px_f1.kp {h h1 : ix_H} (a : px_f1 h h1) : px_kp h h1 := ⟨fun q hq => a.1 q (fun e => by subst e; cases hq), fun j hj => a.2 j (fun e => by subst e; cases hj) (fun e => by subst e; cases hj) (fun e => by subst e; cases hj) (fun e => by subst e; cases hj)⟩
def gx_c (f : Nat → Nat) : Nat → Nat
  | 0 => 0
  | c + 1 => 27 * gx_c f c + (f c - 96)
theorem gx_c_lt {f : Nat → Nat} : ∀ m, (∀ i, i < m → f i ≤ 122) → gx_c f m < 27 ^ m
  | 0, _ => by show 0 < 1; omega
  | m + 1, hf => by
    have h1 := gx_c_lt m (fun i hi => hf i (by omega))
    have h2 := hf m (by omega)
    rw [gx_c, Nat.pow_succ]
    omega
theorem gx_cinj {f g : Nat → Nat} : ∀ m l, (∀ i, i < m → 97 ≤ f i ∧ f i ≤ 122) → (∀ i, i < l → 97 ≤ g i ∧ g i ≤ 122) → gx_c f m = gx_c g l → m = l ∧ ∀ i, i < m → f i = g i
  | 0, 0, _, _, _ => ⟨rfl, fun i hi => by omega⟩
  | 0, l + 1, _, hg, e => by
    have := hg l (by omega)
    rw [gx_c, gx_c] at e
    omega
  | m + 1, 0, hf, _, e => by
    have := hf m (by omega)
    rw [gx_c, gx_c] at e
    omega
  | m + 1, l + 1, hf, hg, e => by
    have h1 := hf m (by omega)
    have h2 := hg l (by omega)
    rw [gx_c, gx_c] at e
    obtain ⟨h3, h4⟩ := gx_cinj m l (fun i hi => hf i (by omega)) (fun i hi => hg i (by omega)) (by omega)
    subst h3
    refine ⟨rfl, fun i hi => ?_⟩
    by_cases z : i = m
    · rw [z]; omega
    · exact h4 i (by omega)
theorem gx_c_congr {f g : Nat → Nat} : ∀ m, (∀ i, i < m → f i = g i) → gx_c f m = gx_c g m
  | 0, _ => rfl
  | m + 1, hh => by rw [gx_c, gx_c, gx_c_congr m (fun i hi => hh i (by omega)), hh m (by omega)]
def gx_six (a b c d e f : Nat) : Nat := (fun v => if f = 0 then v else 27 * v + f) ((fun v => if e = 0 then v else 27 * v + e) ((fun v => if d = 0 then v else 27 * v + d) (27 * (27 * a + b) + c)))
section MR
variable {h : ix_H} {tx : Nat → Nat} {n p f o : Nat} {fp : Int32}
theorem px_mr.P {q : Nat} {v : Int32} (r : px_mr h tx n p f fp o) (hv : v = nI q) (hq : q ≤ n) : px_mr (ix_up h 100 4 v) tx n q f fp o := by
  obtain ⟨t, r1, r2, r3, r4, r5, r6, r7, r8⟩ := r
  refine ⟨t.of (ix_up_ne (by decide)) (ix_up_ne (by decide)), ?_, by rw [px_up_at]; exact hv, hq, ?_, r5, ?_, ?_, r8⟩
  · rw [px_up_nk (by decide)]; exact r1
  · rw [px_up_nk (by decide)]; exact r4
  · rw [px_up_nk (by decide)]; exact r6
  · rw [px_up_nk (by decide)]; exact r7
theorem px_mr.O {q : Nat} {v : Int32} (r : px_mr h tx n p f fp o) (hv : v = nI q) (hq : q ≤ 1000) : px_mr (ix_up h 100 8 v) tx n p f fp q := by
  obtain ⟨t, r1, r2, r3, r4, r5, r6, r7, r8⟩ := r
  refine ⟨t.of (ix_up_ne (by decide)) (ix_up_ne (by decide)), ?_, ?_, r3, ?_, r5, ?_, by rw [px_up_at]; exact hv, hq⟩
  · rw [px_up_nk (by decide)]; exact r1
  · rw [px_up_nk (by decide)]; exact r2
  · rw [px_up_nk (by decide)]; exact r4
  · rw [px_up_nk (by decide)]; exact r6
theorem px_mr.of {h' : ix_H} (r : px_mr h tx n p f fp o) (e1 : h' 1 = h 1) (e2 : h' 101 = h 101) (e3 : ∀ j, j = 2 ∨ j = 4 ∨ j = 5 ∨ j = 6 ∨ j = 8 → h' 100 j = h 100 j) : px_mr h' tx n p f fp o := by
  unfold px_mr at r ⊢
  rw [e3 2 (by decide), e3 4 (by decide), e3 5 (by decide), e3 6 (by decide), e3 8 (by decide)]
  exact ⟨r.1.of e1 e2, r.2⟩
theorem sp_160 {k : Nat} (hk : k ≤ 100000) (r : px_mr h tx n p f fp o) : px_V 1 160 [.ref 100, .int (nI k)] h (some (.int (if k < n then nI (tx k) else -1))) h := by
  obtain ⟨t, r1, r2, r3, r4, r5, r6, r7, r8⟩ := r
  have n6 := t.1
  refine px_M (M := mt_160) (ops := mo_160) tb_160 rfl rfl rfl rfl rfl ?_
  refine w_il (j := 1) rfl rfl rfl ?_
  refine w_al (j := 2) rfl rfl rfl ?_
  first | refine w_gr (j := 3) rfl rfl (by first | assumption | rfl) (by first | assumption | rfl) rfl ?_ | refine w_gi (j := 3) rfl rfl (by first | assumption | rfl) (by first | assumption | rfl) rfl r1 ?_
  refine w_ltN (j := 4) rfl rfl (by omega) (by omega) (fun d => ?_) (fun d => ?_)
  ·
    obtain ⟨b1, b2, b3⟩ := t.2 k d
    refine w_al (j := 7) rfl rfl rfl ?_
    first | refine w_gr (j := 8) rfl rfl (by first | assumption | rfl) (by first | assumption | rfl) rfl ?_ | refine w_gi (j := 8) rfl rfl (by first | assumption | rfl) (by first | assumption | rfl) rfl rfl ?_
    refine w_il (j := 9) rfl rfl rfl ?_
    refine w_ial (j := 10) rfl rfl (by first | assumption | rfl) rfl (by omega) rfl b3 ?_
    refine w_ir rfl ?_
    rw [if_pos d]
  ·
    refine w_im (j := 5) rfl rfl ?_
    refine w_go rfl ?_
    refine w_ir rfl ?_
    rw [if_neg (by omega)]
theorem sp_161 (r : px_mr h tx n p f fp o) : px_PU 2 161 [.ref 100] h (fun h1 => px_f1 h h1 ∧ px_mr h1 tx n (gx_sk tx n p) f fp o) := by
  have n6 := r.1.1
  have r3 := r.2.2.2.1
  obtain ⟨s1, s2, s3, s4⟩ := gx_end_spec (P := gx_bk) (tx := tx) r3
  have hs : gx_end gx_bk tx n p = gx_sk tx n p := rfl
  rw [hs] at s1 s2 s3 s4
  generalize gx_sk tx n p = s at s1 s2 s3 s4
  refine px_M (M := mt_161) (ops := mo_161) tb_161 rfl rfl rfl rfl rfl ?_
  refine px_forI (fun c ls h1 => ls = [.ref 100] ∧ px_f1 h h1 ∧ px_mr h1 tx n (p + c) f fp o) (s - p) ?_ ?_ ⟨rfl, px_f1.rf, r⟩
  · rintro c _ h1 hc ⟨rfl, fr, R⟩ H
    have e4 := R.2.2.1
    have b4 := of_decide_eq_true (s3 (p + c) (by omega) (by omega))
    refine w_al (j := 1) rfl rfl rfl ?_
    refine w_al (j := 2) rfl rfl rfl ?_
    first | refine w_gr (j := 3) rfl rfl (by first | assumption | rfl) (by first | assumption | rfl) rfl ?_ | refine w_gi (j := 3) rfl rfl (by first | assumption | rfl) (by first | assumption | rfl) rfl e4 ?_
    refine w_cvI (j := 4) rfl rfl rfl rfl (by first | assumption | rfl) rfl rfl (sp_160 (by omega) R) rfl ?_
    rw [if_pos (show p + c < n by omega), b4]
    refine w_bi (j := 5) (a := nI 32) rfl rfl (by decide) ?_
    refine w_neN (j := 6) rfl rfl (by omega) (by omega) (fun c => absurd c (fun c => by omega)) (fun _ => ?_)
    refine w_al (j := 7) rfl rfl rfl ?_
    first | refine w_dupr (j := 8) rfl rfl ?_ | refine w_dupi (j := 8) rfl rfl ?_
    first | refine w_gr (j := 9) rfl rfl (by first | assumption | rfl) (by first | assumption | rfl) rfl ?_ | refine w_gi (j := 9) rfl rfl (by first | assumption | rfl) (by first | assumption | rfl) rfl e4 ?_
    refine w_ic (n := 1) (j := 10) rfl rfl ?_
    first | refine w_add0 (j := 11) rfl rfl ?_ | refine w_addN (j := 11) rfl rfl ?_ | refine w_add (j := 11) rfl rfl ?_
    refine w_pf (j := 12) rfl rfl (by first | assumption | rfl) (by first | assumption | rfl) rfl ?_
    refine w_go rfl ?_
    exact H _ _ ⟨rfl, fr.up (by decide), R.P rfl (by omega)⟩
  · rintro _ h1 ⟨rfl, fr, R⟩
    rw [show p + (s - p) = s by omega] at R
    have e4 := R.2.2.1
    have cm := gx_cmp (n := n) (tx := tx) (s := s) (c := 32) (fun z => (R.1.2 _ z).1) (by decide)
    refine w_al (j := 1) rfl rfl rfl ?_
    refine w_al (j := 2) rfl rfl rfl ?_
    first | refine w_gr (j := 3) rfl rfl (by first | assumption | rfl) (by first | assumption | rfl) rfl ?_ | refine w_gi (j := 3) rfl rfl (by first | assumption | rfl) (by first | assumption | rfl) rfl e4 ?_
    refine w_cvI (j := 4) rfl rfl rfl rfl (by first | assumption | rfl) rfl rfl (sp_160 (by omega) R) rfl ?_
    refine w_bi (j := 5) (a := nI 32) rfl rfl (by decide) ?_
    refine w_ne (j := 6) rfl rfl (fun d => ?_) (fun d => ?_)
    ·
      refine w_rt rfl ?_
      exact ⟨_, rfl, fr, R⟩
    ·
      exfalso
      obtain ⟨d1, d2⟩ := cm.mp d
      rcases s4 with z | z
      · omega
      · exact of_decide_eq_false z d2
theorem sp_162 {kd : Nat} {pl : Int32} (hk : kd ≤ 3) (r : px_mr h tx n p f fp o) : px_PU 1 162 [.ref 100, .int (nI kd), .int pl] h (fun h1 => px_f1 h h1 ∧ px_mr h1 tx n p (if f = 0 then kd else f) (if f = 0 then pl else fp) o) := by
  obtain ⟨t, r1, r2, r3, r4, r5, r6, r7, r8⟩ := r
  refine px_M (M := mt_162) (ops := mo_162) tb_162 rfl rfl rfl rfl rfl ?_
  refine w_al (j := 1) rfl rfl rfl ?_
  first | refine w_gr (j := 2) rfl rfl (by first | assumption | rfl) (by first | assumption | rfl) rfl ?_ | refine w_gi (j := 2) rfl rfl (by first | assumption | rfl) (by first | assumption | rfl) rfl r4 ?_
  refine w_neM (j := 3) rfl rfl (by omega) (fun c => ?_) (fun c => ?_)
  ·
    refine w_rt rfl ?_
    rw [if_neg c, if_neg c]
    exact ⟨_, rfl, px_f1.rf, t, r1, r2, r3, r4, r5, r6, r7, r8⟩
  ·
    refine w_al (j := 4) rfl rfl rfl ?_
    refine w_il (j := 5) rfl rfl rfl ?_
    refine w_pf (j := 6) rfl rfl (by first | assumption | rfl) (by first | assumption | rfl) rfl ?_
    refine w_al (j := 7) rfl rfl rfl ?_
    refine w_il (j := 8) rfl rfl rfl ?_
    refine w_pf (j := 9) rfl rfl (by first | assumption | rfl) (by first | assumption | rfl) rfl ?_
    refine w_rt rfl ?_
    rw [if_pos c, if_pos c]
    refine ⟨_, rfl, (px_f1.rf.up (by decide)).up (by decide), (t.of (h' := ix_up h 100 5 (nI kd)) (ix_up_ne (by decide)) (ix_up_ne (by decide))).of (ix_up_ne (by decide)) (ix_up_ne (by decide)), ?_, ?_, r3, ?_, hk, px_up_at, ?_, r8⟩
    · rw [px_up_nk (by decide), px_up_nk (by decide)]; exact r1
    · rw [px_up_nk (by decide), px_up_nk (by decide)]; exact r2
    · rw [px_up_nk (by decide), px_up_at]
    · rw [px_up_nk (by decide), px_up_nk (by decide)]; exact r7
theorem sp_163 {a : Int32} : px_V 1 163 [.int a] h (some (.int (px_b (decide (nI 48 ≤ a ∧ a ≤ nI 57))))) h := by
  refine px_M (M := mt_163) (ops := mo_163) tb_163 rfl rfl rfl rfl rfl ?_
  refine w_il (j := 1) rfl rfl rfl ?_
  refine w_bi (j := 2) (a := nI 48) rfl rfl (by decide) ?_
  refine w_lt (j := 3) rfl rfl (fun c1 => ?_) (fun c1 => ?_)
  ·
    refine w_ic (n := 0) (j := 9) rfl rfl ?_
    refine w_irB rfl (by first | exact Or.inl rfl | exact Or.inr rfl | exact px_b01 _) ?_
    exact px_rb0 (fun q => px_not_lt.mpr q.1 c1)
  refine w_il (j := 4) rfl rfl rfl ?_
  refine w_bi (j := 5) (a := nI 57) rfl rfl (by decide) ?_
  refine w_gt (j := 6) rfl rfl (fun c2 => ?_) (fun c2 => ?_)
  ·
    refine w_ic (n := 0) (j := 9) rfl rfl ?_
    refine w_irB rfl (by first | exact Or.inl rfl | exact Or.inr rfl | exact px_b01 _) ?_
    exact px_rb0 (fun q => px_not_le.mpr c2 q.2)
  refine w_ic (n := 1) (j := 7) rfl rfl ?_
  refine w_go rfl ?_
  refine w_irB rfl (by first | exact Or.inl rfl | exact Or.inr rfl | exact px_b01 _) ?_
  exact px_rb1 ⟨c1, c2⟩
theorem sp_164 {a : Int32} : px_V 1 164 [.int a] h (some (.int (px_b (decide (nI 97 ≤ a ∧ a ≤ nI 122))))) h := by
  refine px_M (M := mt_164) (ops := mo_164) tb_164 rfl rfl rfl rfl rfl ?_
  refine w_il (j := 1) rfl rfl rfl ?_
  refine w_bi (j := 2) (a := nI 97) rfl rfl (by decide) ?_
  refine w_lt (j := 3) rfl rfl (fun c1 => ?_) (fun c1 => ?_)
  ·
    refine w_ic (n := 0) (j := 9) rfl rfl ?_
    refine w_irB rfl (by first | exact Or.inl rfl | exact Or.inr rfl | exact px_b01 _) ?_
    exact px_rb0 (fun q => px_not_lt.mpr q.1 c1)
  refine w_il (j := 4) rfl rfl rfl ?_
  refine w_bi (j := 5) (a := nI 122) rfl rfl (by decide) ?_
  refine w_gt (j := 6) rfl rfl (fun c2 => ?_) (fun c2 => ?_)
  ·
    refine w_ic (n := 0) (j := 9) rfl rfl ?_
    refine w_irB rfl (by first | exact Or.inl rfl | exact Or.inr rfl | exact px_b01 _) ?_
    exact px_rb0 (fun q => px_not_le.mpr c2 q.2)
  refine w_ic (n := 1) (j := 7) rfl rfl ?_
  refine w_go rfl ?_
  refine w_irB rfl (by first | exact Or.inl rfl | exact Or.inr rfl | exact px_b01 _) ?_
  exact px_rb1 ⟨c1, c2⟩
theorem gx_rng {s A Z : Nat} (b : s < n → tx s < 256) (hA : A ≤ 300) (hZ : Z ≤ 300) : (nI A ≤ (if s < n then nI (tx s) else -1) ∧ (if s < n then nI (tx s) else -1) ≤ nI Z) ↔ (s < n ∧ A ≤ tx s ∧ tx s ≤ Z) := by
  by_cases hs : s < n
  · have := b hs
    rw [if_pos hs, px_nle (by omega) (by omega), px_nle (by omega) (by omega)]
    exact ⟨fun z => ⟨hs, z⟩, fun z => z.2⟩
  · rw [if_neg hs]
    refine ⟨fun z => ?_, fun z => absurd z.1 hs⟩
    have z1 := z.1
    rw [Int32.le_iff_toInt_le, nI_toInt (by omega), show (-1 : Int32).toInt = -1 from by decide] at z1
    omega
theorem sp_165x {lo hi : Int32} (hf : f ≠ 0) (r : px_mr h tx n p f fp o) : px_V 1 165 [.ref 100, .int lo, .int hi] h (some (.int (nI 0))) h := by
  have r4 := r.2.2.2.2.1
  have r5 := r.2.2.2.2.2.1
  refine px_M (M := mt_165) (ops := mo_165) tb_165 rfl rfl rfl rfl rfl ?_
  refine w_al (j := 1) rfl rfl rfl ?_
  first | refine w_gr (j := 2) rfl rfl (by first | assumption | rfl) (by first | assumption | rfl) rfl ?_ | refine w_gi (j := 2) rfl rfl (by first | assumption | rfl) (by first | assumption | rfl) rfl r4 ?_
  refine w_eqM (j := 3) rfl rfl (by omega) (fun c => absurd c (fun c => by omega)) (fun _ => ?_)
  refine w_ic (n := 0) (j := 4) rfl rfl ?_
  refine w_ir rfl ?_
  rfl
theorem sp_165 {lo H : Nat} {hi : Int32} (hlo : lo ≤ 1000) (hh : ∀ v, v ≤ 1000000 → (nI v ≤ hi ↔ v < H)) (hH : H ≤ 2000) (r : px_mr h tx n p 0 fp o) : px_PI 3 165 [.ref 100, .int (nI lo), .int hi] h (fun v h1 => v = (if gx_nk tx n lo H p = 0 then nI (gx_nv tx n p) else nI 0) ∧ px_f1 h h1 ∧ px_mr h1 tx n (gx_ne tx n p) (gx_nk tx n lo H p) (if gx_nk tx n lo H p = 0 then fp else nI (gx_sk tx n p)) o) := by
  have n6 := r.1.1
  have r3 := r.2.2.2.1
  have r4 := r.2.2.2.2.1
  refine px_M (M := mt_165) (ops := mo_165) tb_165 rfl rfl rfl rfl rfl ?_
  refine w_al (j := 1) rfl rfl rfl ?_
  first | refine w_gr (j := 2) rfl rfl (by first | assumption | rfl) (by first | assumption | rfl) rfl ?_ | refine w_gi (j := 2) rfl rfl (by first | assumption | rfl) (by first | assumption | rfl) rfl r4 ?_
  refine w_eqM (j := 3) rfl rfl (by omega) (fun _ => ?_) (fun c => absurd c (fun c => by omega))
  refine w_al (j := 6) rfl rfl rfl ?_
  refine w_cvPU (j := 7) rfl rfl rfl rfl (by first | assumption | rfl) rfl rfl (sp_161 r) rfl ?_
  rintro h1 ⟨q2, q3⟩
  obtain ⟨s0, s00⟩ := gx_sk_le (tx := tx) r3
  have ek : gx_nk tx n lo H p = if gx_ne tx n p = gx_sk tx n p then 1 else if lo ≤ gx_nv tx n p ∧ gx_nv tx n p < H then 0 else 2 := rfl
  have ev : gx_nv tx n p = gx_val tx (gx_sk tx n p) (gx_ne tx n p - gx_sk tx n p) := rfl
  obtain ⟨s1, s2, s3, s4⟩ := gx_end_spec (P := gx_dd) (tx := tx) s00
  rw [show gx_end gx_dd tx n (gx_sk tx n p) = gx_ne tx n p from rfl] at s1 s2 s3 s4
  generalize gx_nk tx n lo H p = K at ek ⊢
  generalize gx_nv tx n p = V at ek ev ⊢
  generalize gx_ne tx n p = e at s1 s2 s3 s4 ek ev ⊢
  generalize gx_sk tx n p = s at q3 s0 s00 s1 s3 ek ev ⊢
  have e4 := q3.2.2.1
  have rg := gx_rng (n := n) (tx := tx) (s := s) (A := 48) (Z := 57) (fun z => (q3.1.2 _ z).1) (by decide) (by decide)
  have lp : ∀ h2, px_f1 h h2 → px_mr h2 tx n s (if e = s then 1 else 0) (if e = s then nI s else fp) o → px_R px_E 2 mo_165 [] 23 [.ref 100, .int (nI lo), .int hi, .int (nI s), .int (nI 0)] [] h2 0 (fun r => ∃ v h', r = (.inl (some (.int v)), h', 0) ∧ v = (if K = 0 then nI V else nI 0) ∧ px_f1 h h' ∧ px_mr h' tx n e K (if K = 0 then fp else nI s) o) := by
    intro h2 fr R
    refine px_forI (fun c ls h3 => ls = [.ref 100, .int (nI lo), .int hi, .int (nI s), .int (nI (min (gx_val tx s c) 100000))] ∧ px_f1 h h3 ∧ px_mr h3 tx n (s + c) (if e = s then 1 else 0) (if e = s then nI s else fp) o) (e - s) ?_ ?_ ⟨rfl, fr, R⟩
    · rintro c _ h3 hc ⟨rfl, fr3, R3⟩ H2
      have e43 := R3.2.2.1
      have b5 := of_decide_eq_true (s3 (s + c) (by omega) (by omega))
      have S160 := sp_160 (k := s + c) (by omega) R3
      rw [if_pos (show s + c < n by omega)] at S160
      refine w_al (j := 24) rfl rfl rfl ?_
      refine w_al (j := 25) rfl rfl rfl ?_
      first | refine w_gr (j := 26) rfl rfl (by first | assumption | rfl) (by first | assumption | rfl) rfl ?_ | refine w_gi (j := 26) rfl rfl (by first | assumption | rfl) (by first | assumption | rfl) rfl e43 ?_
      refine w_cvI (j := 27) rfl rfl rfl rfl (by first | assumption | rfl) rfl rfl (S160) rfl ?_
      refine w_csI (j := 28) rfl rfl rfl rfl rfl (sp_163) rfl ?_
      rw [decide_eq_true (show nI 48 ≤ nI (tx (s + c)) ∧ nI (tx (s + c)) ≤ nI 57 from ⟨nI_le b5.1 (by omega), nI_le b5.2 (by omega)⟩)]
      refine w_eqB (j := 29) rfl rfl (fun c => absurd c (by simp)) (fun _ => ?_)
      refine w_bi (j := 30) (a := nI 10) rfl rfl (by decide) ?_
      refine w_iL (j := 31) rfl rfl rfl ?_
      first | refine w_mulN (j := 32) rfl rfl ?_ | refine w_mul (j := 32) rfl rfl ?_
      refine w_al (j := 33) rfl rfl rfl ?_
      refine w_al (j := 34) rfl rfl rfl ?_
      first | refine w_gr (j := 35) rfl rfl (by first | assumption | rfl) (by first | assumption | rfl) rfl ?_ | refine w_gi (j := 35) rfl rfl (by first | assumption | rfl) (by first | assumption | rfl) rfl e43 ?_
      refine w_cvI (j := 36) rfl rfl rfl rfl (by first | assumption | rfl) rfl rfl (S160) rfl ?_
      first | refine w_add0 (j := 37) rfl rfl ?_ | refine w_addN (j := 37) rfl rfl ?_ | refine w_add (j := 37) rfl rfl ?_
      refine w_bi (j := 38) (a := nI 48) rfl rfl (by decide) ?_
      first | refine w_subN (j := 39) rfl rfl (by omega) ?_ | refine w_sub (j := 39) rfl rfl ?_
      refine w_iS (j := 40) rfl rfl rfl ?_
      refine w_iL (j := 41) rfl rfl rfl ?_
      refine w_lc (j := 42) (a := nI 100000) rfl rfl (by decide) ?_
      have nx : ∀ w, w = min (10 * gx_val tx s c + (tx (s + c) - 48)) 100000 → px_R px_E 2 mo_165 [] 46 [.ref 100, .int (nI lo), .int hi, .int (nI s), .int (nI (10 * min (gx_val tx s c) 100000 + tx (s + c) - 48))] [.int (nI w)] h3 0 (fun r => ∃ v h', r = (.inl (some (.int v)), h', 0) ∧ v = (if K = 0 then nI V else nI 0) ∧ px_f1 h h' ∧ px_mr h' tx n e K (if K = 0 then fp else nI s) o) := by
        intro w hw
        refine w_iS (j := 47) rfl rfl rfl ?_
        refine w_al (j := 48) rfl rfl rfl ?_
        first | refine w_dupr (j := 49) rfl rfl ?_ | refine w_dupi (j := 49) rfl rfl ?_
        first | refine w_gr (j := 50) rfl rfl (by first | assumption | rfl) (by first | assumption | rfl) rfl ?_ | refine w_gi (j := 50) rfl rfl (by first | assumption | rfl) (by first | assumption | rfl) rfl e43 ?_
        refine w_ic (n := 1) (j := 51) rfl rfl ?_
        first | refine w_add0 (j := 52) rfl rfl ?_ | refine w_addN (j := 52) rfl rfl ?_ | refine w_add (j := 52) rfl rfl ?_
        refine w_pf (j := 53) rfl rfl (by first | assumption | rfl) (by first | assumption | rfl) rfl ?_
        refine w_go rfl ?_
        refine H2 _ _ ⟨?_, fr3.up (by decide), R3.P rfl (by omega)⟩
        rw [gx_val, ← hw]
        rfl
      refine w_leN (j := 43) rfl rfl (by omega) (by omega) (fun d => ?_) (fun d => ?_)
      ·
        refine w_iL (j := 46) rfl rfl rfl ?_
        exact nx _ (by omega)
      ·
        refine w_lc (j := 44) (a := nI 100000) rfl rfl (by decide) ?_
        refine w_go rfl ?_
        exact nx 100000 (by omega)
    · rintro _ h3 ⟨rfl, fr3, R3⟩
      rw [show s + (e - s) = e by omega] at R3
      rw [← ev]
      have e43 := R3.2.2.1
      have rg2 := gx_rng (n := n) (tx := tx) (s := e) (A := 48) (Z := 57) (fun z => (R3.1.2 _ z).1) (by decide) (by decide)
      have hif := hh (min V 100000) (by omega)
      have fin : ∀ h4, px_f1 h h4 → px_mr h4 tx n e K (if K = 0 then fp else nI s) o → px_R px_E 2 mo_165 [] 63 [.ref 100, .int (nI lo), .int hi, .int (nI s), .int (nI (min V 100000))] [] h4 0 (fun r => ∃ v h', r = (.inl (some (.int v)), h', 0) ∧ v = (if K = 0 then nI V else nI 0) ∧ px_f1 h h' ∧ px_mr h' tx n e K (if K = 0 then fp else nI s) o) := by
        intro h4 f4 R4
        have e5 := R4.2.2.2.2.1
        have e5' := R4.2.2.2.2.2.1
        refine w_al (j := 64) rfl rfl rfl ?_
        first | refine w_gr (j := 65) rfl rfl (by first | assumption | rfl) (by first | assumption | rfl) rfl ?_ | refine w_gi (j := 65) rfl rfl (by first | assumption | rfl) (by first | assumption | rfl) rfl e5 ?_
        refine w_neM (j := 66) rfl rfl (by omega) (fun d => ?_) (fun d => ?_)
        ·
          refine w_ic (n := 0) (j := 69) rfl rfl ?_
          refine w_ir rfl ?_
          exact ⟨_, _, rfl, by rw [if_neg d], f4, R4⟩
        ·
          refine w_iL (j := 67) rfl rfl rfl ?_
          refine w_go rfl ?_
          refine w_ir rfl ?_
          refine ⟨_, _, rfl, ?_, f4, R4⟩
          rw [if_pos d]
          congr 1
          by_cases e0 : e = s
          · rw [if_pos e0] at ek; omega
          · rw [if_neg e0] at ek
            by_cases e1 : lo ≤ V ∧ V < H
            · omega
            · rw [if_neg e1] at ek; omega
      refine w_al (j := 24) rfl rfl rfl ?_
      refine w_al (j := 25) rfl rfl rfl ?_
      first | refine w_gr (j := 26) rfl rfl (by first | assumption | rfl) (by first | assumption | rfl) rfl ?_ | refine w_gi (j := 26) rfl rfl (by first | assumption | rfl) (by first | assumption | rfl) rfl e43 ?_
      refine w_cvI (j := 27) rfl rfl rfl rfl (by first | assumption | rfl) rfl rfl (sp_160 (by omega) R3) rfl ?_
      refine w_csI (j := 28) rfl rfl rfl rfl rfl (sp_163) rfl ?_
      rw [decide_eq_false (fun z => by
        obtain ⟨z1, z2⟩ := rg2.mp z
        rcases s4 with y | y
        · omega
        · exact of_decide_eq_false y z2)]
      refine w_eqB (j := 29) rfl rfl (fun _ => ?_) (fun c => absurd c (by simp))
      refine w_iL (j := 55) rfl rfl rfl ?_
      refine w_il (j := 56) rfl rfl rfl ?_
      refine w_il (j := 57) rfl rfl rfl ?_
      refine w_csI (j := 58) rfl rfl rfl rfl rfl (sp_155) rfl ?_
      by_cases ir : nI lo ≤ nI (min V 100000) ∧ nI (min V 100000) ≤ hi
      · rw [decide_eq_true ir]
        refine w_neB (j := 59) rfl rfl (fun _ => ?_) (fun c => absurd c (by simp))
        refine fin _ fr3 ?_
        rw [px_nle (by omega) (by omega), hif] at ir
        by_cases e0 : e = s
        · rw [if_pos e0] at ek
          rw [if_pos e0, if_pos e0] at R3
          subst ek
          exact R3
        · rw [if_neg e0, if_pos ⟨by omega, by omega⟩] at ek
          rw [if_neg e0, if_neg e0] at R3
          subst ek
          exact R3
      · rw [decide_eq_false ir]
        refine w_neB (j := 59) rfl rfl (fun c => absurd c (by simp)) (fun _ => ?_)
        refine w_al (j := 60) rfl rfl rfl ?_
        refine w_ic (n := 2) (j := 61) rfl rfl ?_
        refine w_il (j := 62) rfl rfl rfl ?_
        refine w_cvPU (j := 63) rfl rfl rfl rfl (by first | assumption | rfl) rfl rfl (sp_162 (kd := 2) (by decide) R3) rfl ?_
        rintro h4 ⟨u1, u2⟩
        refine fin _ (fr3.tr u1) ?_
        rw [px_nle (by omega) (by omega), hif] at ir
        by_cases e0 : e = s
        · rw [if_pos e0] at ek
          rw [if_pos e0, if_pos e0] at u2
          subst ek
          exact u2
        · rw [if_neg e0, if_neg (by omega)] at ek
          rw [if_neg e0, if_neg e0] at u2
          subst ek
          exact u2
  refine w_al (j := 8) rfl rfl rfl ?_
  first | refine w_gr (j := 9) rfl rfl (by first | assumption | rfl) (by first | assumption | rfl) rfl ?_ | refine w_gi (j := 9) rfl rfl (by first | assumption | rfl) (by first | assumption | rfl) rfl e4 ?_
  refine w_is (j := 10) rfl rfl rfl ?_
  refine w_ic (n := 0) (j := 11) rfl rfl ?_
  refine w_iS (j := 12) rfl rfl rfl ?_
  refine w_al (j := 13) rfl rfl rfl ?_
  refine w_al (j := 14) rfl rfl rfl ?_
  first | refine w_gr (j := 15) rfl rfl (by first | assumption | rfl) (by first | assumption | rfl) rfl ?_ | refine w_gi (j := 15) rfl rfl (by first | assumption | rfl) (by first | assumption | rfl) rfl e4 ?_
  refine w_cvI (j := 16) rfl rfl rfl rfl (by first | assumption | rfl) rfl rfl (sp_160 (by omega) q3) rfl ?_
  refine w_csI (j := 17) rfl rfl rfl rfl rfl (sp_163) rfl ?_
  by_cases e0 : e = s
  · rw [decide_eq_false (fun z => by
      obtain ⟨z1, z2⟩ := rg.mp z
      rcases s4 with y | y
      · omega
      · rw [e0] at y; exact of_decide_eq_false y z2)]
    refine w_neB (j := 18) rfl rfl (fun c => absurd c (by simp)) (fun _ => ?_)
    refine w_al (j := 19) rfl rfl rfl ?_
    refine w_ic (n := 1) (j := 20) rfl rfl ?_
    refine w_al (j := 21) rfl rfl rfl ?_
    first | refine w_gr (j := 22) rfl rfl (by first | assumption | rfl) (by first | assumption | rfl) rfl ?_ | refine w_gi (j := 22) rfl rfl (by first | assumption | rfl) (by first | assumption | rfl) rfl e4 ?_
    refine w_cvPU (j := 23) rfl rfl rfl rfl (by first | assumption | rfl) rfl rfl (sp_162 (kd := 1) (by decide) q3) rfl ?_
    rintro h2 ⟨u1, u2⟩
    refine lp _ (q2.tr u1) ?_
    rw [if_pos e0, if_pos e0]
    exact u2
  · rw [decide_eq_true (rg.mpr ⟨by omega, of_decide_eq_true (s3 s (Nat.le_refl _) (by omega))⟩)]
    refine w_neB (j := 18) rfl rfl (fun _ => ?_) (fun c => absurd c (by simp))
    refine lp _ q2 ?_
    rw [if_neg e0, if_neg e0]
    exact q3
end MR
