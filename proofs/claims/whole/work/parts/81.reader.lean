section RD
variable {h : ix_H} {tx : Nat → Nat} {n p pc o k : Nat} {pl : Int32}
theorem px_rdP {h h1 : ix_H} {q : Nat} {v : Int32} (r : px_rd h1 tx n p pc o k pl) (hv : v = nI q) (hq : q ≤ n) (hpc : pc ≤ q) : px_rd (ix_up h1 2 2 v) tx n q pc o k pl := by
  obtain ⟨q0, q1, q2, q3, q4, q5, q6, q7, q8, q9, q10⟩ := r
  refine ⟨q0.of (ix_up_ne (by decide)) (ix_up_ne (by decide)), ?_, by rw [px_up_at]; exact hv, hq, ?_, hpc, ?_, q7, ?_, q9, ?_⟩
  · rw [px_up_nk (by decide)]; exact q1
  · rw [px_up_nk (by decide)]; exact q4
  · rw [px_up_nk (by decide)]; exact q6
  · rw [px_up_nk (by decide)]; exact q8
  · rw [px_up_nk (by decide)]; exact q10
theorem px_rdO {h1 : ix_H} {q : Nat} {v : Int32} (r : px_rd h1 tx n p pc o k pl) (hv : v = nI q) (hq : q ≤ 1000) : px_rd (ix_up h1 2 4 v) tx n p pc q k pl := by
  obtain ⟨q0, q1, q2, q3, q4, q5, q6, q7, q8, q9, q10⟩ := r
  refine ⟨q0.of (ix_up_ne (by decide)) (ix_up_ne (by decide)), ?_, ?_, q3, ?_, q5, by rw [px_up_at]; exact hv, hq, ?_, q9, ?_⟩
  · rw [px_up_nk (by decide)]; exact q1
  · rw [px_up_nk (by decide)]; exact q2
  · rw [px_up_nk (by decide)]; exact q4
  · rw [px_up_nk (by decide)]; exact q8
  · rw [px_up_nk (by decide)]; exact q10
theorem sp_61 (r : px_rd h tx n p pc o k pl) : px_PI 2 61 [.ref 2] h (fun v h1 => v = px_b (decide (k = 0 ∧ gx_sk tx n p < n)) ∧ px_fr [2] h h1 ∧ (if k = 0 then px_rd h1 tx n (gx_sk tx n p) (gx_sk tx n p) o k pl else h1 = h)) := by
  refine px_M (M := mt_61) (ops := mo_61) tb_61 rfl rfl rfl rfl rfl ?_
  refine w_al (j := 1) rfl rfl rfl ?_
  refine w_cvI (j := 2) rfl rfl rfl rfl (by first | assumption | rfl) rfl rfl (sp_56 r) rfl ?_
  by_cases hk : k = 0
  · rw [decide_eq_false (fun z => z hk)]
    refine w_neB (j := 3) rfl rfl (fun c => absurd c (by simp)) (fun _ => ?_)
    refine w_al (j := 4) rfl rfl rfl ?_
    refine w_cvPI (j := 5) rfl rfl rfl rfl (by first | assumption | rfl) rfl rfl (sp_60 r) rfl ?_
    rintro v h1 ⟨q1, q2, q3⟩
    subst q1
    refine w_im (j := 6) rfl rfl ?_
    by_cases hs : gx_sk tx n p < n
    · rw [if_pos hs]
      have b1 := (q3.1.2 _ hs).1
      refine w_eq (j := 7) rfl rfl (fun c => absurd c (px_nm1 (by omega))) (fun _ => ?_)
      refine w_ic (n := 1) (j := 8) rfl rfl ?_
      refine w_go rfl ?_
      refine w_irB rfl (by first | exact Or.inl rfl | exact Or.inr rfl | exact px_b01 _) ?_
      exact ⟨_, _, rfl, by rw [decide_eq_true ⟨hk, hs⟩]; rfl, q2, by rw [if_pos hk]; exact q3⟩
    · rw [if_neg hs]
      refine w_eq (j := 7) rfl rfl (fun _ => ?_) (fun c => absurd c (fun z => z rfl))
      refine w_ic (n := 0) (j := 10) rfl rfl ?_
      refine w_irB rfl (by first | exact Or.inl rfl | exact Or.inr rfl | exact px_b01 _) ?_
      exact ⟨_, _, rfl, by rw [decide_eq_false (fun z => hs z.2)]; rfl, q2, by rw [if_pos hk]; exact q3⟩
  · rw [decide_eq_true hk]
    refine w_neB (j := 3) rfl rfl (fun _ => ?_) (fun c => absurd c (by simp))
    refine w_ic (n := 0) (j := 10) rfl rfl ?_
    refine w_irB rfl (by first | exact Or.inl rfl | exact Or.inr rfl | exact px_b01 _) ?_
    exact ⟨_, _, rfl, by rw [decide_eq_false (fun z => hk z.1)]; rfl, px_fr.rf, by rw [if_neg hk]⟩
theorem gx_cmp {s c : Nat} (b : s < n → tx s < 256) (hc : c < 256) : ((if s < n then nI (tx s) else -1) = nI c) ↔ (s < n ∧ tx s = c) := by
  by_cases hs : s < n
  · rw [if_pos hs]
    have := b hs
    rw [px_neq (by omega) (by omega)]
    exact ⟨fun z => ⟨hs, z⟩, fun z => z.2⟩
  · rw [if_neg hs]
    exact ⟨fun z => absurd z.symm (px_nm1 (by omega)), fun z => absurd z.1 hs⟩
theorem sp_62 {c : Nat} (hc : c < 256) (r : px_rd h tx n p pc o k pl) : px_PI 2 62 [.ref 2, .int (nI c)] h (fun v h1 => v = px_b (decide (gx_sk tx n p < n ∧ tx (gx_sk tx n p) = c)) ∧ px_fr [2] h h1 ∧ px_rd h1 tx n (if gx_sk tx n p < n ∧ tx (gx_sk tx n p) = c then gx_sk tx n p + 1 else gx_sk tx n p) (gx_sk tx n p) o k pl) := by
  refine px_M (M := mt_62) (ops := mo_62) tb_62 rfl rfl rfl rfl rfl ?_
  refine w_al (j := 1) rfl rfl rfl ?_
  refine w_cvPI (j := 2) rfl rfl rfl rfl (by first | assumption | rfl) rfl rfl (sp_60 r) rfl ?_
  rintro v h1 ⟨q1, q2, q3⟩
  have cm := gx_cmp (s := gx_sk tx n p) (fun z => (q3.1.2 _ z).1) hc
  subst q1
  refine w_il (j := 3) rfl rfl rfl ?_
  refine w_eq (j := 4) rfl rfl (fun d => ?_) (fun d => ?_)
  ·
    have d := cm.mp d
    have e2 := q3.2.2.1
    refine w_al (j := 7) rfl rfl rfl ?_
    first | refine w_dupr (j := 8) rfl rfl ?_ | refine w_dupi (j := 8) rfl rfl ?_
    first | refine w_gr (j := 9) rfl rfl (by first | assumption | rfl) (by first | assumption | rfl) rfl ?_ | refine w_gi (j := 9) rfl rfl (by first | assumption | rfl) (by first | assumption | rfl) rfl e2 ?_
    refine w_ic (n := 1) (j := 10) rfl rfl ?_
    first | refine w_add0 (j := 11) rfl rfl ?_ | refine w_addN (j := 11) rfl rfl ?_ | refine w_add (j := 11) rfl rfl ?_
    refine w_pf (j := 12) rfl rfl (by first | assumption | rfl) (by first | assumption | rfl) rfl ?_
    refine w_ic (n := 1) (j := 13) rfl rfl ?_
    refine w_irB rfl (by first | exact Or.inl rfl | exact Or.inr rfl | exact px_b01 _) ?_
    refine ⟨_, _, rfl, by rw [decide_eq_true d]; rfl, q2.up (by decide), ?_⟩
    rw [if_pos d]
    exact px_rdP (h := h) q3 rfl (by omega) (by omega)
  ·
    have d : ¬ (gx_sk tx n p < n ∧ tx (gx_sk tx n p) = c) := fun z => d (cm.mpr z)
    refine w_ic (n := 0) (j := 5) rfl rfl ?_
    refine w_irB rfl (by first | exact Or.inl rfl | exact Or.inr rfl | exact px_b01 _) ?_
    refine ⟨_, _, rfl, by rw [decide_eq_false d]; rfl, q2, ?_⟩
    rw [if_neg d]
    exact q3
theorem sp_63 {c : Nat} (hc : c < 256) (r : px_rd h tx n p pc o k pl) : px_PU 2 63 [.ref 2, .int (nI c)] h (fun h1 => px_fr [2] h h1 ∧ (if gx_sk tx n p < n ∧ tx (gx_sk tx n p) = c then px_rd h1 tx n (gx_sk tx n p + 1) (gx_sk tx n p) o k pl else px_rd h1 tx n (gx_sk tx n p) (gx_sk tx n p) o (gx_fk k 1) (gx_fp k pl (gx_sk tx n p)))) := by
  refine px_M (M := mt_63) (ops := mo_63) tb_63 rfl rfl rfl rfl rfl ?_
  refine w_al (j := 1) rfl rfl rfl ?_
  refine w_cvPI (j := 2) rfl rfl rfl rfl (by first | assumption | rfl) rfl rfl (sp_60 r) rfl ?_
  rintro v h1 ⟨q1, q2, q3⟩
  have cm := gx_cmp (s := gx_sk tx n p) (fun z => (q3.1.2 _ z).1) hc
  subst q1
  refine w_il (j := 3) rfl rfl rfl ?_
  refine w_ne (j := 4) rfl rfl (fun d => ?_) (fun d => ?_)
  ·
    have d : ¬ (gx_sk tx n p < n ∧ tx (gx_sk tx n p) = c) := fun z => d (cm.mpr z)
    refine w_al (j := 12) rfl rfl rfl ?_
    refine w_ic (n := 1) (j := 13) rfl rfl ?_
    refine w_cvPU (j := 14) rfl rfl rfl rfl (by first | assumption | rfl) rfl rfl (sp_59 (kd := 1) (by decide) q3) rfl ?_
    rintro h2 ⟨u1, u2⟩
    refine w_rt rfl ?_
    refine ⟨_, rfl, q2.tr u1, ?_⟩
    rw [if_neg d]
    exact u2
  ·
    have d := cm.mp d
    have e2 := q3.2.2.1
    refine w_al (j := 5) rfl rfl rfl ?_
    first | refine w_dupr (j := 6) rfl rfl ?_ | refine w_dupi (j := 6) rfl rfl ?_
    first | refine w_gr (j := 7) rfl rfl (by first | assumption | rfl) (by first | assumption | rfl) rfl ?_ | refine w_gi (j := 7) rfl rfl (by first | assumption | rfl) (by first | assumption | rfl) rfl e2 ?_
    refine w_ic (n := 1) (j := 8) rfl rfl ?_
    first | refine w_add0 (j := 9) rfl rfl ?_ | refine w_addN (j := 9) rfl rfl ?_ | refine w_add (j := 9) rfl rfl ?_
    refine w_pf (j := 10) rfl rfl (by first | assumption | rfl) (by first | assumption | rfl) rfl ?_
    refine w_go rfl ?_
    refine w_rt rfl ?_
    refine ⟨_, rfl, q2.up (by decide), ?_⟩
    rw [if_pos d]
    exact px_rdP (h := h) q3 rfl (by omega) (by omega)
theorem sp_69 {a : Int32} : px_V 1 69 [.int a] h (some (.int (px_b (decide (nI 48 ≤ a ∧ a ≤ nI 57))))) h := by
  refine px_M (M := mt_69) (ops := mo_69) tb_69 rfl rfl rfl rfl rfl ?_
  refine w_il (j := 1) rfl rfl rfl ?_
  refine w_bi (j := 2) (a := nI 48) rfl rfl (by decide) ?_
  refine w_lt (j := 3) rfl rfl (fun c1 => ?_) (fun c1 => ?_)
  ·
    refine w_ic (n := 0) (j := 9) rfl rfl ?_
    refine w_irB rfl (by first | exact Or.inl rfl | exact Or.inr rfl | exact px_b01 _) ?_
    exact px_rb0 (fun q => px_not_lt.mpr q.1 c1)
  refine w_il (j := 4) rfl rfl rfl ?_
  refine w_bi (j := 5) (a := nI 57) rfl rfl (by decide) ?_
  refine w_gt (j := 6) rfl rfl (fun c2 => ?_) (fun c2 => ?_)
  ·
    refine w_ic (n := 0) (j := 9) rfl rfl ?_
    refine w_irB rfl (by first | exact Or.inl rfl | exact Or.inr rfl | exact px_b01 _) ?_
    exact px_rb0 (fun q => px_not_le.mpr c2 q.2)
  refine w_ic (n := 1) (j := 7) rfl rfl ?_
  refine w_go rfl ?_
  refine w_irB rfl (by first | exact Or.inl rfl | exact Or.inr rfl | exact px_b01 _) ?_
  exact px_rb1 ⟨c1, c2⟩
theorem px_hiN {a : Nat} (ha : a < 2000) : ∀ v, v ≤ 1000000 → (nI v ≤ nI a ↔ v < a + 1) := fun v hv => by rw [px_nle (by omega) (by omega)]; omega
theorem px_hiB {B : Nat} (hB : B ≤ 600) : ∀ v, v ≤ 1000000 → (nI v ≤ nI B - nI 1 ↔ v < B) := fun v hv => by rw [← px_ltle hB, px_nlt (by omega) (by omega)]
theorem gx_nv_at {c : Nat} (P : ∀ i, c ≤ i → True) : True := trivial
theorem sp_64 {lo H : Nat} {hi : Int32} (hlo : lo ≤ 1000) (hh : ∀ v, v ≤ 1000000 → (nI v ≤ hi ↔ v < H)) (hH : H ≤ 2000) (r : px_rd h tx n p pc o k pl) : px_PI 3 64 [.ref 2, .int (nI lo), .int hi] h (fun v h1 => v = nI (min (gx_nv tx n p) 1000000) ∧ px_fr [2] h h1 ∧ px_rd h1 tx n (gx_ne tx n p) (gx_sk tx n p) o (if gx_nk tx n lo H p = 0 then k else gx_fk k (gx_nk tx n lo H p)) (if gx_nk tx n lo H p = 0 then pl else gx_fp k pl (gx_sk tx n p))) := by
  have n6 := r.1.1
  have r3 := r.2.2.2.1
  refine px_M (M := mt_64) (ops := mo_64) tb_64 rfl rfl rfl rfl rfl ?_
  refine w_al (j := 1) rfl rfl rfl ?_
  refine w_cvPI (j := 2) rfl rfl rfl rfl (by first | assumption | rfl) rfl rfl (sp_60 r) rfl ?_
  rintro v h1 ⟨q1, q2, q3⟩
  clear q1
  obtain ⟨s0, s00⟩ := gx_sk_le (tx := tx) r3
  have ek : gx_nk tx n lo H p = if gx_ne tx n p = gx_sk tx n p then 1 else if lo ≤ gx_nv tx n p ∧ gx_nv tx n p < H then 0 else 2 := rfl
  have ev : gx_nv tx n p = gx_val tx (gx_sk tx n p) (gx_ne tx n p - gx_sk tx n p) := rfl
  obtain ⟨s1, s2, s3, s4⟩ := gx_end_spec (P := gx_dd) (tx := tx) s00
  rw [show gx_end gx_dd tx n (gx_sk tx n p) = gx_ne tx n p from rfl] at s1 s2 s3 s4
  generalize gx_nk tx n lo H p = K at ek ⊢
  generalize gx_nv tx n p = V at ek ev ⊢
  generalize gx_ne tx n p = e at s1 s2 s3 s4 ek ev ⊢
  generalize gx_sk tx n p = s at q3 s0 s00 s1 s3 ek ev ⊢
  refine w_popi (j := 3) rfl rfl ?_
  refine w_ic (n := 0) (j := 4) rfl rfl ?_
  refine w_is (j := 5) rfl rfl rfl ?_
  refine px_forI (fun c ls h2 => ls = [.ref 2, .int (nI lo), .int hi, .int (nI (min (gx_val tx s c) 1000000))] ∧ px_fr [2] h h2 ∧ px_rd h2 tx n (s + c) s o k pl) (e - s) ?_ ?_ ⟨rfl, q2, q3⟩
  · rintro c _ h2 hc ⟨rfl, fr, R⟩ H2
    obtain ⟨b1, b2, b3⟩ := R.1.2 (s + c) (by omega)
    have b4 := s3 (s + c) (by omega) (by omega)
    have b5 := of_decide_eq_true b4
    have b6 : h2 1 (s + c) = nI (tx (s + c)) := by rw [b2, sb_lo _ (by omega)]
    have e1 := R.2.1
    have e2 := R.2.2.1
    refine w_al (j := 6) rfl rfl rfl ?_
    first | refine w_gr (j := 7) rfl rfl (by first | assumption | rfl) (by first | assumption | rfl) rfl ?_ | refine w_gi (j := 7) rfl rfl (by first | assumption | rfl) (by first | assumption | rfl) rfl e2 ?_
    refine w_al (j := 8) rfl rfl rfl ?_
    first | refine w_gr (j := 9) rfl rfl (by first | assumption | rfl) (by first | assumption | rfl) rfl ?_ | refine w_gi (j := 9) rfl rfl (by first | assumption | rfl) (by first | assumption | rfl) rfl e1 ?_
    refine w_geN (j := 10) rfl rfl (by omega) (by omega) (fun c => absurd c (fun c => by omega)) (fun _ => ?_)
    refine w_al (j := 11) rfl rfl rfl ?_
    first | refine w_gr (j := 12) rfl rfl (by first | assumption | rfl) (by first | assumption | rfl) rfl ?_ | refine w_gi (j := 12) rfl rfl (by first | assumption | rfl) (by first | assumption | rfl) rfl rfl ?_
    refine w_al (j := 13) rfl rfl rfl ?_
    first | refine w_gr (j := 14) rfl rfl (by first | assumption | rfl) (by first | assumption | rfl) rfl ?_ | refine w_gi (j := 14) rfl rfl (by first | assumption | rfl) (by first | assumption | rfl) rfl e2 ?_
    refine w_bal (j := 15) rfl rfl (by first | assumption | rfl) rfl (by omega) rfl b6 ?_
    refine w_csI (j := 16) rfl rfl rfl rfl rfl (sp_69) rfl ?_
    rw [decide_eq_true (show nI 48 ≤ nI (tx (s + c)) ∧ nI (tx (s + c)) ≤ nI 57 from ⟨nI_le b5.1 (by omega), nI_le b5.2 (by omega)⟩)]
    refine w_eqB (j := 17) rfl rfl (fun c => absurd c (by simp)) (fun _ => ?_)
    refine w_il (j := 18) rfl rfl rfl ?_
    refine w_bi (j := 19) (a := nI 10) rfl rfl (by decide) ?_
    first | refine w_mulN (j := 20) rfl rfl ?_ | refine w_mul (j := 20) rfl rfl ?_
    refine w_al (j := 21) rfl rfl rfl ?_
    first | refine w_gr (j := 22) rfl rfl (by first | assumption | rfl) (by first | assumption | rfl) rfl ?_ | refine w_gi (j := 22) rfl rfl (by first | assumption | rfl) (by first | assumption | rfl) rfl rfl ?_
    refine w_al (j := 23) rfl rfl rfl ?_
    first | refine w_gr (j := 24) rfl rfl (by first | assumption | rfl) (by first | assumption | rfl) rfl ?_ | refine w_gi (j := 24) rfl rfl (by first | assumption | rfl) (by first | assumption | rfl) rfl e2 ?_
    refine w_bal (j := 25) rfl rfl (by first | assumption | rfl) rfl (by omega) rfl b6 ?_
    refine w_bi (j := 26) (a := nI 48) rfl rfl (by decide) ?_
    first | refine w_subN (j := 27) rfl rfl (by omega) ?_ | refine w_sub (j := 27) rfl rfl ?_
    first | refine w_add0 (j := 28) rfl rfl ?_ | refine w_addN (j := 28) rfl rfl ?_ | refine w_add (j := 28) rfl rfl ?_
    refine w_lc (j := 29) (a := nI 1000000) rfl rfl (by decide) ?_
    refine w_min (j := 30) rfl rfl rfl ?_
    rw [px_nmin (by omega) (by decide)]
    refine w_is (j := 31) rfl rfl rfl ?_
    refine w_al (j := 32) rfl rfl rfl ?_
    first | refine w_dupr (j := 33) rfl rfl ?_ | refine w_dupi (j := 33) rfl rfl ?_
    first | refine w_gr (j := 34) rfl rfl (by first | assumption | rfl) (by first | assumption | rfl) rfl ?_ | refine w_gi (j := 34) rfl rfl (by first | assumption | rfl) (by first | assumption | rfl) rfl e2 ?_
    refine w_ic (n := 1) (j := 35) rfl rfl ?_
    first | refine w_add0 (j := 36) rfl rfl ?_ | refine w_addN (j := 36) rfl rfl ?_ | refine w_add (j := 36) rfl rfl ?_
    refine w_pf (j := 37) rfl rfl (by first | assumption | rfl) (by first | assumption | rfl) rfl ?_
    refine w_go rfl ?_
    refine H2 _ _ ⟨?_, fr.up (by decide), px_rdP (h := h) R rfl (by omega) (by omega)⟩
    rw [gx_val, show min (min (gx_val tx s c) 1000000 * 10 + (tx (s + c) - 48)) 1000000 = min (10 * gx_val tx s c + (tx (s + c) - 48)) 1000000 by omega]
    rfl
  · rintro _ h2 ⟨rfl, fr, R⟩
    rw [show s + (e - s) = e by omega] at R
    rw [← ev]
    have e1 := R.2.1
    have e2 := R.2.2.1
    have e3 := R.2.2.2.2.1
    have tail : px_R px_E 2 mo_64 [] 38 [.ref 2, .int (nI lo), .int hi, .int (nI (min V 1000000))] [] h2 0 (fun r => ∃ v h', r = (.inl (some (.int v)), h', 0) ∧ v = nI (min V 1000000) ∧ px_fr [2] h h' ∧ px_rd h' tx n e s o (if K = 0 then k else gx_fk k K) (if K = 0 then pl else gx_fp k pl s)) := by
      have hif := hh (min V 1000000) (by omega)
      refine w_al (j := 39) rfl rfl rfl ?_
      first | refine w_gr (j := 40) rfl rfl (by first | assumption | rfl) (by first | assumption | rfl) rfl ?_ | refine w_gi (j := 40) rfl rfl (by first | assumption | rfl) (by first | assumption | rfl) rfl e2 ?_
      refine w_al (j := 41) rfl rfl rfl ?_
      first | refine w_gr (j := 42) rfl rfl (by first | assumption | rfl) (by first | assumption | rfl) rfl ?_ | refine w_gi (j := 42) rfl rfl (by first | assumption | rfl) (by first | assumption | rfl) rfl e3 ?_
      refine w_neN (j := 43) rfl rfl (by omega) (by omega) (fun d1 => ?_) (fun d1 => ?_)
      rotate_left
      ·
        rw [if_pos d1] at ek
        refine w_al (j := 44) rfl rfl rfl ?_
        refine w_ic (n := 1) (j := 45) rfl rfl ?_
        refine w_cvPU (j := 46) rfl rfl rfl rfl (by first | assumption | rfl) rfl rfl (sp_59 (kd := 1) (by decide) R) rfl ?_
        rintro h3 ⟨u1, u2⟩
        refine w_go rfl ?_
        refine w_il (j := 57) rfl rfl rfl ?_
        refine w_ir rfl ?_
        subst ek
        exact ⟨_, _, rfl, rfl, fr.tr u1, u2⟩
      rw [if_neg d1] at ek
      have bad : ¬ (lo ≤ V ∧ V < H) → px_R px_E 2 mo_64 [] 53 [.ref 2, .int (nI lo), .int hi, .int (nI (min V 1000000))] [] h2 0 (fun r => ∃ v h', r = (.inl (some (.int v)), h', 0) ∧ v = nI (min V 1000000) ∧ px_fr [2] h h' ∧ px_rd h' tx n e s o (if K = 0 then k else gx_fk k K) (if K = 0 then pl else gx_fp k pl s)) := by
        intro hb
        rw [if_neg hb] at ek
        refine w_al (j := 54) rfl rfl rfl ?_
        refine w_ic (n := 2) (j := 55) rfl rfl ?_
        refine w_cvPU (j := 56) rfl rfl rfl rfl (by first | assumption | rfl) rfl rfl (sp_59 (kd := 2) (by decide) R) rfl ?_
        rintro h3 ⟨u1, u2⟩
        refine w_il (j := 57) rfl rfl rfl ?_
        refine w_ir rfl ?_
        subst ek
        exact ⟨_, _, rfl, rfl, fr.tr u1, u2⟩
      refine w_il (j := 48) rfl rfl rfl ?_
      refine w_il (j := 49) rfl rfl rfl ?_
      refine w_ltN (j := 50) rfl rfl (by omega) (by omega) (fun d2 => ?_) (fun d2 => ?_)
      · exact bad (by omega)
      refine w_il (j := 51) rfl rfl rfl ?_
      refine w_il (j := 52) rfl rfl rfl ?_
      refine w_le (j := 53) rfl rfl (fun d3 => ?_) (fun d3 => ?_)
      ·
        rw [hif] at d3
        rw [if_pos ⟨by omega, by omega⟩] at ek
        refine w_il (j := 57) rfl rfl rfl ?_
        refine w_ir rfl ?_
        subst ek
        exact ⟨_, _, rfl, rfl, fr, R⟩
      ·
        have d3 : ¬ min V 1000000 < H := fun z => px_not_le.mpr d3 (hif.mpr z)
        exact bad (by omega)
    refine w_al (j := 6) rfl rfl rfl ?_
    first | refine w_gr (j := 7) rfl rfl (by first | assumption | rfl) (by first | assumption | rfl) rfl ?_ | refine w_gi (j := 7) rfl rfl (by first | assumption | rfl) (by first | assumption | rfl) rfl e2 ?_
    refine w_al (j := 8) rfl rfl rfl ?_
    first | refine w_gr (j := 9) rfl rfl (by first | assumption | rfl) (by first | assumption | rfl) rfl ?_ | refine w_gi (j := 9) rfl rfl (by first | assumption | rfl) (by first | assumption | rfl) rfl e1 ?_
    refine w_geN (j := 10) rfl rfl (by omega) (by omega) (fun d1 => ?_) (fun d1 => ?_)
    · exact tail
    obtain ⟨b1, b2, b3⟩ := R.1.2 e d1
    have b4 : gx_dd (tx e) = false := by
      rcases s4 with z | z
      · omega
      · exact z
    refine w_al (j := 11) rfl rfl rfl ?_
    first | refine w_gr (j := 12) rfl rfl (by first | assumption | rfl) (by first | assumption | rfl) rfl ?_ | refine w_gi (j := 12) rfl rfl (by first | assumption | rfl) (by first | assumption | rfl) rfl rfl ?_
    refine w_al (j := 13) rfl rfl rfl ?_
    first | refine w_gr (j := 14) rfl rfl (by first | assumption | rfl) (by first | assumption | rfl) rfl ?_ | refine w_gi (j := 14) rfl rfl (by first | assumption | rfl) (by first | assumption | rfl) rfl e2 ?_
    refine w_bal (j := 15) rfl rfl (by first | assumption | rfl) rfl (by omega) rfl b2 ?_
    refine w_csI (j := 16) rfl rfl rfl rfl rfl (sp_69) rfl ?_
    rw [decide_eq_false (fun z => by rw [(sb_dd _ b1).mp z] at b4; cases b4)]
    refine w_eqB (j := 17) rfl rfl (fun _ => ?_) (fun c => absurd c (by simp))
    exact tail
theorem sp_65 (r : px_rd h tx n p pc o k pl) : px_PU 2 65 [.ref 2] h (fun h1 => px_fr [2] h h1 ∧ px_rd h1 tx n (gx_lt tx n (gx_sk tx n p)) (gx_sk tx n p) o k pl) := by
  have n6 := r.1.1
  have r3 := r.2.2.2.1
  refine px_M (M := mt_65) (ops := mo_65) tb_65 rfl rfl rfl rfl rfl ?_
  refine w_al (j := 1) rfl rfl rfl ?_
  refine w_cvPI (j := 2) rfl rfl rfl rfl (by first | assumption | rfl) rfl rfl (sp_60 r) rfl ?_
  rintro v h1 ⟨q1, q2, q3⟩
  clear q1
  obtain ⟨s0, s00⟩ := gx_sk_le (tx := tx) r3
  obtain ⟨s1, s2, s3, s4⟩ := gx_end_spec (P := gx_ll) (tx := tx) s00
  rw [show gx_end gx_ll tx n (gx_sk tx n p) = gx_lt tx n (gx_sk tx n p) from rfl] at s1 s2 s3 s4
  generalize gx_sk tx n p = s at q3 s0 s00 s1 s2 s3 s4 ⊢
  generalize gx_lt tx n s = e at s1 s2 s3 s4 ⊢
  refine w_popi (j := 3) rfl rfl ?_
  refine px_forI (fun c ls h2 => ls = [.ref 2] ∧ px_fr [2] h h2 ∧ px_rd h2 tx n (s + c) s o k pl) (e - s) ?_ ?_ ⟨rfl, q2, q3⟩
  · rintro c _ h2 hc ⟨rfl, fr, R⟩ H2
    obtain ⟨b1, b2, b3⟩ := R.1.2 (s + c) (by omega)
    have b5 := of_decide_eq_true (s3 (s + c) (by omega) (by omega))
    have b6 : h2 1 (s + c) = nI (tx (s + c)) := by rw [b2, sb_lo _ (by omega)]
    have e1 := R.2.1
    have e2 := R.2.2.1
    refine w_al (j := 4) rfl rfl rfl ?_
    first | refine w_gr (j := 5) rfl rfl (by first | assumption | rfl) (by first | assumption | rfl) rfl ?_ | refine w_gi (j := 5) rfl rfl (by first | assumption | rfl) (by first | assumption | rfl) rfl e2 ?_
    refine w_al (j := 6) rfl rfl rfl ?_
    first | refine w_gr (j := 7) rfl rfl (by first | assumption | rfl) (by first | assumption | rfl) rfl ?_ | refine w_gi (j := 7) rfl rfl (by first | assumption | rfl) (by first | assumption | rfl) rfl e1 ?_
    refine w_geN (j := 8) rfl rfl (by omega) (by omega) (fun c => absurd c (fun c => by omega)) (fun _ => ?_)
    refine w_al (j := 9) rfl rfl rfl ?_
    first | refine w_gr (j := 10) rfl rfl (by first | assumption | rfl) (by first | assumption | rfl) rfl ?_ | refine w_gi (j := 10) rfl rfl (by first | assumption | rfl) (by first | assumption | rfl) rfl rfl ?_
    refine w_al (j := 11) rfl rfl rfl ?_
    first | refine w_gr (j := 12) rfl rfl (by first | assumption | rfl) (by first | assumption | rfl) rfl ?_ | refine w_gi (j := 12) rfl rfl (by first | assumption | rfl) (by first | assumption | rfl) rfl e2 ?_
    refine w_bal (j := 13) rfl rfl (by first | assumption | rfl) rfl (by omega) rfl b6 ?_
    refine w_bi (j := 14) (a := nI 97) rfl rfl (by decide) ?_
    refine w_ltN (j := 15) rfl rfl (by omega) (by omega) (fun c => absurd c (fun c => by omega)) (fun _ => ?_)
    refine w_al (j := 16) rfl rfl rfl ?_
    first | refine w_gr (j := 17) rfl rfl (by first | assumption | rfl) (by first | assumption | rfl) rfl ?_ | refine w_gi (j := 17) rfl rfl (by first | assumption | rfl) (by first | assumption | rfl) rfl rfl ?_
    refine w_al (j := 18) rfl rfl rfl ?_
    first | refine w_gr (j := 19) rfl rfl (by first | assumption | rfl) (by first | assumption | rfl) rfl ?_ | refine w_gi (j := 19) rfl rfl (by first | assumption | rfl) (by first | assumption | rfl) rfl e2 ?_
    refine w_bal (j := 20) rfl rfl (by first | assumption | rfl) rfl (by omega) rfl b6 ?_
    refine w_bi (j := 21) (a := nI 122) rfl rfl (by decide) ?_
    refine w_gtN (j := 22) rfl rfl (by omega) (by omega) (fun c => absurd c (fun c => by omega)) (fun _ => ?_)
    refine w_al (j := 23) rfl rfl rfl ?_
    first | refine w_dupr (j := 24) rfl rfl ?_ | refine w_dupi (j := 24) rfl rfl ?_
    first | refine w_gr (j := 25) rfl rfl (by first | assumption | rfl) (by first | assumption | rfl) rfl ?_ | refine w_gi (j := 25) rfl rfl (by first | assumption | rfl) (by first | assumption | rfl) rfl e2 ?_
    refine w_ic (n := 1) (j := 26) rfl rfl ?_
    first | refine w_add0 (j := 27) rfl rfl ?_ | refine w_addN (j := 27) rfl rfl ?_ | refine w_add (j := 27) rfl rfl ?_
    refine w_pf (j := 28) rfl rfl (by first | assumption | rfl) (by first | assumption | rfl) rfl ?_
    refine w_go rfl ?_
    exact H2 _ _ ⟨rfl, fr.up (by decide), px_rdP (h := h) R rfl (by omega) (by omega)⟩
  · rintro _ h2 ⟨rfl, fr, R⟩
    rw [show s + (e - s) = e by omega] at R
    have e1 := R.2.1
    have e2 := R.2.2.1
    have tail : px_R px_E 1 mo_65 [] 29 [.ref 2] [] h2 0 (fun r => ∃ h', r = (.inl none, h', 0) ∧ px_fr [2] h h' ∧ px_rd h' tx n e s o k pl) := by
      refine w_rt rfl ?_
      exact ⟨_, rfl, fr, R⟩
    refine w_al (j := 4) rfl rfl rfl ?_
    first | refine w_gr (j := 5) rfl rfl (by first | assumption | rfl) (by first | assumption | rfl) rfl ?_ | refine w_gi (j := 5) rfl rfl (by first | assumption | rfl) (by first | assumption | rfl) rfl e2 ?_
    refine w_al (j := 6) rfl rfl rfl ?_
    first | refine w_gr (j := 7) rfl rfl (by first | assumption | rfl) (by first | assumption | rfl) rfl ?_ | refine w_gi (j := 7) rfl rfl (by first | assumption | rfl) (by first | assumption | rfl) rfl e1 ?_
    refine w_geN (j := 8) rfl rfl (by omega) (by omega) (fun d1 => ?_) (fun d1 => ?_)
    · exact tail
    obtain ⟨b1, b2, b3⟩ := R.1.2 e d1
    have b4 : gx_ll (tx e) = false := by
      rcases s4 with z | z
      · omega
      · exact z
    refine w_al (j := 9) rfl rfl rfl ?_
    first | refine w_gr (j := 10) rfl rfl (by first | assumption | rfl) (by first | assumption | rfl) rfl ?_ | refine w_gi (j := 10) rfl rfl (by first | assumption | rfl) (by first | assumption | rfl) rfl rfl ?_
    refine w_al (j := 11) rfl rfl rfl ?_
    first | refine w_gr (j := 12) rfl rfl (by first | assumption | rfl) (by first | assumption | rfl) rfl ?_ | refine w_gi (j := 12) rfl rfl (by first | assumption | rfl) (by first | assumption | rfl) rfl e2 ?_
    refine w_bal (j := 13) rfl rfl (by first | assumption | rfl) rfl (by omega) rfl b2 ?_
    refine w_bi (j := 14) (a := nI 97) rfl rfl (by decide) ?_
    refine w_lt (j := 15) rfl rfl (fun d2 => ?_) (fun d2 => ?_)
    · exact tail
    refine w_al (j := 16) rfl rfl rfl ?_
    first | refine w_gr (j := 17) rfl rfl (by first | assumption | rfl) (by first | assumption | rfl) rfl ?_ | refine w_gi (j := 17) rfl rfl (by first | assumption | rfl) (by first | assumption | rfl) rfl rfl ?_
    refine w_al (j := 18) rfl rfl rfl ?_
    first | refine w_gr (j := 19) rfl rfl (by first | assumption | rfl) (by first | assumption | rfl) rfl ?_ | refine w_gi (j := 19) rfl rfl (by first | assumption | rfl) (by first | assumption | rfl) rfl e2 ?_
    refine w_bal (j := 20) rfl rfl (by first | assumption | rfl) rfl (by omega) rfl b2 ?_
    refine w_bi (j := 21) (a := nI 122) rfl rfl (by decide) ?_
    refine w_gt (j := 22) rfl rfl (fun d3 => ?_) (fun d3 => ?_)
    · exact tail
    exfalso
    rw [(sb_ll _ b1).mp ⟨d2, d3⟩] at b4
    cases b4
def gx_is (tx : Nat → Nat) (s e : Nat) (w : List Nat) : Prop := e - s = w.length ∧ ∀ i, i < w.length → tx (s + i) = w.getD i 0
theorem px_s900 {j : Nat} (hj : j < 21) : px_T px_E 1 900 [.ref (2000 + j)] h (fun r => r = (.inl (some (.int (nI (ix_txL.getD j 0)))), h, 0)) := by
  refine px_pr (by decide +kernel) ?_ rfl
  show ix_p900 (2000 + j) h = _
  unfold ix_p900
  rw [if_pos ⟨by omega, by omega⟩, Nat.add_sub_cancel_left]
  rfl
theorem px_s901 {j i : Nat} (hj : j < 21) (hi : i < ix_txL.getD j 0) (hl : ix_txL.getD j 0 < 100) : px_T px_E 1 901 [.ref (2000 + j), .int (nI i)] h (fun r => r = (.inl (some (.int ((ix_txB.getD j []).getD i 0))), h, 0)) := by
  refine px_pr (by decide +kernel) ?_ rfl
  show ix_p901 (2000 + j) (nI i) h = _
  unfold ix_p901
  rw [Nat.add_sub_cancel_left, nI_clamp (by omega), if_pos ⟨by omega, by omega, fun z => z.elim (nI_pos (by omega)) (fun z => by omega)⟩]
def gx_wd (j : Nat) (w : List Nat) : Prop := j < 21 ∧ ix_sh (2000 + j) = (6, 0, 0) ∧ ix_txL.getD j 0 = w.length ∧ w.length < 100 ∧ ∀ i, i < w.length → (ix_txB.getD j []).getD i 0 = nI (w.getD i 0) ∧ w.getD i 0 < 128
theorem sp_66 {j : Nat} {w : List Nat} (hw : gx_wd j w) (r : px_rd h tx n p pc o k pl) : px_PI 2 66 [.ref 2, .ref (2000 + j)] h (fun v h1 => h1 = h ∧ ∃ d, v = px_b d ∧ (d = true ↔ gx_is tx pc p w)) := by
  obtain ⟨w1, w2, w3, w4, w5⟩ := hw
  obtain ⟨t, r1, r2, r3, r4, r5, r6, r7, r8, r9, r10⟩ := r
  have n6 := t.1
  have L900 := px_s900 (h := h) w1
  rw [w3] at L900
  refine px_M (M := mt_66) (ops := mo_66) tb_66 rfl rfl rfl rfl rfl ?_
  refine w_al (j := 1) rfl rfl rfl ?_
  first | refine w_gr (j := 2) rfl rfl (by first | assumption | rfl) (by first | assumption | rfl) rfl ?_ | refine w_gi (j := 2) rfl rfl (by first | assumption | rfl) (by first | assumption | rfl) rfl r2 ?_
  refine w_al (j := 3) rfl rfl rfl ?_
  first | refine w_gr (j := 4) rfl rfl (by first | assumption | rfl) (by first | assumption | rfl) rfl ?_ | refine w_gi (j := 4) rfl rfl (by first | assumption | rfl) (by first | assumption | rfl) rfl r4 ?_
  first | refine w_subN (j := 5) rfl rfl (by omega) ?_ | refine w_sub (j := 5) rfl rfl ?_
  refine w_al (j := 6) rfl rfl rfl ?_
  refine w_csS (a := 0) (j := 7) rfl rfl rfl rfl w2 rfl rfl L900 ?_
  refine w_eqN (j := 8) rfl rfl (by omega) (by omega) (fun d1 => ?_) (fun d1 => ?_)
  rotate_left
  ·
    refine w_ic (n := 0) (j := 9) rfl rfl ?_
    refine w_irB rfl (by first | exact Or.inl rfl | exact Or.inr rfl | exact px_b01 _) ?_
    exact ⟨_, _, rfl, rfl, false, rfl, ⟨fun z => (by cases z), fun z => absurd z.1 d1⟩⟩
  refine w_ic (n := 0) (j := 11) rfl rfl ?_
  refine w_is (j := 12) rfl rfl rfl ?_
  refine px_forI (fun i ls h1 => h1 = h ∧ ls = [.ref 2, .ref (2000 + j), .int (nI i)] ∧ ∀ i', i' < i → tx (pc + i') = w.getD i' 0) w.length ?_ ?_ ⟨rfl, rfl, fun i' hi => by omega⟩
  · rintro i _ h1 hi ⟨rfl, rfl, al⟩ H
    obtain ⟨c1, c2⟩ := w5 i hi
    have L901 := px_s901 (h := h1) (i := i) w1 (by omega) (by omega)
    rw [c1] at L901
    obtain ⟨b1, b2, b3⟩ := t.2 (pc + i) (by omega)
    refine w_il (j := 13) rfl rfl rfl ?_
    refine w_al (j := 14) rfl rfl rfl ?_
    refine w_csS (a := 0) (j := 15) rfl rfl rfl rfl w2 rfl rfl L900 ?_
    refine w_geN (j := 16) rfl rfl (by omega) (by omega) (fun c => absurd c (by omega)) (fun _ => ?_)
    refine w_al (j := 17) rfl rfl rfl ?_
    first | refine w_gr (j := 18) rfl rfl (by first | assumption | rfl) (by first | assumption | rfl) rfl ?_ | refine w_gi (j := 18) rfl rfl (by first | assumption | rfl) (by first | assumption | rfl) rfl rfl ?_
    refine w_al (j := 19) rfl rfl rfl ?_
    first | refine w_gr (j := 20) rfl rfl (by first | assumption | rfl) (by first | assumption | rfl) rfl ?_ | refine w_gi (j := 20) rfl rfl (by first | assumption | rfl) (by first | assumption | rfl) rfl r4 ?_
    refine w_il (j := 21) rfl rfl rfl ?_
    first | refine w_add0 (j := 22) rfl rfl ?_ | refine w_addN (j := 22) rfl rfl ?_ | refine w_add (j := 22) rfl rfl ?_
    refine w_bal (j := 23) rfl rfl (by first | assumption | rfl) rfl (by omega) rfl b2 ?_
    refine w_al (j := 24) rfl rfl rfl ?_
    refine w_il (j := 25) rfl rfl rfl ?_
    refine w_csS (a := 0) (j := 26) rfl rfl rfl rfl w2 rfl rfl L901 ?_
    refine w_eq (j := 27) rfl rfl (fun d2 => ?_) (fun d2 => ?_)
    ·
      first | refine w_incN (j := 30) rfl rfl rfl ?_ | refine w_inc (j := 30) rfl rfl rfl rfl ?_
      refine w_go rfl ?_
      refine H _ _ ⟨rfl, rfl, fun i' hi' => ?_⟩
      by_cases e : i' = i
      · rw [e]; exact (sb_ch _ b1 _ c2).mp d2
      · exact al i' (by omega)
    ·
      refine w_ic (n := 0) (j := 28) rfl rfl ?_
      refine w_irB rfl (by first | exact Or.inl rfl | exact Or.inr rfl | exact px_b01 _) ?_
      exact ⟨_, _, rfl, rfl, false, rfl, ⟨fun z => (by cases z), fun z => absurd ((sb_ch _ b1 _ c2).mpr (z.2 i hi)) d2⟩⟩
  · rintro _ h1 ⟨rfl, rfl, al⟩
    refine w_il (j := 13) rfl rfl rfl ?_
    refine w_al (j := 14) rfl rfl rfl ?_
    refine w_csS (a := 0) (j := 15) rfl rfl rfl rfl w2 rfl rfl L900 ?_
    refine w_geN (j := 16) rfl rfl (by omega) (by omega) (fun _ => ?_) (fun c => absurd c (by omega))
    refine w_ic (n := 1) (j := 32) rfl rfl ?_
    refine w_irB rfl (by first | exact Or.inl rfl | exact Or.inr rfl | exact px_b01 _) ?_
    exact ⟨_, _, rfl, rfl, true, rfl, ⟨fun _ => ⟨d1, al⟩, fun _ => rfl⟩⟩
theorem sp_67 (ho : o < 1000) (r : px_rd h tx n p pc o k pl) : px_PU 2 67 [.ref 2] h (fun h1 => px_fr [2] h h1 ∧ px_rd h1 tx n p pc (o + 1) (if 6 ≤ o then gx_fk k 3 else k) (if 6 ≤ o then gx_fp k pl pc else pl)) := by
  have r6 := r.2.2.2.2.2.2.1
  refine px_M (M := mt_67) (ops := mo_67) tb_67 rfl rfl rfl rfl rfl ?_
  refine w_al (j := 1) rfl rfl rfl ?_
  first | refine w_gr (j := 2) rfl rfl (by first | assumption | rfl) (by first | assumption | rfl) rfl ?_ | refine w_gi (j := 2) rfl rfl (by first | assumption | rfl) (by first | assumption | rfl) rfl r6 ?_
  refine w_bi (j := 3) (a := nI 6) rfl rfl (by decide) ?_
  refine w_ltN (j := 4) rfl rfl (by omega) (by omega) (fun d1 => ?_) (fun d1 => ?_)
  ·
    refine w_al (j := 8) rfl rfl rfl ?_
    first | refine w_dupr (j := 9) rfl rfl ?_ | refine w_dupi (j := 9) rfl rfl ?_
    first | refine w_gr (j := 10) rfl rfl (by first | assumption | rfl) (by first | assumption | rfl) rfl ?_ | refine w_gi (j := 10) rfl rfl (by first | assumption | rfl) (by first | assumption | rfl) rfl r6 ?_
    refine w_ic (n := 1) (j := 11) rfl rfl ?_
    first | refine w_add0 (j := 12) rfl rfl ?_ | refine w_addN (j := 12) rfl rfl ?_ | refine w_add (j := 12) rfl rfl ?_
    refine w_pf (j := 13) rfl rfl (by first | assumption | rfl) (by first | assumption | rfl) rfl ?_
    refine w_rt rfl ?_
    rw [if_neg (by omega), if_neg (by omega)]
    exact ⟨_, rfl, px_fr.rf.up (by decide), px_rdO r rfl (by omega)⟩
  ·
    refine w_al (j := 5) rfl rfl rfl ?_
    refine w_ic (n := 3) (j := 6) rfl rfl ?_
    refine w_cvPU (j := 7) rfl rfl rfl rfl (by first | assumption | rfl) rfl rfl (sp_59 (kd := 3) (by decide) r) rfl ?_
    rintro h1 ⟨u1, u2⟩
    have r6' := u2.2.2.2.2.2.2.1
    refine w_al (j := 8) rfl rfl rfl ?_
    first | refine w_dupr (j := 9) rfl rfl ?_ | refine w_dupi (j := 9) rfl rfl ?_
    first | refine w_gr (j := 10) rfl rfl (by first | assumption | rfl) (by first | assumption | rfl) rfl ?_ | refine w_gi (j := 10) rfl rfl (by first | assumption | rfl) (by first | assumption | rfl) rfl r6' ?_
    refine w_ic (n := 1) (j := 11) rfl rfl ?_
    first | refine w_add0 (j := 12) rfl rfl ?_ | refine w_addN (j := 12) rfl rfl ?_ | refine w_add (j := 12) rfl rfl ?_
    refine w_pf (j := 13) rfl rfl (by first | assumption | rfl) (by first | assumption | rfl) rfl ?_
    refine w_rt rfl ?_
    rw [if_pos d1, if_pos d1]
    exact ⟨_, rfl, u1.up (by decide), px_rdO u2 rfl (by omega)⟩
theorem sp_68 (ho : 1 ≤ o) (r : px_rd h tx n p pc o k pl) : px_PU 2 68 [.ref 2] h (fun h1 => px_fr [2] h h1 ∧ px_rd h1 tx n p pc (o - 1) k pl) := by
  have r6 := r.2.2.2.2.2.2.1
  have r7 := r.2.2.2.2.2.2.2.1
  refine px_M (M := mt_68) (ops := mo_68) tb_68 rfl rfl rfl rfl rfl ?_
  refine w_al (j := 1) rfl rfl rfl ?_
  first | refine w_dupr (j := 2) rfl rfl ?_ | refine w_dupi (j := 2) rfl rfl ?_
  first | refine w_gr (j := 3) rfl rfl (by first | assumption | rfl) (by first | assumption | rfl) rfl ?_ | refine w_gi (j := 3) rfl rfl (by first | assumption | rfl) (by first | assumption | rfl) rfl r6 ?_
  refine w_ic (n := 1) (j := 4) rfl rfl ?_
  first | refine w_subN (j := 5) rfl rfl (by omega) ?_ | refine w_sub (j := 5) rfl rfl ?_
  refine w_pf (j := 6) rfl rfl (by first | assumption | rfl) (by first | assumption | rfl) rfl ?_
  refine w_rt rfl ?_
  exact ⟨_, rfl, px_fr.rf.up (by decide), px_rdO r rfl (by omega)⟩
end RD
