section MR
variable {h : ix_H} {tx : Nat → Nat} {n p f o : Nat} {fp : Int32}
theorem gx_c6 {g : Nat → Nat} {c : Nat} (hc : c ≤ 6) (hg : ∀ i, i < c → g i ≤ 122) : gx_c g c < 387420489 := by
  have h1 := gx_c_lt c hg
  have h2 : 27 ^ c ≤ 27 ^ 6 := Nat.pow_le_pow_right (by decide) hc
  have h3 : 27 ^ 6 = 387420489 := by decide
  omega
theorem sp_166 (r : px_mr h tx n p f fp o) : px_PI 3 166 [.ref 100] h (fun v h1 => v = (if 6 < gx_lt tx n (gx_sk tx n p) - gx_sk tx n p then -1 else nI (gx_c (fun i => tx (gx_sk tx n p + i)) (gx_lt tx n (gx_sk tx n p) - gx_sk tx n p))) ∧ px_f1 h h1 ∧ px_mr h1 tx n (gx_sk tx n p) f fp o) := by
  have n6 := r.1.1
  have r3 := r.2.2.2.1
  refine px_M (M := mt_166) (ops := mo_166) tb_166 rfl rfl rfl rfl rfl ?_
  refine w_al (j := 1) rfl rfl rfl ?_
  refine w_cvPU (j := 2) rfl rfl rfl rfl (by first | assumption | rfl) rfl rfl (sp_161 r) rfl ?_
  rintro h1 ⟨q2, q3⟩
  obtain ⟨s0, s00⟩ := gx_sk_le (tx := tx) r3
  obtain ⟨s1, s2, s3, s4⟩ := gx_end_spec (P := gx_ll) (tx := tx) s00
  rw [show gx_end gx_ll tx n (gx_sk tx n p) = gx_lt tx n (gx_sk tx n p) from rfl] at s1 s2 s3 s4
  generalize gx_sk tx n p = s at q3 s0 s00 s1 s2 s3 s4 ⊢
  generalize gx_lt tx n s = e at s1 s2 s3 s4 ⊢
  have e4 := q3.2.2.1
  refine w_ic (n := 0) (j := 3) rfl rfl ?_
  refine w_is (j := 4) rfl rfl rfl ?_
  refine w_ic (n := 0) (j := 5) rfl rfl ?_
  refine w_is (j := 6) rfl rfl rfl ?_
  refine px_forI (fun c ls h2 => h2 = h1 ∧ ls = [.ref 100, .int (nI (gx_c (fun i => tx (s + i)) (min c 6))), .int (nI c)]) (e - s) ?_ ?_ ⟨rfl, rfl⟩
  · rintro c _ h2 hc ⟨rfl, rfl⟩ H
    have b5 := of_decide_eq_true (s3 (s + c) (by omega) (by omega))
    have S160 := sp_160 (k := s + c) (by omega) q3
    rw [if_pos (show s + c < n by omega)] at S160
    have c6 := gx_c6 (g := fun i => tx (s + i)) (c := min c 6) (by omega) (fun i hi => (of_decide_eq_true (s3 (s + i) (by omega) (by omega))).2)
    refine w_al (j := 7) rfl rfl rfl ?_
    refine w_al (j := 8) rfl rfl rfl ?_
    first | refine w_gr (j := 9) rfl rfl (by first | assumption | rfl) (by first | assumption | rfl) rfl ?_ | refine w_gi (j := 9) rfl rfl (by first | assumption | rfl) (by first | assumption | rfl) rfl e4 ?_
    refine w_il (j := 10) rfl rfl rfl ?_
    first | refine w_add0 (j := 11) rfl rfl ?_ | refine w_addN (j := 11) rfl rfl ?_ | refine w_add (j := 11) rfl rfl ?_
    refine w_cvI (j := 12) rfl rfl rfl rfl (by first | assumption | rfl) rfl rfl (S160) rfl ?_
    refine w_csI (j := 13) rfl rfl rfl rfl rfl (sp_164) rfl ?_
    rw [decide_eq_true (show nI 97 ≤ nI (tx (s + c)) ∧ nI (tx (s + c)) ≤ nI 122 from ⟨nI_le b5.1 (by omega), nI_le b5.2 (by omega)⟩)]
    refine w_eqB (j := 14) rfl rfl (fun c => absurd c (by simp)) (fun _ => ?_)
    refine w_il (j := 15) rfl rfl rfl ?_
    refine w_bi (j := 16) (a := nI 6) rfl rfl (by decide) ?_
    refine w_geN (j := 17) rfl rfl (by omega) (by omega) (fun d => ?_) (fun d => ?_)
    ·
      refine w_il (j := 33) rfl rfl rfl ?_
      refine w_is (j := 34) rfl rfl rfl ?_
      first | refine w_incN (j := 35) rfl rfl rfl ?_ | refine w_inc (j := 35) rfl rfl rfl rfl ?_
      refine w_go rfl ?_
      refine H _ _ ⟨rfl, ?_⟩
      rw [show min (c + 1) 6 = min c 6 by omega]
      rfl
    ·
      refine w_bi (j := 18) (a := nI 27) rfl rfl (by decide) ?_
      refine w_il (j := 19) rfl rfl rfl ?_
      first | refine w_mulN (j := 20) rfl rfl ?_ | refine w_mul (j := 20) rfl rfl ?_
      refine w_al (j := 21) rfl rfl rfl ?_
      refine w_al (j := 22) rfl rfl rfl ?_
      first | refine w_gr (j := 23) rfl rfl (by first | assumption | rfl) (by first | assumption | rfl) rfl ?_ | refine w_gi (j := 23) rfl rfl (by first | assumption | rfl) (by first | assumption | rfl) rfl e4 ?_
      refine w_il (j := 24) rfl rfl rfl ?_
      first | refine w_add0 (j := 25) rfl rfl ?_ | refine w_addN (j := 25) rfl rfl ?_ | refine w_add (j := 25) rfl rfl ?_
      refine w_cvI (j := 26) rfl rfl rfl rfl (by first | assumption | rfl) rfl rfl (S160) rfl ?_
      first | refine w_add0 (j := 27) rfl rfl ?_ | refine w_addN (j := 27) rfl rfl ?_ | refine w_add (j := 27) rfl rfl ?_
      refine w_bi (j := 28) (a := nI 97) rfl rfl (by decide) ?_
      first | refine w_subN (j := 29) rfl rfl (by omega) ?_ | refine w_sub (j := 29) rfl rfl ?_
      refine w_ic (n := 1) (j := 30) rfl rfl ?_
      first | refine w_add0 (j := 31) rfl rfl ?_ | refine w_addN (j := 31) rfl rfl ?_ | refine w_add (j := 31) rfl rfl ?_
      refine w_go rfl ?_
      refine w_is (j := 34) rfl rfl rfl ?_
      first | refine w_incN (j := 35) rfl rfl rfl ?_ | refine w_inc (j := 35) rfl rfl rfl rfl ?_
      refine w_go rfl ?_
      refine H _ _ ⟨rfl, ?_⟩
      rw [show min (c + 1) 6 = c + 1 by omega, show min c 6 = c by omega, gx_c, show 27 * gx_c (fun i => tx (s + i)) c + tx (s + c) - 97 + 1 = 27 * gx_c (fun i => tx (s + i)) c + (tx (s + c) - 96) by omega]
      rfl
  · rintro _ h2 ⟨rfl, rfl⟩
    have rg := gx_rng (n := n) (tx := tx) (s := s + (e - s)) (A := 97) (Z := 122) (fun z => (q3.1.2 _ z).1) (by decide) (by decide)
    refine w_al (j := 7) rfl rfl rfl ?_
    refine w_al (j := 8) rfl rfl rfl ?_
    first | refine w_gr (j := 9) rfl rfl (by first | assumption | rfl) (by first | assumption | rfl) rfl ?_ | refine w_gi (j := 9) rfl rfl (by first | assumption | rfl) (by first | assumption | rfl) rfl e4 ?_
    refine w_il (j := 10) rfl rfl rfl ?_
    first | refine w_add0 (j := 11) rfl rfl ?_ | refine w_addN (j := 11) rfl rfl ?_ | refine w_add (j := 11) rfl rfl ?_
    refine w_cvI (j := 12) rfl rfl rfl rfl (by first | assumption | rfl) rfl rfl (sp_160 (by omega) q3) rfl ?_
    refine w_csI (j := 13) rfl rfl rfl rfl rfl (sp_164) rfl ?_
    rw [decide_eq_false (fun z => by
      obtain ⟨z1, z2⟩ := rg.mp z
      rw [show s + (e - s) = e by omega] at z1 z2
      rcases s4 with y | y
      · omega
      · exact of_decide_eq_false y z2)]
    refine w_eqB (j := 14) rfl rfl (fun _ => ?_) (fun c => absurd c (by simp))
    refine w_il (j := 37) rfl rfl rfl ?_
    refine w_bi (j := 38) (a := nI 6) rfl rfl (by decide) ?_
    refine w_leN (j := 39) rfl rfl (by omega) (by omega) (fun d => ?_) (fun d => ?_)
    ·
      refine w_il (j := 42) rfl rfl rfl ?_
      refine w_ir rfl ?_
      refine ⟨_, _, rfl, ?_, q2, q3⟩
      rw [if_neg (by omega), show min (e - s) 6 = e - s by omega]
    ·
      refine w_im (j := 40) rfl rfl ?_
      refine w_go rfl ?_
      refine w_ir rfl ?_
      refine ⟨_, _, rfl, ?_, q2, q3⟩
      rw [if_pos (by omega)]
theorem sp_167 {a b c d e f : Nat} (ha : a ≤ 26) (hb : b ≤ 26) (hc : c ≤ 26) (hd : d ≤ 26) (he : e ≤ 26) (hf : f ≤ 26) : px_V 1 167 [.int (nI a), .int (nI b), .int (nI c), .int (nI d), .int (nI e), .int (nI f)] h (some (.int (nI (gx_six a b c d e f)))) h := by
  have es : gx_six a b c d e f = (fun v => if f = 0 then v else 27 * v + f) ((fun v => if e = 0 then v else 27 * v + e) ((fun v => if d = 0 then v else 27 * v + d) (27 * (27 * a + b) + c))) := rfl
  rw [es]
  dsimp only
  have p3 : ∀ v, v < 14348907 → px_R px_E 0 mo_167 [] 29 [.int (nI a), .int (nI b), .int (nI c), .int (nI d), .int (nI e), .int (nI f), .int (nI v)] [.int (nI v)] h 0 (fun r => r = (.inl (some (.int (nI (if f = 0 then v else 27 * v + f)))), h, 0)) := by
    intro v hv
    refine w_iS (j := 30) rfl rfl rfl ?_
    refine w_iL (j := 31) rfl rfl rfl ?_
    refine w_neM (j := 32) rfl rfl (by omega) (fun z => ?_) (fun z => ?_)
    ·
      rw [if_neg z]
      refine w_bi (j := 35) (a := nI 27) rfl rfl (by decide) ?_
      refine w_iL (j := 36) rfl rfl rfl ?_
      first | refine w_mulN (j := 37) rfl rfl ?_ | refine w_mul (j := 37) rfl rfl ?_
      refine w_iL (j := 38) rfl rfl rfl ?_
      first | refine w_add0 (j := 39) rfl rfl ?_ | refine w_addN (j := 39) rfl rfl ?_ | refine w_add (j := 39) rfl rfl ?_
      refine w_ir rfl ?_
      rfl
    ·
      rw [if_pos z]
      refine w_iL (j := 33) rfl rfl rfl ?_
      refine w_go rfl ?_
      refine w_ir rfl ?_
      rfl
  have p3' : ∀ u v, v < 14348907 → px_R px_E 0 mo_167 [] 29 [.int (nI a), .int (nI b), .int (nI c), .int (nI d), .int (nI e), .int (nI f), .int (nI u)] [.int (nI v)] h 0 (fun r => r = (.inl (some (.int (nI (if f = 0 then v else 27 * v + f)))), h, 0)) := by
    intro u v hv
    refine w_iS (j := 30) rfl rfl rfl ?_
    refine w_iL (j := 31) rfl rfl rfl ?_
    refine w_neM (j := 32) rfl rfl (by omega) (fun z => ?_) (fun z => ?_)
    ·
      rw [if_neg z]
      refine w_bi (j := 35) (a := nI 27) rfl rfl (by decide) ?_
      refine w_iL (j := 36) rfl rfl rfl ?_
      first | refine w_mulN (j := 37) rfl rfl ?_ | refine w_mul (j := 37) rfl rfl ?_
      refine w_iL (j := 38) rfl rfl rfl ?_
      first | refine w_add0 (j := 39) rfl rfl ?_ | refine w_addN (j := 39) rfl rfl ?_ | refine w_add (j := 39) rfl rfl ?_
      refine w_ir rfl ?_
      rfl
    ·
      rw [if_pos z]
      refine w_iL (j := 33) rfl rfl rfl ?_
      refine w_go rfl ?_
      refine w_ir rfl ?_
      rfl
  have p2 : ∀ u v, v < 531441 → px_R px_E 0 mo_167 [] 19 [.int (nI a), .int (nI b), .int (nI c), .int (nI d), .int (nI e), .int (nI f), .int (nI u)] [.int (nI v)] h 0 (fun r => r = (.inl (some (.int (nI (if f = 0 then (if e = 0 then v else 27 * v + e) else 27 * (if e = 0 then v else 27 * v + e) + f)))), h, 0)) := by
    intro u v hv
    refine w_iS (j := 20) rfl rfl rfl ?_
    refine w_iL (j := 21) rfl rfl rfl ?_
    refine w_neM (j := 22) rfl rfl (by omega) (fun z => ?_) (fun z => ?_)
    ·
      rw [if_neg z]
      refine w_bi (j := 25) (a := nI 27) rfl rfl (by decide) ?_
      refine w_iL (j := 26) rfl rfl rfl ?_
      first | refine w_mulN (j := 27) rfl rfl ?_ | refine w_mul (j := 27) rfl rfl ?_
      refine w_iL (j := 28) rfl rfl rfl ?_
      first | refine w_add0 (j := 29) rfl rfl ?_ | refine w_addN (j := 29) rfl rfl ?_ | refine w_add (j := 29) rfl rfl ?_
      exact p3' _ _ (by omega)
    ·
      rw [if_pos z]
      refine w_iL (j := 23) rfl rfl rfl ?_
      refine w_go rfl ?_
      exact p3' _ _ (by omega)
  refine px_M (M := mt_167) (ops := mo_167) tb_167 rfl rfl rfl rfl rfl ?_
  refine w_bi (j := 1) (a := nI 27) rfl rfl (by decide) ?_
  refine w_bi (j := 2) (a := nI 27) rfl rfl (by decide) ?_
  refine w_il (j := 3) rfl rfl rfl ?_
  first | refine w_mulN (j := 4) rfl rfl ?_ | refine w_mul (j := 4) rfl rfl ?_
  refine w_il (j := 5) rfl rfl rfl ?_
  first | refine w_add0 (j := 6) rfl rfl ?_ | refine w_addN (j := 6) rfl rfl ?_ | refine w_add (j := 6) rfl rfl ?_
  first | refine w_mulN (j := 7) rfl rfl ?_ | refine w_mul (j := 7) rfl rfl ?_
  refine w_il (j := 8) rfl rfl rfl ?_
  first | refine w_add0 (j := 9) rfl rfl ?_ | refine w_addN (j := 9) rfl rfl ?_ | refine w_add (j := 9) rfl rfl ?_
  refine w_iS (j := 10) rfl rfl rfl ?_
  refine w_il (j := 11) rfl rfl rfl ?_
  refine w_neM (j := 12) rfl rfl (by omega) (fun z => ?_) (fun z => ?_)
  ·
    rw [if_neg z]
    refine w_bi (j := 15) (a := nI 27) rfl rfl (by decide) ?_
    refine w_iL (j := 16) rfl rfl rfl ?_
    first | refine w_mulN (j := 17) rfl rfl ?_ | refine w_mul (j := 17) rfl rfl ?_
    refine w_il (j := 18) rfl rfl rfl ?_
    first | refine w_add0 (j := 19) rfl rfl ?_ | refine w_addN (j := 19) rfl rfl ?_ | refine w_add (j := 19) rfl rfl ?_
    exact p2 _ _ (by omega)
  ·
    rw [if_pos z]
    refine w_iL (j := 13) rfl rfl rfl ?_
    refine w_go rfl ?_
    exact p2 _ _ (by omega)
def gx_w6 (w : List Nat) (a b c d e f : Nat) : Prop := a ≤ 26 ∧ b ≤ 26 ∧ c ≤ 26 ∧ d ≤ 26 ∧ e ≤ 26 ∧ f ≤ 26 ∧ w.length ≤ 6 ∧ (∀ i, i < w.length → 97 ≤ w.getD i 0 ∧ w.getD i 0 ≤ 122) ∧ gx_six a b c d e f = gx_c (fun i => w.getD i 0) w.length
theorem gx_isc {s e : Nat} {w : List Nat} (hse : s ≤ e) (hl : ∀ i, s ≤ i → i < e → gx_ll (tx i) = true) (hw : w.length ≤ 6) (hv : ∀ i, i < w.length → 97 ≤ w.getD i 0 ∧ w.getD i 0 ≤ 122) : ((if 6 < e - s then -1 else nI (gx_c (fun i => tx (s + i)) (e - s))) = nI (gx_c (fun i => w.getD i 0) w.length)) ↔ gx_is tx s e w := by
  have cw := gx_c6 (g := fun i => w.getD i 0) hw (fun i hi => (hv i hi).2)
  by_cases h6 : 6 < e - s
  · rw [if_pos h6]
    exact ⟨fun z => absurd z.symm (px_nm1 (by omega)), fun z => by have := z.1; omega⟩
  · rw [if_neg h6]
    have cs := gx_c6 (g := fun i => tx (s + i)) (c := e - s) (by omega) (fun i hi => (of_decide_eq_true (hl (s + i) (by omega) (by omega))).2)
    rw [px_neq (by omega) (by omega)]
    constructor
    · intro z
      obtain ⟨z1, z2⟩ := gx_cinj (e - s) w.length (fun i hi => of_decide_eq_true (hl (s + i) (by omega) (by omega))) hv z
      exact ⟨z1, fun i hi => z2 i (by omega)⟩
    · rintro ⟨z1, z2⟩
      rw [z1]
      exact gx_c_congr _ (fun i hi => z2 i hi)
theorem sp_168 {w : List Nat} {a b c d e f' : Nat} (hw : gx_w6 w a b c d e f') (r : px_mr h tx n p 0 fp o) : px_PI 4 168 [.ref 100, .int (nI a), .int (nI b), .int (nI c), .int (nI d), .int (nI e), .int (nI f')] h (fun v h1 => (∃ z, v = px_b z ∧ (z = true ↔ gx_is tx (gx_sk tx n p) (gx_lt tx n (gx_sk tx n p)) w)) ∧ px_f1 h h1 ∧ px_mr h1 tx n (gx_sk tx n p) 0 fp o) := by
  obtain ⟨w1, w2, w3, w4, w5, w6, w7, w8, w9⟩ := hw
  have r3 := r.2.2.2.1
  have r4 := r.2.2.2.2.1
  obtain ⟨s0, s00⟩ := gx_sk_le (tx := tx) r3
  obtain ⟨s1, s2, s3, s4⟩ := gx_end_spec (P := gx_ll) (tx := tx) s00
  have ic := gx_isc (tx := tx) (w := w) s1 s3 w7 w8
  rw [← w9, show gx_end gx_ll tx n (gx_sk tx n p) = gx_lt tx n (gx_sk tx n p) from rfl] at ic
  refine px_M (M := mt_168) (ops := mo_168) tb_168 rfl rfl rfl rfl rfl ?_
  refine w_al (j := 1) rfl rfl rfl ?_
  first | refine w_gr (j := 2) rfl rfl (by first | assumption | rfl) (by first | assumption | rfl) rfl ?_ | refine w_gi (j := 2) rfl rfl (by first | assumption | rfl) (by first | assumption | rfl) rfl r4 ?_
  refine w_neM (j := 3) rfl rfl (by omega) (fun c => absurd c (fun c => by omega)) (fun _ => ?_)
  refine w_al (j := 4) rfl rfl rfl ?_
  refine w_cvPI (j := 5) rfl rfl rfl rfl (by first | assumption | rfl) rfl rfl (sp_166 r) rfl ?_
  rintro v h1 ⟨q1, q2, q3⟩
  rw [← q1] at ic
  refine w_il (j := 6) rfl rfl rfl ?_
  refine w_il (j := 7) rfl rfl rfl ?_
  refine w_il (j := 8) rfl rfl rfl ?_
  refine w_iL (j := 9) rfl rfl rfl ?_
  refine w_iL (j := 10) rfl rfl rfl ?_
  refine w_iL (j := 11) rfl rfl rfl ?_
  refine w_csI (j := 12) rfl rfl rfl rfl rfl (sp_167 w1 w2 w3 w4 w5 w6) rfl ?_
  refine w_ne (j := 13) rfl rfl (fun d1 => ?_) (fun d1 => ?_)
  ·
    refine w_ic (n := 0) (j := 16) rfl rfl ?_
    refine w_irB rfl (by first | exact Or.inl rfl | exact Or.inr rfl | exact px_b01 _) ?_
    exact ⟨_, _, rfl, ⟨false, rfl, ⟨fun z => (by cases z), fun z => absurd (ic.mpr z) d1⟩⟩, q2, q3⟩
  ·
    refine w_ic (n := 1) (j := 14) rfl rfl ?_
    refine w_go rfl ?_
    refine w_irB rfl (by first | exact Or.inl rfl | exact Or.inr rfl | exact px_b01 _) ?_
    exact ⟨_, _, rfl, ⟨true, rfl, ⟨fun _ => ic.mp d1, fun _ => rfl⟩⟩, q2, q3⟩
theorem sp_168x {a b c d e f' : Int32} (hf : f ≠ 0) (r : px_mr h tx n p f fp o) : px_V 4 168 [.ref 100, .int a, .int b, .int c, .int d, .int e, .int f'] h (some (.int (px_b false))) h := by
  have r4 := r.2.2.2.2.1
  have r5 := r.2.2.2.2.2.1
  refine px_M (M := mt_168) (ops := mo_168) tb_168 rfl rfl rfl rfl rfl ?_
  refine w_al (j := 1) rfl rfl rfl ?_
  first | refine w_gr (j := 2) rfl rfl (by first | assumption | rfl) (by first | assumption | rfl) rfl ?_ | refine w_gi (j := 2) rfl rfl (by first | assumption | rfl) (by first | assumption | rfl) rfl r4 ?_
  refine w_neM (j := 3) rfl rfl (by omega) (fun _ => ?_) (fun c => absurd c (fun c => by omega))
  refine w_ic (n := 0) (j := 16) rfl rfl ?_
  refine w_irB rfl (by first | exact Or.inl rfl | exact Or.inr rfl | exact px_b01 _) ?_
  rfl
theorem sp_169 (r : px_mr h tx n p f fp o) : px_PU 2 169 [.ref 100] h (fun h1 => px_f1 h h1 ∧ px_mr h1 tx n (gx_lt tx n p) f fp o) := by
  have n6 := r.1.1
  have r3 := r.2.2.2.1
  obtain ⟨s1, s2, s3, s4⟩ := gx_end_spec (P := gx_ll) (tx := tx) r3
  rw [show gx_end gx_ll tx n p = gx_lt tx n p from rfl] at s1 s2 s3 s4
  generalize gx_lt tx n p = e at s1 s2 s3 s4 ⊢
  refine px_M (M := mt_169) (ops := mo_169) tb_169 rfl rfl rfl rfl rfl ?_
  refine px_forI (fun c ls h1 => ls = [.ref 100] ∧ px_f1 h h1 ∧ px_mr h1 tx n (p + c) f fp o) (e - p) ?_ ?_ ⟨rfl, px_f1.rf, r⟩
  · rintro c _ h1 hc ⟨rfl, fr, R⟩ H
    have e4 := R.2.2.1
    have b5 := of_decide_eq_true (s3 (p + c) (by omega) (by omega))
    have S160 := sp_160 (k := p + c) (by omega) R
    rw [if_pos (show p + c < n by omega)] at S160
    refine w_al (j := 1) rfl rfl rfl ?_
    refine w_al (j := 2) rfl rfl rfl ?_
    first | refine w_gr (j := 3) rfl rfl (by first | assumption | rfl) (by first | assumption | rfl) rfl ?_ | refine w_gi (j := 3) rfl rfl (by first | assumption | rfl) (by first | assumption | rfl) rfl e4 ?_
    refine w_cvI (j := 4) rfl rfl rfl rfl (by first | assumption | rfl) rfl rfl (S160) rfl ?_
    refine w_csI (j := 5) rfl rfl rfl rfl rfl (sp_164) rfl ?_
    rw [decide_eq_true (show nI 97 ≤ nI (tx (p + c)) ∧ nI (tx (p + c)) ≤ nI 122 from ⟨nI_le b5.1 (by omega), nI_le b5.2 (by omega)⟩)]
    refine w_eqB (j := 6) rfl rfl (fun c => absurd c (by simp)) (fun _ => ?_)
    refine w_al (j := 7) rfl rfl rfl ?_
    first | refine w_dupr (j := 8) rfl rfl ?_ | refine w_dupi (j := 8) rfl rfl ?_
    first | refine w_gr (j := 9) rfl rfl (by first | assumption | rfl) (by first | assumption | rfl) rfl ?_ | refine w_gi (j := 9) rfl rfl (by first | assumption | rfl) (by first | assumption | rfl) rfl e4 ?_
    refine w_ic (n := 1) (j := 10) rfl rfl ?_
    first | refine w_add0 (j := 11) rfl rfl ?_ | refine w_addN (j := 11) rfl rfl ?_ | refine w_add (j := 11) rfl rfl ?_
    refine w_pf (j := 12) rfl rfl (by first | assumption | rfl) (by first | assumption | rfl) rfl ?_
    refine w_go rfl ?_
    exact H _ _ ⟨rfl, fr.up (by decide), R.P rfl (by omega)⟩
  · rintro _ h1 ⟨rfl, fr, R⟩
    rw [show p + (e - p) = e by omega] at R
    have e4 := R.2.2.1
    have rg := gx_rng (n := n) (tx := tx) (s := e) (A := 97) (Z := 122) (fun z => (R.1.2 _ z).1) (by decide) (by decide)
    refine w_al (j := 1) rfl rfl rfl ?_
    refine w_al (j := 2) rfl rfl rfl ?_
    first | refine w_gr (j := 3) rfl rfl (by first | assumption | rfl) (by first | assumption | rfl) rfl ?_ | refine w_gi (j := 3) rfl rfl (by first | assumption | rfl) (by first | assumption | rfl) rfl e4 ?_
    refine w_cvI (j := 4) rfl rfl rfl rfl (by first | assumption | rfl) rfl rfl (sp_160 (by omega) R) rfl ?_
    refine w_csI (j := 5) rfl rfl rfl rfl rfl (sp_164) rfl ?_
    rw [decide_eq_false (fun z => by
      obtain ⟨z1, z2⟩ := rg.mp z
      rcases s4 with y | y
      · omega
      · exact of_decide_eq_false y z2)]
    refine w_eqB (j := 6) rfl rfl (fun _ => ?_) (fun c => absurd c (by simp))
    refine w_rt rfl ?_
    exact ⟨_, rfl, fr, R⟩
theorem sp_170 {w : List Nat} {a b c d e f' : Nat} (hw : gx_w6 w a b c d e f') (r : px_mr h tx n p 0 fp o) : px_PI 5 170 [.ref 100, .int (nI a), .int (nI b), .int (nI c), .int (nI d), .int (nI e), .int (nI f')] h (fun v h1 => ∃ z, v = px_b z ∧ (z = true ↔ gx_is tx (gx_sk tx n p) (gx_lt tx n (gx_sk tx n p)) w) ∧ px_f1 h h1 ∧ px_mr h1 tx n (if z = true then gx_lt tx n (gx_sk tx n p) else gx_sk tx n p) 0 fp o) := by
  refine px_M (M := mt_170) (ops := mo_170) tb_170 rfl rfl rfl rfl rfl ?_
  refine w_al (j := 1) rfl rfl rfl ?_
  refine w_il (j := 2) rfl rfl rfl ?_
  refine w_il (j := 3) rfl rfl rfl ?_
  refine w_il (j := 4) rfl rfl rfl ?_
  refine w_iL (j := 5) rfl rfl rfl ?_
  refine w_iL (j := 6) rfl rfl rfl ?_
  refine w_iL (j := 7) rfl rfl rfl ?_
  refine w_cvPI (j := 8) rfl rfl rfl rfl (by first | assumption | rfl) rfl rfl (sp_168 hw r) rfl ?_
  rintro v h1 ⟨⟨z, q0, q1⟩, q2, q3⟩
  subst q0
  refine w_iS (j := 9) rfl rfl rfl ?_
  refine w_iL (j := 10) rfl rfl rfl ?_
  cases z with
  | false =>
    refine w_eqB (j := 11) rfl rfl (fun _ => ?_) (fun c => absurd c (by simp))
    refine w_iL (j := 14) rfl rfl rfl ?_
    refine w_irB rfl (by first | exact Or.inl rfl | exact Or.inr rfl | exact px_b01 _) ?_
    exact ⟨_, _, rfl, false, rfl, q1, q2, q3⟩
  | true =>
    refine w_eqB (j := 11) rfl rfl (fun c => absurd c (by simp)) (fun _ => ?_)
    refine w_al (j := 12) rfl rfl rfl ?_
    refine w_cvPU (j := 13) rfl rfl rfl rfl (by first | assumption | rfl) rfl rfl (sp_169 q3) rfl ?_
    rintro h2 ⟨u1, u2⟩
    refine w_iL (j := 14) rfl rfl rfl ?_
    refine w_irB rfl (by first | exact Or.inl rfl | exact Or.inr rfl | exact px_b01 _) ?_
    exact ⟨_, _, rfl, true, rfl, q1, q2.tr u1, u2⟩
theorem sp_171 {c : Nat} (hc : c < 256) (r : px_mr h tx n p 0 fp o) : px_PU 3 171 [.ref 100, .int (nI c)] h (fun h1 => px_f1 h h1 ∧ (if gx_sk tx n p < n ∧ tx (gx_sk tx n p) = c then px_mr h1 tx n (gx_sk tx n p + 1) 0 fp o else px_mr h1 tx n (gx_sk tx n p) 1 (nI (gx_sk tx n p)) o)) := by
  have n6 := r.1.1
  have r4 := r.2.2.2.2.1
  refine px_M (M := mt_171) (ops := mo_171) tb_171 rfl rfl rfl rfl rfl ?_
  refine w_al (j := 1) rfl rfl rfl ?_
  first | refine w_gr (j := 2) rfl rfl (by first | assumption | rfl) (by first | assumption | rfl) rfl ?_ | refine w_gi (j := 2) rfl rfl (by first | assumption | rfl) (by first | assumption | rfl) rfl r4 ?_
  refine w_eqM (j := 3) rfl rfl (by omega) (fun _ => ?_) (fun c => absurd c (fun c => by omega))
  refine w_al (j := 5) rfl rfl rfl ?_
  refine w_cvPU (j := 6) rfl rfl rfl rfl (by first | assumption | rfl) rfl rfl (sp_161 r) rfl ?_
  rintro h1 ⟨q2, q3⟩
  obtain ⟨s0, s00⟩ := gx_sk_le (tx := tx) r.2.2.2.1
  have cm := gx_cmp (n := n) (tx := tx) (s := gx_sk tx n p) (fun z => (q3.1.2 _ z).1) hc
  generalize gx_sk tx n p = s at q3 cm s0 s00 ⊢
  have e4 := q3.2.2.1
  refine w_al (j := 7) rfl rfl rfl ?_
  refine w_al (j := 8) rfl rfl rfl ?_
  first | refine w_gr (j := 9) rfl rfl (by first | assumption | rfl) (by first | assumption | rfl) rfl ?_ | refine w_gi (j := 9) rfl rfl (by first | assumption | rfl) (by first | assumption | rfl) rfl e4 ?_
  refine w_cvI (j := 10) rfl rfl rfl rfl (by first | assumption | rfl) rfl rfl (sp_160 (by omega) q3) rfl ?_
  refine w_il (j := 11) rfl rfl rfl ?_
  refine w_ne (j := 12) rfl rfl (fun d => ?_) (fun d => ?_)
  ·
    refine w_al (j := 20) rfl rfl rfl ?_
    refine w_ic (n := 1) (j := 21) rfl rfl ?_
    refine w_al (j := 22) rfl rfl rfl ?_
    first | refine w_gr (j := 23) rfl rfl (by first | assumption | rfl) (by first | assumption | rfl) rfl ?_ | refine w_gi (j := 23) rfl rfl (by first | assumption | rfl) (by first | assumption | rfl) rfl e4 ?_
    refine w_cvPU (j := 24) rfl rfl rfl rfl (by first | assumption | rfl) rfl rfl (sp_162 (kd := 1) (by decide) q3) rfl ?_
    rintro h2 ⟨u1, u2⟩
    refine w_rt rfl ?_
    refine ⟨_, rfl, q2.tr u1, ?_⟩
    rw [if_neg (fun z => d (cm.mpr z))]
    exact u2
  ·
    have d := cm.mp d
    refine w_al (j := 13) rfl rfl rfl ?_
    first | refine w_dupr (j := 14) rfl rfl ?_ | refine w_dupi (j := 14) rfl rfl ?_
    first | refine w_gr (j := 15) rfl rfl (by first | assumption | rfl) (by first | assumption | rfl) rfl ?_ | refine w_gi (j := 15) rfl rfl (by first | assumption | rfl) (by first | assumption | rfl) rfl e4 ?_
    refine w_ic (n := 1) (j := 16) rfl rfl ?_
    first | refine w_add0 (j := 17) rfl rfl ?_ | refine w_addN (j := 17) rfl rfl ?_ | refine w_add (j := 17) rfl rfl ?_
    refine w_pf (j := 18) rfl rfl (by first | assumption | rfl) (by first | assumption | rfl) rfl ?_
    refine w_go rfl ?_
    refine w_rt rfl ?_
    refine ⟨_, rfl, q2.up (by decide), ?_⟩
    rw [if_pos d]
    exact q3.P rfl (by omega)
theorem sp_171x {c : Int32} (hf : f ≠ 0) (r : px_mr h tx n p f fp o) : px_V 1 171 [.ref 100, .int c] h none h := by
  have r4 := r.2.2.2.2.1
  have r5 := r.2.2.2.2.2.1
  refine px_M (M := mt_171) (ops := mo_171) tb_171 rfl rfl rfl rfl rfl ?_
  refine w_al (j := 1) rfl rfl rfl ?_
  first | refine w_gr (j := 2) rfl rfl (by first | assumption | rfl) (by first | assumption | rfl) rfl ?_ | refine w_gi (j := 2) rfl rfl (by first | assumption | rfl) (by first | assumption | rfl) rfl r4 ?_
  refine w_eqM (j := 3) rfl rfl (by omega) (fun c => absurd c (fun c => by omega)) (fun _ => ?_)
  refine w_rt rfl ?_
  rfl
theorem sp_172 {c : Nat} (hc : c < 256) (r : px_mr h tx n p 0 fp o) : px_PI 3 172 [.ref 100, .int (nI c)] h (fun v h1 => v = px_b (decide (gx_sk tx n p < n ∧ tx (gx_sk tx n p) = c)) ∧ px_f1 h h1 ∧ px_mr h1 tx n (if gx_sk tx n p < n ∧ tx (gx_sk tx n p) = c then gx_sk tx n p + 1 else gx_sk tx n p) 0 fp o) := by
  have n6 := r.1.1
  have r4 := r.2.2.2.2.1
  refine px_M (M := mt_172) (ops := mo_172) tb_172 rfl rfl rfl rfl rfl ?_
  refine w_al (j := 1) rfl rfl rfl ?_
  first | refine w_gr (j := 2) rfl rfl (by first | assumption | rfl) (by first | assumption | rfl) rfl ?_ | refine w_gi (j := 2) rfl rfl (by first | assumption | rfl) (by first | assumption | rfl) rfl r4 ?_
  refine w_eqM (j := 3) rfl rfl (by omega) (fun _ => ?_) (fun c => absurd c (fun c => by omega))
  refine w_al (j := 6) rfl rfl rfl ?_
  refine w_cvPU (j := 7) rfl rfl rfl rfl (by first | assumption | rfl) rfl rfl (sp_161 r) rfl ?_
  rintro h1 ⟨q2, q3⟩
  obtain ⟨s0, s00⟩ := gx_sk_le (tx := tx) r.2.2.2.1
  have cm := gx_cmp (n := n) (tx := tx) (s := gx_sk tx n p) (fun z => (q3.1.2 _ z).1) hc
  generalize gx_sk tx n p = s at q3 cm s0 s00 ⊢
  have e4 := q3.2.2.1
  refine w_al (j := 8) rfl rfl rfl ?_
  refine w_al (j := 9) rfl rfl rfl ?_
  first | refine w_gr (j := 10) rfl rfl (by first | assumption | rfl) (by first | assumption | rfl) rfl ?_ | refine w_gi (j := 10) rfl rfl (by first | assumption | rfl) (by first | assumption | rfl) rfl e4 ?_
  refine w_cvI (j := 11) rfl rfl rfl rfl (by first | assumption | rfl) rfl rfl (sp_160 (by omega) q3) rfl ?_
  refine w_il (j := 12) rfl rfl rfl ?_
  refine w_ne (j := 13) rfl rfl (fun d => ?_) (fun d => ?_)
  ·
    have d : ¬ (s < n ∧ tx s = c) := fun z => d (cm.mpr z)
    refine w_ic (n := 0) (j := 16) rfl rfl ?_
    refine w_is (j := 17) rfl rfl rfl ?_
    refine w_il (j := 18) rfl rfl rfl ?_
    refine w_eqM (j := 19) rfl rfl (by omega) (fun _ => ?_) (fun c => absurd c (fun c => by omega))
    refine w_il (j := 26) rfl rfl rfl ?_
    refine w_irB rfl (by first | exact Or.inl rfl | exact Or.inr rfl | exact px_b01 _) ?_
    refine ⟨_, _, rfl, by rw [decide_eq_false d]; rfl, q2, ?_⟩
    rw [if_neg d]
    exact q3
  ·
    have d := cm.mp d
    refine w_ic (n := 1) (j := 14) rfl rfl ?_
    refine w_go rfl ?_
    refine w_is (j := 17) rfl rfl rfl ?_
    refine w_il (j := 18) rfl rfl rfl ?_
    refine w_eqM (j := 19) rfl rfl (by omega) (fun c => absurd c (fun c => by omega)) (fun _ => ?_)
    refine w_al (j := 20) rfl rfl rfl ?_
    first | refine w_dupr (j := 21) rfl rfl ?_ | refine w_dupi (j := 21) rfl rfl ?_
    first | refine w_gr (j := 22) rfl rfl (by first | assumption | rfl) (by first | assumption | rfl) rfl ?_ | refine w_gi (j := 22) rfl rfl (by first | assumption | rfl) (by first | assumption | rfl) rfl e4 ?_
    refine w_ic (n := 1) (j := 23) rfl rfl ?_
    first | refine w_add0 (j := 24) rfl rfl ?_ | refine w_addN (j := 24) rfl rfl ?_ | refine w_add (j := 24) rfl rfl ?_
    refine w_pf (j := 25) rfl rfl (by first | assumption | rfl) (by first | assumption | rfl) rfl ?_
    refine w_il (j := 26) rfl rfl rfl ?_
    refine w_irB rfl (by first | exact Or.inl rfl | exact Or.inr rfl | exact px_b01 _) ?_
    refine ⟨_, _, rfl, by rw [decide_eq_true d]; rfl, q2.up (by decide), ?_⟩
    rw [if_pos d]
    exact q3.P rfl (by omega)
theorem sp_187 (r : px_mr h tx n p 0 fp o) : px_PI 5 187 [.ref 100] h (fun v h1 => ∃ z, v = px_b z ∧ (z = true ↔ gx_is tx (gx_sk tx n p) (gx_lt tx n (gx_sk tx n p)) [115, 116, 114, 101, 110, 103, 116, 104]) ∧ px_f1 h h1 ∧ px_mr h1 tx n (if z = true then gx_lt tx n (gx_sk tx n p) else gx_sk tx n p) 0 fp o) := by
  have n6 := r.1.1
  have r3 := r.2.2.2.1
  have r4 := r.2.2.2.2.1
  refine px_M (M := mt_187) (ops := mo_187) tb_187 rfl rfl rfl rfl rfl ?_
  refine w_al (j := 1) rfl rfl rfl ?_
  first | refine w_gr (j := 2) rfl rfl (by first | assumption | rfl) (by first | assumption | rfl) rfl ?_ | refine w_gi (j := 2) rfl rfl (by first | assumption | rfl) (by first | assumption | rfl) rfl r4 ?_
  refine w_eqM (j := 3) rfl rfl (by omega) (fun _ => ?_) (fun c => absurd c (fun c => by omega))
  refine w_al (j := 6) rfl rfl rfl ?_
  refine w_cvPU (j := 7) rfl rfl rfl rfl (by first | assumption | rfl) rfl rfl (sp_161 r) rfl ?_
  rintro h1 ⟨q2, q3⟩
  obtain ⟨s0, s00⟩ := gx_sk_le (tx := tx) r3
  obtain ⟨s1, s2, s3, s4⟩ := gx_end_spec (P := gx_ll) (tx := tx) s00
  rw [show gx_end gx_ll tx n (gx_sk tx n p) = gx_lt tx n (gx_sk tx n p) from rfl] at s1 s2 s3 s4
  have ee : gx_lt tx n (gx_sk tx n p) = gx_lt tx n (gx_sk tx n p) := rfl
  generalize gx_sk tx n p = s at q3 s0 s00 s1 s2 s3 s4 ee ⊢
  generalize hE : gx_lt tx n s = e at s1 s2 s3 s4 ⊢
  have e4 := q3.2.2.1
  refine w_ic (n := 0) (j := 8) rfl rfl ?_
  refine w_is (j := 9) rfl rfl rfl ?_
  refine w_ic (n := 0) (j := 10) rfl rfl ?_
  refine w_is (j := 11) rfl rfl rfl ?_
  refine px_forI (fun c ls h2 => h2 = h1 ∧ ∃ g, ls = [.ref 100, .int (nI (gx_c (fun i => tx (s + i)) (min c 6))), .int (nI c), g]) (e - s) ?_ ?_ ⟨rfl, _, rfl⟩
  · rintro c _ h2 hc ⟨rfl, g, rfl⟩ H
    have b5 := of_decide_eq_true (s3 (s + c) (by omega) (by omega))
    have S160 := sp_160 (k := s + c) (by omega) q3
    rw [if_pos (show s + c < n by omega)] at S160
    have c6 := gx_c6 (g := fun i => tx (s + i)) (c := min c 6) (by omega) (fun i hi => (of_decide_eq_true (s3 (s + i) (by omega) (by omega))).2)
    refine w_al (j := 12) rfl rfl rfl ?_
    refine w_al (j := 13) rfl rfl rfl ?_
    first | refine w_gr (j := 14) rfl rfl (by first | assumption | rfl) (by first | assumption | rfl) rfl ?_ | refine w_gi (j := 14) rfl rfl (by first | assumption | rfl) (by first | assumption | rfl) rfl e4 ?_
    refine w_il (j := 15) rfl rfl rfl ?_
    first | refine w_add0 (j := 16) rfl rfl ?_ | refine w_addN (j := 16) rfl rfl ?_ | refine w_add (j := 16) rfl rfl ?_
    refine w_cvI (j := 17) rfl rfl rfl rfl (by first | assumption | rfl) rfl rfl (S160) rfl ?_
    refine w_csI (j := 18) rfl rfl rfl rfl rfl (sp_164) rfl ?_
    rw [decide_eq_true (show nI 97 ≤ nI (tx (s + c)) ∧ nI (tx (s + c)) ≤ nI 122 from ⟨nI_le b5.1 (by omega), nI_le b5.2 (by omega)⟩)]
    refine w_eqB (j := 19) rfl rfl (fun c => absurd c (by simp)) (fun _ => ?_)
    refine w_il (j := 20) rfl rfl rfl ?_
    refine w_bi (j := 21) (a := nI 6) rfl rfl (by decide) ?_
    refine w_geN (j := 22) rfl rfl (by omega) (by omega) (fun d => ?_) (fun d => ?_)
    ·
      refine w_il (j := 38) rfl rfl rfl ?_
      refine w_is (j := 39) rfl rfl rfl ?_
      first | refine w_incN (j := 40) rfl rfl rfl ?_ | refine w_inc (j := 40) rfl rfl rfl rfl ?_
      refine w_go rfl ?_
      refine H _ _ ⟨rfl, ?_⟩
      rw [show min (c + 1) 6 = min c 6 by omega]
      exact ⟨_, rfl⟩
    ·
      refine w_bi (j := 23) (a := nI 27) rfl rfl (by decide) ?_
      refine w_il (j := 24) rfl rfl rfl ?_
      first | refine w_mulN (j := 25) rfl rfl ?_ | refine w_mul (j := 25) rfl rfl ?_
      refine w_al (j := 26) rfl rfl rfl ?_
      refine w_al (j := 27) rfl rfl rfl ?_
      first | refine w_gr (j := 28) rfl rfl (by first | assumption | rfl) (by first | assumption | rfl) rfl ?_ | refine w_gi (j := 28) rfl rfl (by first | assumption | rfl) (by first | assumption | rfl) rfl e4 ?_
      refine w_il (j := 29) rfl rfl rfl ?_
      first | refine w_add0 (j := 30) rfl rfl ?_ | refine w_addN (j := 30) rfl rfl ?_ | refine w_add (j := 30) rfl rfl ?_
      refine w_cvI (j := 31) rfl rfl rfl rfl (by first | assumption | rfl) rfl rfl (S160) rfl ?_
      first | refine w_add0 (j := 32) rfl rfl ?_ | refine w_addN (j := 32) rfl rfl ?_ | refine w_add (j := 32) rfl rfl ?_
      refine w_bi (j := 33) (a := nI 97) rfl rfl (by decide) ?_
      first | refine w_subN (j := 34) rfl rfl (by omega) ?_ | refine w_sub (j := 34) rfl rfl ?_
      refine w_ic (n := 1) (j := 35) rfl rfl ?_
      first | refine w_add0 (j := 36) rfl rfl ?_ | refine w_addN (j := 36) rfl rfl ?_ | refine w_add (j := 36) rfl rfl ?_
      refine w_go rfl ?_
      refine w_is (j := 39) rfl rfl rfl ?_
      first | refine w_incN (j := 40) rfl rfl rfl ?_ | refine w_inc (j := 40) rfl rfl rfl rfl ?_
      refine w_go rfl ?_
      refine H _ _ ⟨rfl, ?_⟩
      rw [show min (c + 1) 6 = c + 1 by omega, show min c 6 = c by omega, gx_c, show 27 * gx_c (fun i => tx (s + i)) c + tx (s + c) - 97 + 1 = 27 * gx_c (fun i => tx (s + i)) c + (tx (s + c) - 96) by omega]
      exact ⟨_, rfl⟩
  · rintro _ h2 ⟨rfl, g, rfl⟩
    have rg := gx_rng (n := n) (tx := tx) (s := s + (e - s)) (A := 97) (Z := 122) (fun z => (q3.1.2 _ z).1) (by decide) (by decide)
    have c6 := gx_c6 (g := fun i => tx (s + i)) (c := min (e - s) 6) (by omega) (fun i hi => (of_decide_eq_true (s3 (s + i) (by omega) (by omega))).2)
    have no : ¬ gx_is tx s e [115, 116, 114, 101, 110, 103, 116, 104] → px_R px_E 4 mo_187 [] 71 [.ref 100, .int (nI (gx_c (fun i => tx (s + i)) (min (e - s) 6))), .int (nI (e - s)), g] [] h2 0 (fun r => ∃ v h', r = (.inl (some (.int v)), h', 0) ∧ ∃ z, v = px_b z ∧ (z = true ↔ gx_is tx s e [115, 116, 114, 101, 110, 103, 116, 104]) ∧ px_f1 h h' ∧ px_mr h' tx n (if z = true then e else s) 0 fp o) := by
      intro hn
      refine w_ic (n := 0) (j := 72) rfl rfl ?_
      refine w_is (j := 73) rfl rfl rfl ?_
      refine w_il (j := 74) rfl rfl rfl ?_
      refine w_eqM (j := 75) rfl rfl (by omega) (fun _ => ?_) (fun c => absurd c (fun c => by omega))
      refine w_il (j := 78) rfl rfl rfl ?_
      refine w_irB rfl (by first | exact Or.inl rfl | exact Or.inr rfl | exact px_b01 _) ?_
      exact ⟨_, _, rfl, false, rfl, ⟨fun z => (by cases z), fun z => absurd z hn⟩, q2, q3⟩
    refine w_al (j := 12) rfl rfl rfl ?_
    refine w_al (j := 13) rfl rfl rfl ?_
    first | refine w_gr (j := 14) rfl rfl (by first | assumption | rfl) (by first | assumption | rfl) rfl ?_ | refine w_gi (j := 14) rfl rfl (by first | assumption | rfl) (by first | assumption | rfl) rfl e4 ?_
    refine w_il (j := 15) rfl rfl rfl ?_
    first | refine w_add0 (j := 16) rfl rfl ?_ | refine w_addN (j := 16) rfl rfl ?_ | refine w_add (j := 16) rfl rfl ?_
    refine w_cvI (j := 17) rfl rfl rfl rfl (by first | assumption | rfl) rfl rfl (sp_160 (by omega) q3) rfl ?_
    refine w_csI (j := 18) rfl rfl rfl rfl rfl (sp_164) rfl ?_
    rw [decide_eq_false (fun z => by
      obtain ⟨z1, z2⟩ := rg.mp z
      rw [show s + (e - s) = e by omega] at z1 z2
      rcases s4 with y | y
      · omega
      · exact of_decide_eq_false y z2)]
    refine w_eqB (j := 19) rfl rfl (fun _ => ?_) (fun c => absurd c (by simp))
    refine w_il (j := 42) rfl rfl rfl ?_
    refine w_bi (j := 43) (a := nI 8) rfl rfl (by decide) ?_
    refine w_neN (j := 44) rfl rfl (by omega) (by omega) (fun d1 => ?_) (fun d1 => ?_)
    · exact no (fun z => d1 z.1)
    rw [d1] at c6 no ⊢
    have cw : gx_six 19 20 18 5 14 7 = gx_c (fun i => [115, 116, 114, 101, 110, 103].getD i 0) 6 := by decide
    have cw2 : gx_six 19 20 18 5 14 7 < 387420489 := by decide
    refine w_il (j := 45) rfl rfl rfl ?_
    refine w_bi (j := 46) (a := nI 19) rfl rfl (by decide) ?_
    refine w_bi (j := 47) (a := nI 20) rfl rfl (by decide) ?_
    refine w_bi (j := 48) (a := nI 18) rfl rfl (by decide) ?_
    refine w_ic (n := 5) (j := 49) rfl rfl ?_
    refine w_bi (j := 50) (a := nI 14) rfl rfl (by decide) ?_
    refine w_bi (j := 51) (a := nI 7) rfl rfl (by decide) ?_
    refine w_csI (j := 52) rfl rfl rfl rfl rfl (sp_167 (by decide) (by decide) (by decide) (by decide) (by decide) (by decide)) rfl ?_
    refine w_neN (j := 53) rfl rfl (by omega) (by omega) (fun d2 => ?_) (fun d2 => ?_)
    · refine no (fun z => d2 ?_)
      rw [cw]
      exact gx_c_congr 6 (fun i hi => by
        have := z.2 i (by show i < 8; omega)
        rw [this]
        obtain rfl | rfl | rfl | rfl | rfl | rfl : i = 0 ∨ i = 1 ∨ i = 2 ∨ i = 3 ∨ i = 4 ∨ i = 5 := by omega
        all_goals rfl)
    have S6 := sp_160 (k := s + 6) (by omega) q3
    rw [if_pos (show s + 6 < n by omega)] at S6
    have S7 := sp_160 (k := s + 7) (by omega) q3
    rw [if_pos (show s + 7 < n by omega)] at S7
    have b6 := (q3.1.2 (s + 6) (by omega)).1
    have b7 := (q3.1.2 (s + 7) (by omega)).1
    refine w_al (j := 54) rfl rfl rfl ?_
    refine w_al (j := 55) rfl rfl rfl ?_
    first | refine w_gr (j := 56) rfl rfl (by first | assumption | rfl) (by first | assumption | rfl) rfl ?_ | refine w_gi (j := 56) rfl rfl (by first | assumption | rfl) (by first | assumption | rfl) rfl e4 ?_
    refine w_bi (j := 57) (a := nI 6) rfl rfl (by decide) ?_
    first | refine w_add0 (j := 58) rfl rfl ?_ | refine w_addN (j := 58) rfl rfl ?_ | refine w_add (j := 58) rfl rfl ?_
    refine w_cvI (j := 59) rfl rfl rfl rfl (by first | assumption | rfl) rfl rfl (S6) rfl ?_
    refine w_bi (j := 60) (a := nI 116) rfl rfl (by decide) ?_
    refine w_neN (j := 61) rfl rfl (by omega) (by omega) (fun d3 => ?_) (fun d3 => ?_)
    · exact no (fun z => d3 (z.2 6 (by decide)))
    refine w_al (j := 62) rfl rfl rfl ?_
    refine w_al (j := 63) rfl rfl rfl ?_
    first | refine w_gr (j := 64) rfl rfl (by first | assumption | rfl) (by first | assumption | rfl) rfl ?_ | refine w_gi (j := 64) rfl rfl (by first | assumption | rfl) (by first | assumption | rfl) rfl e4 ?_
    refine w_bi (j := 65) (a := nI 7) rfl rfl (by decide) ?_
    first | refine w_add0 (j := 66) rfl rfl ?_ | refine w_addN (j := 66) rfl rfl ?_ | refine w_add (j := 66) rfl rfl ?_
    refine w_cvI (j := 67) rfl rfl rfl rfl (by first | assumption | rfl) rfl rfl (S7) rfl ?_
    refine w_bi (j := 68) (a := nI 104) rfl rfl (by decide) ?_
    refine w_neN (j := 69) rfl rfl (by omega) (by omega) (fun d4 => ?_) (fun d4 => ?_)
    · exact no (fun z => d4 (z.2 7 (by decide)))
    have yes : gx_is tx s e [115, 116, 114, 101, 110, 103, 116, 104] := by
      rw [cw] at d2
      obtain ⟨-, z2⟩ := gx_cinj 6 6 (fun i hi => of_decide_eq_true (s3 (s + i) (by omega) (by omega))) (fun i hi => by
        obtain rfl | rfl | rfl | rfl | rfl | rfl : i = 0 ∨ i = 1 ∨ i = 2 ∨ i = 3 ∨ i = 4 ∨ i = 5 := by omega
        all_goals decide) d2
      refine ⟨d1, fun i hi => ?_⟩
      have hi : i < 8 := hi
      obtain rfl | rfl | rfl | rfl | rfl | rfl | rfl | rfl : i = 0 ∨ i = 1 ∨ i = 2 ∨ i = 3 ∨ i = 4 ∨ i = 5 ∨ i = 6 ∨ i = 7 := by omega
      · exact z2 0 (by decide)
      · exact z2 1 (by decide)
      · exact z2 2 (by decide)
      · exact z2 3 (by decide)
      · exact z2 4 (by decide)
      · exact z2 5 (by decide)
      · exact d3
      · exact d4
    refine w_ic (n := 1) (j := 70) rfl rfl ?_
    refine w_go rfl ?_
    refine w_is (j := 73) rfl rfl rfl ?_
    refine w_il (j := 74) rfl rfl rfl ?_
    refine w_eqM (j := 75) rfl rfl (by omega) (fun c => absurd c (fun c => by omega)) (fun _ => ?_)
    refine w_al (j := 76) rfl rfl rfl ?_
    refine w_cvPU (j := 77) rfl rfl rfl rfl (by first | assumption | rfl) rfl rfl (sp_169 q3) rfl ?_
    rintro h3 ⟨u1, u2⟩
    rw [hE] at u2
    refine w_il (j := 78) rfl rfl rfl ?_
    refine w_irB rfl (by first | exact Or.inl rfl | exact Or.inr rfl | exact px_b01 _) ?_
    exact ⟨_, _, rfl, true, rfl, ⟨fun _ => yes, fun _ => rfl⟩, q2.tr u1, u2⟩
theorem sp_174 : px_V 1 174 [.ref 100] h (some (.int (h 100 5 - nI 10))) (ix_up h 100 3 (h 100 6)) := by
  have e5 : ix_up h 100 3 (h 100 6) 100 5 = h 100 5 := by rw [px_up_nk (by decide)]
  refine px_M (M := mt_174) (ops := mo_174) tb_174 rfl rfl rfl rfl rfl ?_
  refine w_al (j := 1) rfl rfl rfl ?_
  refine w_al (j := 2) rfl rfl rfl ?_
  first | refine w_gr (j := 3) rfl rfl (by first | assumption | rfl) (by first | assumption | rfl) rfl ?_ | refine w_gi (j := 3) rfl rfl (by first | assumption | rfl) (by first | assumption | rfl) rfl rfl ?_
  refine w_pf (j := 4) rfl rfl (by first | assumption | rfl) (by first | assumption | rfl) rfl ?_
  refine w_al (j := 5) rfl rfl rfl ?_
  first | refine w_gr (j := 6) rfl rfl (by first | assumption | rfl) (by first | assumption | rfl) rfl ?_ | refine w_gi (j := 6) rfl rfl (by first | assumption | rfl) (by first | assumption | rfl) rfl e5 ?_
  refine w_bi (j := 7) (a := nI 10) rfl rfl (by decide) ?_
  refine w_sub (j := 8) rfl rfl ?_
  refine w_ir rfl ?_
  rfl
end MR
