def pf_sA (h : ix_H) (cs : List (Nat × Nat)) (c b : Nat) : Nat → Int32
  | 0 => h 7 c
  | k + 1 => pf_sA h cs c b k - pf_li cs (h 4 b) (nI 0) (pf_bt (h 64 4) b) (pf_sA h cs c b k) (h 6 c) (nI k) (nI b) (nI k)
theorem pf_sA_kp {h h' : ix_H} {cs : List (Nat × Nat)} {c b : Nat} (k : px_kp h h') : ∀ a, pf_sA h' cs c b a = pf_sA h cs c b a
  | 0 => by rw [pf_sA, pf_sA, k.1 7 (by decide)]
  | a + 1 => by rw [pf_sA, pf_sA, pf_sA_kp k a, k.1 4 (by decide), k.1 64 (by decide), k.1 6 (by decide)]
theorem pf_sAN {h : ix_H} {cs : List (Nat × Nat)} {c b q : Nat} (hq : q ≤ 99) (e : h 7 c = nI q) : ∀ a, ∃ q', q' ≤ 99 ∧ pf_sA h cs c b a = nI q'
  | 0 => ⟨q, hq, e⟩
  | a + 1 => by
    obtain ⟨q', h1, h2⟩ := pf_sAN hq e a
    obtain ⟨l, hl, el⟩ := pf_li_le (cs := cs) (f := h 4 b) (m := nI 0) (t := pf_bt (h 64 4) b) (p := h 6 c) (a := nI a) (b := nI b) (y := nI a) h1
    refine ⟨q' - l, by omega, ?_⟩
    rw [pf_sA, h2, el, px_nsub hl]
def pf_fit (h : ix_H) (cs : List (Nat × Nat)) (L c b : Nat) : Bool := decide (∀ k, k < L → pf_sA h cs c b (h 52 k).toNatClampNeg = h 53 k)
theorem pf_fit_kp {h h' : ix_H} {cs : List (Nat × Nat)} {L c b : Nat} (k : px_kp h h') : pf_fit h' cs L c b = pf_fit h cs L c b := by
  unfold pf_fit
  rw [k.1 52 (by decide), k.1 53 (by decide)]
  exact px_dec_congr ⟨fun q j hj => by rw [← pf_sA_kp k]; exact q j hj, fun q j hj => by rw [pf_sA_kp k]; exact q j hj⟩
def pf_cnt (P : Nat → Bool) : Nat → Nat
  | 0 => 0
  | n + 1 => pf_cnt P n + (if P n = true then 1 else 0)
theorem pf_cnt_le (P : Nat → Bool) : ∀ n, pf_cnt P n ≤ n
  | 0 => Nat.le_refl _
  | n + 1 => by rw [pf_cnt]; have := pf_cnt_le P n; split <;> omega
theorem pf_cnt_all {P : Nat → Bool} : ∀ n, pf_cnt P n = n → ∀ k, k < n → P k = true
  | 0, _, k, hk => by omega
  | n + 1, e, k, hk => by
    rw [pf_cnt] at e
    have := pf_cnt_le P n
    by_cases hp : P n = true
    · rw [if_pos hp] at e
      by_cases hkn : k = n
      · rw [hkn]; exact hp
      · exact pf_cnt_all n (by omega) k (by omega)
    · rw [if_neg hp] at e; omega
theorem pf_cnt_0 {P : Nat → Bool} : ∀ n, (∀ k, k < n → P k = false) → pf_cnt P n = 0
  | 0, _ => rfl
  | n + 1, hh => by rw [pf_cnt, pf_cnt_0 n (fun k hk => hh k (by omega)), hh n (by omega)]; rfl
theorem pf_cnt_1 {P : Nat → Bool} : ∀ n k, k < n → P k = true → (∀ j, j < n → P j = true → j = k) → pf_cnt P n = 1
  | 0, k, hk, _, _ => by omega
  | n + 1, k, hk, hp, hu => by
    rw [pf_cnt]
    by_cases hkn : k = n
    · subst hkn
      rw [if_pos hp, pf_cnt_0 k (fun j hj => ?_)]
      cases hj2 : P j with
      | false => rfl
      | true => have := hu j (by omega) hj2; omega
    · rw [pf_cnt_1 n k (by omega) hp (fun j hj => hu j (by omega)), if_neg (fun q => hkn (hu n (by omega) q).symm)]
theorem pf_cnt_s (e : Nat → Nat) (a : Nat) : ∀ n, pf_cnt (fun k => decide (e k < a + 1)) n = pf_cnt (fun k => decide (e k < a)) n + pf_cnt (fun k => decide (e k = a)) n
  | 0 => rfl
  | n + 1 => by
    rw [pf_cnt, pf_cnt, pf_cnt, pf_cnt_s e a n]
    simp only [decide_eq_true_eq]
    by_cases h1 : e n < a
    · rw [if_pos h1, if_pos (by omega), if_neg (by omega)]; omega
    · by_cases h2 : e n = a
      · rw [if_neg h1, if_pos (by omega), if_pos h2]; omega
      · rw [if_neg h1, if_neg (by omega), if_neg h2]; omega
def px_Hd (x : Nat) : Prop := ix_sh x = (5, 2, 0) ∧ ix_rf x = [some (x + 1), some (x + 2), none] ∧ ix_sh (x + 1) = (1, 6, 0) ∧ ix_sh (x + 2) = (1, 6, 0)
theorem px_Hd51 : px_Hd 51 := by unfold px_Hd; decide
theorem px_Hd54 : px_Hd 54 := by unfold px_Hd; decide
section GU
variable {h : ix_H} {B N T L W I t : Nat} {cs : List (Nat × Nat)}
theorem sp_11 {x : Nat} {a : Int32} (hx : px_Hd x) (hL : h x 2 = nI L) (hL6 : L ≤ 6) : px_PI 1 11 [.ref x, .int a] h (fun v h1 => h1 = h ∧ ((∃ k, k < L ∧ h (x + 1) k = a ∧ v = h (x + 2) k ∧ ∀ j, j < k → h (x + 1) j ≠ a) ∨ (v = -1 ∧ ∀ k, k < L → h (x + 1) k ≠ a))) := by
  obtain ⟨x1, x2, x3, x4⟩ := hx
  refine px_M (M := mt_11) (ops := mo_11) tb_11 rfl rfl rfl rfl rfl ?_
  refine w_ic (n := 0) (j := 1) rfl rfl ?_
  refine w_is (j := 2) rfl rfl rfl ?_
  refine px_forI (fun k ls h1 => h1 = h ∧ ls = [.ref x, .int a, .int (nI k)] ∧ ∀ j, j < k → h (x + 1) j ≠ a) L ?_ ?_ ⟨rfl, rfl, fun j hj => by omega⟩
  · rintro k _ h1 hk ⟨rfl, rfl, hj⟩ H
    refine w_il (j := 3) rfl rfl rfl ?_
    refine w_al (j := 4) rfl rfl rfl ?_
    first | refine w_gr (j := 5) rfl rfl (by first | assumption | rfl) (by first | assumption | rfl) rfl ?_ | refine w_gi (j := 5) rfl rfl (by first | assumption | rfl) (by first | assumption | rfl) rfl hL ?_
    refine w_geN (j := 6) rfl rfl (by omega) (by omega) (fun c => absurd c (fun c => by omega)) (fun _ => ?_)
    refine w_al (j := 7) rfl rfl rfl ?_
    first | refine w_gr (j := 8) rfl rfl (by first | assumption | rfl) (by first | assumption | rfl) rfl ?_ | refine w_gi (j := 8) rfl rfl (by first | assumption | rfl) (by first | assumption | rfl) rfl rfl ?_
    refine w_il (j := 9) rfl rfl rfl ?_
    refine w_ial (j := 10) rfl rfl (by first | assumption | rfl) rfl (by omega) rfl rfl ?_
    refine w_il (j := 11) rfl rfl rfl ?_
    refine w_ne (j := 12) rfl rfl (fun c1 => ?_) (fun c1 => ?_)
    ·
      first | refine w_incN (j := 18) rfl rfl rfl ?_ | refine w_inc (j := 18) rfl rfl rfl rfl ?_
      refine w_go rfl ?_
      refine H _ _ ⟨rfl, rfl, fun j hj2 => ?_⟩
      by_cases e : j = k
      · rw [e]; exact c1
      · exact hj j (by omega)
    ·
      refine w_al (j := 13) rfl rfl rfl ?_
      first | refine w_gr (j := 14) rfl rfl (by first | assumption | rfl) (by first | assumption | rfl) rfl ?_ | refine w_gi (j := 14) rfl rfl (by first | assumption | rfl) (by first | assumption | rfl) rfl rfl ?_
      refine w_il (j := 15) rfl rfl rfl ?_
      refine w_ial (j := 16) rfl rfl (by first | assumption | rfl) rfl (by omega) rfl rfl ?_
      refine w_ir rfl ?_
      exact ⟨_, _, rfl, rfl, Or.inl ⟨k, hk, c1, rfl, hj⟩⟩
  · rintro _ h1 ⟨rfl, rfl, hj⟩
    refine w_il (j := 3) rfl rfl rfl ?_
    refine w_al (j := 4) rfl rfl rfl ?_
    first | refine w_gr (j := 5) rfl rfl (by first | assumption | rfl) (by first | assumption | rfl) rfl ?_ | refine w_gi (j := 5) rfl rfl (by first | assumption | rfl) (by first | assumption | rfl) rfl hL ?_
    refine w_geN (j := 6) rfl rfl (by omega) (by omega) (fun _ => ?_) (fun c => absurd c (fun c => by omega))
    refine w_im (j := 20) rfl rfl ?_
    refine w_ir rfl ?_
    exact ⟨_, _, rfl, rfl, Or.inr ⟨rfl, hj⟩⟩
theorem sp_5 {h1 : ix_H} {c b k : Nat} {s : Int32} (hI : px_I h B N T cs L W I t) (k1 : px_kp h h1) (e4 : h1 86 4 = h 64 4) (hc : c < N) (hb : b < B) : px_PI 5 5 [.ref 81, .int (nI c), .int (nI b), .int s, .int (nI k)] h1 (fun v h2 => v = s - pf_li cs (h 4 b) (nI 0) (pf_bt (h 64 4) b) s (h 6 c) (nI k) (nI b) (nI k) ∧ px_fr [42, 45, 86, 87, 88] h1 h2 ∧ h2 86 4 = h 64 4) := by
  have I1 := hI.kp k1
  obtain ⟨⟨l1, l2, l3, l4, l5, l6, l7, l8, l9⟩, lw, -, nw, -⟩ := I1
  have F : px_fr [42, 45, 86, 87, 88] h1 (ix_up (ix_up (ix_up h1 87 c s) 88 c (nI k)) 86 6 (nI k)) := by
    repeat first | exact px_fr.rf | refine px_fr.up ?_ (by decide)
  refine px_M (M := mt_5) (ops := mo_5) tb_5 rfl rfl rfl rfl rfl ?_
  refine w_al (j := 1) rfl rfl rfl ?_
  first | refine w_gr (j := 2) rfl rfl (by first | assumption | rfl) (by first | assumption | rfl) rfl ?_ | refine w_gi (j := 2) rfl rfl (by first | assumption | rfl) (by first | assumption | rfl) rfl rfl ?_
  first | refine w_gr (j := 3) rfl rfl (by first | assumption | rfl) (by first | assumption | rfl) rfl ?_ | refine w_gi (j := 3) rfl rfl (by first | assumption | rfl) (by first | assumption | rfl) rfl rfl ?_
  refine w_il (j := 4) rfl rfl rfl ?_
  refine w_il (j := 5) rfl rfl rfl ?_
  refine w_ias (j := 6) rfl rfl (by first | assumption | rfl) rfl (by omega) rfl ?_
  refine w_al (j := 7) rfl rfl rfl ?_
  first | refine w_gr (j := 8) rfl rfl (by first | assumption | rfl) (by first | assumption | rfl) rfl ?_ | refine w_gi (j := 8) rfl rfl (by first | assumption | rfl) (by first | assumption | rfl) rfl rfl ?_
  first | refine w_gr (j := 9) rfl rfl (by first | assumption | rfl) (by first | assumption | rfl) rfl ?_ | refine w_gi (j := 9) rfl rfl (by first | assumption | rfl) (by first | assumption | rfl) rfl rfl ?_
  refine w_il (j := 10) rfl rfl rfl ?_
  refine w_iL (j := 11) rfl rfl rfl ?_
  refine w_ias (j := 12) rfl rfl (by first | assumption | rfl) rfl (by omega) rfl ?_
  refine w_al (j := 13) rfl rfl rfl ?_
  first | refine w_gr (j := 14) rfl rfl (by first | assumption | rfl) (by first | assumption | rfl) rfl ?_ | refine w_gi (j := 14) rfl rfl (by first | assumption | rfl) (by first | assumption | rfl) rfl rfl ?_
  refine w_iL (j := 15) rfl rfl rfl ?_
  refine w_pf (j := 16) rfl rfl (by first | assumption | rfl) (by first | assumption | rfl) rfl ?_
  refine w_il (j := 17) rfl rfl rfl ?_
  refine w_al (j := 18) rfl rfl rfl ?_
  first | refine w_gr (j := 19) rfl rfl (by first | assumption | rfl) (by first | assumption | rfl) rfl ?_ | refine w_gi (j := 19) rfl rfl (by first | assumption | rfl) (by first | assumption | rfl) rfl rfl ?_
  refine w_al (j := 20) rfl rfl rfl ?_
  first | refine w_gr (j := 21) rfl rfl (by first | assumption | rfl) (by first | assumption | rfl) rfl ?_ | refine w_gi (j := 21) rfl rfl (by first | assumption | rfl) (by first | assumption | rfl) rfl rfl ?_
  refine w_il (j := 22) rfl rfl rfl ?_
  refine w_il (j := 23) rfl rfl rfl ?_
  refine w_ic (n := 0) (j := 24) rfl rfl ?_
  refine w_cvPI (j := 25) rfl rfl rfl rfl (by first | assumption | rfl) rfl rfl (sp_70 px_St86 (by omega) (by omega) (lw.1.fr F (by decide)) lw.2.2) rfl ?_
  rintro v h9 ⟨e1, f1⟩
  refine w_sub (j := 26) rfl rfl ?_
  refine w_ir rfl ?_
  have q4 : ix_up (ix_up (ix_up h1 87 c s) 88 c (nI k)) 86 6 (nI k) 86 4 = h 64 4 := by rw [px_up_nk (by decide), px_up_na (by decide), px_up_na (by decide)]; exact e4
  refine ⟨_, _, rfl, ?_, F.tr (f1.sub (by decide)), by rw [f1 86 (by decide)]; exact q4⟩
  rw [e1, q4, F 4 (by decide), F 6 (by decide), k1.1 4 (by decide), k1.1 6 (by decide)]
  have z1 : ix_up (ix_up (ix_up h1 87 c s) 88 c (nI k)) 86 6 (nI k) (86 + 1) c = s := by rw [px_up_na (by decide), px_up_na (by decide), px_up_at]
  have z2 : ix_up (ix_up (ix_up h1 87 c s) 88 c (nI k)) 86 6 (nI k) (86 + 2) c = nI k := by rw [px_up_na (by decide), px_up_at]
  rw [z1, z2, px_up_at]
theorem px_lage (ln : px_line h L) {k : Nat} (hk : k < L) : h 52 k = nI (h 52 k).toNatClampNeg ∧ (h 52 k).toNatClampNeg ≤ 40 := by
  obtain ⟨q, hq, e⟩ := (ln.2.2.2.1 k hk).2.2.1
  rw [e, nI_clamp (by omega)]
  exact ⟨rfl, hq⟩
def pf_ca (h : ix_H) (L a : Nat) : Nat := pf_cnt (fun k => decide ((h 52 k).toNatClampNeg < a)) L
theorem pf_ca_told {a k : Nat} (ln : px_line h L) (hk : k < L) (e : h 52 k = nI a) (ha : a ≤ 40) : pf_ca h L (a + 1) = pf_ca h L a + 1 := by
  unfold pf_ca
  rw [pf_cnt_s]
  congr 1
  refine pf_cnt_1 L k hk (decide_eq_true (by rw [e, nI_clamp (by omega)])) (fun j hj hp => ?_)
  have hp := of_decide_eq_true hp
  have e2 : h 52 j = h 52 k := by rw [(px_lage ln hj).1, hp, e]
  rcases Nat.lt_trichotomy j k with z | z | z
  · exact absurd e2 (ln.2.2.2.2 j k z hk)
  · exact z
  · exact absurd e2.symm (ln.2.2.2.2 k j z hj)
theorem pf_ca_not {a : Nat} (ln : px_line h L) (e : ∀ k, k < L → h 52 k ≠ nI a) : pf_ca h L (a + 1) = pf_ca h L a := by
  unfold pf_ca
  rw [pf_cnt_s, pf_cnt_0 (P := fun k => decide ((h 52 k).toNatClampNeg = a)) L (fun k hk => decide_eq_false (fun q => e k hk (by rw [← q]; exact (px_lage ln hk).1)))]
  rfl
theorem sp_4 {h1 : ix_H} {c b : Nat} (hI : px_I h B N T cs L W I t) (k1 : px_kp h h1) (e4 : h1 86 4 = h 64 4) (hc : c < N) (hb : b < B) : px_PI 6 4 [.ref 81, .int (nI c), .int (nI b), .ref 51] h1 (fun v h2 => v = px_b (pf_fit h cs L c b) ∧ px_fr [42, 45, 86, 87, 88] h1 h2 ∧ h2 86 4 = h 64 4) := by
  have hI' := hI
  obtain ⟨⟨l1, l2, l3, l4, l5, l6, l7, l8, l9⟩, lw, ln, nw, -⟩ := hI
  have L6 := ln.1
  have e7 : h1 7 c = h 7 c := by rw [k1.1 7 (by decide)]
  have z0 : pf_ca h L 0 = 0 := pf_cnt_0 L (fun k _ => decide_eq_false (Nat.not_lt_zero _))
  refine px_M (M := mt_4) (ops := mo_4) tb_4 rfl rfl rfl rfl rfl ?_
  refine w_al (j := 1) rfl rfl rfl ?_
  first | refine w_gr (j := 2) rfl rfl (by first | assumption | rfl) (by first | assumption | rfl) rfl ?_ | refine w_gi (j := 2) rfl rfl (by first | assumption | rfl) (by first | assumption | rfl) rfl rfl ?_
  first | refine w_gr (j := 3) rfl rfl (by first | assumption | rfl) (by first | assumption | rfl) rfl ?_ | refine w_gi (j := 3) rfl rfl (by first | assumption | rfl) (by first | assumption | rfl) rfl rfl ?_
  refine w_il (j := 4) rfl rfl rfl ?_
  refine w_ial (j := 5) rfl rfl (by first | assumption | rfl) rfl (by omega) rfl e7 ?_
  refine w_iS (j := 6) rfl rfl rfl ?_
  refine w_ic (n := 0) (j := 7) rfl rfl ?_
  refine w_iS (j := 8) rfl rfl rfl ?_
  refine w_ic (n := 0) (j := 9) rfl rfl ?_
  refine w_iS (j := 10) rfl rfl rfl ?_
  refine px_forI (fun a ls h2 => (∃ g, ls = [.ref 81, .int (nI c), .int (nI b), .ref 51, .int (pf_sA h cs c b a), .int (nI (pf_ca h L a)), .int (nI a), g]) ∧ px_fr [42, 45, 86, 87, 88] h1 h2 ∧ h2 86 4 = h 64 4 ∧ ∀ k, k < L → (h 52 k).toNatClampNeg < a → pf_sA h cs c b (h 52 k).toNatClampNeg = h 53 k) 41 ?_ ?_ ⟨⟨_, by rw [z0]; rfl⟩, px_fr.rf, e4, fun k _ hk => by omega⟩
  · rintro a _ h2 ha ⟨⟨g, rfl⟩, fr, e42, al⟩ H
    have k2 := k1.fr fr (by decide)
    have I2 := hI'.kp k2
    have ln2 := I2.2.2.1
    have cl := pf_cnt_le (fun k => decide ((h 52 k).toNatClampNeg < a)) L
    have cl : pf_ca h L a ≤ L := cl
    have eL : h2 51 2 = nI L := ln2.2.1
    refine w_iL (j := 11) rfl rfl rfl ?_
    refine w_bi (j := 12) (a := nI 40) rfl rfl (by decide) ?_
    refine w_gtN (j := 13) rfl rfl (by omega) (by omega) (fun c => absurd c (fun c => by omega)) (fun _ => ?_)
    refine w_iL (j := 14) rfl rfl rfl ?_
    refine w_al (j := 15) rfl rfl rfl ?_
    first | refine w_gr (j := 16) rfl rfl (by first | assumption | rfl) (by first | assumption | rfl) rfl ?_ | refine w_gi (j := 16) rfl rfl (by first | assumption | rfl) (by first | assumption | rfl) rfl eL ?_
    refine w_geN (j := 17) rfl rfl (by omega) (by omega) (fun d1 => ?_) (fun d1 => ?_)
    ·
      refine w_ic (n := 1) (j := 48) rfl rfl ?_
      refine w_irB rfl (by first | exact Or.inl rfl | exact Or.inr rfl | exact px_b01 _) ?_
      refine ⟨_, _, rfl, ?_, fr, e42⟩
      rw [show pf_fit h cs L c b = true from decide_eq_true (fun k hk => al k hk (of_decide_eq_true (pf_cnt_all L (show pf_ca h L a = L by omega) k hk)))]
      rfl
    have e52 := k2.1 52 (by decide)
    have e53 := k2.1 53 (by decide)
    have nxt : ∀ h3 g, px_fr [42, 45, 86, 87, 88] h1 h3 → h3 86 4 = h 64 4 → (∀ k, k < L → (h 52 k).toNatClampNeg < a + 1 → pf_sA h cs c b (h 52 k).toNatClampNeg = h 53 k) → px_R px_E 5 mo_4 [] 37 [.ref 81, .int (nI c), .int (nI b), .ref 51, .int (pf_sA h cs c b a), .int (nI (pf_ca h L a)), .int (nI a), g] [.int (nI (pf_ca h L (a + 1)))] h3 0 (fun r => ∃ v h', r = (.inl (some (.int v)), h', 0) ∧ v = px_b (pf_fit h cs L c b) ∧ px_fr [42, 45, 86, 87, 88] h1 h' ∧ h' 86 4 = h 64 4) := by
      intro h3 g fr3 e43 al3
      refine w_iS (j := 38) rfl rfl rfl ?_
      refine w_al (j := 39) rfl rfl rfl ?_
      refine w_il (j := 40) rfl rfl rfl ?_
      refine w_il (j := 41) rfl rfl rfl ?_
      refine w_iL (j := 42) rfl rfl rfl ?_
      refine w_iL (j := 43) rfl rfl rfl ?_
      refine w_cvPI (j := 44) rfl rfl rfl rfl (by first | assumption | rfl) rfl rfl (sp_5 hI' (k1.fr fr3 (by decide)) e43 hc hb) rfl ?_
      rintro v h4 ⟨q1, q2, q3⟩
      subst q1
      refine w_iS (j := 45) rfl rfl rfl ?_
      first | refine w_incN (j := 46) rfl rfl rfl ?_ | refine w_inc (j := 46) rfl rfl rfl rfl ?_
      refine w_go rfl ?_
      exact H _ _ ⟨⟨_, rfl⟩, fr3.tr q2, q3, al3⟩
    refine w_al (j := 18) rfl rfl rfl ?_
    refine w_iL (j := 19) rfl rfl rfl ?_
    refine w_cvPI (j := 20) rfl rfl rfl rfl (by first | assumption | rfl) rfl rfl (sp_11 px_Hd51 eL L6) rfl ?_
    rintro v h3 ⟨q1, q2⟩
    subst q1
    rw [show h3 (51 + 1) = h 52 from e52, show h3 (51 + 2) = h 53 from e53] at q2
    rcases q2 with ⟨k, hk, q3, q4, -⟩ | ⟨q3, q4⟩
    · obtain ⟨s0, hs0, es0⟩ := (ln.2.2.2.1 k hk).2.2.2
      have vn : v ≠ -1 := by rw [q4, es0]; exact px_nm1 (by omega)
      have ek : (h 52 k).toNatClampNeg = a := by rw [q3, nI_clamp (by omega)]
      refine w_iS (j := 21) rfl rfl rfl ?_
      refine w_iL (j := 22) rfl rfl rfl ?_
      refine w_im (j := 23) rfl rfl ?_
      refine w_eq (j := 24) rfl rfl (fun c => absurd c (fun q => vn q)) (fun _ => ?_)
      refine w_iL (j := 25) rfl rfl rfl ?_
      refine w_iL (j := 26) rfl rfl rfl ?_
      refine w_eq (j := 27) rfl rfl (fun d2 => ?_) (fun d2 => ?_)
      rotate_left
      ·
        refine w_ic (n := 0) (j := 28) rfl rfl ?_
        refine w_irB rfl (by first | exact Or.inl rfl | exact Or.inr rfl | exact px_b01 _) ?_
        refine ⟨_, _, rfl, ?_, fr, e42⟩
        rw [show pf_fit h cs L c b = false from decide_eq_false (fun q => d2 (by rw [q4, ← q k hk, ek]))]
        rfl
      refine w_iL (j := 30) rfl rfl rfl ?_
      refine w_iL (j := 31) rfl rfl rfl ?_
      refine w_im (j := 32) rfl rfl ?_
      refine w_ne (j := 33) rfl rfl (fun _ => ?_) (fun c => absurd c (fun q => vn q))
      refine w_ic (n := 1) (j := 36) rfl rfl ?_
      refine w_addN (j := 37) rfl rfl ?_
      rw [← pf_ca_told ln hk q3 (by omega)]
      refine nxt _ _ fr e42 (fun k' hk' hl => ?_)
      by_cases hka : (h 52 k').toNatClampNeg = a
      · have e2 : h 52 k' = h 52 k := by rw [(px_lage ln hk').1, hka, q3]
        have : k' = k := by
          rcases Nat.lt_trichotomy k' k with z | z | z
          · exact absurd e2 (ln.2.2.2.2 k' k z hk)
          · exact z
          · exact absurd e2.symm (ln.2.2.2.2 k k' z hk')
        rw [this, ek, ← d2, q4]
      · exact al k' hk' (by omega)
    · subst q3
      refine w_iS (j := 21) rfl rfl rfl ?_
      refine w_iL (j := 22) rfl rfl rfl ?_
      refine w_im (j := 23) rfl rfl ?_
      refine w_eq (j := 24) rfl rfl (fun _ => ?_) (fun c => absurd c (fun q => q rfl))
      refine w_iL (j := 30) rfl rfl rfl ?_
      refine w_iL (j := 31) rfl rfl rfl ?_
      refine w_im (j := 32) rfl rfl ?_
      refine w_ne (j := 33) rfl rfl (fun c => absurd c (fun q => q rfl)) (fun _ => ?_)
      refine w_ic (n := 0) (j := 34) rfl rfl ?_
      refine w_go rfl ?_
      refine w_addN (j := 37) rfl rfl ?_
      rw [Nat.add_zero]
      rw [pf_ca_not ln q4] at nxt
      refine nxt _ _ fr e42 (fun k' hk' hl => ?_)
      refine al k' hk' ?_
      have := (px_lage ln hk').1
      by_cases hka : (h 52 k').toNatClampNeg = a
      · rw [hka] at this; exact absurd this (q4 k' hk')
      · omega
  · rintro _ h2 ⟨⟨g, rfl⟩, fr, e42, al⟩
    have cl : pf_ca h L 41 ≤ L := pf_cnt_le _ L
    refine w_iL (j := 11) rfl rfl rfl ?_
    refine w_bi (j := 12) (a := nI 40) rfl rfl (by decide) ?_
    refine w_gtN (j := 13) rfl rfl (by omega) (by omega) (fun _ => ?_) (fun c => absurd c (fun c => by omega))
    refine w_ic (n := 1) (j := 48) rfl rfl ?_
    refine w_irB rfl (by first | exact Or.inl rfl | exact Or.inr rfl | exact px_b01 _) ?_
    refine ⟨_, _, rfl, ?_, fr, e42⟩
    rw [show pf_fit h cs L c b = true from decide_eq_true (fun k hk => al k hk (by have := (px_lage ln hk).2; omega))]
    rfl
def pf_pl1 (G : Nat → Nat → Bool) (c : Nat) (n : Nat) (l : List (Nat × Nat)) : List (Nat × Nat) := px_fold (fun b l => if G c b = true then l ++ [(c, b)] else l) n l
def pf_pl (G : Nat → Nat → Bool) (B n : Nat) : List (Nat × Nat) := px_fold (fun c l => pf_pl1 G c B l) n []
theorem pf_pl1_s {G : Nat → Nat → Bool} {c n : Nat} {l : List (Nat × Nat)} : pf_pl1 G c (n + 1) l = if G c n = true then pf_pl1 G c n l ++ [(c, n)] else pf_pl1 G c n l := rfl
theorem pf_pl_s {G : Nat → Nat → Bool} {n : Nat} : pf_pl G B (n + 1) = pf_pl1 G n B (pf_pl G B n) := rfl
theorem pf_pl1_len {G : Nat → Nat → Bool} {c : Nat} {l : List (Nat × Nat)} : ∀ n, (pf_pl1 G c n l).length ≤ l.length + n
  | 0 => Nat.le_refl _
  | n + 1 => by
    have := pf_pl1_len (G := G) (c := c) (l := l) n
    rw [pf_pl1_s]
    split
    · rw [List.length_append, List.length_singleton]; omega
    · omega
theorem pf_pl_len {G : Nat → Nat → Bool} (hB : B ≤ 6) : ∀ n, (pf_pl G B n).length ≤ 6 * n
  | 0 => Nat.le_refl _
  | n + 1 => by
    have h1 := pf_pl_len (G := G) hB n
    have h2 := pf_pl1_len (G := G) (c := n) (l := pf_pl G B n) B
    rw [pf_pl_s]
    omega
theorem pf_pl1_mem {G : Nat → Nat → Bool} {c : Nat} {l : List (Nat × Nat)} : ∀ n p, p ∈ pf_pl1 G c n l → p ∈ l ∨ (p.1 = c ∧ p.2 < n)
  | 0, p, hp => Or.inl hp
  | n + 1, p, hp => by
    rw [pf_pl1_s] at hp
    split at hp
    · rcases List.mem_append.mp hp with q | q
      · rcases pf_pl1_mem n p q with z | z
        · exact Or.inl z
        · exact Or.inr ⟨z.1, by omega⟩
      · rw [List.mem_singleton] at q
        subst q
        exact Or.inr ⟨rfl, Nat.lt_succ_self n⟩
    · rcases pf_pl1_mem n p hp with z | z
      · exact Or.inl z
      · exact Or.inr ⟨z.1, by omega⟩
theorem pf_pl_mem {G : Nat → Nat → Bool} : ∀ n p, p ∈ pf_pl G B n → p.1 < n ∧ p.2 < B
  | 0, p, hp => by cases hp
  | n + 1, p, hp => by
    rw [pf_pl_s] at hp
    rcases pf_pl1_mem B p hp with q | q
    · have := pf_pl_mem n p q; exact ⟨by omega, this.2⟩
    · exact ⟨by omega, q.2⟩
theorem pf_pl_congr {G G' : Nat → Nat → Bool} (hG : G = G') {n : Nat} : pf_pl G B n = pf_pl G' B n := by rw [hG]
-- the class's pairs
def px_gl (h h2 : ix_H) (l : List (Nat × Nat)) : Prop := px_kp h h2 ∧ h2 86 4 = h 64 4 ∧ h2 81 7 = nI l.length ∧ ∀ i p, l[i]? = some p → h2 82 i = nI p.1 ∧ h2 83 i = nI p.2
theorem px_gla {h2 : ix_H} {l : List (Nat × Nat)} {c b : Nat} (R : px_gl h h2 l) : px_gl h (ix_up (ix_up (ix_up h2 82 l.length (nI c)) 83 l.length (nI b)) 81 7 (nI (l.length + 1))) (l ++ [(c, b)]) := by
  obtain ⟨k, e4, e7, ea⟩ := R
  refine ⟨((k.up (by decide) (fun e => absurd e (by decide))).up (by decide) (fun e => absurd e (by decide))).up (by decide) (fun e => absurd e (by decide)), ?_, ?_, fun i p hi => ?_⟩
  · rw [px_up_na (by decide), px_up_na (by decide), px_up_na (by decide)]; exact e4
  · rw [px_up_at, List.length_append, List.length_singleton]
  · have e82 : ix_up (ix_up (ix_up h2 82 l.length (nI c)) 83 l.length (nI b)) 81 7 (nI (l.length + 1)) 82 = upd (h2 82) l.length (nI c) := by rw [ix_up_ne (by decide), ix_up_ne (by decide), ix_up_eq]
    have e83 : ix_up (ix_up (ix_up h2 82 l.length (nI c)) 83 l.length (nI b)) 81 7 (nI (l.length + 1)) 83 = upd (h2 83) l.length (nI b) := by rw [ix_up_ne (by decide), ix_up_eq, ix_up_ne (by decide)]
    rw [e82, e83]
    by_cases hil : i < l.length
    · rw [List.getElem?_append_left hil] at hi
      rw [pk_un (by omega), pk_un (by omega)]
      exact ea i p hi
    · rw [List.getElem?_append_right (by omega)] at hi
      have : i = l.length := by
        rcases Nat.lt_or_ge (i - l.length) 1 with z | z
        · omega
        · rw [List.getElem?_eq_none (by simpa using z)] at hi; cases hi
      subst this
      rw [Nat.sub_self] at hi
      cases hi
      exact ⟨pk_us, pk_us⟩
theorem sp_3 (hI : px_I h B N T cs L W I t) : px_PU 7 3 [.ref 81, .ref 51, .ref 64] h (fun h2 => px_gl h h2 (pf_pl (pf_fit h cs L) B N)) := by
  have hI' := hI
  have l3 := hI.1.2.2.1
  have l6 := hI.1.2.2.2.2.2.1
  refine px_M (M := mt_3) (ops := mo_3) tb_3 rfl rfl rfl rfl rfl ?_
  refine w_al (j := 1) rfl rfl rfl ?_
  first | refine w_gr (j := 2) rfl rfl (by first | assumption | rfl) (by first | assumption | rfl) rfl ?_ | refine w_gi (j := 2) rfl rfl (by first | assumption | rfl) (by first | assumption | rfl) rfl rfl ?_
  refine w_al (j := 3) rfl rfl rfl ?_
  first | refine w_gr (j := 4) rfl rfl (by first | assumption | rfl) (by first | assumption | rfl) rfl ?_ | refine w_gi (j := 4) rfl rfl (by first | assumption | rfl) (by first | assumption | rfl) rfl rfl ?_
  refine w_pf (j := 5) rfl rfl (by first | assumption | rfl) (by first | assumption | rfl) rfl ?_
  refine w_al (j := 6) rfl rfl rfl ?_
  refine w_ic (n := 0) (j := 7) rfl rfl ?_
  refine w_pf (j := 8) rfl rfl (by first | assumption | rfl) (by first | assumption | rfl) rfl ?_
  refine w_ic (n := 0) (j := 9) rfl rfl ?_
  refine w_is (j := 10) rfl rfl rfl ?_
  refine px_forI (fun c ls h2 => (∃ g, ls = [.ref 81, .ref 51, .ref 64, .int (nI c), g]) ∧ px_gl h h2 (pf_pl (pf_fit h cs L) B c)) N ?_ ?_ ⟨⟨_, rfl⟩, (px_kp.rf.up (by decide) (by decide)).up (by decide) (by decide), rfl, rfl, fun i p hi => by simp [pf_pl, px_fold] at hi⟩
  · rintro c _ h2 hc ⟨⟨g, rfl⟩, R⟩ H
    have I2 := hI'.kp R.1
    have e7 := I2.1.2.2.2.1
    have len := pf_pl_len (G := pf_fit h cs L) l3 c
    rw [pf_pl_s] at H
    generalize pf_pl (pf_fit h cs L) B c = l at R H len
    refine w_il (j := 11) rfl rfl rfl ?_
    refine w_al (j := 12) rfl rfl rfl ?_
    first | refine w_gr (j := 13) rfl rfl (by first | assumption | rfl) (by first | assumption | rfl) rfl ?_ | refine w_gi (j := 13) rfl rfl (by first | assumption | rfl) (by first | assumption | rfl) rfl rfl ?_
    first | refine w_gr (j := 14) rfl rfl (by first | assumption | rfl) (by first | assumption | rfl) rfl ?_ | refine w_gi (j := 14) rfl rfl (by first | assumption | rfl) (by first | assumption | rfl) rfl e7 ?_
    refine w_geN (j := 15) rfl rfl (by omega) (by omega) (fun c => absurd c (fun c => by omega)) (fun _ => ?_)
    refine w_ic (n := 0) (j := 16) rfl rfl ?_
    refine w_iS (j := 17) rfl rfl rfl ?_
    refine px_forI (fun b ls h3 => ls = [.ref 81, .ref 51, .ref 64, .int (nI c), .int (nI b)] ∧ px_gl h h3 (pf_pl1 (pf_fit h cs L) c b l)) B ?_ ?_ ⟨rfl, R⟩
    · rintro b _ h3 hb ⟨rfl, R3⟩ H2
      have I3 := hI'.kp R3.1
      have e6 := I3.1.1
      have len2 := pf_pl1_len (G := pf_fit h cs L) (c := c) (l := l) b
      rw [pf_pl1_s] at H2
      generalize pf_pl1 (pf_fit h cs L) c b l = l2 at R3 H2 len2
      refine w_iL (j := 18) rfl rfl rfl ?_
      refine w_al (j := 19) rfl rfl rfl ?_
      first | refine w_gr (j := 20) rfl rfl (by first | assumption | rfl) (by first | assumption | rfl) rfl ?_ | refine w_gi (j := 20) rfl rfl (by first | assumption | rfl) (by first | assumption | rfl) rfl rfl ?_
      first | refine w_gr (j := 21) rfl rfl (by first | assumption | rfl) (by first | assumption | rfl) rfl ?_ | refine w_gi (j := 21) rfl rfl (by first | assumption | rfl) (by first | assumption | rfl) rfl e6 ?_
      refine w_geN (j := 22) rfl rfl (by omega) (by omega) (fun c => absurd c (fun c => by omega)) (fun _ => ?_)
      refine w_al (j := 23) rfl rfl rfl ?_
      refine w_il (j := 24) rfl rfl rfl ?_
      refine w_iL (j := 25) rfl rfl rfl ?_
      refine w_al (j := 26) rfl rfl rfl ?_
      refine w_cvPI (j := 27) rfl rfl rfl rfl (by first | assumption | rfl) rfl rfl (sp_4 hI' R3.1 R3.2.1 hc hb) rfl ?_
      rintro v h4 ⟨q1, q2, q3⟩
      have R4 : px_gl h h4 l2 := by
        obtain ⟨k, e4, e7, ea⟩ := R3
        exact ⟨k.fr q2 (by decide), q3, by rw [q2 81 (by decide)]; exact e7, fun i p hi => by rw [q2 82 (by decide), q2 83 (by decide)]; exact ea i p hi⟩
      subst q1
      cases hG : pf_fit h cs L c b with
      | false =>
        rw [hG, if_neg (by decide)] at H2
        refine w_eqB (j := 28) rfl rfl (fun _ => ?_) (fun c => absurd c (by simp))
        first | refine w_incN (j := 51) rfl rfl rfl ?_ | refine w_inc (j := 51) rfl rfl rfl rfl ?_
        refine w_go rfl ?_
        exact H2 _ _ ⟨rfl, R4⟩
      | true =>
        rw [hG, if_pos rfl] at H2
        have e81 := R4.2.2.1
        refine w_eqB (j := 28) rfl rfl (fun c => absurd c (by simp)) (fun _ => ?_)
        refine w_al (j := 29) rfl rfl rfl ?_
        first | refine w_gr (j := 30) rfl rfl (by first | assumption | rfl) (by first | assumption | rfl) rfl ?_ | refine w_gi (j := 30) rfl rfl (by first | assumption | rfl) (by first | assumption | rfl) rfl e81 ?_
        refine w_bi (j := 31) (a := nI 48) rfl rfl (by decide) ?_
        refine w_geN (j := 32) rfl rfl (by omega) (by omega) (fun c => absurd c (fun c => by omega)) (fun _ => ?_)
        refine w_al (j := 33) rfl rfl rfl ?_
        first | refine w_gr (j := 34) rfl rfl (by first | assumption | rfl) (by first | assumption | rfl) rfl ?_ | refine w_gi (j := 34) rfl rfl (by first | assumption | rfl) (by first | assumption | rfl) rfl rfl ?_
        refine w_al (j := 35) rfl rfl rfl ?_
        first | refine w_gr (j := 36) rfl rfl (by first | assumption | rfl) (by first | assumption | rfl) rfl ?_ | refine w_gi (j := 36) rfl rfl (by first | assumption | rfl) (by first | assumption | rfl) rfl e81 ?_
        refine w_il (j := 37) rfl rfl rfl ?_
        refine w_ias (j := 38) rfl rfl (by first | assumption | rfl) rfl (by omega) rfl ?_
        have e81' : ix_up h4 82 l2.length (nI c) 81 7 = nI l2.length := by rw [px_up_na (by decide)]; exact e81
        refine w_al (j := 39) rfl rfl rfl ?_
        first | refine w_gr (j := 40) rfl rfl (by first | assumption | rfl) (by first | assumption | rfl) rfl ?_ | refine w_gi (j := 40) rfl rfl (by first | assumption | rfl) (by first | assumption | rfl) rfl rfl ?_
        refine w_al (j := 41) rfl rfl rfl ?_
        first | refine w_gr (j := 42) rfl rfl (by first | assumption | rfl) (by first | assumption | rfl) rfl ?_ | refine w_gi (j := 42) rfl rfl (by first | assumption | rfl) (by first | assumption | rfl) rfl e81' ?_
        refine w_iL (j := 43) rfl rfl rfl ?_
        refine w_ias (j := 44) rfl rfl (by first | assumption | rfl) rfl (by omega) rfl ?_
        have e81'' : ix_up (ix_up h4 82 l2.length (nI c)) 83 l2.length (nI b) 81 7 = nI l2.length := by rw [px_up_na (by decide)]; exact e81'
        refine w_al (j := 45) rfl rfl rfl ?_
        first | refine w_dupr (j := 46) rfl rfl ?_ | refine w_dupi (j := 46) rfl rfl ?_
        first | refine w_gr (j := 47) rfl rfl (by first | assumption | rfl) (by first | assumption | rfl) rfl ?_ | refine w_gi (j := 47) rfl rfl (by first | assumption | rfl) (by first | assumption | rfl) rfl e81'' ?_
        refine w_ic (n := 1) (j := 48) rfl rfl ?_
        first | refine w_add0 (j := 49) rfl rfl ?_ | refine w_addN (j := 49) rfl rfl ?_ | refine w_add (j := 49) rfl rfl ?_
        refine w_pf (j := 50) rfl rfl (by first | assumption | rfl) (by first | assumption | rfl) rfl ?_
        first | refine w_incN (j := 51) rfl rfl rfl ?_ | refine w_inc (j := 51) rfl rfl rfl rfl ?_
        refine w_go rfl ?_
        exact H2 _ _ ⟨rfl, px_gla R4⟩
    · rintro _ h3 ⟨rfl, R3⟩
      have I3 := hI'.kp R3.1
      have e6 := I3.1.1
      refine w_iL (j := 18) rfl rfl rfl ?_
      refine w_al (j := 19) rfl rfl rfl ?_
      first | refine w_gr (j := 20) rfl rfl (by first | assumption | rfl) (by first | assumption | rfl) rfl ?_ | refine w_gi (j := 20) rfl rfl (by first | assumption | rfl) (by first | assumption | rfl) rfl rfl ?_
      first | refine w_gr (j := 21) rfl rfl (by first | assumption | rfl) (by first | assumption | rfl) rfl ?_ | refine w_gi (j := 21) rfl rfl (by first | assumption | rfl) (by first | assumption | rfl) rfl e6 ?_
      refine w_geN (j := 22) rfl rfl (by omega) (by omega) (fun _ => ?_) (fun c => absurd c (fun c => by omega))
      first | refine w_incN (j := 53) rfl rfl rfl ?_ | refine w_inc (j := 53) rfl rfl rfl rfl ?_
      refine w_go rfl ?_
      exact H _ _ ⟨⟨_, rfl⟩, R3⟩
  · rintro _ h2 ⟨⟨g, rfl⟩, R⟩
    have I2 := hI'.kp R.1
    have e7 := I2.1.2.2.2.1
    refine w_il (j := 11) rfl rfl rfl ?_
    refine w_al (j := 12) rfl rfl rfl ?_
    first | refine w_gr (j := 13) rfl rfl (by first | assumption | rfl) (by first | assumption | rfl) rfl ?_ | refine w_gi (j := 13) rfl rfl (by first | assumption | rfl) (by first | assumption | rfl) rfl rfl ?_
    first | refine w_gr (j := 14) rfl rfl (by first | assumption | rfl) (by first | assumption | rfl) rfl ?_ | refine w_gi (j := 14) rfl rfl (by first | assumption | rfl) (by first | assumption | rfl) rfl e7 ?_
    refine w_geN (j := 15) rfl rfl (by omega) (by omega) (fun _ => ?_) (fun c => absurd c (fun c => by omega))
    refine w_rt rfl ?_
    exact ⟨_, rfl, R⟩
def pf_fi : List (Nat × Nat) → Int32
  | [] => -1
  | p :: _ => nI (10 * p.1 + p.2)
def pf_who (h : ix_H) (cs : List (Nat × Nat)) (L B N m : Nat) : Int32 := if m = 0 then nI (pf_pl (pf_fit h cs L) B N).length else pf_fi (pf_pl (pf_fit h cs L) B N)
theorem pf_fitG {h h' : ix_H} (k : px_kp h h') : pf_fit h' cs L = pf_fit h cs L := by
  funext c b
  exact pf_fit_kp k
theorem pf_who_kp {h h' : ix_H} {m : Nat} (k : px_kp h h') : pf_who h' cs L B N m = pf_who h cs L B N m := by
  unfold pf_who
  rw [pf_fitG k]
theorem C_whose {w : Int32} (hI : px_I h B N T cs L W I t) : px_CO 9 123 [.ref 0, .int w] h (fun v h1 => ∃ m, m ≤ 1 ∧ w = nI m ∧ v = pf_who h cs L B N m ∧ px_kp h h1) (fun x h1 => x = 0 ∧ ¬ (nI 0 ≤ w ∧ w ≤ nI 1) ∧ h1 = px_hX 0 h) := by
  have l3 := hI.1.2.2.1
  have l6 := hI.1.2.2.2.2.2.1
  have len := pf_pl_len (G := pf_fit h cs L) l3 N
  have mem := pf_pl_mem (G := pf_fit h cs L) (B := B) N
  refine px_M (M := mt_123) (ops := mo_123) tb_123 rfl rfl rfl rfl rfl ?_
  refine w_al (j := 1) rfl rfl rfl ?_
  refine w_il (j := 2) rfl rfl rfl ?_
  refine w_ic (n := 0) (j := 3) rfl rfl ?_
  refine w_ic (n := 1) (j := 4) rfl rfl ?_
  refine w_chk (j := 5) rfl rfl rfl rfl (by first | assumption | rfl) rfl rfl (sp_147) rfl (fun c2 => ?_) (fun c2 => ?_)
  · exact Or.inr ⟨_, _, rfl, rfl, c2, rfl⟩
  obtain ⟨m, hm, rfl⟩ := px_bnd2 (by decide) c2
  refine w_al (j := 6) rfl rfl rfl ?_
  first | refine w_gr (j := 7) rfl rfl (by first | assumption | rfl) (by first | assumption | rfl) rfl ?_ | refine w_gi (j := 7) rfl rfl (by first | assumption | rfl) (by first | assumption | rfl) rfl rfl ?_
  refine w_al (j := 8) rfl rfl rfl ?_
  first | refine w_gr (j := 9) rfl rfl (by first | assumption | rfl) (by first | assumption | rfl) rfl ?_ | refine w_gi (j := 9) rfl rfl (by first | assumption | rfl) (by first | assumption | rfl) rfl rfl ?_
  refine w_al (j := 10) rfl rfl rfl ?_
  first | refine w_gr (j := 11) rfl rfl (by first | assumption | rfl) (by first | assumption | rfl) rfl ?_ | refine w_gi (j := 11) rfl rfl (by first | assumption | rfl) (by first | assumption | rfl) rfl rfl ?_
  refine w_cvPU (j := 12) rfl rfl rfl rfl (by first | assumption | rfl) rfl rfl (sp_3 hI) rfl ?_
  rintro h1 R
  have ew : ∀ m, pf_who h cs L B N m = if m = 0 then nI (pf_pl (pf_fit h cs L) B N).length else pf_fi (pf_pl (pf_fit h cs L) B N) := fun _ => rfl
  generalize pf_pl (pf_fit h cs L) B N = l at R ew len mem
  obtain ⟨k, e4, e7, ea⟩ := R
  refine w_il (j := 13) rfl rfl rfl ?_
  obtain rfl | rfl : m = 0 ∨ m = 1 := by omega
  ·
    refine w_neM (j := 14) rfl rfl (by omega) (fun c => absurd c (fun c => by omega)) (fun _ => ?_)
    refine w_al (j := 15) rfl rfl rfl ?_
    first | refine w_gr (j := 16) rfl rfl (by first | assumption | rfl) (by first | assumption | rfl) rfl ?_ | refine w_gi (j := 16) rfl rfl (by first | assumption | rfl) (by first | assumption | rfl) rfl rfl ?_
    first | refine w_gr (j := 17) rfl rfl (by first | assumption | rfl) (by first | assumption | rfl) rfl ?_ | refine w_gi (j := 17) rfl rfl (by first | assumption | rfl) (by first | assumption | rfl) rfl e7 ?_
    refine w_go rfl ?_
    refine w_ir rfl ?_
    exact Or.inl ⟨_, _, rfl, 0, hm, rfl, (ew 0).symm, k⟩
  · have c2 : px_V 2 2 [.ref 81] h1 (some (.int (pf_fi l))) h1 := by
      cases l with
      | nil =>
        have e7 : h1 81 7 = nI 0 := e7
        refine px_M (M := mt_2) (ops := mo_2) tb_2 rfl rfl rfl rfl rfl ?_
        refine w_al (j := 1) rfl rfl rfl ?_
        first | refine w_gr (j := 2) rfl rfl (by first | assumption | rfl) (by first | assumption | rfl) rfl ?_ | refine w_gi (j := 2) rfl rfl (by first | assumption | rfl) (by first | assumption | rfl) rfl e7 ?_
        refine w_neM (j := 3) rfl rfl (by omega) (fun c => absurd c (fun c => by omega)) (fun _ => ?_)
        refine w_im (j := 4) rfl rfl ?_
        refine w_go rfl ?_
        refine w_ir rfl ?_
        rfl
      | cons p l =>
        obtain ⟨q1, q2⟩ := ea 0 p rfl
        have e7 : h1 81 7 = nI (l.length + 1) := e7
        have len : l.length + 1 ≤ 6 * N := len
        refine px_M (M := mt_2) (ops := mo_2) tb_2 rfl rfl rfl rfl rfl ?_
        refine w_al (j := 1) rfl rfl rfl ?_
        first | refine w_gr (j := 2) rfl rfl (by first | assumption | rfl) (by first | assumption | rfl) rfl ?_ | refine w_gi (j := 2) rfl rfl (by first | assumption | rfl) (by first | assumption | rfl) rfl e7 ?_
        refine w_neM (j := 3) rfl rfl (by omega) (fun _ => ?_) (fun c => absurd c (fun c => by omega))
        refine w_bi (j := 6) (a := nI 10) rfl rfl (by decide) ?_
        refine w_al (j := 7) rfl rfl rfl ?_
        first | refine w_gr (j := 8) rfl rfl (by first | assumption | rfl) (by first | assumption | rfl) rfl ?_ | refine w_gi (j := 8) rfl rfl (by first | assumption | rfl) (by first | assumption | rfl) rfl rfl ?_
        refine w_ic (n := 0) (j := 9) rfl rfl ?_
        refine w_ial (j := 10) rfl rfl (by first | assumption | rfl) rfl (by omega) rfl q1 ?_
        first | refine w_mulN (j := 11) rfl rfl ?_ | refine w_mul (j := 11) rfl rfl ?_
        refine w_al (j := 12) rfl rfl rfl ?_
        first | refine w_gr (j := 13) rfl rfl (by first | assumption | rfl) (by first | assumption | rfl) rfl ?_ | refine w_gi (j := 13) rfl rfl (by first | assumption | rfl) (by first | assumption | rfl) rfl rfl ?_
        refine w_ic (n := 0) (j := 14) rfl rfl ?_
        refine w_ial (j := 15) rfl rfl (by first | assumption | rfl) rfl (by omega) rfl q2 ?_
        first | refine w_add0 (j := 16) rfl rfl ?_ | refine w_addN (j := 16) rfl rfl ?_ | refine w_add (j := 16) rfl rfl ?_
        refine w_ir rfl ?_
        rfl
    refine w_neM (j := 14) rfl rfl (by omega) (fun _ => ?_) (fun c => absurd c (fun c => by omega))
    refine w_al (j := 19) rfl rfl rfl ?_
    first | refine w_gr (j := 20) rfl rfl (by first | assumption | rfl) (by first | assumption | rfl) rfl ?_ | refine w_gi (j := 20) rfl rfl (by first | assumption | rfl) (by first | assumption | rfl) rfl rfl ?_
    refine w_cvI (j := 21) rfl rfl rfl rfl (by first | assumption | rfl) rfl rfl (c2) rfl ?_
    refine w_ir rfl ?_
    exact Or.inl ⟨_, _, rfl, 1, hm, rfl, (ew 1).symm, k⟩
theorem sp_227 {c b a : Nat} (hI : px_I h B N T cs L W I t) (hc : c < N) (hb : b < B) (ha : a ≤ 100) : px_PI 7 227 [.ref 100, .int (nI c), .int (nI b), .int (nI a)] h (fun v h1 => v = pf_sA h cs c b a ∧ px_fr [494, 495] h h1) := by
  obtain ⟨⟨l1, l2, l3, l4, l5, l6, l7, l8, l9, l10, l11, l12, l13, l14, l15⟩, lw, -, nw, -⟩ := hI
  have s129 := sh_129 c (by omega)
  have e7 : h (129 + c) 1 = h 7 c := (l13 c hc).2.2.1.symm
  refine px_M (M := mt_227) (ops := mo_227) tb_227 rfl rfl rfl rfl rfl ?_
  refine w_al (j := 1) rfl rfl rfl ?_
  first | refine w_gr (j := 2) rfl rfl (by first | assumption | rfl) (by first | assumption | rfl) rfl ?_ | refine w_gi (j := 2) rfl rfl (by first | assumption | rfl) (by first | assumption | rfl) rfl rfl ?_
  refine w_il (j := 3) rfl rfl rfl ?_
  refine w_aal (j := 4) rfl rfl (by first | assumption | rfl) rfl (by omega) rfl ?_
  refine w_ic (n := 1) (j := 5) rfl rfl ?_
  refine w_ial (j := 6) rfl rfl (by first | assumption | rfl) rfl (by omega) rfl e7 ?_
  refine w_iS (j := 7) rfl rfl rfl ?_
  refine w_ic (n := 0) (j := 8) rfl rfl ?_
  refine w_iS (j := 9) rfl rfl rfl ?_
  refine px_forI (fun k ls h1 => ls = [.ref 100, .int (nI c), .int (nI b), .int (nI a), .int (pf_sA h cs c b k), .int (nI k)] ∧ px_fr [494, 495] h h1) a ?_ ?_ ⟨rfl, px_fr.rf⟩
  · rintro k _ h1 hk ⟨rfl, fr⟩ H
    have r577 := fr 577 (by decide)
    have r113 : h1 (113 + b) = h (113 + b) := fr _ (by simp; omega)
    have r129 : h1 (129 + c) = h (129 + c) := fr _ (by simp; omega)
    refine w_iL (j := 10) rfl rfl rfl ?_
    refine w_il (j := 11) rfl rfl rfl ?_
    refine w_geN (j := 12) rfl rfl (by omega) (by omega) (fun c => absurd c (fun c => by omega)) (fun _ => ?_)
    refine w_iL (j := 13) rfl rfl rfl ?_
    refine w_al (j := 14) rfl rfl rfl ?_
    refine w_al (j := 15) rfl rfl rfl ?_
    first | refine w_gr (j := 16) rfl rfl (by first | assumption | rfl) (by first | assumption | rfl) rfl ?_ | refine w_gi (j := 16) rfl rfl (by first | assumption | rfl) (by first | assumption | rfl) rfl rfl ?_
    refine w_il (j := 17) rfl rfl rfl ?_
    refine w_il (j := 18) rfl rfl rfl ?_
    refine w_ic (n := 0) (j := 19) rfl rfl ?_
    refine w_iL (j := 20) rfl rfl rfl ?_
    refine w_iL (j := 21) rfl rfl rfl ?_
    refine w_iL (j := 22) rfl rfl rfl ?_
    refine w_cvPI (j := 23) rfl rfl rfl rfl (by first | assumption | rfl) rfl rfl (sp_199 px_Rw577 (by omega) (by omega) (lw.2.1.fr fr (by constructor; decide; intro a h1 h2; simp; omega)) lw.2.2) rfl ?_
    rintro v h9 ⟨e1, f1⟩
    rw [r113, r129, r577, ← (l12 b hb).1, ← (l13 c hc).1, ← nw.2.2.2.2.1 b (by omega)] at e1
    refine w_sub (j := 24) rfl rfl ?_
    refine w_iS (j := 25) rfl rfl rfl ?_
    first | refine w_incN (j := 26) rfl rfl rfl ?_ | refine w_inc (j := 26) rfl rfl rfl rfl ?_
    refine w_go rfl ?_
    refine H _ _ ⟨?_, fr.tr f1⟩
    rw [pf_sA, ← e1]
    rfl
  · rintro _ h1 ⟨rfl, fr⟩
    refine w_iL (j := 10) rfl rfl rfl ?_
    refine w_il (j := 11) rfl rfl rfl ?_
    refine w_geN (j := 12) rfl rfl (by omega) (by omega) (fun _ => ?_) (fun c => absurd c (fun c => by omega))
    refine w_iL (j := 28) rfl rfl rfl ?_
    refine w_ir rfl ?_
    exact ⟨_, _, rfl, rfl, fr⟩
theorem sp_228 {c b : Nat} (hI : px_I h B N T cs L W I t) (hc : c < N) (hb : b < B) : px_PI 8 228 [.ref 100, .int (nI c), .int (nI b)] h (fun v h1 => v = px_b (pf_fit h cs L c b) ∧ px_fr [494, 495] h h1) := by
  have hI' := hI
  obtain ⟨ld, lw, ln, nw, -⟩ := hI
  have L6 := ln.1
  refine px_M (M := mt_228) (ops := mo_228) tb_228 rfl rfl rfl rfl rfl ?_
  refine w_ic (n := 0) (j := 1) rfl rfl ?_
  refine w_is (j := 2) rfl rfl rfl ?_
  refine px_forI (fun k ls h1 => ls = [.ref 100, .int (nI c), .int (nI b), .int (nI k)] ∧ px_fr [494, 495] h h1 ∧ ∀ j, j < k → pf_sA h cs c b (h 52 j).toNatClampNeg = h 53 j) L ?_ ?_ ⟨rfl, px_fr.rf, fun j hj => by omega⟩
  · rintro k _ h1 hk ⟨rfl, fr, al⟩ H
    have k1 := px_kp.of fr (by decide)
    have I1 := hI'.kp k1
    obtain ⟨n1, n2, ⟨qa, ha, ea⟩, ⟨qs, hs, es⟩⟩ := ln.2.2.2.1 k hk
    have s481 := sh_481 k (by omega)
    have eL : h1 100 35 = nI L := I1.2.2.1.2.2.1
    have r481 : h1 (481 + k) = h (481 + k) := fr _ (by simp; omega)
    have e0 : h1 (481 + k) 0 = nI qa := by rw [r481, ← n1]; exact ea
    refine w_il (j := 3) rfl rfl rfl ?_
    refine w_al (j := 4) rfl rfl rfl ?_
    first | refine w_gr (j := 5) rfl rfl (by first | assumption | rfl) (by first | assumption | rfl) rfl ?_ | refine w_gi (j := 5) rfl rfl (by first | assumption | rfl) (by first | assumption | rfl) rfl eL ?_
    refine w_geN (j := 6) rfl rfl (by omega) (by omega) (fun c => absurd c (fun c => by omega)) (fun _ => ?_)
    refine w_al (j := 7) rfl rfl rfl ?_
    refine w_il (j := 8) rfl rfl rfl ?_
    refine w_il (j := 9) rfl rfl rfl ?_
    refine w_al (j := 10) rfl rfl rfl ?_
    first | refine w_gr (j := 11) rfl rfl (by first | assumption | rfl) (by first | assumption | rfl) rfl ?_ | refine w_gi (j := 11) rfl rfl (by first | assumption | rfl) (by first | assumption | rfl) rfl rfl ?_
    refine w_il (j := 12) rfl rfl rfl ?_
    refine w_aal (j := 13) rfl rfl (by first | assumption | rfl) rfl (by omega) rfl ?_
    refine w_ic (n := 0) (j := 14) rfl rfl ?_
    refine w_ial (j := 15) rfl rfl (by first | assumption | rfl) rfl (by omega) rfl e0 ?_
    refine w_cvPI (j := 16) rfl rfl rfl rfl (by first | assumption | rfl) rfl rfl (sp_227 I1 hc hb (by omega)) rfl ?_
    rintro v h2 ⟨e1, f1⟩
    rw [pf_sA_kp k1] at e1
    have e2 : h2 (481 + k) 1 = h 53 k := by rw [f1 (481 + k) (by simp; omega), r481, ← n2]
    have eq : (h 52 k).toNatClampNeg = qa := by rw [ea, nI_clamp (by omega)]
    subst e1
    refine w_al (j := 17) rfl rfl rfl ?_
    first | refine w_gr (j := 18) rfl rfl (by first | assumption | rfl) (by first | assumption | rfl) rfl ?_ | refine w_gi (j := 18) rfl rfl (by first | assumption | rfl) (by first | assumption | rfl) rfl rfl ?_
    refine w_il (j := 19) rfl rfl rfl ?_
    refine w_aal (j := 20) rfl rfl (by first | assumption | rfl) rfl (by omega) rfl ?_
    refine w_ic (n := 1) (j := 21) rfl rfl ?_
    refine w_ial (j := 22) rfl rfl (by first | assumption | rfl) rfl (by omega) rfl e2 ?_
    refine w_eq (j := 23) rfl rfl (fun d1 => ?_) (fun d1 => ?_)
    ·
      first | refine w_incN (j := 26) rfl rfl rfl ?_ | refine w_inc (j := 26) rfl rfl rfl rfl ?_
      refine w_go rfl ?_
      refine H _ _ ⟨rfl, fr.tr f1, fun j hj => ?_⟩
      by_cases hjk : j = k
      · rw [hjk, eq]; exact d1
      · exact al j (by omega)
    ·
      refine w_ic (n := 0) (j := 24) rfl rfl ?_
      refine w_irB rfl (by first | exact Or.inl rfl | exact Or.inr rfl | exact px_b01 _) ?_
      refine ⟨_, _, rfl, ?_, fr.tr f1⟩
      rw [show pf_fit h cs L c b = false from decide_eq_false (fun q => d1 (by rw [← q k hk, eq]))]
      rfl
  · rintro _ h1 ⟨rfl, fr, al⟩
    have eL : h1 100 35 = nI L := by rw [fr 100 (by decide)]; exact ln.2.2.1
    refine w_il (j := 3) rfl rfl rfl ?_
    refine w_al (j := 4) rfl rfl rfl ?_
    first | refine w_gr (j := 5) rfl rfl (by first | assumption | rfl) (by first | assumption | rfl) rfl ?_ | refine w_gi (j := 5) rfl rfl (by first | assumption | rfl) (by first | assumption | rfl) rfl eL ?_
    refine w_geN (j := 6) rfl rfl (by omega) (by omega) (fun _ => ?_) (fun c => absurd c (fun c => by omega))
    refine w_ic (n := 1) (j := 28) rfl rfl ?_
    refine w_irB rfl (by first | exact Or.inl rfl | exact Or.inr rfl | exact px_b01 _) ?_
    refine ⟨_, _, rfl, ?_, fr⟩
    rw [show pf_fit h cs L c b = true from decide_eq_true al]
    rfl
theorem pf_fi_app {l : List (Nat × Nat)} {p : Nat × Nat} : pf_fi (l ++ [p]) = if l.length = 0 then nI (10 * p.1 + p.2) else pf_fi l := by
  cases l with
  | nil => rfl
  | cons q l => rw [if_neg (by simp)]; rfl
theorem M_whose {m : Nat} (hI : px_I h B N T cs L W I t) (hm : m ≤ 1) : px_PI 9 229 [.ref 100, .int (nI m)] h (fun w h2 => w = pf_who h cs L B N m ∧ h2 100 0 = nI 0 ∧ px_kp h h2) := by
  refine px_M (M := mt_229) (ops := mo_229) tb_229 rfl rfl rfl rfl rfl ?_
  refine w_al (j := 1) rfl rfl rfl ?_
  refine w_ic (n := 0) (j := 2) rfl rfl ?_
  refine w_pf (j := 3) rfl rfl (by first | assumption | rfl) (by first | assumption | rfl) rfl ?_
  obtain ⟨I1, k1, t0⟩ := px_thr (v := nI 0) hI
  generalize ix_up h 100 0 (nI 0) = h1 at I1 k1 t0 ⊢
  rw [← pf_who_kp k1]
  have I1' := I1
  obtain ⟨⟨l1, l2, l3, l4, l5, l6, l7, l8, l9⟩, lw, -, nw, -⟩ := I1
  refine w_al (j := 4) rfl rfl rfl ?_
  refine w_il (j := 5) rfl rfl rfl ?_
  refine w_ic (n := 0) (j := 6) rfl rfl ?_
  refine w_ic (n := 1) (j := 7) rfl rfl ?_
  refine w_csI (j := 8) rfl rfl rfl rfl rfl (sp_155) rfl ?_
  rw [px_ofN hm (by decide)]
  refine w_neB (j := 9) rfl rfl (fun _ => ?_) (fun c => absurd c (by simp))
  refine w_ic (n := 0) (j := 12) rfl rfl ?_
  refine w_ic (n := 1) (j := 13) rfl rfl ?_
  refine w_ic (n := 1) (j := 14) rfl rfl ?_
  refine w_cvI (j := 15) rfl rfl rfl rfl (by first | assumption | rfl) rfl rfl (sp_154f t0) rfl ?_
  refine w_eqB (j := 16) rfl rfl (fun _ => ?_) (fun c => absurd c (by simp))
  refine w_ic (n := 0) (j := 19) rfl rfl ?_
  refine w_is (j := 20) rfl rfl rfl ?_
  refine w_im (j := 21) rfl rfl ?_
  refine w_is (j := 22) rfl rfl rfl ?_
  refine w_ic (n := 0) (j := 23) rfl rfl ?_
  refine w_iS (j := 24) rfl rfl rfl ?_
  refine px_forI (fun c ls h2 => (∃ g, ls = [.ref 100, .int (nI m), .int (nI (pf_pl (pf_fit h1 cs L) B c).length), .int (pf_fi (pf_pl (pf_fit h1 cs L) B c)), .int (nI c), g]) ∧ px_fr [494, 495] h1 h2) N ?_ ?_ ⟨⟨_, rfl⟩, px_fr.rf⟩
  · rintro c _ h2 hc ⟨⟨g, rfl⟩, fr⟩ H
    have e1 := px_f3 fr l5 (by decide)
    have len := pf_pl_len (G := pf_fit h1 cs L) l3 c
    rw [pf_pl_s] at H
    generalize pf_pl (pf_fit h1 cs L) B c = l at H len ⊢
    refine w_iL (j := 25) rfl rfl rfl ?_
    refine w_al (j := 26) rfl rfl rfl ?_
    first | refine w_gr (j := 27) rfl rfl (by first | assumption | rfl) (by first | assumption | rfl) rfl ?_ | refine w_gi (j := 27) rfl rfl (by first | assumption | rfl) (by first | assumption | rfl) rfl rfl ?_
    refine w_ic (n := 1) (j := 28) rfl rfl ?_
    refine w_ial (j := 29) rfl rfl (by first | assumption | rfl) rfl (by omega) rfl e1 ?_
    refine w_geN (j := 30) rfl rfl (by omega) (by omega) (fun c => absurd c (fun c => by omega)) (fun _ => ?_)
    refine w_ic (n := 0) (j := 31) rfl rfl ?_
    refine w_iS (j := 32) rfl rfl rfl ?_
    refine px_forI (fun b ls h3 => ls = [.ref 100, .int (nI m), .int (nI (pf_pl1 (pf_fit h1 cs L) c b l).length), .int (pf_fi (pf_pl1 (pf_fit h1 cs L) c b l)), .int (nI c), .int (nI b)] ∧ px_fr [494, 495] h1 h3) B ?_ ?_ ⟨rfl, fr⟩
    · rintro b _ h3 hb ⟨rfl, fr3⟩ H2
      have e0 := px_f3 fr3 l2 (by decide)
      have len2 := pf_pl1_len (G := pf_fit h1 cs L) (c := c) (l := l) b
      have k3 := px_kp.of fr3 (by decide)
      rw [pf_pl1_s] at H2
      generalize pf_pl1 (pf_fit h1 cs L) c b l = l2 at H2 len2 ⊢
      refine w_iL (j := 33) rfl rfl rfl ?_
      refine w_al (j := 34) rfl rfl rfl ?_
      first | refine w_gr (j := 35) rfl rfl (by first | assumption | rfl) (by first | assumption | rfl) rfl ?_ | refine w_gi (j := 35) rfl rfl (by first | assumption | rfl) (by first | assumption | rfl) rfl rfl ?_
      refine w_ic (n := 0) (j := 36) rfl rfl ?_
      refine w_ial (j := 37) rfl rfl (by first | assumption | rfl) rfl (by omega) rfl e0 ?_
      refine w_geN (j := 38) rfl rfl (by omega) (by omega) (fun c => absurd c (fun c => by omega)) (fun _ => ?_)
      refine w_al (j := 39) rfl rfl rfl ?_
      refine w_iL (j := 40) rfl rfl rfl ?_
      refine w_iL (j := 41) rfl rfl rfl ?_
      refine w_cvPI (j := 42) rfl rfl rfl rfl (by first | assumption | rfl) rfl rfl (sp_228 (I1'.kp k3) hc hb) rfl ?_
      rintro v h4 ⟨q1, q2⟩
      rw [pf_fit_kp k3] at q1
      subst q1
      cases hG : pf_fit h1 cs L c b with
      | false =>
        rw [hG, if_neg (by decide)] at H2
        refine w_neB (j := 43) rfl rfl (fun c => absurd c (by simp)) (fun _ => ?_)
        refine w_go rfl ?_
        first | refine w_incN (j := 56) rfl rfl rfl ?_ | refine w_inc (j := 56) rfl rfl rfl rfl ?_
        refine w_go rfl ?_
        exact H2 _ _ ⟨rfl, fr3.tr q2⟩
      | true =>
        rw [hG, if_pos rfl, pf_fi_app, List.length_append, List.length_singleton] at H2
        refine w_neB (j := 43) rfl rfl (fun _ => ?_) (fun c => absurd c (by simp))
        refine w_il (j := 45) rfl rfl rfl ?_
        refine w_neM (j := 46) rfl rfl (by omega) (fun d1 => ?_) (fun d1 => ?_)
        ·
          rw [if_neg d1] at H2
          refine w_il (j := 53) rfl rfl rfl ?_
          refine w_is (j := 54) rfl rfl rfl ?_
          first | refine w_incN (j := 55) rfl rfl rfl ?_ | refine w_inc (j := 55) rfl rfl rfl rfl ?_
          first | refine w_incN (j := 56) rfl rfl rfl ?_ | refine w_inc (j := 56) rfl rfl rfl rfl ?_
          refine w_go rfl ?_
          exact H2 _ _ ⟨rfl, fr3.tr q2⟩
        ·
          rw [if_pos d1] at H2
          refine w_bi (j := 47) (a := nI 10) rfl rfl (by decide) ?_
          refine w_iL (j := 48) rfl rfl rfl ?_
          first | refine w_mulN (j := 49) rfl rfl ?_ | refine w_mul (j := 49) rfl rfl ?_
          refine w_iL (j := 50) rfl rfl rfl ?_
          first | refine w_add0 (j := 51) rfl rfl ?_ | refine w_addN (j := 51) rfl rfl ?_ | refine w_add (j := 51) rfl rfl ?_
          refine w_go rfl ?_
          refine w_is (j := 54) rfl rfl rfl ?_
          first | refine w_incN (j := 55) rfl rfl rfl ?_ | refine w_inc (j := 55) rfl rfl rfl rfl ?_
          first | refine w_incN (j := 56) rfl rfl rfl ?_ | refine w_inc (j := 56) rfl rfl rfl rfl ?_
          refine w_go rfl ?_
          exact H2 _ _ ⟨rfl, fr3.tr q2⟩
    · rintro _ h3 ⟨rfl, fr3⟩
      have e0 := px_f3 fr3 l2 (by decide)
      refine w_iL (j := 33) rfl rfl rfl ?_
      refine w_al (j := 34) rfl rfl rfl ?_
      first | refine w_gr (j := 35) rfl rfl (by first | assumption | rfl) (by first | assumption | rfl) rfl ?_ | refine w_gi (j := 35) rfl rfl (by first | assumption | rfl) (by first | assumption | rfl) rfl rfl ?_
      refine w_ic (n := 0) (j := 36) rfl rfl ?_
      refine w_ial (j := 37) rfl rfl (by first | assumption | rfl) rfl (by omega) rfl e0 ?_
      refine w_geN (j := 38) rfl rfl (by omega) (by omega) (fun _ => ?_) (fun c => absurd c (fun c => by omega))
      first | refine w_incN (j := 58) rfl rfl rfl ?_ | refine w_inc (j := 58) rfl rfl rfl rfl ?_
      refine w_go rfl ?_
      exact H _ _ ⟨⟨_, rfl⟩, fr3⟩
  · rintro _ h2 ⟨⟨g, rfl⟩, fr⟩
    have e1 := px_f3 fr l5 (by decide)
    have t9 : h2 100 0 = nI 0 := by rw [fr 100 (by decide)]; exact t0
    refine w_iL (j := 25) rfl rfl rfl ?_
    refine w_al (j := 26) rfl rfl rfl ?_
    first | refine w_gr (j := 27) rfl rfl (by first | assumption | rfl) (by first | assumption | rfl) rfl ?_ | refine w_gi (j := 27) rfl rfl (by first | assumption | rfl) (by first | assumption | rfl) rfl rfl ?_
    refine w_ic (n := 1) (j := 28) rfl rfl ?_
    refine w_ial (j := 29) rfl rfl (by first | assumption | rfl) rfl (by omega) rfl e1 ?_
    refine w_geN (j := 30) rfl rfl (by omega) (by omega) (fun _ => ?_) (fun c => absurd c (fun c => by omega))
    refine w_il (j := 60) rfl rfl rfl ?_
    obtain rfl | rfl : m = 0 ∨ m = 1 := by omega
    ·
      refine w_neM (j := 61) rfl rfl (by omega) (fun c => absurd c (fun c => by omega)) (fun _ => ?_)
      refine w_il (j := 62) rfl rfl rfl ?_
      refine w_go rfl ?_
      refine w_ir rfl ?_
      exact ⟨_, _, rfl, rfl, t9, k1.fr fr (by decide)⟩
    ·
      refine w_neM (j := 61) rfl rfl (by omega) (fun _ => ?_) (fun c => absurd c (fun c => by omega))
      refine w_il (j := 64) rfl rfl rfl ?_
      refine w_ir rfl ?_
      exact ⟨_, _, rfl, rfl, t9, k1.fr fr (by decide)⟩
theorem MX_whose {w : Int32} (hw : ¬ (nI 0 ≤ w ∧ w ≤ nI 1)) : px_PI 2 229 [.ref 100, .int w] h (fun v h2 => h2 100 0 = nI 1 ∧ px_kp (ix_up h 102 1 (h 102 1 + nI 1)) h2) := by
  refine px_M (M := mt_229) (ops := mo_229) tb_229 rfl rfl rfl rfl rfl ?_
  refine w_al (j := 1) rfl rfl rfl ?_
  refine w_ic (n := 0) (j := 2) rfl rfl ?_
  refine w_pf (j := 3) rfl rfl (by first | assumption | rfl) (by first | assumption | rfl) rfl ?_
  refine w_al (j := 4) rfl rfl rfl ?_
  refine w_il (j := 5) rfl rfl rfl ?_
  refine w_ic (n := 0) (j := 6) rfl rfl ?_
  refine w_ic (n := 1) (j := 7) rfl rfl ?_
  refine w_csI (j := 8) rfl rfl rfl rfl rfl (sp_155) rfl ?_
  rw [decide_eq_false hw]
  refine w_neB (j := 9) rfl rfl (fun c => absurd c (by simp)) (fun _ => ?_)
  refine w_ic (n := 1) (j := 10) rfl rfl ?_
  refine w_go rfl ?_
  refine w_ic (n := 1) (j := 13) rfl rfl ?_
  refine w_ic (n := 1) (j := 14) rfl rfl ?_
  refine w_cvI (j := 15) rfl rfl rfl rfl (by first | assumption | rfl) rfl rfl (sp_154t (p := 1) (w := 1) rfl (by decide) (by decide) (by decide)) rfl ?_
  refine w_eqB (j := 16) rfl rfl (fun c => absurd c (by simp)) (fun _ => ?_)
  refine w_ic (n := 0) (j := 17) rfl rfl ?_
  refine w_ir rfl ?_
  exact ⟨_, _, rfl, rfl, px_kpX (by decide)⟩
end GU
