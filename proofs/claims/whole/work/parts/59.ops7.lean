theorem px_sl31 : ∀ n, n < 32 → ((nI n &&& 31).toBitVec.smod 32).toNat = n := by decide +kernel
theorem px_shr {a k : Nat} (ha : a < 2147483648) (hk : k < 32) : nI a >>> (nI k &&& 31) = nI (a / 2 ^ k) := by
  have hd : a / 2 ^ k ≤ a := Nat.div_le_self _ _
  apply Int32.toInt_inj.mp
  have e : (nI a >>> (nI k &&& 31)).toInt = (nI a).toInt >>> k := by
    conv => rhs; rw [← px_sl31 k hk]
    exact BitVec.toInt_sshiftRight ..
  rw [e, Int.shiftRight_eq_div_pow, nI_toInt (by omega), nI_toInt (by omega)]
  rfl
theorem px_and1 {a : Nat} : nI a &&& nI 1 = nI (a % 2) := by
  apply Int32.toBitVec_inj.mp
  rw [Int32.toBitVec_and]
  show BitVec.ofNat 32 a &&& BitVec.ofNat 32 1 = BitVec.ofNat 32 (a % 2)
  apply BitVec.eq_of_toNat_eq
  rw [BitVec.toNat_and, BitVec.toNat_ofNat, BitVec.toNat_ofNat, BitVec.toNat_ofNat, show 1 % 2 ^ 32 = 1 from rfl, Nat.and_one_is_mod]
  omega
theorem px_has {a k : Nat} (ha : a < 2147483648) (hk : k < 32) : nI a >>> (nI k &&& 31) &&& nI 1 = nI (a / 2 ^ k % 2) := by rw [px_shr ha hk, px_and1]
theorem px_shl1 : ∀ k, k < 31 → nI 1 <<< (nI k &&& 31) = nI (2 ^ k) := by decide +kernel
theorem px_all {N : Nat} (hN : N ≤ 8) : nI 1 <<< (nI N &&& 31) - nI 1 = nI (2 ^ N - 1) := by
  rw [px_shl1 N (by omega), px_nsub (Nat.two_pow_pos N)]
theorem px_pw {N : Nat} (hN : N ≤ 8) : 2 ^ N ≤ 256 := Nat.pow_le_pow_right (n := 2) (by decide) hN
theorem px_bits {v : Int32} {N : Nat} (hN : N ≤ 8) : (0 ≤ v ∧ v >>> (nI N &&& 31) = 0) ↔ ∃ m, m < 2 ^ N ∧ v = nI m := by
  have hp := Nat.two_pow_pos N
  constructor
  · rintro ⟨h1, h2⟩
    obtain ⟨e1, e2⟩ := px_nof h1
    refine ⟨v.toNatClampNeg, ?_, e1⟩
    rw [e1, px_shr e2 (by omega)] at h2
    have h3 : v.toNatClampNeg / 2 ^ N = 0 := by
      have h4 : v.toNatClampNeg / 2 ^ N ≤ v.toNatClampNeg := Nat.div_le_self _ _
      exact (px_neq (b := 0) (by omega) (by decide)).mp h2
    rcases Nat.div_eq_zero_iff.mp h3 with h5 | h5
    · omega
    · exact h5
  · rintro ⟨m, hm, rfl⟩
    have := px_pw hN
    refine ⟨px_nle0 (by omega), ?_⟩
    rw [px_shr (by omega) (by omega), Nat.div_eq_of_lt hm]
    rfl
theorem px_bits2 {v : Int32} {N : Nat} (hN : N ≤ 8) : (nI 0 ≤ v ∧ v ≤ nI 1 <<< (nI N &&& 31) - nI 1) ↔ ∃ m, m < 2 ^ N ∧ v = nI m := by
  have hp := Nat.two_pow_pos N
  have := px_pw hN
  rw [px_all hN]
  constructor
  · intro q
    obtain ⟨m, h1, h2⟩ := px_bnd2 (by omega) q
    exact ⟨m, by omega, h2⟩
  · rintro ⟨m, hm, rfl⟩
    exact px_okN (by omega) (by omega)
section OPS
variable {h : ix_H} {B N T L W I t : Nat} {cs : List (Nat × Nat)}
theorem MX_pairs {iv w : Int32} (ok : ¬ ((nI 0 ≤ iv ∧ iv ≤ nI 11) ∧ nI 0 ≤ w ∧ w ≤ nI 1)) : px_PI 3 234 [.ref 100, .int iv, .int w] h (fun v h2 => h2 100 0 = nI 1 ∧ px_kp (ix_up h 102 1 (h 102 1 + nI 1)) h2) := by
  have tail : px_R px_E 2 mo_234 [] 14 [.ref 100, .int iv, .int w, .null, .null, .null, .null] [.ref 100] (ix_up h 100 0 (nI 0)) 0 (fun r => ∃ v h', r = (.inl (some (.int v)), h', 0) ∧ h' 100 0 = nI 1 ∧ px_kp (ix_up h 102 1 (h 102 1 + nI 1)) h') := by
    refine w_ic (n := 1) (j := 15) rfl rfl ?_
    refine w_go rfl ?_
    refine w_ic (n := 1) (j := 18) rfl rfl ?_
    refine w_ic (n := 1) (j := 19) rfl rfl ?_
    refine w_cvI (j := 20) rfl rfl rfl rfl (by first | assumption | rfl) rfl rfl (sp_154t (p := 1) (w := 1) rfl (by decide) (by decide) (by decide)) rfl ?_
    refine w_eqB (j := 21) rfl rfl (fun c => absurd c (by simp)) (fun _ => ?_)
    refine w_ic (n := 0) (j := 22) rfl rfl ?_
    refine w_ir rfl ?_
    exact ⟨_, _, rfl, rfl, px_kpX (by decide)⟩
  refine px_M (M := mt_234) (ops := mo_234) tb_234 rfl rfl rfl rfl rfl ?_
  refine w_al (j := 1) rfl rfl rfl ?_
  refine w_ic (n := 0) (j := 2) rfl rfl ?_
  refine w_pf (j := 3) rfl rfl (by first | assumption | rfl) (by first | assumption | rfl) rfl ?_
  refine w_al (j := 4) rfl rfl rfl ?_
  refine w_il (j := 5) rfl rfl rfl ?_
  refine w_ic (n := 0) (j := 6) rfl rfl ?_
  refine w_bi (j := 7) (a := nI 11) rfl rfl (by decide) ?_
  refine w_csI (j := 8) rfl rfl rfl rfl rfl (sp_155) rfl ?_
  by_cases c1 : nI 0 ≤ iv ∧ iv ≤ nI 11
  rw [decide_eq_true c1]
  rotate_left
  · rw [decide_eq_false c1]
    refine w_eqB rfl rfl (fun _ => tail) (fun c => absurd c (by simp))
  refine w_eqB (j := 9) rfl rfl (fun c => absurd c (by simp)) (fun _ => ?_)
  refine w_il (j := 10) rfl rfl rfl ?_
  refine w_ic (n := 0) (j := 11) rfl rfl ?_
  refine w_ic (n := 1) (j := 12) rfl rfl ?_
  refine w_csI (j := 13) rfl rfl rfl rfl rfl (sp_155) rfl ?_
  rw [decide_eq_false (fun q => ok ⟨c1, q⟩)]
  refine w_neB (j := 14) rfl rfl (fun c => absurd c (by simp)) (fun _ => ?_)
  exact tail
theorem MX_loudest {w : Int32} (hw : ¬ (nI 0 ≤ w ∧ w ≤ nI 1)) : px_PI 2 244 [.ref 100, .int w] h (fun v h2 => h2 100 0 = nI 1 ∧ px_kp (ix_up h 102 1 (h 102 1 + nI 1)) h2) := by
  refine px_M (M := mt_244) (ops := mo_244) tb_244 rfl rfl rfl rfl rfl ?_
  refine w_al (j := 1) rfl rfl rfl ?_
  refine w_ic (n := 0) (j := 2) rfl rfl ?_
  refine w_pf (j := 3) rfl rfl (by first | assumption | rfl) (by first | assumption | rfl) rfl ?_
  refine w_al (j := 4) rfl rfl rfl ?_
  refine w_il (j := 5) rfl rfl rfl ?_
  refine w_ic (n := 0) (j := 6) rfl rfl ?_
  refine w_ic (n := 1) (j := 7) rfl rfl ?_
  refine w_csI (j := 8) rfl rfl rfl rfl rfl (sp_155) rfl ?_
  rw [decide_eq_false hw]
  refine w_neB (j := 9) rfl rfl (fun c => absurd c (by simp)) (fun _ => ?_)
  refine w_ic (n := 1) (j := 10) rfl rfl ?_
  refine w_go rfl ?_
  refine w_ic (n := 1) (j := 13) rfl rfl ?_
  refine w_ic (n := 1) (j := 14) rfl rfl ?_
  refine w_cvI (j := 15) rfl rfl rfl rfl (by first | assumption | rfl) rfl rfl (sp_154t (p := 1) (w := 1) rfl (by decide) (by decide) (by decide)) rfl ?_
  refine w_eqB (j := 16) rfl rfl (fun c => absurd c (by simp)) (fun _ => ?_)
  refine w_ic (n := 0) (j := 17) rfl rfl ?_
  refine w_ir rfl ?_
  exact ⟨_, _, rfl, rfl, px_kpX (by decide)⟩
-- prices
def pf_gn (a b v : Nat) : Nat := if a = b then a / 2 + v else if a < b then a else 0
theorem px_d2 : ∀ a, a < 100 → nI a / nI 2 = nI (a / 2) := by decide +kernel
theorem pf_gn_le {a b v : Nat} (ha : a < 10) (hv : v < 10) : pf_gn a b v < 20 := by
  unfold pf_gn
  split
  · omega
  · split <;> omega
theorem sp_133 {a b v : Nat} (ha : a < 10) (hb : b < 10) : px_V 1 133 [.int (nI a), .int (nI b), .int (nI v)] h (some (.int (nI (pf_gn a b v)))) h := by
  refine px_M (M := mt_133) (ops := mo_133) tb_133 rfl rfl rfl rfl rfl ?_
  refine w_il (j := 1) rfl rfl rfl ?_
  refine w_il (j := 2) rfl rfl rfl ?_
  refine w_neN (j := 3) rfl rfl (by omega) (by omega) (fun c1 => ?_) (fun c1 => ?_)
  ·
    refine w_il (j := 10) rfl rfl rfl ?_
    refine w_il (j := 11) rfl rfl rfl ?_
    refine w_geN (j := 12) rfl rfl (by omega) (by omega) (fun c2 => ?_) (fun c2 => ?_)
    ·
      refine w_ic (n := 0) (j := 15) rfl rfl ?_
      refine w_ir rfl ?_
      exact px_ri (by rw [pf_gn, if_neg c1, if_neg (by omega)])
    ·
      refine w_il (j := 13) rfl rfl rfl ?_
      refine w_go rfl ?_
      refine w_ir rfl ?_
      exact px_ri (by rw [pf_gn, if_neg c1, if_pos c2])
  ·
    refine w_il (j := 4) rfl rfl rfl ?_
    refine w_ic (n := 2) (j := 5) rfl rfl ?_
    refine w_div (j := 6) rfl rfl (by first | decide | assumption) ?_
    refine w_il (j := 7) rfl rfl rfl ?_
    first | refine w_add0 (j := 8) rfl rfl ?_ | refine w_addN (j := 8) rfl rfl ?_ | refine w_add (j := 8) rfl rfl ?_
    refine w_ir rfl ?_
    exact px_ri (by rw [pf_gn, if_pos c1, px_d2 a (by omega), px_nadd])
theorem sp_239 {a b v : Nat} (ha : a < 10) (hb : b < 10) : px_V 1 239 [.int (nI a), .int (nI b), .int (nI v)] h (some (.int (nI (pf_gn a b v)))) h := by
  refine px_M (M := mt_239) (ops := mo_239) tb_239 rfl rfl rfl rfl rfl ?_
  refine w_il (j := 1) rfl rfl rfl ?_
  refine w_il (j := 2) rfl rfl rfl ?_
  refine w_geN (j := 3) rfl rfl (by omega) (by omega) (fun c1 => ?_) (fun c1 => ?_)
  ·
    refine w_il (j := 6) rfl rfl rfl ?_
    refine w_il (j := 7) rfl rfl rfl ?_
    refine w_leN (j := 8) rfl rfl (by omega) (by omega) (fun c2 => ?_) (fun c2 => ?_)
    ·
      refine w_il (j := 11) rfl rfl rfl ?_
      refine w_ic (n := 2) (j := 12) rfl rfl ?_
      refine w_div (j := 13) rfl rfl (by first | decide | assumption) ?_
      refine w_il (j := 14) rfl rfl rfl ?_
      first | refine w_add0 (j := 15) rfl rfl ?_ | refine w_addN (j := 15) rfl rfl ?_ | refine w_add (j := 15) rfl rfl ?_
      refine w_ir rfl ?_
      exact px_ri (by rw [pf_gn, if_pos (by omega), px_d2 a (by omega), px_nadd])
    ·
      refine w_ic (n := 0) (j := 9) rfl rfl ?_
      refine w_go rfl ?_
      refine w_ir rfl ?_
      exact px_ri (by rw [pf_gn, if_neg (by omega), if_neg (by omega)])
  ·
    refine w_il (j := 4) rfl rfl rfl ?_
    refine w_go rfl ?_
    refine w_ir rfl ?_
    exact px_ri (by rw [pf_gn, if_neg (by omega), if_pos c1])
abbrev pf_ib (a b k v : Nat) : Prop := ∀ e, e < k + 1 → pf_gn e b v ≤ pf_gn a b v
theorem sp_132 {a b k v : Nat} (ha : a < 10) (hb : b < 10) (hk : k < 10) (hv : v < 10) : px_V 2 132 [.int (nI a), .int (nI b), .int (nI k), .int (nI v)] h (some (.int (px_b (decide (pf_ib a b k v))))) h := by
  have g0 := pf_gn_le (b := b) ha hv
  refine px_M (M := mt_132) (ops := mo_132) tb_132 rfl rfl rfl rfl rfl ?_
  refine w_il (j := 1) rfl rfl rfl ?_
  refine w_il (j := 2) rfl rfl rfl ?_
  refine w_il (j := 3) rfl rfl rfl ?_
  refine w_csI (j := 4) rfl rfl rfl rfl rfl (sp_133 ha hb) rfl ?_
  refine w_iS (j := 5) rfl rfl rfl ?_
  refine w_ic (n := 0) (j := 6) rfl rfl ?_
  refine w_iS (j := 7) rfl rfl rfl ?_
  refine px_forI (fun e ls h1 => h1 = h ∧ ls = [.int (nI a), .int (nI b), .int (nI k), .int (nI v), .int (nI (pf_gn a b v)), .int (nI e)] ∧ ∀ q, q < e → pf_gn q b v ≤ pf_gn a b v) (k + 1) ?_ ?_ ⟨rfl, rfl, fun q hq => by omega⟩
  · rintro e _ h1 he ⟨rfl, rfl, hq⟩ H
    have g1 := pf_gn_le (a := e) (b := b) (by omega) hv
    refine w_iL (j := 8) rfl rfl rfl ?_
    refine w_il (j := 9) rfl rfl rfl ?_
    refine w_gtN (j := 10) rfl rfl (by omega) (by omega) (fun c => absurd c (fun c => by omega)) (fun _ => ?_)
    refine w_iL (j := 11) rfl rfl rfl ?_
    refine w_il (j := 12) rfl rfl rfl ?_
    refine w_il (j := 13) rfl rfl rfl ?_
    refine w_csI (j := 14) rfl rfl rfl rfl rfl (sp_133 (by omega) hb) rfl ?_
    refine w_iL (j := 15) rfl rfl rfl ?_
    refine w_leN (j := 16) rfl rfl (by omega) (by omega) (fun c1 => ?_) (fun c1 => ?_)
    ·
      first | refine w_incN (j := 19) rfl rfl rfl ?_ | refine w_inc (j := 19) rfl rfl rfl rfl ?_
      refine w_go rfl ?_
      refine H _ _ ⟨rfl, rfl, fun q hq2 => ?_⟩
      by_cases e2 : q = e
      · subst e2; exact c1
      · exact hq q (by omega)
    ·
      refine w_ic (n := 0) (j := 17) rfl rfl ?_
      refine w_irB rfl (by first | exact Or.inl rfl | exact Or.inr rfl | exact px_b01 _) ?_
      exact px_rb0 (fun q => by have := q e he; omega)
  · rintro _ h1 ⟨rfl, rfl, hq⟩
    refine w_iL (j := 8) rfl rfl rfl ?_
    refine w_il (j := 9) rfl rfl rfl ?_
    refine w_gtN (j := 10) rfl rfl (by omega) (by omega) (fun _ => ?_) (fun c => absurd c (fun c => by omega))
    refine w_ic (n := 1) (j := 21) rfl rfl ?_
    refine w_irB rfl (by first | exact Or.inl rfl | exact Or.inr rfl | exact px_b01 _) ?_
    exact px_rb1 hq
theorem sp_240 {a b k v : Nat} (ha : a < 10) (hb : b < 10) (hk : k < 10) (hv : v < 10) : px_V 2 240 [.int (nI a), .int (nI b), .int (nI k), .int (nI v)] h (some (.int (px_b (decide (pf_ib a b k v))))) h := by
  have g0 := pf_gn_le (b := b) ha hv
  refine px_M (M := mt_240) (ops := mo_240) tb_240 rfl rfl rfl rfl rfl ?_
  refine w_ic (n := 0) (j := 1) rfl rfl ?_
  refine w_iS (j := 2) rfl rfl rfl ?_
  refine px_forI (fun e ls h1 => h1 = h ∧ ls = [.int (nI a), .int (nI b), .int (nI k), .int (nI v), .int (nI e)] ∧ ∀ q, q < e → pf_gn q b v ≤ pf_gn a b v) (k + 1) ?_ ?_ ⟨rfl, rfl, fun q hq => by omega⟩
  · rintro e _ h1 he ⟨rfl, rfl, hq⟩ H
    have g1 := pf_gn_le (a := e) (b := b) (by omega) hv
    refine w_iL (j := 3) rfl rfl rfl ?_
    refine w_il (j := 4) rfl rfl rfl ?_
    refine w_gtN (j := 5) rfl rfl (by omega) (by omega) (fun c => absurd c (fun c => by omega)) (fun _ => ?_)
    refine w_iL (j := 6) rfl rfl rfl ?_
    refine w_il (j := 7) rfl rfl rfl ?_
    refine w_il (j := 8) rfl rfl rfl ?_
    refine w_csI (j := 9) rfl rfl rfl rfl rfl (sp_239 (by omega) hb) rfl ?_
    refine w_il (j := 10) rfl rfl rfl ?_
    refine w_il (j := 11) rfl rfl rfl ?_
    refine w_il (j := 12) rfl rfl rfl ?_
    refine w_csI (j := 13) rfl rfl rfl rfl rfl (sp_239 ha hb) rfl ?_
    refine w_leN (j := 14) rfl rfl (by omega) (by omega) (fun c1 => ?_) (fun c1 => ?_)
    ·
      first | refine w_incN (j := 17) rfl rfl rfl ?_ | refine w_inc (j := 17) rfl rfl rfl rfl ?_
      refine w_go rfl ?_
      refine H _ _ ⟨rfl, rfl, fun q hq2 => ?_⟩
      by_cases e2 : q = e
      · subst e2; exact c1
      · exact hq q (by omega)
    ·
      refine w_ic (n := 0) (j := 15) rfl rfl ?_
      refine w_irB rfl (by first | exact Or.inl rfl | exact Or.inr rfl | exact px_b01 _) ?_
      exact px_rb0 (fun q => by have := q e he; omega)
  · rintro _ h1 ⟨rfl, rfl, hq⟩
    refine w_iL (j := 3) rfl rfl rfl ?_
    refine w_il (j := 4) rfl rfl rfl ?_
    refine w_gtN (j := 5) rfl rfl (by omega) (by omega) (fun _ => ?_) (fun c => absurd c (fun c => by omega))
    refine w_ic (n := 1) (j := 19) rfl rfl ?_
    refine w_irB rfl (by first | exact Or.inl rfl | exact Or.inr rfl | exact px_b01 _) ?_
    exact px_rb1 hq
def pf_pp (k v a b : Nat) (s : Int32 × Int32 × Int32) : Int32 × Int32 × Int32 := if pf_ib a b k v ∧ pf_ib b a k v then (s.1 + nI 1, (if s.2.1 = -1 then nI (10 * a + b) else s.2.1), (if s.2.1 = -1 then nI (pf_gn a b v + pf_gn b a v) else s.2.2)) else s
def pf_pq (k v a : Nat) (s : Int32 × Int32 × Int32) : Int32 × Int32 × Int32 := px_fold (pf_pp k v a) (k + 1) s
def pf_pz (k v : Nat) : Nat → Int32 × Int32 × Int32 := fun n => px_fold (pf_pq k v) n (nI 0, -1, nI 0)
def pf_prc (k v m : Nat) : Int32 := if m = 0 then (pf_pz k v (k + 1)).1 else if m = 1 then (pf_pz k v (k + 1)).2.1 else (pf_pz k v (k + 1)).2.2
theorem pf_pz1 (k v n : Nat) : pf_pz k v (n + 1) = px_fold (pf_pp k v n) (k + 1) (pf_pz k v n) := rfl
theorem C_prices {a b w : Int32} : px_CO 5 131 [.ref 0, .int a, .int b, .int w] h (fun x h1 => ∃ k v m, k ≤ 9 ∧ v ≤ 9 ∧ m ≤ 2 ∧ a = nI k ∧ b = nI v ∧ w = nI m ∧ x = pf_prc k v m ∧ px_kp h h1) (fun x h1 => x = 0 ∧ ¬ ((nI 0 ≤ a ∧ a ≤ nI 9) ∧ (nI 0 ≤ b ∧ b ≤ nI 9) ∧ nI 0 ≤ w ∧ w ≤ nI 2) ∧ h1 = px_hX 0 h) := by
  refine px_M (M := mt_131) (ops := mo_131) tb_131 rfl rfl rfl rfl rfl ?_
  refine w_al (j := 1) rfl rfl rfl ?_
  refine w_il (j := 2) rfl rfl rfl ?_
  refine w_ic (n := 0) (j := 3) rfl rfl ?_
  refine w_bi (j := 4) (a := nI 9) rfl rfl (by decide) ?_
  refine w_chk (j := 5) rfl rfl rfl rfl (by first | assumption | rfl) rfl rfl (sp_147) rfl (fun c1 => ?_) (fun c1 => ?_)
  · exact Or.inr ⟨_, _, rfl, rfl, fun q => c1 q.1, rfl⟩
  refine w_al (j := 6) rfl rfl rfl ?_
  refine w_il (j := 7) rfl rfl rfl ?_
  refine w_ic (n := 0) (j := 8) rfl rfl ?_
  refine w_bi (j := 9) (a := nI 9) rfl rfl (by decide) ?_
  refine w_chk (j := 10) rfl rfl rfl rfl (by first | assumption | rfl) rfl rfl (sp_147) rfl (fun c2 => ?_) (fun c2 => ?_)
  · exact Or.inr ⟨_, _, rfl, rfl, fun q => c2 q.2.1, rfl⟩
  refine w_al (j := 11) rfl rfl rfl ?_
  refine w_il (j := 12) rfl rfl rfl ?_
  refine w_ic (n := 0) (j := 13) rfl rfl ?_
  refine w_ic (n := 2) (j := 14) rfl rfl ?_
  refine w_chk (j := 15) rfl rfl rfl rfl (by first | assumption | rfl) rfl rfl (sp_147) rfl (fun c3 => ?_) (fun c3 => ?_)
  · exact Or.inr ⟨_, _, rfl, rfl, fun q => c3 q.2.2, rfl⟩
  obtain ⟨k, hk, rfl⟩ := px_bnd2 (by decide) c1
  obtain ⟨v, hv, rfl⟩ := px_bnd2 (by decide) c2
  obtain ⟨m, hm, rfl⟩ := px_bnd2 (by decide) c3
  refine w_ic (n := 0) (j := 16) rfl rfl ?_
  refine w_iS (j := 17) rfl rfl rfl ?_
  refine w_im (j := 18) rfl rfl ?_
  refine w_iS (j := 19) rfl rfl rfl ?_
  refine w_ic (n := 0) (j := 20) rfl rfl ?_
  refine w_iS (j := 21) rfl rfl rfl ?_
  refine w_ic (n := 0) (j := 22) rfl rfl ?_
  refine w_iS (j := 23) rfl rfl rfl ?_
  refine px_forI (fun c ls h1 => h1 = h ∧ ∃ g, ls = [.ref 0, .int (nI k), .int (nI v), .int (nI m), .int (pf_pz k v c).1, .int (pf_pz k v c).2.1, .int (pf_pz k v c).2.2, .int (nI c), g]) (k + 1) ?_ ?_ ⟨rfl, _, rfl⟩
  · rintro c _ h1 hc ⟨rfl, g, rfl⟩ H
    refine w_iL (j := 24) rfl rfl rfl ?_
    refine w_il (j := 25) rfl rfl rfl ?_
    refine w_gtN (j := 26) rfl rfl (by omega) (by omega) (fun c => absurd c (fun c => by omega)) (fun _ => ?_)
    refine w_ic (n := 0) (j := 27) rfl rfl ?_
    refine w_iS (j := 28) rfl rfl rfl ?_
    refine px_for (fun j s => [.ref 0, .int (nI k), .int (nI v), .int (nI m), .int s.1, .int s.2.1, .int s.2.2, .int (nI c), .int (nI j)]) (fun _ => h1) (pf_pp k v c) (k + 1) (pf_pz k v c) (fun _ _ => True) trivial (fun _ _ _ _ => trivial) ?_ ?_
    · intro j s hj _ H2
      refine w_iL (j := 29) rfl rfl rfl ?_
      refine w_il (j := 30) rfl rfl rfl ?_
      refine w_gtN (j := 31) rfl rfl (by omega) (by omega) (fun c => absurd c (fun c => by omega)) (fun _ => ?_)
      refine w_iL (j := 32) rfl rfl rfl ?_
      refine w_iL (j := 33) rfl rfl rfl ?_
      refine w_il (j := 34) rfl rfl rfl ?_
      refine w_il (j := 35) rfl rfl rfl ?_
      refine w_csI (j := 36) rfl rfl rfl rfl rfl (sp_132 (by omega) (by omega) (by omega) (by omega)) rfl ?_
      refine w_eqB (j := 37) rfl rfl (fun d1 => ?_) (fun d1 => ?_)
      ·
        first | refine w_incN (j := 64) rfl rfl rfl ?_ | refine w_inc (j := 64) rfl rfl rfl rfl ?_
        refine w_go rfl ?_
        rw [pf_pp, if_neg (fun q => of_decide_eq_false d1 q.1)] at H2
        exact H2
      refine w_iL (j := 38) rfl rfl rfl ?_
      refine w_iL (j := 39) rfl rfl rfl ?_
      refine w_il (j := 40) rfl rfl rfl ?_
      refine w_il (j := 41) rfl rfl rfl ?_
      refine w_csI (j := 42) rfl rfl rfl rfl rfl (sp_132 (by omega) (by omega) (by omega) (by omega)) rfl ?_
      refine w_eqB (j := 43) rfl rfl (fun d2 => ?_) (fun d2 => ?_)
      ·
        first | refine w_incN (j := 64) rfl rfl rfl ?_ | refine w_inc (j := 64) rfl rfl rfl rfl ?_
        refine w_go rfl ?_
        rw [pf_pp, if_neg (fun q => of_decide_eq_false d2 q.2)] at H2
        exact H2
      rw [pf_pp, if_pos ⟨of_decide_eq_true d1, of_decide_eq_true d2⟩] at H2
      first | refine w_incN (j := 44) rfl rfl rfl ?_ | refine w_inc (j := 44) rfl rfl rfl rfl ?_
      refine w_iL (j := 45) rfl rfl rfl ?_
      refine w_im (j := 46) rfl rfl ?_
      refine w_ne (j := 47) rfl rfl (fun c4 => ?_) (fun c4 => ?_)
      ·
        first | refine w_incN (j := 64) rfl rfl rfl ?_ | refine w_inc (j := 64) rfl rfl rfl rfl ?_
        refine w_go rfl ?_
        rw [if_neg c4, if_neg c4] at H2
        exact H2
      refine w_bi (j := 48) (a := nI 10) rfl rfl (by decide) ?_
      refine w_iL (j := 49) rfl rfl rfl ?_
      first | refine w_mulN (j := 50) rfl rfl ?_ | refine w_mul (j := 50) rfl rfl ?_
      refine w_iL (j := 51) rfl rfl rfl ?_
      first | refine w_add0 (j := 52) rfl rfl ?_ | refine w_addN (j := 52) rfl rfl ?_ | refine w_add (j := 52) rfl rfl ?_
      refine w_iS (j := 53) rfl rfl rfl ?_
      refine w_iL (j := 54) rfl rfl rfl ?_
      refine w_iL (j := 55) rfl rfl rfl ?_
      refine w_il (j := 56) rfl rfl rfl ?_
      refine w_csI (j := 57) rfl rfl rfl rfl rfl (sp_133 (by omega) (by omega)) rfl ?_
      refine w_iL (j := 58) rfl rfl rfl ?_
      refine w_iL (j := 59) rfl rfl rfl ?_
      refine w_il (j := 60) rfl rfl rfl ?_
      refine w_csI (j := 61) rfl rfl rfl rfl rfl (sp_133 (by omega) (by omega)) rfl ?_
      first | refine w_add0 (j := 62) rfl rfl ?_ | refine w_addN (j := 62) rfl rfl ?_ | refine w_add (j := 62) rfl rfl ?_
      refine w_iS (j := 63) rfl rfl rfl ?_
      first | refine w_incN (j := 64) rfl rfl rfl ?_ | refine w_inc (j := 64) rfl rfl rfl rfl ?_
      refine w_go rfl ?_
      rw [if_pos c4, if_pos c4] at H2
      exact H2
    · intro _
      refine w_iL (j := 29) rfl rfl rfl ?_
      refine w_il (j := 30) rfl rfl rfl ?_
      refine w_gtN (j := 31) rfl rfl (by omega) (by omega) (fun _ => ?_) (fun c => absurd c (fun c => by omega))
      first | refine w_incN (j := 66) rfl rfl rfl ?_ | refine w_inc (j := 66) rfl rfl rfl rfl ?_
      refine w_go rfl ?_
      exact H _ _ ⟨rfl, _, rfl⟩
  · rintro _ h1 ⟨rfl, g, rfl⟩
    refine w_iL (j := 24) rfl rfl rfl ?_
    refine w_il (j := 25) rfl rfl rfl ?_
    refine w_gtN (j := 26) rfl rfl (by omega) (by omega) (fun _ => ?_) (fun c => absurd c (fun c => by omega))
    refine w_il (j := 68) rfl rfl rfl ?_
    refine w_ic (n := 2) (j := 69) rfl rfl ?_
    obtain rfl | rfl | rfl : m = 0 ∨ m = 1 ∨ m = 2 := by omega
    ·
      refine w_neN (j := 70) rfl rfl (by omega) (by omega) (fun _ => ?_) (fun c => absurd c (fun c => by omega))
      refine w_il (j := 73) rfl rfl rfl ?_
      refine w_neM (j := 74) rfl rfl (by omega) (fun c => absurd c (fun c => by omega)) (fun _ => ?_)
      refine w_iL (j := 75) rfl rfl rfl ?_
      refine w_go rfl ?_
      refine w_ir rfl ?_
      exact Or.inl ⟨_, _, rfl, k, v, 0, hk, hv, hm, rfl, rfl, rfl, rfl, px_kp.rf⟩
    ·
      refine w_neN (j := 70) rfl rfl (by omega) (by omega) (fun _ => ?_) (fun c => absurd c (fun c => by omega))
      refine w_il (j := 73) rfl rfl rfl ?_
      refine w_neM (j := 74) rfl rfl (by omega) (fun _ => ?_) (fun c => absurd c (fun c => by omega))
      refine w_iL (j := 77) rfl rfl rfl ?_
      refine w_ir rfl ?_
      exact Or.inl ⟨_, _, rfl, k, v, 1, hk, hv, hm, rfl, rfl, rfl, rfl, px_kp.rf⟩
    ·
      refine w_neN (j := 70) rfl rfl (by omega) (by omega) (fun c => absurd c (fun c => by omega)) (fun _ => ?_)
      refine w_iL (j := 71) rfl rfl rfl ?_
      refine w_ir rfl ?_
      exact Or.inl ⟨_, _, rfl, k, v, 2, hk, hv, hm, rfl, rfl, rfl, rfl, px_kp.rf⟩
def pf_mi3 (K : Nat) (s : Int32 × Int32 × Int32) : Prop := ∃ k, k ≤ K ∧ s.1 = nI k ∧ (k = 0 ↔ s.2.1 = -1)
theorem pf_mi3_s {K k v a b : Nat} {s : Int32 × Int32 × Int32} (hs : pf_mi3 K s) (hK : K < 1000000) (ha : a < 10) (hb : b < 10) : pf_mi3 (K + 1) (pf_pp k v a b s) ∧ ((s.1 = 0) ↔ (s.2.1 = -1)) := by
  obtain ⟨q, h1, h2, h3⟩ := hs
  have e : (s.1 = 0) ↔ (s.2.1 = -1) := by
    rw [← h3, h2]
    exact px_neq (b := 0) (by omega) (by decide)
  refine ⟨?_, e⟩
  unfold pf_pp
  by_cases hp : pf_ib a b k v ∧ pf_ib b a k v
  · rw [if_pos hp]
    refine ⟨q + 1, by omega, by show s.1 + nI 1 = _; rw [h2, px_nadd], ⟨fun z => by omega, fun z => ?_⟩⟩
    have z : (if s.2.1 = -1 then nI (10 * a + b) else s.2.1) = -1 := z
    by_cases h0 : s.2.1 = -1
    · rw [if_pos h0] at z; exact absurd z (px_nm1 (by omega))
    · rw [if_neg h0] at z; exact absurd z h0
  · rw [if_neg hp]
    exact ⟨q, by omega, h2, h3⟩
theorem M_prices {k v m : Nat} (hI : px_I h B N T cs L W I t) (hk : k ≤ 9) (hv : v ≤ 9) (hm : m ≤ 2) : px_PI 4 241 [.ref 100, .int (nI k), .int (nI v), .int (nI m)] h (fun w h2 => w = pf_prc k v m ∧ h2 100 0 = nI 0 ∧ px_kp h h2) := by
  refine px_M (M := mt_241) (ops := mo_241) tb_241 rfl rfl rfl rfl rfl ?_
  refine w_al (j := 1) rfl rfl rfl ?_
  refine w_ic (n := 0) (j := 2) rfl rfl ?_
  refine w_pf (j := 3) rfl rfl (by first | assumption | rfl) (by first | assumption | rfl) rfl ?_
  obtain ⟨I1, k1, t0⟩ := px_thr (v := nI 0) hI
  generalize ix_up h 100 0 (nI 0) = h1 at I1 k1 t0 ⊢
  clear I1
  refine w_al (j := 4) rfl rfl rfl ?_
  refine w_il (j := 5) rfl rfl rfl ?_
  refine w_ic (n := 0) (j := 6) rfl rfl ?_
  refine w_bi (j := 7) (a := nI 9) rfl rfl (by decide) ?_
  refine w_csI (j := 8) rfl rfl rfl rfl rfl (sp_155) rfl ?_
  rw [px_ofN hk (by decide)]
  refine w_eqB (j := 9) rfl rfl (fun c => absurd c (by simp)) (fun _ => ?_)
  refine w_il (j := 10) rfl rfl rfl ?_
  refine w_ic (n := 0) (j := 11) rfl rfl ?_
  refine w_bi (j := 12) (a := nI 9) rfl rfl (by decide) ?_
  refine w_csI (j := 13) rfl rfl rfl rfl rfl (sp_155) rfl ?_
  rw [px_ofN hv (by decide)]
  refine w_eqB (j := 14) rfl rfl (fun c => absurd c (by simp)) (fun _ => ?_)
  refine w_il (j := 15) rfl rfl rfl ?_
  refine w_ic (n := 0) (j := 16) rfl rfl ?_
  refine w_ic (n := 2) (j := 17) rfl rfl ?_
  refine w_csI (j := 18) rfl rfl rfl rfl rfl (sp_155) rfl ?_
  rw [px_ofN hm (by decide)]
  refine w_neB (j := 19) rfl rfl (fun _ => ?_) (fun c => absurd c (by simp))
  refine w_ic (n := 0) (j := 22) rfl rfl ?_
  refine w_ic (n := 1) (j := 23) rfl rfl ?_
  refine w_ic (n := 1) (j := 24) rfl rfl ?_
  refine w_cvI (j := 25) rfl rfl rfl rfl (by first | assumption | rfl) rfl rfl (sp_154f t0) rfl ?_
  refine w_eqB (j := 26) rfl rfl (fun _ => ?_) (fun c => absurd c (by simp))
  refine w_ic (n := 0) (j := 29) rfl rfl ?_
  refine w_iS (j := 30) rfl rfl rfl ?_
  refine w_im (j := 31) rfl rfl ?_
  refine w_iS (j := 32) rfl rfl rfl ?_
  refine w_ic (n := 0) (j := 33) rfl rfl ?_
  refine w_iS (j := 34) rfl rfl rfl ?_
  refine w_ic (n := 0) (j := 35) rfl rfl ?_
  refine w_iS (j := 36) rfl rfl rfl ?_
  refine px_forI (fun c ls h2 => h2 = h1 ∧ pf_mi3 (10 * c) (pf_pz k v c) ∧ ∃ g, ls = [.ref 100, .int (nI k), .int (nI v), .int (nI m), .int (pf_pz k v c).1, .int (pf_pz k v c).2.1, .int (pf_pz k v c).2.2, .int (nI c), g]) (k + 1) ?_ ?_ ⟨rfl, ⟨0, by decide, rfl, ⟨fun _ => rfl, fun _ => rfl⟩⟩, _, rfl⟩
  · rintro c _ h2 hc ⟨rfl, mi, g, rfl⟩ H
    refine w_iL (j := 37) rfl rfl rfl ?_
    refine w_il (j := 38) rfl rfl rfl ?_
    refine w_gtN (j := 39) rfl rfl (by omega) (by omega) (fun c => absurd c (fun c => by omega)) (fun _ => ?_)
    refine w_ic (n := 0) (j := 40) rfl rfl ?_
    refine w_iS (j := 41) rfl rfl rfl ?_
    refine px_for (fun j s => [.ref 100, .int (nI k), .int (nI v), .int (nI m), .int s.1, .int s.2.1, .int s.2.2, .int (nI c), .int (nI j)]) (fun _ => h2) (pf_pp k v c) (k + 1) (pf_pz k v c) (fun j s => pf_mi3 (10 * c + j) s) mi (fun j s hj hs => (pf_mi3_s hs (by omega) (by omega) (by omega)).1) ?_ ?_
    · intro j s hj ms H2
      have e := (pf_mi3_s (k := k) (v := v) (a := c) (b := j) ms (by omega) (by omega) (by omega)).2
      refine w_iL (j := 42) rfl rfl rfl ?_
      refine w_il (j := 43) rfl rfl rfl ?_
      refine w_gtN (j := 44) rfl rfl (by omega) (by omega) (fun c => absurd c (fun c => by omega)) (fun _ => ?_)
      refine w_iL (j := 45) rfl rfl rfl ?_
      refine w_iL (j := 46) rfl rfl rfl ?_
      refine w_il (j := 47) rfl rfl rfl ?_
      refine w_il (j := 48) rfl rfl rfl ?_
      refine w_csI (j := 49) rfl rfl rfl rfl rfl (sp_240 (by omega) (by omega) (by omega) (by omega)) rfl ?_
      refine w_eqB (j := 50) rfl rfl (fun d1 => ?_) (fun d1 => ?_)
      ·
        first | refine w_incN (j := 83) rfl rfl rfl ?_ | refine w_inc (j := 83) rfl rfl rfl rfl ?_
        refine w_go rfl ?_
        rw [pf_pp, if_neg (fun q => of_decide_eq_false d1 q.1)] at H2
        exact H2
      refine w_iL (j := 51) rfl rfl rfl ?_
      refine w_iL (j := 52) rfl rfl rfl ?_
      refine w_il (j := 53) rfl rfl rfl ?_
      refine w_il (j := 54) rfl rfl rfl ?_
      refine w_csI (j := 55) rfl rfl rfl rfl rfl (sp_240 (by omega) (by omega) (by omega) (by omega)) rfl ?_
      refine w_neB (j := 56) rfl rfl (fun d2 => ?_) (fun d2 => ?_)
      rotate_left
      ·
        refine w_go rfl ?_
        first | refine w_incN (j := 83) rfl rfl rfl ?_ | refine w_inc (j := 83) rfl rfl rfl rfl ?_
        refine w_go rfl ?_
        rw [pf_pp, if_neg (fun q => of_decide_eq_false d2 q.2)] at H2
        exact H2
      rw [pf_pp, if_pos ⟨of_decide_eq_true d1, of_decide_eq_true d2⟩] at H2
      refine w_iL (j := 58) rfl rfl rfl ?_
      refine w_neZ (j := 59) rfl rfl (fun c4 => ?_) (fun c4 => ?_)
      ·
        refine w_iL (j := 70) rfl rfl rfl ?_
        refine w_iS (j := 71) rfl rfl rfl ?_
        refine w_iL (j := 72) rfl rfl rfl ?_
        refine w_neZ (j := 73) rfl rfl (fun _ => ?_) (fun c => absurd c c4)
        refine w_iL (j := 80) rfl rfl rfl ?_
        refine w_iS (j := 81) rfl rfl rfl ?_
        first | refine w_incN (j := 82) rfl rfl rfl ?_ | refine w_inc (j := 82) rfl rfl rfl rfl ?_
        first | refine w_incN (j := 83) rfl rfl rfl ?_ | refine w_inc (j := 83) rfl rfl rfl rfl ?_
        refine w_go rfl ?_
        rw [if_neg (fun q => c4 (e.mpr q)), if_neg (fun q => c4 (e.mpr q))] at H2
        exact H2
      refine w_iL (j := 60) rfl rfl rfl ?_
      refine w_iL (j := 61) rfl rfl rfl ?_
      refine w_il (j := 62) rfl rfl rfl ?_
      refine w_csI (j := 63) rfl rfl rfl rfl rfl (sp_239 (by omega) (by omega)) rfl ?_
      refine w_iL (j := 64) rfl rfl rfl ?_
      refine w_iL (j := 65) rfl rfl rfl ?_
      refine w_il (j := 66) rfl rfl rfl ?_
      refine w_csI (j := 67) rfl rfl rfl rfl rfl (sp_239 (by omega) (by omega)) rfl ?_
      first | refine w_add0 (j := 68) rfl rfl ?_ | refine w_addN (j := 68) rfl rfl ?_ | refine w_add (j := 68) rfl rfl ?_
      refine w_go rfl ?_
      refine w_iS (j := 71) rfl rfl rfl ?_
      refine w_iL (j := 72) rfl rfl rfl ?_
      refine w_neZ (j := 73) rfl rfl (fun c => absurd c (fun q => q c4)) (fun _ => ?_)
      refine w_bi (j := 74) (a := nI 10) rfl rfl (by decide) ?_
      refine w_iL (j := 75) rfl rfl rfl ?_
      first | refine w_mulN (j := 76) rfl rfl ?_ | refine w_mul (j := 76) rfl rfl ?_
      refine w_iL (j := 77) rfl rfl rfl ?_
      first | refine w_add0 (j := 78) rfl rfl ?_ | refine w_addN (j := 78) rfl rfl ?_ | refine w_add (j := 78) rfl rfl ?_
      refine w_go rfl ?_
      refine w_iS (j := 81) rfl rfl rfl ?_
      first | refine w_incN (j := 82) rfl rfl rfl ?_ | refine w_inc (j := 82) rfl rfl rfl rfl ?_
      first | refine w_incN (j := 83) rfl rfl rfl ?_ | refine w_inc (j := 83) rfl rfl rfl rfl ?_
      refine w_go rfl ?_
      rw [if_pos (e.mp c4), if_pos (e.mp c4)] at H2
      exact H2
    · intro mi2
      refine w_iL (j := 42) rfl rfl rfl ?_
      refine w_il (j := 43) rfl rfl rfl ?_
      refine w_gtN (j := 44) rfl rfl (by omega) (by omega) (fun _ => ?_) (fun c => absurd c (fun c => by omega))
      first | refine w_incN (j := 85) rfl rfl rfl ?_ | refine w_inc (j := 85) rfl rfl rfl rfl ?_
      refine w_go rfl ?_
      refine H _ _ ⟨rfl, ?_, _, rfl⟩
      obtain ⟨q, q1, q2⟩ := mi2
      exact ⟨q, by omega, q2⟩
  · rintro _ h2 ⟨rfl, mi, g, rfl⟩
    refine w_iL (j := 37) rfl rfl rfl ?_
    refine w_il (j := 38) rfl rfl rfl ?_
    refine w_gtN (j := 39) rfl rfl (by omega) (by omega) (fun _ => ?_) (fun c => absurd c (fun c => by omega))
    refine w_il (j := 87) rfl rfl rfl ?_
    obtain rfl | rfl | rfl : m = 0 ∨ m = 1 ∨ m = 2 := by omega
    ·
      refine w_neM (j := 88) rfl rfl (by omega) (fun c => absurd c (fun c => by omega)) (fun _ => ?_)
      refine w_iL (j := 89) rfl rfl rfl ?_
      refine w_go rfl ?_
      refine w_ir rfl ?_
      exact ⟨_, _, rfl, rfl, t0, k1⟩
    ·
      refine w_neM (j := 88) rfl rfl (by omega) (fun _ => ?_) (fun c => absurd c (fun c => by omega))
      refine w_il (j := 91) rfl rfl rfl ?_
      refine w_ic (n := 1) (j := 92) rfl rfl ?_
      refine w_neN (j := 93) rfl rfl (by omega) (by omega) (fun c => absurd c (fun c => by omega)) (fun _ => ?_)
      refine w_iL (j := 94) rfl rfl rfl ?_
      refine w_go rfl ?_
      refine w_ir rfl ?_
      exact ⟨_, _, rfl, rfl, t0, k1⟩
    ·
      refine w_neM (j := 88) rfl rfl (by omega) (fun _ => ?_) (fun c => absurd c (fun c => by omega))
      refine w_il (j := 91) rfl rfl rfl ?_
      refine w_ic (n := 1) (j := 92) rfl rfl ?_
      refine w_neN (j := 93) rfl rfl (by omega) (by omega) (fun _ => ?_) (fun c => absurd c (fun c => by omega))
      refine w_iL (j := 96) rfl rfl rfl ?_
      refine w_ir rfl ?_
      exact ⟨_, _, rfl, rfl, t0, k1⟩
theorem MX_prices {a b w : Int32} (ok : ¬ ((nI 0 ≤ a ∧ a ≤ nI 9) ∧ (nI 0 ≤ b ∧ b ≤ nI 9) ∧ nI 0 ≤ w ∧ w ≤ nI 2)) : px_PI 4 241 [.ref 100, .int a, .int b, .int w] h (fun v h2 => h2 100 0 = nI 1 ∧ px_kp (ix_up h 102 1 (h 102 1 + nI 1)) h2) := by
  have tail : px_R px_E 3 mo_241 [] 19 [.ref 100, .int a, .int b, .int w, .null, .null, .null, .null, .null] [.ref 100] (ix_up h 100 0 (nI 0)) 0 (fun r => ∃ v h', r = (.inl (some (.int v)), h', 0) ∧ h' 100 0 = nI 1 ∧ px_kp (ix_up h 102 1 (h 102 1 + nI 1)) h') := by
    refine w_ic (n := 1) (j := 20) rfl rfl ?_
    refine w_go rfl ?_
    refine w_ic (n := 1) (j := 23) rfl rfl ?_
    refine w_ic (n := 1) (j := 24) rfl rfl ?_
    refine w_cvI (j := 25) rfl rfl rfl rfl (by first | assumption | rfl) rfl rfl (sp_154t (p := 1) (w := 1) rfl (by decide) (by decide) (by decide)) rfl ?_
    refine w_eqB (j := 26) rfl rfl (fun c => absurd c (by simp)) (fun _ => ?_)
    refine w_ic (n := 0) (j := 27) rfl rfl ?_
    refine w_ir rfl ?_
    exact ⟨_, _, rfl, rfl, px_kpX (by decide)⟩
  refine px_M (M := mt_241) (ops := mo_241) tb_241 rfl rfl rfl rfl rfl ?_
  refine w_al (j := 1) rfl rfl rfl ?_
  refine w_ic (n := 0) (j := 2) rfl rfl ?_
  refine w_pf (j := 3) rfl rfl (by first | assumption | rfl) (by first | assumption | rfl) rfl ?_
  refine w_al (j := 4) rfl rfl rfl ?_
  refine w_il (j := 5) rfl rfl rfl ?_
  refine w_ic (n := 0) (j := 6) rfl rfl ?_
  refine w_bi (j := 7) (a := nI 9) rfl rfl (by decide) ?_
  refine w_csI (j := 8) rfl rfl rfl rfl rfl (sp_155) rfl ?_
  by_cases c1 : nI 0 ≤ a ∧ a ≤ nI 9
  rw [decide_eq_true c1]
  rotate_left
  · rw [decide_eq_false c1]
    refine w_eqB rfl rfl (fun _ => tail) (fun c => absurd c (by simp))
  refine w_eqB (j := 9) rfl rfl (fun c => absurd c (by simp)) (fun _ => ?_)
  refine w_il (j := 10) rfl rfl rfl ?_
  refine w_ic (n := 0) (j := 11) rfl rfl ?_
  refine w_bi (j := 12) (a := nI 9) rfl rfl (by decide) ?_
  refine w_csI (j := 13) rfl rfl rfl rfl rfl (sp_155) rfl ?_
  by_cases c2 : nI 0 ≤ b ∧ b ≤ nI 9
  rw [decide_eq_true c2]
  rotate_left
  · rw [decide_eq_false c2]
    refine w_eqB rfl rfl (fun _ => tail) (fun c => absurd c (by simp))
  refine w_eqB (j := 14) rfl rfl (fun c => absurd c (by simp)) (fun _ => ?_)
  refine w_il (j := 15) rfl rfl rfl ?_
  refine w_ic (n := 0) (j := 16) rfl rfl ?_
  refine w_ic (n := 2) (j := 17) rfl rfl ?_
  refine w_csI (j := 18) rfl rfl rfl rfl rfl (sp_155) rfl ?_
  rw [decide_eq_false (fun q => ok ⟨c1, c2, q⟩)]
  refine w_neB (j := 19) rfl rfl (fun c => absurd c (by simp)) (fun _ => ?_)
  exact tail
end OPS
