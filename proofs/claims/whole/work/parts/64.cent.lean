def pf_sd (x : Int32) : Int32 := x * nI 1103515245 + nI 12345
def pf_du (x : Int32) : Int32 := (x.toUInt32 >>> ((nI 16).toUInt32 &&& Int32.toUInt32 31)).toInt32 &&& nI 32767
def pf_dv (x : Int32) : Nat := (pf_du x).toBitVec.toNat
theorem pf_dv_lt (x : Int32) : pf_dv x < 32768 := by
  unfold pf_dv pf_du
  rw [Int32.toBitVec_and, BitVec.toNat_and]
  have : ∀ a : Nat, a &&& (nI 32767).toBitVec.toNat ≤ 32767 := fun a => Nat.and_le_right
  have := this (x.toUInt32 >>> ((nI 16).toUInt32 &&& Int32.toUInt32 31)).toInt32.toBitVec.toNat
  omega
theorem pf_du_eq (x : Int32) : pf_du x = nI (pf_dv x) := Int32.toBitVec_inj.mp (by show _ = BitVec.ofNat 32 _; unfold pf_dv; simp)
theorem px_su31 : ∀ n, n < 32 → (((nI n).toUInt32 &&& Int32.toUInt32 31).toBitVec % 32).toNat = n := by decide +kernel
theorem pf_g_ushr (n : Nat) (hn : n < 32) (x : Int32) (i : Nat) : pf_g ((x.toUInt32 >>> ((nI n).toUInt32 &&& Int32.toUInt32 31)).toInt32) i = pf_g x (n + i) := by
  show (x.toUInt32 >>> ((nI n).toUInt32 &&& Int32.toUInt32 31)).toBitVec.getLsbD i = x.toUInt32.toBitVec.getLsbD (n + i)
  rw [UInt32.toBitVec_shiftRight]
  show (x.toUInt32.toBitVec >>> (((nI n).toUInt32 &&& Int32.toUInt32 31).toBitVec % 32).toNat).getLsbD i = _
  rw [px_su31 n hn, BitVec.getLsbD_ushiftRight]
theorem pf_g_sshr (n : Nat) (hn : n < 32) (x : Int32) {i : Nat} (hi : i < 32) : pf_g (x >>> (nI n &&& 31)) i = if n + i < 32 then pf_g x (n + i) else pf_g x 31 := by
  unfold pf_g
  rw [Int32.toBitVec_shiftRight]
  show (x.toBitVec.sshiftRight ((nI n &&& 31).toBitVec.smod 32).toNat).getLsbD i = _
  rw [px_sl31 n hn, BitVec.getLsbD_sshiftRight, BitVec.msb_eq_getLsbD_last]
  simp [hi]
theorem pf_g_15 : ∀ i, i < 32 → pf_g (nI 32767) i = decide (i < 15) := by decide +kernel
theorem pf_du_s (x : Int32) : x >>> (nI 16 &&& 31) &&& nI 32767 = nI (pf_dv x) := by
  rw [← pf_du_eq]
  apply px_bitx
  intro i hi
  show pf_g _ i = pf_g _ i
  unfold pf_du
  rw [pf_g_and, pf_g_and, pf_g_15 i hi, pf_g_ushr 16 (by decide), pf_g_sshr 16 (by decide) x hi]
  by_cases h1 : i < 15
  · rw [if_pos (by omega)]
  · rw [decide_eq_false h1, Bool.and_false, Bool.and_false]
theorem px_ndiv {a b : Nat} (ha : a < 2147483648) (hb : b < 2147483648) : nI a / nI b = nI (a / b) := by
  have h1 : a / b ≤ a := Nat.div_le_self _ _
  apply Int32.toInt_inj.mp
  rw [Int32.toInt_div, nI_toInt ha, nI_toInt hb, ← Int.ofNat_tdiv]
  generalize a / b = c at h1 ⊢
  rw [nI_toInt (by omega), Int.bmod_eq_of_le (by omega) (by omega)]
theorem px_nrem {a b : Nat} (ha : a < 2147483648) (hb : b < 2147483648) : nI a - nI a / nI b * nI b = nI (a % b) := by
  have h1 : a / b * b ≤ a := Nat.div_mul_le_self a b
  rw [px_ndiv ha hb, px_nmul, px_nsub h1]
  congr 1
  have := Nat.div_add_mod a b
  rw [Nat.mul_comm] at this
  omega
section CE
variable {h : ix_H} {B N T L W I t : Nat} {cs : List (Nat × Nat)}
theorem sp_1 {k : Nat} (hk : 0 < k) (hk2 : k ≤ 16) : px_V 1 1 [.ref 90, .int (nI k)] h (some (.int (nI (pf_dv (pf_sd (h 90 2)) % k)))) (ix_up h 90 2 (pf_sd (h 90 2))) := by
  have d1 := pf_dv_lt (pf_sd (h 90 2))
  refine px_M (M := mt_1) (ops := mo_1) tb_1 rfl rfl rfl rfl rfl ?_
  refine w_al (j := 1) rfl rfl rfl ?_
  refine w_al (j := 2) rfl rfl rfl ?_
  first | refine w_gr (j := 3) rfl rfl (by first | assumption | rfl) (by first | assumption | rfl) rfl ?_ | refine w_gi (j := 3) rfl rfl (by first | assumption | rfl) (by first | assumption | rfl) rfl rfl ?_
  refine w_lc (j := 4) (a := nI 1103515245) rfl rfl (by decide) ?_
  refine w_mul (j := 5) rfl rfl ?_
  refine w_si (j := 6) (a := nI 12345) rfl rfl (by decide) ?_
  refine w_add (j := 7) rfl rfl ?_
  rw [show h 90 2 * nI 1103515245 + nI 12345 = pf_sd (h 90 2) from rfl]
  refine w_pf (j := 8) rfl rfl (by first | assumption | rfl) (by first | assumption | rfl) rfl ?_
  refine w_al (j := 9) rfl rfl rfl ?_
  first | refine w_gr (j := 10) rfl rfl (by first | assumption | rfl) (by first | assumption | rfl) rfl ?_ | refine w_gi (j := 10) rfl rfl (by first | assumption | rfl) (by first | assumption | rfl) rfl px_up_at ?_
  refine w_bi (j := 11) (a := nI 16) rfl rfl (by decide) ?_
  refine w_ushr (j := 12) rfl rfl ?_
  refine w_si (j := 13) (a := nI 32767) rfl rfl (by decide) ?_
  refine w_and (j := 14) rfl rfl ?_
  rw [show ((pf_sd (h 90 2)).toUInt32 >>> ((nI 16).toUInt32 &&& Int32.toUInt32 31)).toInt32 &&& nI 32767 = nI (pf_dv (pf_sd (h 90 2))) from pf_du_eq _]
  refine w_is (j := 15) rfl rfl rfl ?_
  refine w_il (j := 16) rfl rfl rfl ?_
  refine w_leM (j := 17) rfl rfl (by omega) (fun c => absurd c (fun c => by omega)) (fun _ => ?_)
  refine w_il (j := 18) rfl rfl rfl ?_
  refine w_il (j := 19) rfl rfl rfl ?_
  refine w_rem (j := 20) rfl rfl (nI_ne0 hk (by omega)) ?_
  refine w_go rfl ?_
  refine w_ir rfl ?_
  rw [px_nrem (by omega) (by omega)]
theorem sp_248 {k : Nat} (hk : 0 < k) (hk2 : k ≤ 16) : px_V 1 248 [.ref 100, .int (nI k)] h (some (.int (nI (pf_dv (pf_sd (h 100 47)) % k)))) (ix_up h 100 47 (pf_sd (h 100 47))) := by
  have d1 := pf_dv_lt (pf_sd (h 100 47))
  refine px_M (M := mt_248) (ops := mo_248) tb_248 rfl rfl rfl rfl rfl ?_
  refine w_al (j := 1) rfl rfl rfl ?_
  refine w_al (j := 2) rfl rfl rfl ?_
  first | refine w_gr (j := 3) rfl rfl (by first | assumption | rfl) (by first | assumption | rfl) rfl ?_ | refine w_gi (j := 3) rfl rfl (by first | assumption | rfl) (by first | assumption | rfl) rfl rfl ?_
  refine w_lw (j := 4) (a := nI 1103515245) rfl rfl (by decide) ?_
  refine w_mul (j := 5) rfl rfl ?_
  refine w_si (j := 6) (a := nI 12345) rfl rfl (by decide) ?_
  refine w_add (j := 7) rfl rfl ?_
  rw [show h 100 47 * nI 1103515245 + nI 12345 = pf_sd (h 100 47) from rfl]
  refine w_pf (j := 8) rfl rfl (by first | assumption | rfl) (by first | assumption | rfl) rfl ?_
  refine w_al (j := 9) rfl rfl rfl ?_
  first | refine w_gr (j := 10) rfl rfl (by first | assumption | rfl) (by first | assumption | rfl) rfl ?_ | refine w_gi (j := 10) rfl rfl (by first | assumption | rfl) (by first | assumption | rfl) rfl px_up_at ?_
  refine w_bi (j := 11) (a := nI 16) rfl rfl (by decide) ?_
  refine w_shr (j := 12) rfl rfl ?_
  refine w_si (j := 13) (a := nI 32767) rfl rfl (by decide) ?_
  refine w_and (j := 14) rfl rfl ?_
  rw [show (pf_sd (h 100 47)) >>> (nI 16 &&& 31) &&& nI 32767 = nI (pf_dv (pf_sd (h 100 47))) from pf_du_s _]
  refine w_il (j := 15) rfl rfl rfl ?_
  refine w_rem (j := 16) rfl rfl (nI_ne0 hk (by omega)) ?_
  refine w_ir rfl ?_
  rw [px_nrem (by omega) (by omega)]
theorem px_ofBd {b K : Nat} (hb : b < K) (hK : K ≤ 8) : decide (0 ≤ nI b ∧ nI b < nI K) = true := decide_eq_true ⟨px_nle0 (by omega), nI_lt hb (by omega)⟩
theorem sp_89 {x c : Nat} (hx : px_St x) (hN : h 3 7 = nI N) (hN8 : N ≤ 8) (hc : c < N) : px_V 2 89 [.ref x, .int (nI c)] h (some (.int (px_b (decide (0 ≤ h (x + 3) c))))) (if 0 ≤ h (x + 3) c then ix_up h (x + 3) c (-1) else h) := by
  obtain ⟨x1, x2, x3, x4, x5, x6, x7⟩ := hx
  refine px_M (M := mt_89) (ops := mo_89) tb_89 rfl rfl rfl rfl rfl ?_
  refine w_al (j := 1) rfl rfl rfl ?_
  first | refine w_gr (j := 2) rfl rfl (by first | assumption | rfl) (by first | assumption | rfl) rfl ?_ | refine w_gi (j := 2) rfl rfl (by first | assumption | rfl) (by first | assumption | rfl) rfl rfl ?_
  refine w_il (j := 3) rfl rfl rfl ?_
  refine w_cvI (j := 4) rfl rfl rfl rfl (by first | assumption | rfl) rfl rfl (sp_26 px_Ld3) rfl ?_
  rw [hN, px_ofBd hc hN8]
  refine w_eqB (j := 5) rfl rfl (fun c => absurd c (by simp)) (fun _ => ?_)
  refine w_al (j := 6) rfl rfl rfl ?_
  first | refine w_gr (j := 7) rfl rfl (by first | assumption | rfl) (by first | assumption | rfl) rfl ?_ | refine w_gi (j := 7) rfl rfl (by first | assumption | rfl) (by first | assumption | rfl) rfl rfl ?_
  refine w_il (j := 8) rfl rfl rfl ?_
  refine w_ial (j := 9) rfl rfl (by first | assumption | rfl) rfl (by omega) rfl rfl ?_
  refine w_geZ (j := 10) rfl rfl (fun c1 => ?_) (fun c1 => ?_)
  ·
    rw [if_pos c1]
    refine w_al (j := 13) rfl rfl rfl ?_
    first | refine w_gr (j := 14) rfl rfl (by first | assumption | rfl) (by first | assumption | rfl) rfl ?_ | refine w_gi (j := 14) rfl rfl (by first | assumption | rfl) (by first | assumption | rfl) rfl rfl ?_
    refine w_il (j := 15) rfl rfl rfl ?_
    refine w_im (j := 16) rfl rfl ?_
    refine w_ias (j := 17) rfl rfl (by first | assumption | rfl) rfl (by omega) rfl ?_
    refine w_ic (n := 1) (j := 18) rfl rfl ?_
    refine w_irB rfl (by first | exact Or.inl rfl | exact Or.inr rfl | exact px_b01 _) ?_
    exact px_rb1 c1
  ·
    rw [if_neg (px_not_le.mpr c1)]
    refine w_ic (n := 0) (j := 11) rfl rfl ?_
    refine w_irB rfl (by first | exact Or.inl rfl | exact Or.inr rfl | exact px_b01 _) ?_
    exact px_rb0 (px_not_le.mpr c1)
theorem sp_88 {x b : Nat} (hx : px_St x) (hB : h 3 6 = nI B) (hB6 : B ≤ 6) (hb : b < B) : px_V 2 88 [.ref x, .int (nI b)] h (some (.int (px_b (decide (pf_bt (h x 4) b ≠ 0))))) (if pf_bt (h x 4) b ≠ 0 then ix_up (ix_up h x 4 (h x 4 &&& (pf_bit b ^^^ (-1)))) x 5 (h x 5 + nI 1) else h) := by
  have hx' := hx
  obtain ⟨x1, x2, x3, x4, x5, x6, x7⟩ := hx
  refine px_M (M := mt_88) (ops := mo_88) tb_88 rfl rfl rfl rfl rfl ?_
  refine w_al (j := 1) rfl rfl rfl ?_
  first | refine w_gr (j := 2) rfl rfl (by first | assumption | rfl) (by first | assumption | rfl) rfl ?_ | refine w_gi (j := 2) rfl rfl (by first | assumption | rfl) (by first | assumption | rfl) rfl rfl ?_
  refine w_il (j := 3) rfl rfl rfl ?_
  refine w_cvI (j := 4) rfl rfl rfl rfl (by first | assumption | rfl) rfl rfl (sp_25 px_Ld3) rfl ?_
  rw [hB, px_ofBd hb (by omega)]
  refine w_eqB (j := 5) rfl rfl (fun c => absurd c (by simp)) (fun _ => ?_)
  refine w_al (j := 6) rfl rfl rfl ?_
  refine w_il (j := 7) rfl rfl rfl ?_
  refine w_cvI (j := 8) rfl rfl rfl rfl (by first | assumption | rfl) rfl rfl (sp_84 hx') rfl ?_
  refine w_neZ (j := 9) rfl rfl (fun c1 => ?_) (fun c1 => ?_)
  ·
    rw [if_pos c1]
    refine w_al (j := 12) rfl rfl rfl ?_
    first | refine w_dupr (j := 13) rfl rfl ?_ | refine w_dupi (j := 13) rfl rfl ?_
    first | refine w_gr (j := 14) rfl rfl (by first | assumption | rfl) (by first | assumption | rfl) rfl ?_ | refine w_gi (j := 14) rfl rfl (by first | assumption | rfl) (by first | assumption | rfl) rfl rfl ?_
    refine w_ic (n := 1) (j := 15) rfl rfl ?_
    refine w_il (j := 16) rfl rfl rfl ?_
    refine w_shl (j := 17) rfl rfl ?_
    refine w_im (j := 18) rfl rfl ?_
    refine w_xor (j := 19) rfl rfl ?_
    refine w_and (j := 20) rfl rfl ?_
    refine w_pf (j := 21) rfl rfl (by first | assumption | rfl) (by first | assumption | rfl) rfl ?_
    refine w_al (j := 22) rfl rfl rfl ?_
    first | refine w_dupr (j := 23) rfl rfl ?_ | refine w_dupi (j := 23) rfl rfl ?_
    refine w_gi (j := 24) (w := h x 5) rfl rfl (by first | assumption | rfl) (by first | assumption | rfl) rfl (px_up_nk (by decide)) ?_
    refine w_ic (n := 1) (j := 25) rfl rfl ?_
    first | refine w_add0 (j := 26) rfl rfl ?_ | refine w_addN (j := 26) rfl rfl ?_ | refine w_add (j := 26) rfl rfl ?_
    refine w_pf (j := 27) rfl rfl (by first | assumption | rfl) (by first | assumption | rfl) rfl ?_
    refine w_ic (n := 1) (j := 28) rfl rfl ?_
    refine w_irB rfl (by first | exact Or.inl rfl | exact Or.inr rfl | exact px_b01 _) ?_
    exact px_rb1 c1
  ·
    rw [if_neg (fun q => q c1)]
    refine w_ic (n := 0) (j := 10) rfl rfl ?_
    refine w_irB rfl (by first | exact Or.inl rfl | exact Or.inr rfl | exact px_b01 _) ?_
    exact px_rb0 (fun q => q c1)
theorem sp_203 {r c : Nat} (hr : px_Rw r) (hc : c < 8) : px_V 2 203 [.ref r, .int (nI c)] h (some (.int (px_b (decide (0 ≤ h r c))))) (if 0 ≤ h r c then ix_up h r c (-1) else h) := by
  obtain ⟨r1, r2, r3⟩ := hr
  refine px_M (M := mt_203) (ops := mo_203) tb_203 rfl rfl rfl rfl rfl ?_
  refine w_al (j := 1) rfl rfl rfl ?_
  refine w_ic (n := 0) (j := 2) rfl rfl ?_
  refine w_il (j := 3) rfl rfl rfl ?_
  first | refine w_add0 (j := 4) rfl rfl ?_ | refine w_addN (j := 4) rfl rfl ?_ | refine w_add (j := 4) rfl rfl ?_
  refine w_ial (j := 5) rfl rfl (by first | assumption | rfl) rfl (by omega) rfl rfl ?_
  refine w_geZ (j := 6) rfl rfl (fun c1 => ?_) (fun c1 => ?_)
  ·
    rw [if_pos c1]
    refine w_al (j := 9) rfl rfl rfl ?_
    refine w_ic (n := 0) (j := 10) rfl rfl ?_
    refine w_il (j := 11) rfl rfl rfl ?_
    first | refine w_add0 (j := 12) rfl rfl ?_ | refine w_addN (j := 12) rfl rfl ?_ | refine w_add (j := 12) rfl rfl ?_
    refine w_im (j := 13) rfl rfl ?_
    refine w_ias (j := 14) rfl rfl (by first | assumption | rfl) rfl (by omega) rfl ?_
    refine w_ic (n := 1) (j := 15) rfl rfl ?_
    refine w_irB rfl (by first | exact Or.inl rfl | exact Or.inr rfl | exact px_b01 _) ?_
    exact px_rb1 c1
  ·
    rw [if_neg (px_not_le.mpr c1)]
    refine w_ic (n := 0) (j := 7) rfl rfl ?_
    refine w_irB rfl (by first | exact Or.inl rfl | exact Or.inr rfl | exact px_b01 _) ?_
    exact px_rb0 (px_not_le.mpr c1)
theorem sp_202 {r b : Nat} (hr : px_Rw r) (hb : b < 6) : px_V 2 202 [.ref r, .int (nI b)] h (some (.int (px_b (decide (h r (24 + b) ≠ 0))))) (if h r (24 + b) ≠ 0 then ix_up (ix_up h r (24 + b) (nI 0)) r 30 (h r 30 + nI 1) else h) := by
  obtain ⟨r1, r2, r3⟩ := hr
  have z : ix_up h r (24 + b) (nI 0) r 30 = h r 30 := px_up_nk (by omega)
  refine px_M (M := mt_202) (ops := mo_202) tb_202 rfl rfl rfl rfl rfl ?_
  refine w_al (j := 1) rfl rfl rfl ?_
  refine w_bi (j := 2) (a := nI 24) rfl rfl (by decide) ?_
  refine w_il (j := 3) rfl rfl rfl ?_
  first | refine w_add0 (j := 4) rfl rfl ?_ | refine w_addN (j := 4) rfl rfl ?_ | refine w_add (j := 4) rfl rfl ?_
  refine w_ial (j := 5) rfl rfl (by first | assumption | rfl) rfl (by omega) rfl rfl ?_
  refine w_neZ (j := 6) rfl rfl (fun c1 => ?_) (fun c1 => ?_)
  ·
    rw [if_pos c1]
    refine w_al (j := 9) rfl rfl rfl ?_
    refine w_bi (j := 10) (a := nI 24) rfl rfl (by decide) ?_
    refine w_il (j := 11) rfl rfl rfl ?_
    first | refine w_add0 (j := 12) rfl rfl ?_ | refine w_addN (j := 12) rfl rfl ?_ | refine w_add (j := 12) rfl rfl ?_
    refine w_ic (n := 0) (j := 13) rfl rfl ?_
    refine w_ias (j := 14) rfl rfl (by first | assumption | rfl) rfl (by omega) rfl ?_
    refine w_al (j := 15) rfl rfl rfl ?_
    refine w_bi (j := 16) (a := nI 30) rfl rfl (by decide) ?_
    refine w_dup2 (j := 17) rfl rfl ?_
    refine w_ial (j := 18) rfl rfl (by first | assumption | rfl) rfl (by omega) rfl z ?_
    refine w_ic (n := 1) (j := 19) rfl rfl ?_
    first | refine w_add0 (j := 20) rfl rfl ?_ | refine w_addN (j := 20) rfl rfl ?_ | refine w_add (j := 20) rfl rfl ?_
    refine w_ias (j := 21) rfl rfl (by first | assumption | rfl) rfl (by omega) rfl ?_
    refine w_ic (n := 1) (j := 22) rfl rfl ?_
    refine w_irB rfl (by first | exact Or.inl rfl | exact Or.inr rfl | exact px_b01 _) ?_
    exact px_rb1 c1
  ·
    rw [if_neg (fun q => q c1)]
    refine w_ic (n := 0) (j := 7) rfl rfl ?_
    refine w_irB rfl (by first | exact Or.inl rfl | exact Or.inr rfl | exact px_b01 _) ?_
    exact px_rb0 (fun q => q c1)
end CE
def pf_lo (c : Nat) (S : px_S) : px_S := (S.1, S.2.1, fun j => if j = c then -1 else S.2.2.1 j, S.2.2.2)
def pf_ba (b : Nat) (S : px_S) : px_S := (S.1, S.2.1, S.2.2.1, S.2.2.2.1 &&& (pf_bit b ^^^ (-1)), S.2.2.2.2)
abbrev px_Z : Type := Int32 × Int32 × Int32 × px_S
def pf_c1b (N : Nat) (s2 : Int32) (Z : px_Z) : px_Z := if 0 ≤ Z.2.2.2.2.2.1 (pf_dv s2 % N) then (s2, Z.2.1 + nI 1, Z.2.2.1, pf_lo (pf_dv s2 % N) Z.2.2.2) else (s2, Z.2)
def pf_c1 (N : Nat) (q : Int32) (Z : px_Z) : px_Z := if nI (pf_dv (pf_sd Z.1) % 16) < q ∧ 0 < N then pf_c1b N (pf_sd (pf_sd Z.1)) Z else (pf_sd Z.1, Z.2)
def pf_c2b (B : Nat) (s2 : Int32) (Z : px_Z) : px_Z := if pf_bt Z.2.2.2.2.2.2.1 (pf_dv s2 % B) ≠ 0 then (s2, Z.2.1, Z.2.2.1 + nI 1, pf_ba (pf_dv s2 % B) Z.2.2.2) else (s2, Z.2)
def pf_c2 (B : Nat) (q : Int32) (Z : px_Z) : px_Z := if nI (pf_dv (pf_sd Z.1) % 16) < q ∧ 0 < B then pf_c2b B (pf_sd (pf_sd Z.1)) Z else (pf_sd Z.1, Z.2)
def pf_c3 (cs : List (Nat × Nat)) (N : Nat) (fd pt : Nat → Int32) (Z : px_Z) : px_Z := (Z.1, Z.2.1, Z.2.2.1, pf_yr cs N fd pt Z.2.2.2)
def pf_cy (h : ix_H) (cs : List (Nat × Nat)) (B N : Nat) (q m : Int32) (Z : px_Z) : px_Z := pf_c3 cs N (h 4) (h 6) (pf_c2 B m (pf_c1 N q Z))
def pf_cen (h : ix_H) (cs : List (Nat × Nat)) (B N : Nat) (sd q m : Int32) (y : Nat) : px_Z := px_fold (fun _ => pf_cy h cs B N q m) y (sd, nI 0, nI 0, pf_cS h 64)
theorem pf_btT : ∀ q, q < 64 → ∀ b, b < 6 → (∃ q', q' < 64 ∧ nI q &&& (pf_bit b ^^^ (-1)) = nI q') ∧ ∀ b', b' < 6 → pf_bt (nI q &&& (pf_bit b ^^^ (-1))) b' = if b' = b then nI 0 else pf_bt (nI q) b' := by
  have key : ∀ q, q < 64 → ∀ b, b < 6 → (nI q &&& (pf_bit b ^^^ (-1)) = nI (q - (if q / 2 ^ b % 2 = 1 then 2 ^ b else 0))) ∧ ∀ b', b' < 6 → pf_bt (nI q &&& (pf_bit b ^^^ (-1))) b' = if b' = b then nI 0 else pf_bt (nI q) b' := by decide +kernel
  intro q hq b hb
  exact ⟨⟨_, by omega, (key q hq b hb).1⟩, (key q hq b hb).2⟩
theorem pf_loO {B c : Nat} {S : px_S} (o : pf_oS B S) : pf_oS B (pf_lo c S) := by
  obtain ⟨o1, o2, o3⟩ := o
  refine ⟨o1, fun j hj => ?_, o3⟩
  show (if j = c then _ else _) = _ ∨ (if j = c then _ else _) = _ ∨ ∃ b, b < B ∧ (if j = c then _ else _) = nI b
  by_cases hjc : j = c
  · rw [if_pos hjc]; exact Or.inr (Or.inl rfl)
  · rw [if_neg hjc]; exact o2 j hj
theorem pf_baO {B b : Nat} {S : px_S} (o : pf_oS B S) (hb : b < 6) : pf_oS B (pf_ba b S) := by
  obtain ⟨o1, o2, q, hq, e⟩ := o
  refine ⟨o1, o2, ?_⟩
  show ∃ q, q < 64 ∧ S.2.2.2.1 &&& _ = nI q
  rw [e]
  exact (pf_btT q hq b hb).1
theorem pf_c1O {B N : Nat} {q : Int32} {Z : px_Z} (o : pf_oS B Z.2.2.2) : pf_oS B (pf_c1 N q Z).2.2.2 := by
  unfold pf_c1 pf_c1b
  split
  · split
    · exact pf_loO o
    · exact o
  · exact o
theorem pf_c2O {B : Nat} {q : Int32} {Z : px_Z} (hB : B ≤ 6) (o : pf_oS B Z.2.2.2) : pf_oS B (pf_c2 B q Z).2.2.2 := by
  unfold pf_c2 pf_c2b
  split
  · rename_i h1
    split
    · exact pf_baO o (by have := Nat.mod_lt (pf_dv (pf_sd (pf_sd Z.1))) h1.2; omega)
    · exact o
  · exact o
section CE
variable {h : ix_H} {B N T L W I t : Nat} {cs : List (Nat × Nat)}
theorem pf_cenO {sd q m : Int32} (hI : px_I h B N T cs L W I t) : ∀ y, pf_oS B (pf_cen h cs B N sd q m y).2.2.2
  | 0 => (px_nowS hI.2.2.2.1).2
  | y + 1 => pf_yrO (pf_c2O hI.1.2.2.1 (pf_c1O (pf_cenO hI y)))
def px_ce (h h1 : ix_H) (Z : px_Z) : Prop := px_kp h h1 ∧ h1 90 2 = Z.1 ∧ h1 90 3 = Z.2.1 ∧ h1 90 4 = Z.2.2.1 ∧ pf_cR Z.2.2.2 h1 68
theorem px_cel {h1 : ix_H} {Z : px_Z} {c : Nat} {s : Int32} (R : px_ce h h1 Z) (hs : h1 90 2 = s) (hc : c < 8) : px_ce h (ix_up (ix_up h1 71 c (-1)) 90 3 (ix_up h1 71 c (-1) 90 3 + nI 1)) (s, Z.2.1 + nI 1, Z.2.2.1, pf_lo c Z.2.2.2) := by
  obtain ⟨k, e2, e3, e4, R1, R2, R3, R4, R5⟩ := R
  refine ⟨(k.up (by decide) (fun e => absurd e (by decide))).up (by decide) (by decide), ?_, ?_, ?_, fun j hj => ?_, fun j hj => ?_, fun j hj => ?_, ?_, ?_⟩
  · rw [px_up_nk (by decide), px_up_na (by decide)]; exact hs
  · rw [px_up_at, px_up_na (by decide), e3]
  · rw [px_up_nk (by decide), px_up_na (by decide)]; exact e4
  · rw [px_up_na (by decide), px_up_na (by decide)]; exact R1 j hj
  · rw [px_up_na (by decide), px_up_na (by decide)]; exact R2 j hj
  · rw [px_up_na (by decide)]
    show ix_up h1 71 c (-1) 71 j = if j = c then -1 else _
    by_cases hjc : j = c
    · subst hjc; rw [px_up_at, if_pos rfl]
    · rw [px_up_nk hjc, if_neg hjc]; exact R3 j hj
  · rw [px_up_na (by decide), px_up_na (by decide)]; exact R4
  · rw [px_up_na (by decide), px_up_na (by decide)]; exact R5
theorem px_ceb {h1 : ix_H} {Z : px_Z} {b : Nat} {s : Int32} (R : px_ce h h1 Z) (hs : h1 90 2 = s) : px_ce h (ix_up (ix_up (ix_up h1 68 4 (h1 68 4 &&& (pf_bit b ^^^ (-1)))) 68 5 (h1 68 5 + nI 1)) 90 4 (ix_up (ix_up h1 68 4 (h1 68 4 &&& (pf_bit b ^^^ (-1)))) 68 5 (h1 68 5 + nI 1) 90 4 + nI 1)) (s, Z.2.1, Z.2.2.1 + nI 1, pf_ba b Z.2.2.2) := by
  obtain ⟨k, e2, e3, e4, R1, R2, R3, R4, R5⟩ := R
  refine ⟨((k.up (by decide) (by decide)).up (by decide) (by decide)).up (by decide) (by decide), ?_, ?_, ?_, fun j hj => ?_, fun j hj => ?_, fun j hj => ?_, ?_, ?_⟩
  · rw [px_up_nk (by decide), px_up_na (by decide), px_up_na (by decide)]; exact hs
  · rw [px_up_nk (by decide), px_up_na (by decide), px_up_na (by decide)]; exact e3
  · rw [px_up_at, px_up_na (by decide), px_up_na (by decide), e4]
  · rw [px_up_na (by decide), px_up_na (by decide), px_up_na (by decide)]; exact R1 j hj
  · rw [px_up_na (by decide), px_up_na (by decide), px_up_na (by decide)]; exact R2 j hj
  · rw [px_up_na (by decide), px_up_na (by decide), px_up_na (by decide)]; exact R3 j hj
  · rw [px_up_na (by decide), px_up_nk (by decide), px_up_at, R4]; rfl
  · rw [px_up_na (by decide), px_up_nk (by decide), px_up_nk (by decide)]; exact R5
theorem px_ces {h1 : ix_H} {Z : px_Z} {s : Int32} (R : px_ce h h1 Z) : px_ce h (ix_up h1 90 2 s) (s, Z.2) := by
  obtain ⟨k, e2, e3, e4, R1, R2, R3, R4, R5⟩ := R
  refine ⟨k.up (by decide) (by decide), px_up_at, ?_, ?_, fun j hj => ?_, fun j hj => ?_, fun j hj => ?_, ?_, ?_⟩
  · rw [px_up_nk (by decide)]; exact e3
  · rw [px_up_nk (by decide)]; exact e4
  · rw [px_up_na (by decide)]; exact R1 j hj
  · rw [px_up_na (by decide)]; exact R2 j hj
  · rw [px_up_na (by decide)]; exact R3 j hj
  · rw [px_up_na (by decide)]; exact R4
  · rw [px_up_na (by decide)]; exact R5
theorem sp_0 {h1 : ix_H} {sd q m : Int32} {y : Nat} (hI : px_I h B N T cs L W I t) (hy : y ≤ 96) (k : px_kp h h1) (R : pf_cR (pf_cS h 64) h1 68) : px_PU 7 0 [.ref 90, .ref 68, .int sd, .int (nI y), .int q, .int m] h1 (fun h2 => px_ce h h2 (pf_cen h cs B N sd q m y)) := by
  refine px_M (M := mt_0) (ops := mo_0) tb_0 rfl rfl rfl rfl rfl ?_
  refine w_al (j := 1) rfl rfl rfl ?_
  refine w_il (j := 2) rfl rfl rfl ?_
  refine w_pf (j := 3) rfl rfl (by first | assumption | rfl) (by first | assumption | rfl) rfl ?_
  refine w_al (j := 4) rfl rfl rfl ?_
  refine w_ic (n := 0) (j := 5) rfl rfl ?_
  refine w_pf (j := 6) rfl rfl (by first | assumption | rfl) (by first | assumption | rfl) rfl ?_
  refine w_al (j := 7) rfl rfl rfl ?_
  refine w_ic (n := 0) (j := 8) rfl rfl ?_
  refine w_pf (j := 9) rfl rfl (by first | assumption | rfl) (by first | assumption | rfl) rfl ?_
  refine w_ic (n := 0) (j := 10) rfl rfl ?_
  refine w_iS (j := 11) rfl rfl rfl ?_
  refine px_forI (fun c ls h2 => ls = [.ref 90, .ref 68, .int sd, .int (nI y), .int q, .int m, .int (nI c)] ∧ px_ce h h2 (pf_cen h cs B N sd q m c)) y ?_ ?_ ⟨rfl, ((k.up (by decide) (by decide)).up (by decide) (by decide)).up (by decide) (by decide), rfl, rfl, rfl, R⟩
  · rintro c _ h2 hc ⟨rfl, R⟩ H
    have ok := pf_cenO (sd := sd) (q := q) (m := m) hI c
    have ez : pf_cen h cs B N sd q m (c + 1) = pf_cy h cs B N q m (pf_cen h cs B N sd q m c) := rfl
    rw [ez] at H
    generalize pf_cen h cs B N sd q m c = Z at R H ok
    have hB6 := hI.1.2.2.1
    have p3 : ∀ h3, px_ce h h3 (pf_c2 B m (pf_c1 N q Z)) → px_R px_E 6 mo_0 [] 60 [.ref 90, .ref 68, .int sd, .int (nI y), .int q, .int m, .int (nI c)] [] h3 0 (fun r => ∃ h', r = (.inl none, h', 0) ∧ px_ce h h' (pf_cen h cs B N sd q m y)) := by
      intro h3 R3
      have I3 := hI.kp R3.1
      obtain ⟨⟨l1, l2, l3, l4, l5, l6, l7, l8, l9⟩, lw, -, nw, -⟩ := I3
      refine w_al (j := 61) rfl rfl rfl ?_
      first | refine w_gr (j := 62) rfl rfl (by first | assumption | rfl) (by first | assumption | rfl) rfl ?_ | refine w_gi (j := 62) rfl rfl (by first | assumption | rfl) (by first | assumption | rfl) rfl rfl ?_
      refine w_al (j := 63) rfl rfl rfl ?_
      refine w_cvPU (j := 64) rfl rfl rfl rfl (by first | assumption | rfl) rfl rfl (px_pass (fd := h 4) (pt := h 6) px_St68 l4 l6 l1 l3 lw.1 lw.2.2 (R3.1.1 4 (by decide)) (R3.1.1 6 (by decide)) R3.2.2.2.2 (pf_c2O hB6 (pf_c1O ok))) rfl ?_
      rintro h4 ⟨f1, f2, f3⟩
      first | refine w_incN (j := 65) rfl rfl rfl ?_ | refine w_inc (j := 65) rfl rfl rfl rfl ?_
      refine w_go rfl ?_
      refine H _ _ ⟨rfl, R3.1.fr f1 (by decide), ?_, ?_, ?_, f2⟩
      · rw [f1 90 (by decide)]; exact R3.2.1
      · rw [f1 90 (by decide)]; exact R3.2.2.1
      · rw [f1 90 (by decide)]; exact R3.2.2.2.1
    have p2 : ∀ h3, px_ce h h3 (pf_c1 N q Z) → px_R px_E 6 mo_0 [] 37 [.ref 90, .ref 68, .int sd, .int (nI y), .int q, .int m, .int (nI c)] [] h3 0 (fun r => ∃ h', r = (.inl none, h', 0) ∧ px_ce h h' (pf_cen h cs B N sd q m y)) := by
      intro h3 R3
      have ok1 := pf_c1O (N := N) (q := q) ok
      generalize pf_c1 N q Z = Z1 at R3 p3 ok1
      have d16 := pf_dv_lt (pf_sd Z1.1)
      refine w_al (j := 38) rfl rfl rfl ?_
      refine w_bi (j := 39) (a := nI 16) rfl rfl (by decide) ?_
      refine w_cvI (j := 40) rfl rfl rfl rfl (by first | assumption | rfl) rfl rfl (sp_1 (by decide) (by decide)) rfl ?_
      rw [R3.2.1]
      have R4 := px_ces (s := pf_sd Z1.1) R3
      have I4 := hI.kp R4.1
      obtain ⟨⟨l1, l2, l3, l4, l5, l6, l7, l8, l9⟩, lw, -, nw, -⟩ := I4
      refine w_iL (j := 41) rfl rfl rfl ?_
      refine w_ge (j := 42) rfl rfl (fun d1 => ?_) (fun d1 => ?_)
      ·
        refine p3 _ ?_
        rw [pf_c2, if_neg (fun z => px_not_lt.mpr d1 z.1)]
        exact R4
      refine w_al (j := 43) rfl rfl rfl ?_
      first | refine w_gr (j := 44) rfl rfl (by first | assumption | rfl) (by first | assumption | rfl) rfl ?_ | refine w_gi (j := 44) rfl rfl (by first | assumption | rfl) (by first | assumption | rfl) rfl rfl ?_
      first | refine w_gr (j := 45) rfl rfl (by first | assumption | rfl) (by first | assumption | rfl) rfl ?_ | refine w_gi (j := 45) rfl rfl (by first | assumption | rfl) (by first | assumption | rfl) rfl l1 ?_
      refine w_leM (j := 46) rfl rfl (by omega) (fun d2 => ?_) (fun d2 => ?_)
      ·
        refine p3 _ ?_
        rw [pf_c2, if_neg (fun z => by omega)]
        exact R4
      refine w_al (j := 47) rfl rfl rfl ?_
      refine w_al (j := 48) rfl rfl rfl ?_
      refine w_al (j := 49) rfl rfl rfl ?_
      first | refine w_gr (j := 50) rfl rfl (by first | assumption | rfl) (by first | assumption | rfl) rfl ?_ | refine w_gi (j := 50) rfl rfl (by first | assumption | rfl) (by first | assumption | rfl) rfl rfl ?_
      first | refine w_gr (j := 51) rfl rfl (by first | assumption | rfl) (by first | assumption | rfl) rfl ?_ | refine w_gi (j := 51) rfl rfl (by first | assumption | rfl) (by first | assumption | rfl) rfl l1 ?_
      refine w_cvI (j := 52) rfl rfl rfl rfl (by first | assumption | rfl) rfl rfl (sp_1 (k := B) d2 (by omega)) rfl ?_
      rw [px_up_at]
      have R5 := px_ces (s := pf_sd (pf_sd Z1.1)) R4
      have I5 := hI.kp R5.1
      obtain ⟨⟨l1, l2, l3, l4, l5, l6, l7, l8, l9⟩, lw, -, nw, -⟩ := I5
      have bl := Nat.mod_lt (pf_dv (pf_sd (pf_sd Z1.1))) d2
      generalize hb : pf_dv (pf_sd (pf_sd Z1.1)) % B = b at bl ⊢
      refine w_cvI (j := 53) rfl rfl rfl rfl (by first | assumption | rfl) rfl rfl (sp_88 px_St68 l1 l3 bl) rfl ?_
      have e2 : (pf_c2 B m Z1) = pf_c2b B (pf_sd (pf_sd Z1.1)) Z1 := by rw [pf_c2, if_pos ⟨d1, d2⟩]
      rw [e2] at p3
      by_cases d3 : pf_bt (ix_up (ix_up h3 90 2 (pf_sd Z1.1)) 90 2 (pf_sd (pf_sd Z1.1)) 68 4) b ≠ 0
      · rw [decide_eq_true d3, if_pos d3]
        have d4 : pf_bt Z1.2.2.2.2.2.2.1 b ≠ 0 := by rw [← R5.2.2.2.2.2.2.2.1]; exact d3
        refine w_eqB (j := 54) rfl rfl (fun c => absurd c (by simp)) (fun _ => ?_)
        refine w_al (j := 55) rfl rfl rfl ?_
        first | refine w_dupr (j := 56) rfl rfl ?_ | refine w_dupi (j := 56) rfl rfl ?_
        first | refine w_gr (j := 57) rfl rfl (by first | assumption | rfl) (by first | assumption | rfl) rfl ?_ | refine w_gi (j := 57) rfl rfl (by first | assumption | rfl) (by first | assumption | rfl) rfl rfl ?_
        refine w_ic (n := 1) (j := 58) rfl rfl ?_
        first | refine w_add0 (j := 59) rfl rfl ?_ | refine w_addN (j := 59) rfl rfl ?_ | refine w_add (j := 59) rfl rfl ?_
        refine w_pf (j := 60) rfl rfl (by first | assumption | rfl) (by first | assumption | rfl) rfl ?_
        refine p3 _ ?_
        rw [pf_c2b, hb, if_pos d4]
        have R6 := px_ceb (s := pf_sd (pf_sd Z1.1)) (b := b) R5 px_up_at
        exact R6
      · rw [decide_eq_false d3, if_neg d3]
        have d4 : ¬ pf_bt Z1.2.2.2.2.2.2.1 b ≠ 0 := by rw [← R5.2.2.2.2.2.2.2.1]; exact d3
        refine w_eqB (j := 54) rfl rfl (fun _ => ?_) (fun c => absurd c (by simp))
        refine p3 _ ?_
        rw [pf_c2b, hb, if_neg d4]
        exact R5
    have I2 := hI.kp R.1
    obtain ⟨⟨l1, l2, l3, l4, l5, l6, l7, l8, l9⟩, lw, -, nw, -⟩ := I2
    have d16 := pf_dv_lt (pf_sd Z.1)
    refine w_iL (j := 12) rfl rfl rfl ?_
    refine w_il (j := 13) rfl rfl rfl ?_
    refine w_geN (j := 14) rfl rfl (by omega) (by omega) (fun c => absurd c (fun c => by omega)) (fun _ => ?_)
    refine w_al (j := 15) rfl rfl rfl ?_
    refine w_bi (j := 16) (a := nI 16) rfl rfl (by decide) ?_
    refine w_cvI (j := 17) rfl rfl rfl rfl (by first | assumption | rfl) rfl rfl (sp_1 (by decide) (by decide)) rfl ?_
    rw [R.2.1]
    have R4 := px_ces (s := pf_sd Z.1) R
    have I4 := hI.kp R4.1
    obtain ⟨⟨l1, l2, l3, l4, l5, l6, l7, l8, l9⟩, lw, -, nw, -⟩ := I4
    refine w_iL (j := 18) rfl rfl rfl ?_
    refine w_ge (j := 19) rfl rfl (fun d1 => ?_) (fun d1 => ?_)
    ·
      refine p2 _ ?_
      rw [pf_c1, if_neg (fun z => px_not_lt.mpr d1 z.1)]
      exact R4
    refine w_al (j := 20) rfl rfl rfl ?_
    first | refine w_gr (j := 21) rfl rfl (by first | assumption | rfl) (by first | assumption | rfl) rfl ?_ | refine w_gi (j := 21) rfl rfl (by first | assumption | rfl) (by first | assumption | rfl) rfl rfl ?_
    first | refine w_gr (j := 22) rfl rfl (by first | assumption | rfl) (by first | assumption | rfl) rfl ?_ | refine w_gi (j := 22) rfl rfl (by first | assumption | rfl) (by first | assumption | rfl) rfl l4 ?_
    refine w_leM (j := 23) rfl rfl (by omega) (fun d2 => ?_) (fun d2 => ?_)
    ·
      refine p2 _ ?_
      rw [pf_c1, if_neg (fun z => by omega)]
      exact R4
    refine w_al (j := 24) rfl rfl rfl ?_
    refine w_al (j := 25) rfl rfl rfl ?_
    refine w_al (j := 26) rfl rfl rfl ?_
    first | refine w_gr (j := 27) rfl rfl (by first | assumption | rfl) (by first | assumption | rfl) rfl ?_ | refine w_gi (j := 27) rfl rfl (by first | assumption | rfl) (by first | assumption | rfl) rfl rfl ?_
    first | refine w_gr (j := 28) rfl rfl (by first | assumption | rfl) (by first | assumption | rfl) rfl ?_ | refine w_gi (j := 28) rfl rfl (by first | assumption | rfl) (by first | assumption | rfl) rfl l4 ?_
    refine w_cvI (j := 29) rfl rfl rfl rfl (by first | assumption | rfl) rfl rfl (sp_1 (k := N) d2 (by omega)) rfl ?_
    rw [px_up_at]
    have R5 := px_ces (s := pf_sd (pf_sd Z.1)) R4
    have I5 := hI.kp R5.1
    obtain ⟨⟨l1, l2, l3, l4, l5, l6, l7, l8, l9⟩, lw, -, nw, -⟩ := I5
    have bl := Nat.mod_lt (pf_dv (pf_sd (pf_sd Z.1))) d2
    generalize hb : pf_dv (pf_sd (pf_sd Z.1)) % N = b at bl ⊢
    refine w_cvI (j := 30) rfl rfl rfl rfl (by first | assumption | rfl) rfl rfl (sp_89 px_St68 l4 l6 bl) rfl ?_
    have e2 : (pf_c1 N q Z) = pf_c1b N (pf_sd (pf_sd Z.1)) Z := by rw [pf_c1, if_pos ⟨d1, d2⟩]
    rw [e2] at p2
    by_cases d3 : 0 ≤ ix_up (ix_up h2 90 2 (pf_sd Z.1)) 90 2 (pf_sd (pf_sd Z.1)) (68 + 3) b
    · rw [decide_eq_true d3, if_pos d3]
      have d4 : 0 ≤ Z.2.2.2.2.2.1 b := by rw [← R5.2.2.2.2.2.2.1 _ (by omega)]; exact d3
      refine w_eqB (j := 31) rfl rfl (fun c => absurd c (by simp)) (fun _ => ?_)
      refine w_al (j := 32) rfl rfl rfl ?_
      first | refine w_dupr (j := 33) rfl rfl ?_ | refine w_dupi (j := 33) rfl rfl ?_
      first | refine w_gr (j := 34) rfl rfl (by first | assumption | rfl) (by first | assumption | rfl) rfl ?_ | refine w_gi (j := 34) rfl rfl (by first | assumption | rfl) (by first | assumption | rfl) rfl rfl ?_
      refine w_ic (n := 1) (j := 35) rfl rfl ?_
      first | refine w_add0 (j := 36) rfl rfl ?_ | refine w_addN (j := 36) rfl rfl ?_ | refine w_add (j := 36) rfl rfl ?_
      refine w_pf (j := 37) rfl rfl (by first | assumption | rfl) (by first | assumption | rfl) rfl ?_
      refine p2 _ ?_
      rw [pf_c1b, hb, if_pos d4]
      have R6 := px_cel (s := pf_sd (pf_sd Z.1)) (c := b) R5 px_up_at (by omega)
      exact R6
    · rw [decide_eq_false d3, if_neg d3]
      have d4 : ¬ 0 ≤ Z.2.2.2.2.2.1 b := by rw [← R5.2.2.2.2.2.2.1 _ (by omega)]; exact d3
      refine w_eqB (j := 31) rfl rfl (fun _ => ?_) (fun c => absurd c (by simp))
      refine p2 _ ?_
      rw [pf_c1b, hb, if_neg d4]
      exact R5
  · rintro _ h2 ⟨rfl, R⟩
    refine w_iL (j := 12) rfl rfl rfl ?_
    refine w_il (j := 13) rfl rfl rfl ?_
    refine w_geN (j := 14) rfl rfl (by omega) (by omega) (fun _ => ?_) (fun c => absurd c (fun c => by omega))
    refine w_rt rfl ?_
    exact ⟨_, rfl, R⟩
end CE
