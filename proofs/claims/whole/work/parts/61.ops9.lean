theorem pf_g_nat {z i : Nat} (hi : i < 32) : pf_g (nI z) i = decide (z / 2 ^ i % 2 = 1) := by
  show (BitVec.ofNat 32 z).getLsbD i = _
  rw [BitVec.getLsbD_ofNat, decide_eq_true hi, Bool.true_and, Nat.testBit_eq_decide_div_mod_eq]
theorem pf_and0 (P : Nat → Prop) [∀ c, Decidable (P c)] {z N : Nat} (hN : N ≤ 8) : nI z &&& px_fold (pf_fb P) N (nI 0) = 0 ↔ ∀ c, c < N → ¬ (z / 2 ^ c % 2 = 1 ∧ P c) := by
  constructor
  · intro e c hc hh
    have e2 : pf_g (nI z &&& px_fold (pf_fb P) N (nI 0)) c = pf_g (nI 0) c := by rw [e]; rfl
    rw [pf_g_and, pf_g_nat (by omega), pf_g_fb P (nI 0) c (by omega) N hN, pf_g_0, decide_eq_true hh.1, decide_eq_true ⟨hc, hh.2⟩] at e2
    cases e2
  · intro hh
    apply px_bitx
    intro i hi
    show pf_g (nI z &&& px_fold (pf_fb P) N (nI 0)) i = pf_g (nI 0) i
    rw [pf_g_and, pf_g_nat hi, pf_g_fb P (nI 0) i hi N hN, pf_g_0, Bool.false_or]
    by_cases h1 : i < N ∧ P i
    · rw [decide_eq_false (fun q => hh i h1.1 ⟨q, h1.2⟩), Bool.false_and]
    · rw [decide_eq_false h1, Bool.and_false]
theorem sp_158N {h : ix_H} {z c : Nat} (hz : z < 2147483648) (hc : c < 32) : px_V 1 158 [.int (nI z), .int (nI c)] h (some (.int (px_b (decide (z / 2 ^ c % 2 = 1))))) h := by
  have := sp_158 (h := h) (a := nI z) (b := nI c)
  rw [px_has hz hc, show decide (nI (z / 2 ^ c % 2) = nI 1) = decide (z / 2 ^ c % 2 = 1) from px_dec_congr (px_neq (by omega) (by decide))] at this
  exact this
theorem px_hasI {z c : Nat} (hz : z < 2147483648) (hc : c < 32) : (nI z >>> (nI c &&& 31) &&& nI 1 = nI 1) ↔ z / 2 ^ c % 2 = 1 := by
  rw [px_has hz hc]
  exact px_neq (by omega) (by decide)
section OPS
variable {h : ix_H} {B N T L W I t : Nat} {cs : List (Nat × Nat)}
-- chord
abbrev pf_cc (h : ix_H) (N : Nat) (sum : Int32) (z : Nat) : Prop := nI z &&& px_fold (pf_fb (fun c => h 67 c = -2)) N (nI 0) = 0 ∧ px_fold (pf_lev (h 65) (nI z) (nI 99)) N (nI 0) = sum
def pf_ch1 (h : ix_H) (N : Nat) (sum : Int32) (z : Nat) (s : Int32 × Int32 × Int32) : Int32 × Int32 × Int32 := if pf_cc h N sum z then (s.1 + nI 1, (if s.2.1 = -1 then nI z else s.2.1), s.2.2 &&& nI z) else s
def pf_chr (h : ix_H) (N : Nat) (sum : Int32) : Nat → Int32 × Int32 × Int32 := fun n => px_fold (pf_ch1 h N sum) n (nI 0, -1, pf_all N)
def pf_chd (h : ix_H) (N : Nat) (sum : Int32) (m : Nat) : Int32 := if m = 0 then (pf_chr h N sum (2 ^ N)).1 else if m = 1 then (pf_chr h N sum (2 ^ N)).2.1 else if (pf_chr h N sum (2 ^ N)).1 = 0 then nI 0 else (pf_chr h N sum (2 ^ N)).2.2
theorem pf_chd_kp {h h' : ix_H} {sum : Int32} {m : Nat} (k : px_kp h h') : pf_chd h' N sum m = pf_chd h N sum m := by
  have e : pf_ch1 h' N sum = pf_ch1 h N sum := by
    funext z s
    unfold pf_ch1 pf_cc
    rw [k.1 67 (by decide), k.1 65 (by decide)]
  unfold pf_chd pf_chr
  rw [e]
theorem C_chord {a w : Int32} (hI : px_I h B N T cs L W I t) : px_CO 6 127 [.ref 0, .int a, .int w] h (fun v h1 => ∃ m, m ≤ 2 ∧ w = nI m ∧ (nI 0 ≤ a ∧ a ≤ nI 792) ∧ v = pf_chd h N a m ∧ px_kp h h1) (fun x h1 => x = 0 ∧ ¬ ((nI 0 ≤ a ∧ a ≤ nI 792) ∧ nI 0 ≤ w ∧ w ≤ nI 2) ∧ h1 = px_hX 0 h) := by
  obtain ⟨⟨l1, l2, l3, l4, l5, l6, l7, l8, l9⟩, lw, -, nw, -⟩ := hI
  have hp := px_pw l6
  refine px_M (M := mt_127) (ops := mo_127) tb_127 rfl rfl rfl rfl rfl ?_
  refine w_al (j := 1) rfl rfl rfl ?_
  refine w_il (j := 2) rfl rfl rfl ?_
  refine w_ic (n := 0) (j := 3) rfl rfl ?_
  refine w_si (j := 4) (a := nI 792) rfl rfl (by decide) ?_
  refine w_chk (j := 5) rfl rfl rfl rfl (by first | assumption | rfl) rfl rfl (sp_147) rfl (fun c1 => ?_) (fun c1 => ?_)
  · exact Or.inr ⟨_, _, rfl, rfl, fun q => c1 q.1, rfl⟩
  refine w_al (j := 6) rfl rfl rfl ?_
  refine w_il (j := 7) rfl rfl rfl ?_
  refine w_ic (n := 0) (j := 8) rfl rfl ?_
  refine w_ic (n := 2) (j := 9) rfl rfl ?_
  refine w_chk (j := 10) rfl rfl rfl rfl (by first | assumption | rfl) rfl rfl (sp_147) rfl (fun c2 => ?_) (fun c2 => ?_)
  · exact Or.inr ⟨_, _, rfl, rfl, fun q => c2 q.2, rfl⟩
  obtain ⟨m, hm, rfl⟩ := px_bnd2 (by decide) c2
  refine w_ic (n := 0) (j := 11) rfl rfl ?_
  refine w_is (j := 12) rfl rfl rfl ?_
  refine w_im (j := 13) rfl rfl ?_
  refine w_iS (j := 14) rfl rfl rfl ?_
  refine w_ic (n := 1) (j := 15) rfl rfl ?_
  refine w_al (j := 16) rfl rfl rfl ?_
  first | refine w_gr (j := 17) rfl rfl (by first | assumption | rfl) (by first | assumption | rfl) rfl ?_ | refine w_gi (j := 17) rfl rfl (by first | assumption | rfl) (by first | assumption | rfl) rfl rfl ?_
  first | refine w_gr (j := 18) rfl rfl (by first | assumption | rfl) (by first | assumption | rfl) rfl ?_ | refine w_gi (j := 18) rfl rfl (by first | assumption | rfl) (by first | assumption | rfl) rfl l4 ?_
  refine w_shl (j := 19) rfl rfl ?_
  refine w_ic (n := 1) (j := 20) rfl rfl ?_
  first | refine w_subN (j := 21) rfl rfl (by omega) ?_ | refine w_sub (j := 21) rfl rfl ?_
  refine w_iS (j := 22) rfl rfl rfl ?_
  refine w_al (j := 23) rfl rfl rfl ?_
  first | refine w_gr (j := 24) rfl rfl (by first | assumption | rfl) (by first | assumption | rfl) rfl ?_ | refine w_gi (j := 24) rfl rfl (by first | assumption | rfl) (by first | assumption | rfl) rfl rfl ?_
  refine w_cvI (j := 25) rfl rfl rfl rfl (by first | assumption | rfl) rfl rfl (sp_79 px_St64 l4 l6) rfl ?_
  refine w_iS (j := 26) rfl rfl rfl ?_
  refine w_ic (n := 0) (j := 27) rfl rfl ?_
  refine w_iS (j := 28) rfl rfl rfl ?_
  refine px_for (fun z s => [.ref 0, .int a, .int (nI m), .int s.1, .int s.2.1, .int s.2.2, .int (px_fold (pf_fb (fun c => h 67 c = -2)) N (nI 0)), .int (nI z)]) (fun _ => h) (pf_ch1 h N a) (2 ^ N) (nI 0, -1, pf_all N) (fun _ _ => True) trivial (fun _ _ _ _ => trivial) ?_ ?_
  · intro z s hz _ H
    refine w_iL (j := 29) rfl rfl rfl ?_
    refine w_ic (n := 1) (j := 30) rfl rfl ?_
    refine w_al (j := 31) rfl rfl rfl ?_
    first | refine w_gr (j := 32) rfl rfl (by first | assumption | rfl) (by first | assumption | rfl) rfl ?_ | refine w_gi (j := 32) rfl rfl (by first | assumption | rfl) (by first | assumption | rfl) rfl rfl ?_
    first | refine w_gr (j := 33) rfl rfl (by first | assumption | rfl) (by first | assumption | rfl) rfl ?_ | refine w_gi (j := 33) rfl rfl (by first | assumption | rfl) (by first | assumption | rfl) rfl l4 ?_
    refine w_shl (j := 34) rfl rfl ?_
    rw [px_shl1 N (by omega)]
    refine w_geN (j := 35) rfl rfl (by omega) (by omega) (fun c => absurd c (fun c => by omega)) (fun _ => ?_)
    refine w_iL (j := 36) rfl rfl rfl ?_
    refine w_iL (j := 37) rfl rfl rfl ?_
    refine w_and (j := 38) rfl rfl ?_
    refine w_neZ (j := 39) rfl rfl (fun d1 => ?_) (fun d1 => ?_)
    ·
      first | refine w_incN (j := 58) rfl rfl rfl ?_ | refine w_inc (j := 58) rfl rfl rfl rfl ?_
      refine w_go rfl ?_
      rw [pf_ch1, if_neg (fun q => d1 q.1)] at H
      exact H
    refine w_al (j := 40) rfl rfl rfl ?_
    first | refine w_gr (j := 41) rfl rfl (by first | assumption | rfl) (by first | assumption | rfl) rfl ?_ | refine w_gi (j := 41) rfl rfl (by first | assumption | rfl) (by first | assumption | rfl) rfl rfl ?_
    refine w_iL (j := 42) rfl rfl rfl ?_
    refine w_cvI (j := 43) rfl rfl rfl rfl (by first | assumption | rfl) rfl rfl (sp_81 px_St64 l4 l6) rfl ?_
    refine w_il (j := 44) rfl rfl rfl ?_
    refine w_ne (j := 45) rfl rfl (fun d2 => ?_) (fun d2 => ?_)
    ·
      first | refine w_incN (j := 58) rfl rfl rfl ?_ | refine w_inc (j := 58) rfl rfl rfl rfl ?_
      refine w_go rfl ?_
      rw [pf_ch1, if_neg (fun q => d2 q.2)] at H
      exact H
    rw [pf_ch1, if_pos ⟨d1, d2⟩] at H
    first | refine w_incN (j := 46) rfl rfl rfl ?_ | refine w_inc (j := 46) rfl rfl rfl rfl ?_
    refine w_iL (j := 47) rfl rfl rfl ?_
    refine w_im (j := 48) rfl rfl ?_
    refine w_ne (j := 49) rfl rfl (fun d3 => ?_) (fun d3 => ?_)
    ·
      refine w_iL (j := 52) rfl rfl rfl ?_
      refine w_iS (j := 53) rfl rfl rfl ?_
      refine w_iL (j := 54) rfl rfl rfl ?_
      refine w_iL (j := 55) rfl rfl rfl ?_
      refine w_and (j := 56) rfl rfl ?_
      refine w_iS (j := 57) rfl rfl rfl ?_
      first | refine w_incN (j := 58) rfl rfl rfl ?_ | refine w_inc (j := 58) rfl rfl rfl rfl ?_
      refine w_go rfl ?_
      rw [if_neg d3] at H
      exact H
    ·
      refine w_iL (j := 50) rfl rfl rfl ?_
      refine w_go rfl ?_
      refine w_iS (j := 53) rfl rfl rfl ?_
      refine w_iL (j := 54) rfl rfl rfl ?_
      refine w_iL (j := 55) rfl rfl rfl ?_
      refine w_and (j := 56) rfl rfl ?_
      refine w_iS (j := 57) rfl rfl rfl ?_
      first | refine w_incN (j := 58) rfl rfl rfl ?_ | refine w_inc (j := 58) rfl rfl rfl rfl ?_
      refine w_go rfl ?_
      rw [if_pos d3] at H
      exact H
  · intro _
    refine w_iL (j := 29) rfl rfl rfl ?_
    refine w_ic (n := 1) (j := 30) rfl rfl ?_
    refine w_al (j := 31) rfl rfl rfl ?_
    first | refine w_gr (j := 32) rfl rfl (by first | assumption | rfl) (by first | assumption | rfl) rfl ?_ | refine w_gi (j := 32) rfl rfl (by first | assumption | rfl) (by first | assumption | rfl) rfl rfl ?_
    first | refine w_gr (j := 33) rfl rfl (by first | assumption | rfl) (by first | assumption | rfl) rfl ?_ | refine w_gi (j := 33) rfl rfl (by first | assumption | rfl) (by first | assumption | rfl) rfl l4 ?_
    refine w_shl (j := 34) rfl rfl ?_
    rw [px_shl1 N (by omega)]
    refine w_geN (j := 35) rfl rfl (by omega) (by omega) (fun _ => ?_) (fun c => absurd c (fun c => by omega))
    refine w_il (j := 60) rfl rfl rfl ?_
    refine w_ic (n := 2) (j := 61) rfl rfl ?_
    obtain rfl | rfl | rfl : m = 0 ∨ m = 1 ∨ m = 2 := by omega
    ·
      refine w_neN (j := 62) rfl rfl (by omega) (by omega) (fun _ => ?_) (fun c => absurd c (fun c => by omega))
      refine w_il (j := 69) rfl rfl rfl ?_
      refine w_neM (j := 70) rfl rfl (by omega) (fun c => absurd c (fun c => by omega)) (fun _ => ?_)
      refine w_il (j := 71) rfl rfl rfl ?_
      refine w_go rfl ?_
      refine w_ir rfl ?_
      exact Or.inl ⟨_, _, rfl, 0, hm, rfl, c1, rfl, px_kp.rf⟩
    ·
      refine w_neN (j := 62) rfl rfl (by omega) (by omega) (fun _ => ?_) (fun c => absurd c (fun c => by omega))
      refine w_il (j := 69) rfl rfl rfl ?_
      refine w_neM (j := 70) rfl rfl (by omega) (fun _ => ?_) (fun c => absurd c (fun c => by omega))
      refine w_iL (j := 73) rfl rfl rfl ?_
      refine w_ir rfl ?_
      exact Or.inl ⟨_, _, rfl, 1, hm, rfl, c1, rfl, px_kp.rf⟩
    ·
      refine w_neN (j := 62) rfl rfl (by omega) (by omega) (fun c => absurd c (fun c => by omega)) (fun _ => ?_)
      refine w_il (j := 63) rfl rfl rfl ?_
      refine w_neZ (j := 64) rfl rfl (fun d1 => ?_) (fun d1 => ?_)
      ·
        refine w_iL (j := 67) rfl rfl rfl ?_
        refine w_ir rfl ?_
        exact Or.inl ⟨_, _, rfl, 2, hm, rfl, c1, (if_neg (show ¬ (pf_chr h N a (2 ^ N)).1 = 0 from d1)).symm, px_kp.rf⟩
      ·
        refine w_ic (n := 0) (j := 65) rfl rfl ?_
        refine w_go rfl ?_
        refine w_ir rfl ?_
        exact Or.inl ⟨_, _, rfl, 2, hm, rfl, c1, (if_pos (show (pf_chr h N a (2 ^ N)).1 = 0 from d1)).symm, px_kp.rf⟩
def pf_ci (h : ix_H) (z c : Nat) (s : Int32 × Bool) : Int32 × Bool := (s.1 + (if z / 2 ^ c % 2 = 1 then h 577 (8 + c) else nI 0), s.2 && !(decide (z / 2 ^ c % 2 = 1 ∧ h 577 c = -2)))
theorem pf_ci_eq {z : Nat} (hN : N ≤ 8) (hz : z < 256) (h1 : ∀ c, c < N → h 65 c = h 577 (8 + c) ∧ ∃ q, q ≤ 99 ∧ h 65 c = nI q) (h2 : ∀ c, c < N → h 67 c = h 577 c) : (px_fold (pf_ci h z) N (nI 0, true)).1 = px_fold (pf_lev (h 65) (nI z) (nI 99)) N (nI 0) ∧ (px_fold (pf_ci h z) N (nI 0, true)).2 = decide (nI z &&& px_fold (pf_fb (fun c => h 67 c = -2)) N (nI 0) = 0) := by
  have key := px_fold_rel (f := pf_ci h z) (g := pf_lev (h 65) (nI z) (nI 99)) (P := fun n s t => s.1 = t ∧ s.2 = decide (∀ c, c < n → ¬ (z / 2 ^ c % 2 = 1 ∧ h 67 c = -2))) N (nI 0, true) (nI 0) ⟨rfl, (decide_eq_true (fun c hc => by omega)).symm⟩ ?_
  · refine ⟨key.1, ?_⟩
    rw [key.2]
    exact px_dec_congr (pf_and0 (fun c => h 67 c = -2) hN).symm
  · rintro c s t hc ⟨e1, e2⟩
    obtain ⟨q1, q, hq, q2⟩ := h1 c hc
    have q3 := h2 c hc
    constructor
    · show s.1 + _ = _
      rw [pf_lev, e1]
      by_cases hb : z / 2 ^ c % 2 = 1
      · rw [if_pos hb, if_pos ((px_hasI (by omega) (by omega)).mpr hb), ← q1, q2, if_neg (fun w => by have := (px_nlt (by decide) (by omega)).mp w; omega)]
      · rw [if_neg hb, if_neg (fun w => hb ((px_hasI (by omega) (by omega)).mp w))]
        exact Int32.add_zero t
    · show (s.2 && !(decide (z / 2 ^ c % 2 = 1 ∧ h 577 c = -2))) = _
      rw [e2, ← q3]
      by_cases h3 : ∀ c', c' < c → ¬ (z / 2 ^ c' % 2 = 1 ∧ h 67 c' = -2)
      · by_cases h4 : z / 2 ^ c % 2 = 1 ∧ h 67 c = -2
        · rw [decide_eq_true h3, decide_eq_true h4, decide_eq_false (fun q => q c (by omega) h4)]
          rfl
        · rw [decide_eq_true h3, decide_eq_false h4, decide_eq_true (fun c' hc' => ?_)]
          · rfl
          · by_cases h5 : c' = c
            · rw [h5]; exact h4
            · exact h3 c' (by omega)
      · rw [decide_eq_false h3, decide_eq_false (show ¬ ∀ c', c' < c + 1 → ¬ (z / 2 ^ c' % 2 = 1 ∧ h 67 c' = -2) from fun q => h3 (fun c' hc' => q c' (by omega)))]
        rfl
def pf_mi4 (K : Nat) (s : Int32 × Int32 × Int32) : Prop := ∃ k, k ≤ K ∧ s.1 = nI k ∧ (k = 0 ↔ s.2.1 = -1)
theorem pf_mi4_s {K z : Nat} {sum : Int32} {s : Int32 × Int32 × Int32} (hs : pf_mi4 K s) (hK : K < 1000000) (hz : z < 256) : pf_mi4 (K + 1) (pf_ch1 h N sum z s) ∧ ((s.1 = 0) ↔ (s.2.1 = -1)) := by
  obtain ⟨q, h1, h2, h3⟩ := hs
  have e : (s.1 = 0) ↔ (s.2.1 = -1) := by
    rw [← h3, h2]
    exact px_neq (b := 0) (by omega) (by decide)
  refine ⟨?_, e⟩
  unfold pf_ch1
  by_cases hp : pf_cc h N sum z
  · rw [if_pos hp]
    refine ⟨q + 1, by omega, by show s.1 + nI 1 = _; rw [h2, px_nadd], ⟨fun z => by omega, fun y => ?_⟩⟩
    have y : (if s.2.1 = -1 then nI z else s.2.1) = -1 := y
    by_cases h0 : s.2.1 = -1
    · rw [if_pos h0] at y; exact absurd y (px_nm1 (by omega))
    · rw [if_neg h0] at y; exact absurd y h0
  · rw [if_neg hp]
    exact ⟨q, by omega, h2, h3⟩
theorem M_chord {a : Int32} {m : Nat} (hI : px_I h B N T cs L W I t) (hm : m ≤ 2) (c1 : nI 0 ≤ a ∧ a ≤ nI 792) : px_PI 4 235 [.ref 100, .int a, .int (nI m)] h (fun w h2 => w = pf_chd h N a m ∧ h2 100 0 = nI 0 ∧ px_kp h h2) := by
  refine px_M (M := mt_235) (ops := mo_235) tb_235 rfl rfl rfl rfl rfl ?_
  refine w_al (j := 1) rfl rfl rfl ?_
  refine w_ic (n := 0) (j := 2) rfl rfl ?_
  refine w_pf (j := 3) rfl rfl (by first | assumption | rfl) (by first | assumption | rfl) rfl ?_
  obtain ⟨I1, k1, t0⟩ := px_thr (v := nI 0) hI
  generalize ix_up h 100 0 (nI 0) = h1 at I1 k1 t0 ⊢
  rw [← pf_chd_kp k1]
  obtain ⟨⟨l1, l2, l3, l4, l5, l6, l7, l8, l9⟩, lw, -, nw, -⟩ := I1
  have hp := px_pw l6
  refine w_al (j := 4) rfl rfl rfl ?_
  refine w_il (j := 5) rfl rfl rfl ?_
  refine w_ic (n := 0) (j := 6) rfl rfl ?_
  refine w_si (j := 7) (a := nI 792) rfl rfl (by decide) ?_
  refine w_csI (j := 8) rfl rfl rfl rfl rfl (sp_155) rfl ?_
  rw [decide_eq_true c1]
  refine w_eqB (j := 9) rfl rfl (fun c => absurd c (by simp)) (fun _ => ?_)
  refine w_il (j := 10) rfl rfl rfl ?_
  refine w_ic (n := 0) (j := 11) rfl rfl ?_
  refine w_ic (n := 2) (j := 12) rfl rfl ?_
  refine w_csI (j := 13) rfl rfl rfl rfl rfl (sp_155) rfl ?_
  rw [px_ofN hm (by decide)]
  refine w_neB (j := 14) rfl rfl (fun _ => ?_) (fun c => absurd c (by simp))
  refine w_ic (n := 0) (j := 17) rfl rfl ?_
  refine w_ic (n := 1) (j := 18) rfl rfl ?_
  refine w_ic (n := 1) (j := 19) rfl rfl ?_
  refine w_cvI (j := 20) rfl rfl rfl rfl (by first | assumption | rfl) rfl rfl (sp_154f t0) rfl ?_
  refine w_eqB (j := 21) rfl rfl (fun _ => ?_) (fun c => absurd c (by simp))
  refine w_ic (n := 0) (j := 24) rfl rfl ?_
  refine w_is (j := 25) rfl rfl rfl ?_
  refine w_im (j := 26) rfl rfl ?_
  refine w_iS (j := 27) rfl rfl rfl ?_
  refine w_ic (n := 1) (j := 28) rfl rfl ?_
  refine w_al (j := 29) rfl rfl rfl ?_
  first | refine w_gr (j := 30) rfl rfl (by first | assumption | rfl) (by first | assumption | rfl) rfl ?_ | refine w_gi (j := 30) rfl rfl (by first | assumption | rfl) (by first | assumption | rfl) rfl rfl ?_
  refine w_ic (n := 1) (j := 31) rfl rfl ?_
  refine w_ial (j := 32) rfl rfl (by first | assumption | rfl) rfl (by omega) rfl l5 ?_
  refine w_shl (j := 33) rfl rfl ?_
  refine w_ic (n := 1) (j := 34) rfl rfl ?_
  first | refine w_subN (j := 35) rfl rfl (by omega) ?_ | refine w_sub (j := 35) rfl rfl ?_
  refine w_iS (j := 36) rfl rfl rfl ?_
  refine w_ic (n := 0) (j := 37) rfl rfl ?_
  refine w_iS (j := 38) rfl rfl rfl ?_
  refine px_forI (fun z ls h2 => h2 = h1 ∧ pf_mi4 z (pf_chr h1 N a z) ∧ ∃ g1 g2 g3, ls = [.ref 100, .int a, .int (nI m), .int (pf_chr h1 N a z).1, .int (pf_chr h1 N a z).2.1, .int (pf_chr h1 N a z).2.2, .int (nI z), g1, g2, g3]) (2 ^ N) ?_ ?_ ⟨rfl, ⟨0, by decide, rfl, ⟨fun _ => rfl, fun _ => rfl⟩⟩, _, _, _, rfl⟩
  · rintro z _ h2 hz ⟨rfl, mi, g1, g2, g3, rfl⟩ H
    have mz := pf_mi4_s (h := h2) (N := N) (sum := a) (z := z) mi (by omega) (by omega)
    obtain ⟨mi2, e⟩ := mz
    have st : pf_chr h2 N a (z + 1) = pf_ch1 h2 N a z (pf_chr h2 N a z) := rfl
    refine w_iL (j := 39) rfl rfl rfl ?_
    refine w_ic (n := 1) (j := 40) rfl rfl ?_
    refine w_al (j := 41) rfl rfl rfl ?_
    first | refine w_gr (j := 42) rfl rfl (by first | assumption | rfl) (by first | assumption | rfl) rfl ?_ | refine w_gi (j := 42) rfl rfl (by first | assumption | rfl) (by first | assumption | rfl) rfl rfl ?_
    refine w_ic (n := 1) (j := 43) rfl rfl ?_
    refine w_ial (j := 44) rfl rfl (by first | assumption | rfl) rfl (by omega) rfl l5 ?_
    refine w_shl (j := 45) rfl rfl ?_
    rw [px_shl1 N (by omega)]
    refine w_geN (j := 46) rfl rfl (by omega) (by omega) (fun c => absurd c (fun c => by omega)) (fun _ => ?_)
    refine w_ic (n := 0) (j := 47) rfl rfl ?_
    refine w_iS (j := 48) rfl rfl rfl ?_
    refine w_ic (n := 1) (j := 49) rfl rfl ?_
    refine w_iS (j := 50) rfl rfl rfl ?_
    refine w_ic (n := 0) (j := 51) rfl rfl ?_
    refine w_iS (j := 52) rfl rfl rfl ?_
    refine px_for (fun c s => [.ref 100, .int a, .int (nI m), .int (pf_chr h2 N a z).1, .int (pf_chr h2 N a z).2.1, .int (pf_chr h2 N a z).2.2, .int (nI z), .int s.1, .int (px_b s.2), .int (nI c)]) (fun _ => h2) (pf_ci h2 z) N (nI 0, true) (fun _ _ => True) trivial (fun _ _ _ _ => trivial) ?_ ?_
    · intro c s hc _ H2
      unfold pf_ci at H2
      refine w_iL (j := 53) rfl rfl rfl ?_
      refine w_al (j := 54) rfl rfl rfl ?_
      first | refine w_gr (j := 55) rfl rfl (by first | assumption | rfl) (by first | assumption | rfl) rfl ?_ | refine w_gi (j := 55) rfl rfl (by first | assumption | rfl) (by first | assumption | rfl) rfl rfl ?_
      refine w_ic (n := 1) (j := 56) rfl rfl ?_
      refine w_ial (j := 57) rfl rfl (by first | assumption | rfl) rfl (by omega) rfl l5 ?_
      refine w_geN (j := 58) rfl rfl (by omega) (by omega) (fun c => absurd c (fun c => by omega)) (fun _ => ?_)
      refine w_iL (j := 59) rfl rfl rfl ?_
      refine w_iL (j := 60) rfl rfl rfl ?_
      refine w_iL (j := 61) rfl rfl rfl ?_
      refine w_csI (j := 62) rfl rfl rfl rfl rfl (sp_158N (by omega) (by omega)) rfl ?_
      by_cases hb : z / 2 ^ c % 2 = 1
      · rw [decide_eq_true hb]
        rw [if_pos hb] at H2
        refine w_eqB (j := 63) rfl rfl (fun c => absurd c (by simp)) (fun _ => ?_)
        refine w_al (j := 64) rfl rfl rfl ?_
        first | refine w_gr (j := 65) rfl rfl (by first | assumption | rfl) (by first | assumption | rfl) rfl ?_ | refine w_gi (j := 65) rfl rfl (by first | assumption | rfl) (by first | assumption | rfl) rfl rfl ?_
        refine w_bi (j := 66) (a := nI 8) rfl rfl (by decide) ?_
        refine w_iL (j := 67) rfl rfl rfl ?_
        first | refine w_add0 (j := 68) rfl rfl ?_ | refine w_addN (j := 68) rfl rfl ?_ | refine w_add (j := 68) rfl rfl ?_
        refine w_ial (j := 69) rfl rfl (by first | assumption | rfl) rfl (by omega) rfl rfl ?_
        refine w_go rfl ?_
        first | refine w_add0 (j := 72) rfl rfl ?_ | refine w_addN (j := 72) rfl rfl ?_ | refine w_add (j := 72) rfl rfl ?_
        refine w_iS (j := 73) rfl rfl rfl ?_
        refine w_iL (j := 74) rfl rfl rfl ?_
        by_cases hs : s.2 = true
        · rw [hs] at H2 ⊢
          refine w_eqB (j := 75) rfl rfl (fun c => absurd c (by simp)) (fun _ => ?_)
          refine w_iL (j := 76) rfl rfl rfl ?_
          refine w_iL (j := 77) rfl rfl rfl ?_
          refine w_csI (j := 78) rfl rfl rfl rfl rfl (sp_158N (by omega) (by omega)) rfl ?_
          rw [decide_eq_true hb]
          refine w_eqB (j := 79) rfl rfl (fun c => absurd c (by simp)) (fun _ => ?_)
          refine w_al (j := 80) rfl rfl rfl ?_
          first | refine w_gr (j := 81) rfl rfl (by first | assumption | rfl) (by first | assumption | rfl) rfl ?_ | refine w_gi (j := 81) rfl rfl (by first | assumption | rfl) (by first | assumption | rfl) rfl rfl ?_
          refine w_ic (n := 0) (j := 82) rfl rfl ?_
          refine w_iL (j := 83) rfl rfl rfl ?_
          first | refine w_add0 (j := 84) rfl rfl ?_ | refine w_addN (j := 84) rfl rfl ?_ | refine w_add (j := 84) rfl rfl ?_
          refine w_ial (j := 85) rfl rfl (by first | assumption | rfl) rfl (by omega) rfl rfl ?_
          refine w_bi (j := 86) (a := (-2)) rfl rfl (by decide) ?_
          refine w_eq (j := 87) rfl rfl (fun d1 => ?_) (fun d1 => ?_)
          ·
            refine w_ic (n := 0) (j := 90) rfl rfl ?_
            refine w_iS (j := 91) rfl rfl rfl ?_
            first | refine w_incN (j := 92) rfl rfl rfl ?_ | refine w_inc (j := 92) rfl rfl rfl rfl ?_
            refine w_go rfl ?_
            rw [decide_eq_true ⟨hb, d1⟩] at H2
            exact H2
          ·
            refine w_ic (n := 1) (j := 88) rfl rfl ?_
            refine w_go rfl ?_
            refine w_iS (j := 91) rfl rfl rfl ?_
            first | refine w_incN (j := 92) rfl rfl rfl ?_ | refine w_inc (j := 92) rfl rfl rfl rfl ?_
            refine w_go rfl ?_
            rw [decide_eq_false (fun q => d1 q.2)] at H2
            exact H2
        · have hs : s.2 = false := by cases h9 : s.2 <;> simp_all
          rw [hs] at H2 ⊢
          refine w_eqB (j := 75) rfl rfl (fun _ => ?_) (fun c => absurd c (by simp))
          refine w_ic (n := 0) (j := 90) rfl rfl ?_
          refine w_iS (j := 91) rfl rfl rfl ?_
          first | refine w_incN (j := 92) rfl rfl rfl ?_ | refine w_inc (j := 92) rfl rfl rfl rfl ?_
          refine w_go rfl ?_
          exact H2
      · rw [decide_eq_false hb]
        rw [if_neg hb, decide_eq_false (fun q => hb q.1)] at H2
        refine w_eqB (j := 63) rfl rfl (fun _ => ?_) (fun c => absurd c (by simp))
        refine w_ic (n := 0) (j := 71) rfl rfl ?_
        first | refine w_add0 (j := 72) rfl rfl ?_ | refine w_addN (j := 72) rfl rfl ?_ | refine w_add (j := 72) rfl rfl ?_
        refine w_iS (j := 73) rfl rfl rfl ?_
        refine w_iL (j := 74) rfl rfl rfl ?_
        by_cases hs : s.2 = true
        · rw [hs] at H2 ⊢
          refine w_eqB (j := 75) rfl rfl (fun c => absurd c (by simp)) (fun _ => ?_)
          refine w_iL (j := 76) rfl rfl rfl ?_
          refine w_iL (j := 77) rfl rfl rfl ?_
          refine w_csI (j := 78) rfl rfl rfl rfl rfl (sp_158N (by omega) (by omega)) rfl ?_
          rw [decide_eq_false hb]
          refine w_eqB (j := 79) rfl rfl (fun _ => ?_) (fun c => absurd c (by simp))
          refine w_ic (n := 1) (j := 88) rfl rfl ?_
          refine w_go rfl ?_
          refine w_iS (j := 91) rfl rfl rfl ?_
          first | refine w_incN (j := 92) rfl rfl rfl ?_ | refine w_inc (j := 92) rfl rfl rfl rfl ?_
          refine w_go rfl ?_
          exact H2
        · have hs : s.2 = false := by cases h9 : s.2 <;> simp_all
          rw [hs] at H2 ⊢
          refine w_eqB (j := 75) rfl rfl (fun _ => ?_) (fun c => absurd c (by simp))
          refine w_ic (n := 0) (j := 90) rfl rfl ?_
          refine w_iS (j := 91) rfl rfl rfl ?_
          first | refine w_incN (j := 92) rfl rfl rfl ?_ | refine w_inc (j := 92) rfl rfl rfl rfl ?_
          refine w_go rfl ?_
          exact H2
    · intro _
      obtain ⟨f1, f2⟩ := pf_ci_eq (h := h2) (z := z) l6 (by omega) (fun c hc => nw.1 c (by omega)) (fun c hc => (nw.2.2.1 c (by omega)).1)
      generalize px_fold (pf_ci h2 z) N (nI 0, true) = sf at f1 f2 ⊢
      rw [f2]
      refine w_iL (j := 53) rfl rfl rfl ?_
      refine w_al (j := 54) rfl rfl rfl ?_
      first | refine w_gr (j := 55) rfl rfl (by first | assumption | rfl) (by first | assumption | rfl) rfl ?_ | refine w_gi (j := 55) rfl rfl (by first | assumption | rfl) (by first | assumption | rfl) rfl rfl ?_
      refine w_ic (n := 1) (j := 56) rfl rfl ?_
      refine w_ial (j := 57) rfl rfl (by first | assumption | rfl) rfl (by omega) rfl l5 ?_
      refine w_geN (j := 58) rfl rfl (by omega) (by omega) (fun _ => ?_) (fun c => absurd c (fun c => by omega))
      refine w_iL (j := 94) rfl rfl rfl ?_
      refine w_eqB (j := 95) rfl rfl (fun d1 => ?_) (fun d1 => ?_)
      ·
        first | refine w_incN (j := 111) rfl rfl rfl ?_ | refine w_inc (j := 111) rfl rfl rfl rfl ?_
        refine w_go rfl ?_
        refine H _ _ ⟨rfl, mi2, ?_⟩
        rw [st, pf_ch1, if_neg (fun q => of_decide_eq_false d1 q.1)]
        exact ⟨_, _, _, rfl⟩
      refine w_iL (j := 96) rfl rfl rfl ?_
      refine w_il (j := 97) rfl rfl rfl ?_
      refine w_eq (j := 98) rfl rfl (fun d2 => ?_) (fun d2 => ?_)
      rotate_left
      ·
        refine w_go rfl ?_
        first | refine w_incN (j := 111) rfl rfl rfl ?_ | refine w_inc (j := 111) rfl rfl rfl rfl ?_
        refine w_go rfl ?_
        refine H _ _ ⟨rfl, mi2, ?_⟩
        rw [st, pf_ch1, if_neg (fun q => d2 (f1.trans q.2))]
        exact ⟨_, _, _, rfl⟩
      have pc : pf_cc h2 N a z := ⟨of_decide_eq_true d1, f1.symm.trans d2⟩
      refine w_il (j := 100) rfl rfl rfl ?_
      refine w_neZ (j := 101) rfl rfl (fun d3 => ?_) (fun d3 => ?_)
      ·
        refine w_iL (j := 104) rfl rfl rfl ?_
        refine w_iS (j := 105) rfl rfl rfl ?_
        refine w_iL (j := 106) rfl rfl rfl ?_
        refine w_iL (j := 107) rfl rfl rfl ?_
        refine w_and (j := 108) rfl rfl ?_
        refine w_iS (j := 109) rfl rfl rfl ?_
        first | refine w_incN (j := 110) rfl rfl rfl ?_ | refine w_inc (j := 110) rfl rfl rfl rfl ?_
        first | refine w_incN (j := 111) rfl rfl rfl ?_ | refine w_inc (j := 111) rfl rfl rfl rfl ?_
        refine w_go rfl ?_
        refine H _ _ ⟨rfl, mi2, ?_⟩
        rw [st, pf_ch1, if_pos pc, if_neg (fun q => d3 (e.mpr q))]
        exact ⟨_, _, _, rfl⟩
      ·
        refine w_iL (j := 102) rfl rfl rfl ?_
        refine w_go rfl ?_
        refine w_iS (j := 105) rfl rfl rfl ?_
        refine w_iL (j := 106) rfl rfl rfl ?_
        refine w_iL (j := 107) rfl rfl rfl ?_
        refine w_and (j := 108) rfl rfl ?_
        refine w_iS (j := 109) rfl rfl rfl ?_
        first | refine w_incN (j := 110) rfl rfl rfl ?_ | refine w_inc (j := 110) rfl rfl rfl rfl ?_
        first | refine w_incN (j := 111) rfl rfl rfl ?_ | refine w_inc (j := 111) rfl rfl rfl rfl ?_
        refine w_go rfl ?_
        refine H _ _ ⟨rfl, mi2, ?_⟩
        rw [st, pf_ch1, if_pos pc, if_pos (e.mp d3)]
        exact ⟨_, _, _, rfl⟩
  · rintro _ h2 ⟨rfl, mi, g1, g2, g3, rfl⟩
    refine w_iL (j := 39) rfl rfl rfl ?_
    refine w_ic (n := 1) (j := 40) rfl rfl ?_
    refine w_al (j := 41) rfl rfl rfl ?_
    first | refine w_gr (j := 42) rfl rfl (by first | assumption | rfl) (by first | assumption | rfl) rfl ?_ | refine w_gi (j := 42) rfl rfl (by first | assumption | rfl) (by first | assumption | rfl) rfl rfl ?_
    refine w_ic (n := 1) (j := 43) rfl rfl ?_
    refine w_ial (j := 44) rfl rfl (by first | assumption | rfl) rfl (by omega) rfl l5 ?_
    refine w_shl (j := 45) rfl rfl ?_
    rw [px_shl1 N (by omega)]
    refine w_geN (j := 46) rfl rfl (by omega) (by omega) (fun _ => ?_) (fun c => absurd c (fun c => by omega))
    refine w_il (j := 113) rfl rfl rfl ?_
    obtain rfl | rfl | rfl : m = 0 ∨ m = 1 ∨ m = 2 := by omega
    ·
      refine w_neM (j := 114) rfl rfl (by omega) (fun c => absurd c (fun c => by omega)) (fun _ => ?_)
      refine w_il (j := 115) rfl rfl rfl ?_
      refine w_go rfl ?_
      refine w_ir rfl ?_
      exact ⟨_, _, rfl, rfl, t0, k1⟩
    ·
      refine w_neM (j := 114) rfl rfl (by omega) (fun _ => ?_) (fun c => absurd c (fun c => by omega))
      refine w_il (j := 117) rfl rfl rfl ?_
      refine w_ic (n := 1) (j := 118) rfl rfl ?_
      refine w_neN (j := 119) rfl rfl (by omega) (by omega) (fun c => absurd c (fun c => by omega)) (fun _ => ?_)
      refine w_iL (j := 120) rfl rfl rfl ?_
      refine w_go rfl ?_
      refine w_ir rfl ?_
      exact ⟨_, _, rfl, rfl, t0, k1⟩
    ·
      refine w_neM (j := 114) rfl rfl (by omega) (fun _ => ?_) (fun c => absurd c (fun c => by omega))
      refine w_il (j := 117) rfl rfl rfl ?_
      refine w_ic (n := 1) (j := 118) rfl rfl ?_
      refine w_neN (j := 119) rfl rfl (by omega) (by omega) (fun _ => ?_) (fun c => absurd c (fun c => by omega))
      refine w_il (j := 122) rfl rfl rfl ?_
      refine w_neZ (j := 123) rfl rfl (fun d1 => ?_) (fun d1 => ?_)
      ·
        refine w_iL (j := 126) rfl rfl rfl ?_
        refine w_ir rfl ?_
        exact ⟨_, _, rfl, (if_neg (show ¬ (pf_chr h2 N a (2 ^ N)).1 = 0 from d1)).symm, t0, k1⟩
      ·
        refine w_ic (n := 0) (j := 124) rfl rfl ?_
        refine w_go rfl ?_
        refine w_ir rfl ?_
        exact ⟨_, _, rfl, (if_pos (show (pf_chr h2 N a (2 ^ N)).1 = 0 from d1)).symm, t0, k1⟩
theorem MX_chord {iv w : Int32} (ok : ¬ ((nI 0 ≤ iv ∧ iv ≤ nI 792) ∧ nI 0 ≤ w ∧ w ≤ nI 2)) : px_PI 3 235 [.ref 100, .int iv, .int w] h (fun v h2 => h2 100 0 = nI 1 ∧ px_kp (ix_up h 102 1 (h 102 1 + nI 1)) h2) := by
  have tail : px_R px_E 2 mo_235 [] 14 [.ref 100, .int iv, .int w, .null, .null, .null, .null, .null, .null, .null] [.ref 100] (ix_up h 100 0 (nI 0)) 0 (fun r => ∃ v h', r = (.inl (some (.int v)), h', 0) ∧ h' 100 0 = nI 1 ∧ px_kp (ix_up h 102 1 (h 102 1 + nI 1)) h') := by
    refine w_ic (n := 1) (j := 15) rfl rfl ?_
    refine w_go rfl ?_
    refine w_ic (n := 1) (j := 18) rfl rfl ?_
    refine w_ic (n := 1) (j := 19) rfl rfl ?_
    refine w_cvI (j := 20) rfl rfl rfl rfl (by first | assumption | rfl) rfl rfl (sp_154t (p := 1) (w := 1) rfl (by decide) (by decide) (by decide)) rfl ?_
    refine w_eqB (j := 21) rfl rfl (fun c => absurd c (by simp)) (fun _ => ?_)
    refine w_ic (n := 0) (j := 22) rfl rfl ?_
    refine w_ir rfl ?_
    exact ⟨_, _, rfl, rfl, px_kpX (by decide)⟩
  refine px_M (M := mt_235) (ops := mo_235) tb_235 rfl rfl rfl rfl rfl ?_
  refine w_al (j := 1) rfl rfl rfl ?_
  refine w_ic (n := 0) (j := 2) rfl rfl ?_
  refine w_pf (j := 3) rfl rfl (by first | assumption | rfl) (by first | assumption | rfl) rfl ?_
  refine w_al (j := 4) rfl rfl rfl ?_
  refine w_il (j := 5) rfl rfl rfl ?_
  refine w_ic (n := 0) (j := 6) rfl rfl ?_
  refine w_si (j := 7) (a := nI 792) rfl rfl (by decide) ?_
  refine w_csI (j := 8) rfl rfl rfl rfl rfl (sp_155) rfl ?_
  by_cases c1 : nI 0 ≤ iv ∧ iv ≤ nI 792
  rw [decide_eq_true c1]
  rotate_left
  · rw [decide_eq_false c1]
    refine w_eqB rfl rfl (fun _ => tail) (fun c => absurd c (by simp))
  refine w_eqB (j := 9) rfl rfl (fun c => absurd c (by simp)) (fun _ => ?_)
  refine w_il (j := 10) rfl rfl rfl ?_
  refine w_ic (n := 0) (j := 11) rfl rfl ?_
  refine w_ic (n := 2) (j := 12) rfl rfl ?_
  refine w_csI (j := 13) rfl rfl rfl rfl rfl (sp_155) rfl ?_
  rw [decide_eq_false (fun q => ok ⟨c1, q⟩)]
  refine w_neB (j := 14) rfl rfl (fun c => absurd c (by simp)) (fun _ => ?_)
  exact tail
end OPS
