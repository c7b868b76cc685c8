def pf_bq (v : Int32) (s : Nat) : Nat := (v >>> (nI s &&& 31) &&& nI 255).toBitVec.toNat
theorem pf_bq_lt (v : Int32) (s : Nat) : pf_bq v s < 256 := by
  unfold pf_bq
  rw [Int32.toBitVec_and, BitVec.toNat_and]
  have : ∀ a : Nat, a &&& (nI 255).toBitVec.toNat ≤ 255 := fun a => Nat.and_le_right
  have := this (v >>> (nI s &&& 31)).toBitVec.toNat
  omega
theorem pf_bq_eq (v : Int32) (s : Nat) : v >>> (nI s &&& 31) &&& nI 255 = nI (pf_bq v s) := Int32.toBitVec_inj.mp (by show _ = BitVec.ofNat 32 _; unfold pf_bq; simp)
theorem pf_g_8 : ∀ i, i < 32 → pf_g (nI 255) i = decide (i < 8) := by decide +kernel
theorem pf_sb_eq {x y : Int32} (hh : ∀ i, i < 8 → pf_g x i = pf_g y i) : x.toInt8.toInt32 = y.toInt8.toInt32 := by
  congr 1
  apply Int8.toBitVec_inj.mp
  rw [Int32.toBitVec_toInt8, Int32.toBitVec_toInt8]
  apply BitVec.eq_of_getLsbD_eq
  intro i hi
  rw [BitVec.getLsbD_signExtend, BitVec.getLsbD_signExtend, if_pos (by omega), if_pos (by omega)]
  have := hh i hi
  unfold pf_g at this
  rw [this]
theorem pf_by_eq {v : Int32} {s : Nat} (hs : s ≤ 24) : ((v.toUInt32 >>> ((nI s).toUInt32 &&& Int32.toUInt32 31)).toInt32).toInt8.toInt32 = pf_sb (pf_bq v s) := by
  unfold pf_sb
  rw [← pf_bq_eq]
  refine pf_sb_eq (fun i hi => ?_)
  rw [pf_g_and, pf_g_8 i (by omega), decide_eq_true hi, Bool.and_true, pf_g_ushr s (by omega), pf_g_sshr s (by omega) v (by omega), if_pos (by omega)]
theorem pf_nar (x : Int32) : vp_nar .byte x.toInt8.toInt32 = x.toInt8.toInt32 := by
  show x.toInt8.toInt32.toInt8.toInt32 = x.toInt8.toInt32
  rw [Int8.toInt8_toInt32]
section FE
variable {h : ix_H} {t : Nat}
theorem sp_103 {v : Int32} (ht : h 0 16 = nI t) (hl : t + 4 ≤ 600) : px_PU 1 103 [.ref 0, .int v] h (fun h1 => px_fr [0, 1] h h1 ∧ (∀ j, j ≠ 16 → h1 0 j = h 0 j) ∧ h1 0 16 = nI (t + 4) ∧ (∀ j, j < t → h1 1 j = h 1 j) ∧ ∀ k, k < 4 → h1 1 (t + k) = pf_sb (pf_bq v (24 - 8 * k))) := by
  refine px_M (M := mt_103) (ops := mo_103) tb_103 rfl rfl rfl rfl rfl ?_
  refine w_bi (j := 1) (a := nI 24) rfl rfl (by decide) ?_
  refine w_is (j := 2) rfl rfl rfl ?_
  refine px_forI (fun c ls h1 => ls = [.ref 0, .int v, .int (nI 24 - nI (8 * c))] ∧ px_fr [0, 1] h h1 ∧ (∀ j, j ≠ 16 → h1 0 j = h 0 j) ∧ h1 0 16 = nI (t + c) ∧ (∀ j, j < t → h1 1 j = h 1 j) ∧ ∀ k, k < c → h1 1 (t + k) = pf_sb (pf_bq v (24 - 8 * k))) 4 ?_ ?_ ⟨rfl, px_fr.rf, fun _ _ => rfl, ht, fun _ _ => rfl, fun k hk => by omega⟩
  · rintro c _ h1 hc ⟨rfl, r1, r2, r3, r4, r5⟩ H
    rw [px_nsub (by omega)]
    refine w_il (j := 3) rfl rfl rfl ?_
    refine w_ltM (j := 4) rfl rfl (by omega) ?_
    refine w_al (j := 5) rfl rfl rfl ?_
    first | refine w_gr (j := 6) rfl rfl (by first | assumption | rfl) (by first | assumption | rfl) rfl ?_ | refine w_gi (j := 6) rfl rfl (by first | assumption | rfl) (by first | assumption | rfl) rfl r3 ?_
    refine w_al (j := 7) rfl rfl rfl ?_
    first | refine w_gr (j := 8) rfl rfl (by first | assumption | rfl) (by first | assumption | rfl) rfl ?_ | refine w_gi (j := 8) rfl rfl (by first | assumption | rfl) (by first | assumption | rfl) rfl rfl ?_
    refine w_alen (j := 9) rfl rfl (by first | assumption | rfl) (by decide) ?_
    refine w_geN (j := 10) rfl rfl (by omega) (by omega) (fun c => absurd c (fun c => by omega)) (fun _ => ?_)
    refine w_al (j := 11) rfl rfl rfl ?_
    first | refine w_gr (j := 12) rfl rfl (by first | assumption | rfl) (by first | assumption | rfl) rfl ?_ | refine w_gi (j := 12) rfl rfl (by first | assumption | rfl) (by first | assumption | rfl) rfl rfl ?_
    refine w_al (j := 13) rfl rfl rfl ?_
    first | refine w_gr (j := 14) rfl rfl (by first | assumption | rfl) (by first | assumption | rfl) rfl ?_ | refine w_gi (j := 14) rfl rfl (by first | assumption | rfl) (by first | assumption | rfl) rfl r3 ?_
    refine w_il (j := 15) rfl rfl rfl ?_
    refine w_il (j := 16) rfl rfl rfl ?_
    refine w_ushr (j := 17) rfl rfl ?_
    refine w_i2b (j := 18) rfl rfl ?_
    rw [pf_by_eq (by omega)]
    refine w_bas (j := 19) rfl rfl rfl rfl (by omega) rfl ?_
    rw [show vp_nar .byte (pf_sb (pf_bq v (24 - 8 * c))) = pf_sb (pf_bq v (24 - 8 * c)) from pf_nar _]
    have r3' : ix_up h1 1 (t + c) (pf_sb (pf_bq v (24 - 8 * c))) 0 16 = nI (t + c) := by rw [px_up_na (by decide)]; exact r3
    refine w_al (j := 20) rfl rfl rfl ?_
    first | refine w_dupr (j := 21) rfl rfl ?_ | refine w_dupi (j := 21) rfl rfl ?_
    first | refine w_gr (j := 22) rfl rfl (by first | assumption | rfl) (by first | assumption | rfl) rfl ?_ | refine w_gi (j := 22) rfl rfl (by first | assumption | rfl) (by first | assumption | rfl) rfl r3' ?_
    refine w_ic (n := 1) (j := 23) rfl rfl ?_
    first | refine w_add0 (j := 24) rfl rfl ?_ | refine w_addN (j := 24) rfl rfl ?_ | refine w_add (j := 24) rfl rfl ?_
    refine w_pf (j := 25) rfl rfl (by first | assumption | rfl) (by first | assumption | rfl) rfl ?_
    refine w_inc (j := 26) (b := nI 24 - nI (8 * (c + 1))) rfl rfl rfl ?_ ?_
    · obtain rfl | rfl | rfl | rfl : c = 0 ∨ c = 1 ∨ c = 2 ∨ c = 3 := by omega
      all_goals decide
    refine w_go rfl ?_
    refine H _ _ ⟨rfl, (r1.up (by decide)).up (by decide), fun j hj => ?_, px_up_at, fun j hj => ?_, fun k hk => ?_⟩
    · rw [px_up_nk hj, px_up_na (by decide)]; exact r2 j hj
    · rw [px_up_na (by decide), px_up_nk (by omega)]; exact r4 j hj
    · rw [px_up_na (by decide)]
      by_cases hkc : k = c
      · subst hkc; rw [px_up_at]
      · rw [px_up_nk (by omega)]; exact r5 k (by omega)
  · rintro _ h1 ⟨rfl, r1, r2, r3, r4, r5⟩
    refine w_il (j := 3) rfl rfl rfl ?_
    refine w_ltZ (j := 4) rfl rfl (fun _ => ?_) (fun c => absurd c (by decide))
    refine w_rt rfl ?_
    exact ⟨_, rfl, r1, r2, r3, r4, r5⟩
def pf_ag (a b c d e : Int32) (k : Nat) : Int32 := if k < 4 then a else if k < 8 then b else if k < 12 then c else if k < 16 then d else e
theorem P_feed {f : ix_H} {a b c d e : Int32} (hJ : px_J f h) : px_PI 6 102 [.ref 0, .int a, .int b, .int c, .int d, .int e] h (fun v h1 => px_PI 6 159 [.ref 100, .int a, .int b, .int c, .int d, .int e] h1 (fun w h2 => v = w ∧ h2 100 0 = nI 0 ∧ px_J f h2)) := by
  obtain ⟨hf, B, N, T, cs, L, W, I, t, hI⟩ := hJ
  have hI' := hI
  obtain ⟨ld, lw, ln, nw, hi, tp, ct, fp⟩ := hI
  obtain ⟨t1, t2, t3, t4⟩ := tp
  by_cases h580 : 580 < t
  ·
    refine px_M (M := mt_102) (ops := mo_102) tb_102 rfl rfl rfl rfl rfl ?_
    refine w_al (j := 1) rfl rfl rfl ?_
    first | refine w_gr (j := 2) rfl rfl (by first | assumption | rfl) (by first | assumption | rfl) rfl ?_ | refine w_gi (j := 2) rfl rfl (by first | assumption | rfl) (by first | assumption | rfl) rfl t2 ?_
    refine w_si (j := 3) (a := nI 580) rfl rfl (by decide) ?_
    refine w_leN (j := 4) rfl rfl (by omega) (by omega) (fun c => absurd c (fun c => by omega)) (fun _ => ?_)
    refine w_im (j := 5) rfl rfl ?_
    refine w_ir rfl ?_
    refine ⟨_, _, rfl, ?_⟩
    have hI := hI'
    refine px_M (M := mt_159) (ops := mo_159) tb_159 rfl rfl rfl rfl rfl ?_
    refine w_al (j := 1) rfl rfl rfl ?_
    refine w_ic (n := 0) (j := 2) rfl rfl ?_
    refine w_pf (j := 3) rfl rfl (by first | assumption | rfl) (by first | assumption | rfl) rfl ?_
    obtain ⟨I1, k1, t0⟩ := px_thr (v := nI 0) hI
    generalize ix_up h 100 0 (nI 0) = h1 at I1 k1 t0 ⊢
    have t3' : h1 100 1 = nI t := (k1.2 1 (by decide)).trans t3
    refine w_al (j := 4) rfl rfl rfl ?_
    first | refine w_gr (j := 5) rfl rfl (by first | assumption | rfl) (by first | assumption | rfl) rfl ?_ | refine w_gi (j := 5) rfl rfl (by first | assumption | rfl) (by first | assumption | rfl) rfl t3' ?_
    refine w_bi (j := 6) (a := nI 20) rfl rfl (by decide) ?_
    first | refine w_add0 (j := 7) rfl rfl ?_ | refine w_addN (j := 7) rfl rfl ?_ | refine w_add (j := 7) rfl rfl ?_
    refine w_si (j := 8) (a := nI 600) rfl rfl (by decide) ?_
    refine w_leN (j := 9) rfl rfl (by omega) (by omega) (fun c => absurd c (fun c => by omega)) (fun _ => ?_)
    refine w_im (j := 10) rfl rfl ?_
    refine w_ir rfl ?_
    exact ⟨_, _, rfl, rfl, t0, fun a ha => (k1.1 a (pf_pers_i (by omega))).trans (hf a ha), _, _, _, _, _, _, _, _, I1⟩
  · have ht : t + 20 ≤ 600 := by omega
    refine px_M (M := mt_102) (ops := mo_102) tb_102 rfl rfl rfl rfl rfl ?_
    refine w_al (j := 1) rfl rfl rfl ?_
    first | refine w_gr (j := 2) rfl rfl (by first | assumption | rfl) (by first | assumption | rfl) rfl ?_ | refine w_gi (j := 2) rfl rfl (by first | assumption | rfl) (by first | assumption | rfl) rfl t2 ?_
    refine w_si (j := 3) (a := nI 580) rfl rfl (by decide) ?_
    refine w_leN (j := 4) rfl rfl (by omega) (by omega) (fun _ => ?_) (fun c => absurd c (fun c => by omega))
    refine w_al (j := 7) rfl rfl rfl ?_
    refine w_il (j := 8) rfl rfl rfl ?_
    refine w_cvPU (j := 9) rfl rfl rfl rfl (by first | assumption | rfl) rfl rfl (sp_103 t2 (by omega)) rfl ?_
    rintro h1 ⟨a1, a2, a3, a4, a5⟩
    refine w_al (j := 10) rfl rfl rfl ?_
    refine w_il (j := 11) rfl rfl rfl ?_
    refine w_cvPU (j := 12) rfl rfl rfl rfl (by first | assumption | rfl) rfl rfl (sp_103 a3 (by omega)) rfl ?_
    rintro h2 ⟨b1, b2, b3, b4, b5⟩
    refine w_al (j := 13) rfl rfl rfl ?_
    refine w_il (j := 14) rfl rfl rfl ?_
    refine w_cvPU (j := 15) rfl rfl rfl rfl (by first | assumption | rfl) rfl rfl (sp_103 b3 (by omega)) rfl ?_
    rintro h3 ⟨c1, c2, c3, c4, c5⟩
    refine w_al (j := 16) rfl rfl rfl ?_
    refine w_iL (j := 17) rfl rfl rfl ?_
    refine w_cvPU (j := 18) rfl rfl rfl rfl (by first | assumption | rfl) rfl rfl (sp_103 c3 (by omega)) rfl ?_
    rintro h4 ⟨d1, d2, d3, d4, d5⟩
    refine w_al (j := 19) rfl rfl rfl ?_
    refine w_iL (j := 20) rfl rfl rfl ?_
    refine w_cvPU (j := 21) rfl rfl rfl rfl (by first | assumption | rfl) rfl rfl (sp_103 d3 (by omega)) rfl ?_
    rintro h5 ⟨e1, e2, e3, e4, e5⟩
    have e3' : h5 0 16 = nI (t + 20) := by rw [e3]
    refine w_al (j := 22) rfl rfl rfl ?_
    first | refine w_gr (j := 23) rfl rfl (by first | assumption | rfl) (by first | assumption | rfl) rfl ?_ | refine w_gi (j := 23) rfl rfl (by first | assumption | rfl) (by first | assumption | rfl) rfl e3' ?_
    refine w_ir rfl ?_
    refine ⟨_, _, rfl, ?_⟩
    have F : px_fr [0, 1] h h5 := (((a1.tr b1).tr c1).tr d1).tr e1
    have F0 : ∀ j, j ≠ 16 → h5 0 j = h 0 j := fun j hj => by rw [e2 j hj, d2 j hj, c2 j hj, b2 j hj, a2 j hj]
    have F1 : ∀ j, j < t → h5 1 j = h 1 j := fun j hj => by rw [e4 j (by omega), d4 j (by omega), c4 j (by omega), b4 j (by omega), a4 j (by omega)]
    have F2 : ∀ k, k < 20 → h5 1 (t + k) = pf_sb (pf_bq (pf_ag a b c d e k) (24 - 8 * (k % 4))) := by
      intro k hk
      unfold pf_ag
      by_cases k1 : k < 4
      · rw [if_pos k1, Nat.mod_eq_of_lt k1, e4 _ (by omega), d4 _ (by omega), c4 _ (by omega), b4 _ (by omega)]
        exact a5 k k1
      by_cases k2 : k < 8
      · rw [if_neg k1, if_pos k2, e4 _ (by omega), d4 _ (by omega), c4 _ (by omega), show t + k = t + 4 + k % 4 by omega]
        exact b5 _ (by omega)
      by_cases k3 : k < 12
      · rw [if_neg k1, if_neg k2, if_pos k3, e4 _ (by omega), d4 _ (by omega), show t + k = t + 4 + 4 + k % 4 by omega]
        exact c5 _ (by omega)
      by_cases k4 : k < 16
      · rw [if_neg k1, if_neg k2, if_neg k3, if_pos k4, e4 _ (by omega), show t + k = t + 4 + 4 + 4 + k % 4 by omega]
        exact d5 _ (by omega)
      · rw [if_neg k1, if_neg k2, if_neg k3, if_neg k4, show t + k = t + 4 + 4 + 4 + 4 + k % 4 by omega]
        exact e5 _ (by omega)
    have t3' : ix_up h5 100 0 (nI 0) 100 1 = nI t := by rw [px_up_nk (by decide), F 100 (by decide)]; exact t3
    refine px_M (M := mt_159) (ops := mo_159) tb_159 rfl rfl rfl rfl rfl ?_
    refine w_al (j := 1) rfl rfl rfl ?_
    refine w_ic (n := 0) (j := 2) rfl rfl ?_
    refine w_pf (j := 3) rfl rfl (by first | assumption | rfl) (by first | assumption | rfl) rfl ?_
    refine w_al (j := 4) rfl rfl rfl ?_
    first | refine w_gr (j := 5) rfl rfl (by first | assumption | rfl) (by first | assumption | rfl) rfl ?_ | refine w_gi (j := 5) rfl rfl (by first | assumption | rfl) (by first | assumption | rfl) rfl t3' ?_
    refine w_bi (j := 6) (a := nI 20) rfl rfl (by decide) ?_
    first | refine w_add0 (j := 7) rfl rfl ?_ | refine w_addN (j := 7) rfl rfl ?_ | refine w_add (j := 7) rfl rfl ?_
    refine w_si (j := 8) (a := nI 600) rfl rfl (by decide) ?_
    refine w_leN (j := 9) rfl rfl (by omega) (by omega) (fun _ => ?_) (fun c => absurd c (fun c => by omega))
    refine w_ic (n := 0) (j := 12) rfl rfl ?_
    refine w_iS (j := 13) rfl rfl rfl ?_
    refine px_forI (fun k ls h6 => (∃ g, ls = [.ref 100, .int a, .int b, .int c, .int d, .int e, .int (nI k), g]) ∧ (∀ q, q ≠ 100 → q ≠ 101 → h6 q = h5 q) ∧ (∀ j, j ≠ 1 → h6 100 j = ix_up h5 100 0 (nI 0) 100 j) ∧ h6 100 1 = nI (t + k) ∧ (∀ j, j < t → h6 101 j = h5 101 j) ∧ ∀ k', k' < k → h6 101 (t + k') = nI (pf_bq (pf_ag a b c d e k') (24 - 8 * (k' % 4)))) 20 ?_ ?_ ⟨⟨_, rfl⟩, fun q q1 _ => ix_up_ne q1, fun _ _ => rfl, t3', fun j _ => by rw [px_up_na (by decide)], fun k hk => by omega⟩
    · rintro k _ h6 hk ⟨⟨g, rfl⟩, r1, r2, r3, r4, r5⟩ H
      have tail : ∀ v, v = pf_ag a b c d e k → px_R px_E 5 mo_159 [] 37 [.ref 100, .int a, .int b, .int c, .int d, .int e, .int (nI k), g] [.int v] h6 0 (fun r => ∃ w h', r = (.inl (some (.int w)), h', 0) ∧ nI (t + 20) = w ∧ h' 100 0 = nI 0 ∧ px_J f h') := by
        intro v hv
        refine w_iS (j := 38) rfl rfl rfl ?_
        refine w_al (j := 39) rfl rfl rfl ?_
        first | refine w_gr (j := 40) rfl rfl (by first | assumption | rfl) (by first | assumption | rfl) rfl ?_ | refine w_gi (j := 40) rfl rfl (by first | assumption | rfl) (by first | assumption | rfl) rfl rfl ?_
        refine w_al (j := 41) rfl rfl rfl ?_
        first | refine w_gr (j := 42) rfl rfl (by first | assumption | rfl) (by first | assumption | rfl) rfl ?_ | refine w_gi (j := 42) rfl rfl (by first | assumption | rfl) (by first | assumption | rfl) rfl r3 ?_
        refine w_iL (j := 43) rfl rfl rfl ?_
        refine w_bi (j := 44) (a := nI 24) rfl rfl (by decide) ?_
        refine w_bi (j := 45) (a := nI 8) rfl rfl (by decide) ?_
        refine w_iL (j := 46) rfl rfl rfl ?_
        refine w_ic (n := 4) (j := 47) rfl rfl ?_
        refine w_rem (j := 48) rfl rfl (by first | decide | assumption) ?_
        rw [px_nrem (a := k) (b := 4) (by omega) (by decide)]
        first | refine w_mulN (j := 49) rfl rfl ?_ | refine w_mul (j := 49) rfl rfl ?_
        first | refine w_subN (j := 50) rfl rfl (by omega) ?_ | refine w_sub (j := 50) rfl rfl ?_
        refine w_shr (j := 51) rfl rfl ?_
        refine w_si (j := 52) (a := nI 255) rfl rfl (by decide) ?_
        refine w_and (j := 53) rfl rfl ?_
        rw [pf_bq_eq]
        refine w_ias (j := 54) rfl rfl (by first | assumption | rfl) rfl (by omega) rfl ?_
        have r3' : ix_up h6 101 (t + k) (nI (pf_bq v (24 - 8 * (k % 4)))) 100 1 = nI (t + k) := by rw [px_up_na (by decide)]; exact r3
        refine w_al (j := 55) rfl rfl rfl ?_
        first | refine w_dupr (j := 56) rfl rfl ?_ | refine w_dupi (j := 56) rfl rfl ?_
        first | refine w_gr (j := 57) rfl rfl (by first | assumption | rfl) (by first | assumption | rfl) rfl ?_ | refine w_gi (j := 57) rfl rfl (by first | assumption | rfl) (by first | assumption | rfl) rfl r3' ?_
        refine w_ic (n := 1) (j := 58) rfl rfl ?_
        first | refine w_add0 (j := 59) rfl rfl ?_ | refine w_addN (j := 59) rfl rfl ?_ | refine w_add (j := 59) rfl rfl ?_
        refine w_pf (j := 60) rfl rfl (by first | assumption | rfl) (by first | assumption | rfl) rfl ?_
        first | refine w_incN (j := 61) rfl rfl rfl ?_ | refine w_inc (j := 61) rfl rfl rfl rfl ?_
        refine w_go rfl ?_
        refine H _ _ ⟨⟨_, rfl⟩, fun q q1 q2 => ?_, fun j hj => ?_, px_up_at, fun j hj => ?_, fun k' hk' => ?_⟩
        · rw [ix_up_ne q1, ix_up_ne q2]; exact r1 q q1 q2
        · rw [px_up_nk hj, px_up_na (by decide)]; exact r2 j hj
        · rw [px_up_na (by decide), px_up_nk (by omega)]; exact r4 j hj
        · rw [px_up_na (by decide)]
          by_cases hkk : k' = k
          · subst hkk; rw [px_up_at, hv]
          · rw [px_up_nk (by omega)]; exact r5 k' (by omega)
      refine w_iL (j := 14) rfl rfl rfl ?_
      refine w_bi (j := 15) (a := nI 20) rfl rfl (by decide) ?_
      refine w_geN (j := 16) rfl rfl (by omega) (by omega) (fun c => absurd c (fun c => by omega)) (fun _ => ?_)
      refine w_iL (j := 17) rfl rfl rfl ?_
      refine w_ic (n := 4) (j := 18) rfl rfl ?_
      refine w_geN (j := 19) rfl rfl (by omega) (by omega) (fun k1 => ?_) (fun k1 => ?_)
      rotate_left
      ·
        refine w_il (j := 20) rfl rfl rfl ?_
        refine w_go rfl ?_
        exact tail _ (by rw [pf_ag, if_pos k1])
      refine w_iL (j := 22) rfl rfl rfl ?_
      refine w_bi (j := 23) (a := nI 8) rfl rfl (by decide) ?_
      refine w_geN (j := 24) rfl rfl (by omega) (by omega) (fun k2 => ?_) (fun k2 => ?_)
      rotate_left
      ·
        refine w_il (j := 25) rfl rfl rfl ?_
        refine w_go rfl ?_
        exact tail _ (by rw [pf_ag, if_neg (by omega), if_pos k2])
      refine w_iL (j := 27) rfl rfl rfl ?_
      refine w_bi (j := 28) (a := nI 12) rfl rfl (by decide) ?_
      refine w_geN (j := 29) rfl rfl (by omega) (by omega) (fun k3 => ?_) (fun k3 => ?_)
      rotate_left
      ·
        refine w_il (j := 30) rfl rfl rfl ?_
        refine w_go rfl ?_
        exact tail _ (by rw [pf_ag, if_neg (by omega), if_neg (by omega), if_pos k3])
      refine w_iL (j := 32) rfl rfl rfl ?_
      refine w_bi (j := 33) (a := nI 16) rfl rfl (by decide) ?_
      refine w_geN (j := 34) rfl rfl (by omega) (by omega) (fun k4 => ?_) (fun k4 => ?_)
      rotate_left
      ·
        refine w_iL (j := 35) rfl rfl rfl ?_
        refine w_go rfl ?_
        exact tail _ (by rw [pf_ag, if_neg (by omega), if_neg (by omega), if_neg (by omega), if_pos k4])
      refine w_iL (j := 37) rfl rfl rfl ?_
      exact tail _ (by rw [pf_ag, if_neg (by omega), if_neg (by omega), if_neg (by omega), if_neg (by omega)])
    · rintro _ h6 ⟨⟨g, rfl⟩, r1, r2, r3, r4, r5⟩
      refine w_iL (j := 14) rfl rfl rfl ?_
      refine w_bi (j := 15) (a := nI 20) rfl rfl (by decide) ?_
      refine w_geN (j := 16) rfl rfl (by omega) (by omega) (fun _ => ?_) (fun c => absurd c (fun c => by omega))
      refine w_al (j := 63) rfl rfl rfl ?_
      first | refine w_gr (j := 64) rfl rfl (by first | assumption | rfl) (by first | assumption | rfl) rfl ?_ | refine w_gi (j := 64) rfl rfl (by first | assumption | rfl) (by first | assumption | rfl) rfl r3 ?_
      refine w_ir rfl ?_
      have R : ∀ a, a ≠ 0 → a ≠ 1 → a ≠ 100 → a ≠ 101 → h6 a = h a := fun a a0 a1 a2 a3 => by rw [r1 a a2 a3, F a (by simp; omega)]
      have R0 : ∀ j, j ≠ 16 → h6 0 j = h 0 j := fun j hj => by rw [r1 0 (by decide) (by decide), F0 j hj]
      have R100 : ∀ j, j ≠ 0 → j ≠ 1 → h6 100 j = h 100 j := fun j j0 j1 => by rw [r2 j j1, px_up_nk j0, F 100 (by decide)]
      refine ⟨_, _, rfl, rfl, by rw [r2 0 (by decide), px_up_at], fun a ha => (R a (by omega) (by omega) (by omega) (by omega)).trans (hf a ha), B, N, T, cs, L, W, I, t + 20, ?_, ?_, ?_, ?_, ?_, ?_, ?_, ?_⟩
      · exact ld.of (fun a h1 h2 => R a (by omega) (by omega) (by omega) (by omega)) (fun a h1 h2 => R a (by omega) (by omega) (by omega) (by omega))
      · exact lw.of (fun a h1 h2 h3 => R a (by omega) (by omega) (by omega) (by omega)) (R100 _ (by decide) (by decide)) (fun a h1 h2 => R a (by omega) (by omega) (by omega) (by omega))
      · exact ln.of (fun a h1 h2 => R a (by omega) (by omega) (by omega) (by omega)) (R100 _ (by decide) (by decide)) (fun a h1 h2 => R a (by omega) (by omega) (by omega) (by omega))
      · exact px_nowO (fun a h1 h2 => R a (by omega) (by omega) (by omega) (by omega)) (R 577 (by decide) (by decide) (by decide) (by decide)) nw
      · exact hi.of (fun a h1 h2 => R a (by omega) (by omega) (by omega) (by omega)) (R100 _ (by decide) (by decide)) (R100 _ (by decide) (by decide)) (R100 _ (by decide) (by decide)) (fun a h1 h2 => R a (by omega) (by omega) (by omega) (by omega))
      · refine ⟨by omega, by rw [r1 0 (by decide) (by decide)]; exact e3', r3, fun i hi => ?_⟩
        rw [r1 1 (by decide) (by decide)]
        by_cases hit : i < t
        · rw [r4 i hit, F1 i hit, F 101 (by decide)]
          exact t4 i hit
        · obtain ⟨k, rfl⟩ : ∃ k, i = t + k := ⟨i - t, by omega⟩
          rw [r5 k (by omega), F2 k (by omega)]
          exact ⟨_, pf_bq_lt _ _, rfl, rfl⟩
      · rw [R0 18 (by decide), R0 19 (by decide), R 102 (by decide) (by decide) (by decide) (by decide)]; exact ct
      · rw [R0 17 (by decide), R100 3 (by decide) (by decide)]; exact fp
end FE
