section OPS
variable {h : ix_H} {B N T L W I t : Nat} {cs : List (Nat × Nat)}
theorem px_kpX {h : ix_H} {w p : Nat} (hp : p < 2) : px_kp (ix_up h 102 p (h 102 p + nI 1)) (px_hB (ix_up h 100 0 (nI 0)) w p) := px_kpB (px_kp.rf.up (by decide) (fun _ => by decide)) hp
theorem M_bay {b m : Nat} (hI : px_I h B N T cs L W I t) (hb : b < B) (hm : m ≤ 4) : px_PI 3 216 [.ref 100, .int (nI b), .int (nI m)] h (fun w h2 => w = pf_bay h B N b m ∧ h2 100 0 = nI 0 ∧ px_kp h h2) := by
  have hB6 := hI.1.2.2.1
  refine px_M (M := mt_216) (ops := mo_216) tb_216 rfl rfl rfl rfl rfl ?_
  refine w_al (j := 1) rfl rfl rfl ?_
  refine w_ic (n := 0) (j := 2) rfl rfl ?_
  refine w_pf (j := 3) rfl rfl (by first | assumption | rfl) (by first | assumption | rfl) rfl ?_
  obtain ⟨I1, k1, t0⟩ := px_thr (v := nI 0) hI
  generalize ix_up h 100 0 (nI 0) = h1 at I1 k1 t0 ⊢
  rw [← pf_bay_kp (by omega) k1]
  obtain ⟨⟨l1, l2, l3, l4, l5, l6, l7, l8, l9, l10, l11, l12, l13, l14, l15⟩, -, ln, nw, hi, -⟩ := I1
  refine w_al (j := 4) rfl rfl rfl ?_
  refine w_al (j := 5) rfl rfl rfl ?_
  refine w_il (j := 6) rfl rfl rfl ?_
  refine w_cvI (j := 7) rfl rfl rfl rfl (by first | assumption | rfl) rfl rfl (sp_212 l2 l3) rfl ?_
  rw [decide_eq_true (show 0 ≤ nI b ∧ nI b < nI B from ⟨px_nle0 (by omega), nI_lt hb (by omega)⟩)]
  refine w_neB (j := 8) rfl rfl (fun _ => ?_) (fun c => absurd c (by simp))
  refine w_ic (n := 0) (j := 11) rfl rfl ?_
  refine w_ic (n := 1) (j := 12) rfl rfl ?_
  refine w_ic (n := 0) (j := 13) rfl rfl ?_
  refine w_cvI (j := 14) rfl rfl rfl rfl (by first | assumption | rfl) rfl rfl (sp_154f t0) rfl ?_
  refine w_neB (j := 15) rfl rfl (fun c => absurd c (by simp)) (fun _ => ?_)
  refine w_al (j := 16) rfl rfl rfl ?_
  refine w_il (j := 17) rfl rfl rfl ?_
  refine w_ic (n := 0) (j := 18) rfl rfl ?_
  refine w_ic (n := 4) (j := 19) rfl rfl ?_
  refine w_csI (j := 20) rfl rfl rfl rfl rfl (sp_155) rfl ?_
  rw [px_ofN hm (by decide)]
  refine w_neB (j := 21) rfl rfl (fun _ => ?_) (fun c => absurd c (by simp))
  refine w_ic (n := 0) (j := 24) rfl rfl ?_
  refine w_ic (n := 2) (j := 25) rfl rfl ?_
  refine w_ic (n := 1) (j := 26) rfl rfl ?_
  refine w_cvI (j := 27) rfl rfl rfl rfl (by first | assumption | rfl) rfl rfl (sp_154f t0) rfl ?_
  refine w_eqB (j := 28) rfl rfl (fun _ => ?_) (fun c => absurd c (by simp))
  refine w_ic (n := 0) (j := 31) rfl rfl ?_
  refine w_is (j := 32) rfl rfl rfl ?_
  refine w_ic (n := 0) (j := 33) rfl rfl ?_
  refine w_iS (j := 34) rfl rfl rfl ?_
  refine px_for (fun c s => [.ref 100, .int (nI b), .int (nI m), .int s, .int (nI c)]) (fun _ => h1) (pf_fm (fun c => h1 577 c = nI b)) N (nI 0) (fun _ _ => True) trivial (fun _ _ _ _ => trivial) ?_ ?_
  · intro c s hc _ H
    refine w_iL (j := 35) rfl rfl rfl ?_
    refine w_al (j := 36) rfl rfl rfl ?_
    first | refine w_gr (j := 37) rfl rfl (by first | assumption | rfl) (by first | assumption | rfl) rfl ?_ | refine w_gi (j := 37) rfl rfl (by first | assumption | rfl) (by first | assumption | rfl) rfl rfl ?_
    refine w_ic (n := 1) (j := 38) rfl rfl ?_
    refine w_ial (j := 39) rfl rfl (by first | assumption | rfl) rfl (by omega) rfl l5 ?_
    refine w_geN (j := 40) rfl rfl (by omega) (by omega) (fun c => absurd c (fun c => by omega)) (fun _ => ?_)
    refine w_il (j := 41) rfl rfl rfl ?_
    refine w_al (j := 42) rfl rfl rfl ?_
    first | refine w_gr (j := 43) rfl rfl (by first | assumption | rfl) (by first | assumption | rfl) rfl ?_ | refine w_gi (j := 43) rfl rfl (by first | assumption | rfl) (by first | assumption | rfl) rfl rfl ?_
    refine w_ic (n := 0) (j := 44) rfl rfl ?_
    refine w_iL (j := 45) rfl rfl rfl ?_
    first | refine w_add0 (j := 46) rfl rfl ?_ | refine w_addN (j := 46) rfl rfl ?_ | refine w_add (j := 46) rfl rfl ?_
    refine w_ial (j := 47) rfl rfl (by first | assumption | rfl) rfl (by omega) rfl rfl ?_
    refine w_il (j := 48) rfl rfl rfl ?_
    refine w_ne (j := 49) rfl rfl (fun c1 => ?_) (fun c1 => ?_)
    ·
      refine w_ic (n := 0) (j := 54) rfl rfl ?_
      refine w_or (j := 55) rfl rfl ?_
      refine w_is (j := 56) rfl rfl rfl ?_
      first | refine w_incN (j := 57) rfl rfl rfl ?_ | refine w_inc (j := 57) rfl rfl rfl rfl ?_
      refine w_go rfl ?_
      rw [pf_fm, if_neg c1] at H
      exact H
    ·
      refine w_ic (n := 1) (j := 50) rfl rfl ?_
      refine w_iL (j := 51) rfl rfl rfl ?_
      refine w_shl (j := 52) rfl rfl ?_
      refine w_go rfl ?_
      refine w_or (j := 55) rfl rfl ?_
      refine w_is (j := 56) rfl rfl rfl ?_
      first | refine w_incN (j := 57) rfl rfl rfl ?_ | refine w_inc (j := 57) rfl rfl rfl rfl ?_
      refine w_go rfl ?_
      rw [pf_fm, if_pos c1] at H
      exact H
  · intro _
    have pl : ∀ c, c < N → h1 67 c = h1 577 c := fun c hc => (nw.2.2.1 c (by omega)).1
    have s113 := sh_113 b (by omega)
    refine w_iL (j := 35) rfl rfl rfl ?_
    refine w_al (j := 36) rfl rfl rfl ?_
    first | refine w_gr (j := 37) rfl rfl (by first | assumption | rfl) (by first | assumption | rfl) rfl ?_ | refine w_gi (j := 37) rfl rfl (by first | assumption | rfl) (by first | assumption | rfl) rfl rfl ?_
    refine w_ic (n := 1) (j := 38) rfl rfl ?_
    refine w_ial (j := 39) rfl rfl (by first | assumption | rfl) rfl (by omega) rfl l5 ?_
    refine w_geN (j := 40) rfl rfl (by omega) (by omega) (fun _ => ?_) (fun c => absurd c (fun c => by omega))
    refine w_il (j := 59) rfl rfl rfl ?_
    obtain rfl | rfl | rfl | rfl | rfl : m = 0 ∨ m = 1 ∨ m = 2 ∨ m = 3 ∨ m = 4 := by omega
    ·
      refine w_swN (t := 73) rfl (by decide) (by omega) rfl ?_
      refine w_al (j := 74) rfl rfl rfl ?_
      first | refine w_gr (j := 75) rfl rfl (by first | assumption | rfl) (by first | assumption | rfl) rfl ?_ | refine w_gi (j := 75) rfl rfl (by first | assumption | rfl) (by first | assumption | rfl) rfl rfl ?_
      refine w_il (j := 76) rfl rfl rfl ?_
      refine w_aal (j := 77) rfl rfl (by first | assumption | rfl) rfl (by omega) rfl ?_
      refine w_il (j := 78) rfl rfl rfl ?_
      refine w_ial (j := 79) rfl rfl (by first | assumption | rfl) rfl (by omega) rfl rfl ?_
      refine w_ir rfl ?_
      refine ⟨_, _, rfl, ?_, t0, k1⟩
      exact (l12 b hb).1.symm
    ·
      refine w_swN (t := 73) rfl (by decide) (by omega) rfl ?_
      refine w_al (j := 74) rfl rfl rfl ?_
      first | refine w_gr (j := 75) rfl rfl (by first | assumption | rfl) (by first | assumption | rfl) rfl ?_ | refine w_gi (j := 75) rfl rfl (by first | assumption | rfl) (by first | assumption | rfl) rfl rfl ?_
      refine w_il (j := 76) rfl rfl rfl ?_
      refine w_aal (j := 77) rfl rfl (by first | assumption | rfl) rfl (by omega) rfl ?_
      refine w_il (j := 78) rfl rfl rfl ?_
      refine w_ial (j := 79) rfl rfl (by first | assumption | rfl) rfl (by omega) rfl rfl ?_
      refine w_ir rfl ?_
      refine ⟨_, _, rfl, ?_, t0, k1⟩
      exact (l12 b hb).2.1.symm
    ·
      refine w_swN (t := 60) rfl (by decide) (by omega) rfl ?_
      refine w_il (j := 61) rfl rfl rfl ?_
      refine w_ir rfl ?_
      refine ⟨_, _, rfl, ?_, t0, k1⟩
      rw [pf_fm_eq]
      exact pf_fb_congr (fun c hc => by rw [pl c hc])
    ·
      refine w_swN (t := 62) rfl (by decide) (by omega) rfl ?_
      refine w_al (j := 63) rfl rfl rfl ?_
      first | refine w_gr (j := 64) rfl rfl (by first | assumption | rfl) (by first | assumption | rfl) rfl ?_ | refine w_gi (j := 64) rfl rfl (by first | assumption | rfl) (by first | assumption | rfl) rfl rfl ?_
      refine w_bi (j := 65) (a := nI 24) rfl rfl (by decide) ?_
      refine w_il (j := 66) rfl rfl rfl ?_
      first | refine w_add0 (j := 67) rfl rfl ?_ | refine w_addN (j := 67) rfl rfl ?_ | refine w_add (j := 67) rfl rfl ?_
      refine w_ial (j := 68) rfl rfl (by first | assumption | rfl) rfl (by omega) rfl rfl ?_
      refine w_ir rfl ?_
      exact ⟨_, _, rfl, (nw.2.2.2.2.1 b (by omega)).symm, t0, k1⟩
    ·
      refine w_swN (t := 69) rfl (by decide) (by omega) rfl ?_
      refine w_al (j := 70) rfl rfl rfl ?_
      refine w_il (j := 71) rfl rfl rfl ?_
      refine w_cvI (j := 72) rfl rfl rfl rfl (by first | assumption | rfl) rfl rfl (sp_215 (by omega) l2 l3) rfl ?_
      refine w_ir rfl ?_
      exact ⟨_, _, rfl, pf_fb_congr (fun c hc => by rw [(l14 b c (by omega) (by omega)).1]), t0, k1⟩
theorem MXE_bay {a w : Int32} (l2 : h 104 0 = nI B) (l3 : B ≤ 6) (hw : ¬ (0 ≤ a ∧ a < nI B)) : px_PI 3 216 [.ref 100, .int a, .int w] h (fun v h2 => h2 100 0 = nI 1 ∧ px_kp (ix_up h 102 0 (h 102 0 + nI 1)) h2) := by
  refine px_M (M := mt_216) (ops := mo_216) tb_216 rfl rfl rfl rfl rfl ?_
  refine w_al (j := 1) rfl rfl rfl ?_
  refine w_ic (n := 0) (j := 2) rfl rfl ?_
  refine w_pf (j := 3) rfl rfl (by first | assumption | rfl) (by first | assumption | rfl) rfl ?_
  refine w_al (j := 4) rfl rfl rfl ?_
  refine w_al (j := 5) rfl rfl rfl ?_
  refine w_il (j := 6) rfl rfl rfl ?_
  refine w_cvI (j := 7) rfl rfl rfl rfl (by first | assumption | rfl) rfl rfl (sp_212 (B := B) l2 l3) rfl ?_
  rw [decide_eq_false hw]
  refine w_neB (j := 8) rfl rfl (fun c => absurd c (by simp)) (fun _ => ?_)
  refine w_ic (n := 1) (j := 9) rfl rfl ?_
  refine w_go rfl ?_
  refine w_ic (n := 1) (j := 12) rfl rfl ?_
  refine w_ic (n := 0) (j := 13) rfl rfl ?_
  refine w_cvI (j := 14) rfl rfl rfl rfl (by first | assumption | rfl) rfl rfl (sp_154t (p := 0) (w := 1) rfl (by decide) (by decide) (by decide)) rfl ?_
  refine w_neB (j := 15) rfl rfl (fun _ => ?_) (fun c => absurd c (by simp))
  refine w_ic (n := 0) (j := 29) rfl rfl ?_
  refine w_ir rfl ?_
  exact ⟨_, _, rfl, rfl, px_kpX (by decide)⟩
theorem MXA_bay {a w : Int32} (l2 : h 104 0 = nI B) (l3 : B ≤ 6) (ha : 0 ≤ a ∧ a < nI B) (hw : ¬ (nI 0 ≤ w ∧ w ≤ nI 4)) : px_PI 3 216 [.ref 100, .int a, .int w] h (fun v h2 => h2 100 0 = nI 2 ∧ px_kp (ix_up h 102 1 (h 102 1 + nI 1)) h2) := by
  refine px_M (M := mt_216) (ops := mo_216) tb_216 rfl rfl rfl rfl rfl ?_
  refine w_al (j := 1) rfl rfl rfl ?_
  refine w_ic (n := 0) (j := 2) rfl rfl ?_
  refine w_pf (j := 3) rfl rfl (by first | assumption | rfl) (by first | assumption | rfl) rfl ?_
  refine w_al (j := 4) rfl rfl rfl ?_
  refine w_al (j := 5) rfl rfl rfl ?_
  refine w_il (j := 6) rfl rfl rfl ?_
  refine w_cvI (j := 7) rfl rfl rfl rfl (by first | assumption | rfl) rfl rfl (sp_212 (B := B) l2 l3) rfl ?_
  rw [decide_eq_true ha]
  refine w_neB (j := 8) rfl rfl (fun _ => ?_) (fun c => absurd c (by simp))
  refine w_ic (n := 0) (j := 11) rfl rfl ?_
  refine w_ic (n := 1) (j := 12) rfl rfl ?_
  refine w_ic (n := 0) (j := 13) rfl rfl ?_
  refine w_cvI (j := 14) rfl rfl rfl rfl (by first | assumption | rfl) rfl rfl (sp_154f rfl) rfl ?_
  refine w_neB (j := 15) rfl rfl (fun c => absurd c (by simp)) (fun _ => ?_)
  refine w_al (j := 16) rfl rfl rfl ?_
  refine w_il (j := 17) rfl rfl rfl ?_
  refine w_ic (n := 0) (j := 18) rfl rfl ?_
  refine w_ic (n := 4) (j := 19) rfl rfl ?_
  refine w_csI (j := 20) rfl rfl rfl rfl rfl (sp_155) rfl ?_
  rw [decide_eq_false hw]
  refine w_neB (j := 21) rfl rfl (fun c => absurd c (by simp)) (fun _ => ?_)
  refine w_ic (n := 1) (j := 22) rfl rfl ?_
  refine w_go rfl ?_
  refine w_ic (n := 2) (j := 25) rfl rfl ?_
  refine w_ic (n := 1) (j := 26) rfl rfl ?_
  refine w_cvI (j := 27) rfl rfl rfl rfl (by first | assumption | rfl) rfl rfl (sp_154t (p := 1) (w := 2) rfl (by decide) (by decide) (by decide)) rfl ?_
  refine w_eqB (j := 28) rfl rfl (fun c => absurd c (by simp)) (fun _ => ?_)
  refine w_ic (n := 0) (j := 29) rfl rfl ?_
  refine w_ir rfl ?_
  exact ⟨_, _, rfl, rfl, px_kpX (by decide)⟩
-- cry
def pf_lsN (h : ix_H) (cs : List (Nat × Nat)) (N c : Nat) : Int32 := pf_ls cs N (h 4) (h 6) (h 65) (h 66) (h 67) (pf_bt (h 64 4)) (h 64 6) c
def pf_cry (h : ix_H) (cs : List (Nat × Nat)) (N c m : Nat) : Int32 := if m = 0 then h 6 c else if m = 1 then h 65 c else if m = 2 then h 66 c else if m = 3 then h 67 c else if m = 4 then pf_lsN h cs N c else h 7 c
theorem pf_cry_kp {h h' : ix_H} {N c m : Nat} (k : px_kp h h') : pf_cry h' cs N c m = pf_cry h cs N c m := by
  unfold pf_cry pf_lsN
  rw [k.1 4 (by decide), k.1 6 (by decide), k.1 65 (by decide), k.1 66 (by decide), k.1 67 (by decide), k.1 64 (by decide), k.1 7 (by decide)]
theorem C_cry {a w : Int32} (hI : px_I h B N T cs L W I t) : px_CO 5 115 [.ref 0, .int a, .int w] h (fun v h1 => ∃ b m, b < N ∧ m ≤ 5 ∧ a = nI b ∧ w = nI m ∧ v = pf_cry h cs N b m ∧ px_kp h h1) (fun x h1 => (x = 1 ∧ ¬ (0 ≤ a ∧ a < nI N) ∧ h1 = px_hX 1 h) ∨ (x = 0 ∧ (0 ≤ a ∧ a < nI N) ∧ ¬ (nI 0 ≤ w ∧ w ≤ nI 5) ∧ h1 = px_hX 0 h)) := by
  obtain ⟨⟨l1, l2, l3, l4, l5, l6, l7, l8, l9⟩, lw, -, nw, -⟩ := hI
  refine px_M (M := mt_115) (ops := mo_115) tb_115 rfl rfl rfl rfl rfl ?_
  refine w_al (j := 1) rfl rfl rfl ?_
  refine w_il (j := 2) rfl rfl rfl ?_
  refine w_chk (j := 3) rfl rfl rfl rfl (by first | assumption | rfl) rfl rfl (sp_150) rfl (fun c => ?_) (fun c => ?_)
  · rw [l4] at c
    exact Or.inr ⟨_, _, rfl, Or.inl ⟨rfl, c, rfl⟩⟩
  ·
    rw [l4] at c
    obtain ⟨b, hb, rfl⟩ := px_bnd (by omega) c
    refine w_al (j := 4) rfl rfl rfl ?_
    refine w_il (j := 5) rfl rfl rfl ?_
    refine w_ltZ (j := 6) rfl rfl (fun c1 => ?_) (fun c1 => ?_)
    ·
      refine w_ic (n := 0) (j := 12) rfl rfl ?_
      refine w_chk (j := 13) rfl rfl rfl rfl (by first | assumption | rfl) rfl rfl (sp_146 (b := false)) rfl (fun c => ?_) (fun c => ?_)
      · exact Or.inr ⟨_, _, rfl, Or.inr ⟨rfl, by assumption, fun q => px_not_lt.mpr q.1 c1, rfl⟩⟩
      · cases c
    ·
      refine w_il (j := 7) rfl rfl rfl ?_
      refine w_ic (n := 5) (j := 8) rfl rfl ?_
      refine w_gt (j := 9) rfl rfl (fun c2 => ?_) (fun c2 => ?_)
      ·
        refine w_ic (n := 0) (j := 12) rfl rfl ?_
        refine w_chk (j := 13) rfl rfl rfl rfl (by first | assumption | rfl) rfl rfl (sp_146 (b := false)) rfl (fun c => ?_) (fun c => ?_)
        · exact Or.inr ⟨_, _, rfl, Or.inr ⟨rfl, by assumption, fun q => px_not_le.mpr c2 q.2, rfl⟩⟩
        · cases c
      ·
        refine w_ic (n := 1) (j := 10) rfl rfl ?_
        refine w_go rfl ?_
        refine w_chk (j := 13) rfl rfl rfl rfl (by first | assumption | rfl) rfl rfl (sp_146 (b := true)) rfl (fun c => ?_) (fun c => ?_)
        · exact absurd rfl c
        ·
          obtain ⟨m, hm, rfl⟩ := px_bnd2 (by decide) ⟨c1, c2⟩
          obtain rfl | rfl | rfl | rfl | rfl | rfl : m = 0 ∨ m = 1 ∨ m = 2 ∨ m = 3 ∨ m = 4 ∨ m = 5 := by omega
          ·
            refine w_il (j := 14) rfl rfl rfl ?_
            refine w_swN (t := 15) rfl (by decide) (by omega) rfl ?_
            refine w_al (j := 16) rfl rfl rfl ?_
            first | refine w_gr (j := 17) rfl rfl (by first | assumption | rfl) (by first | assumption | rfl) rfl ?_ | refine w_gi (j := 17) rfl rfl (by first | assumption | rfl) (by first | assumption | rfl) rfl rfl ?_
            first | refine w_gr (j := 18) rfl rfl (by first | assumption | rfl) (by first | assumption | rfl) rfl ?_ | refine w_gi (j := 18) rfl rfl (by first | assumption | rfl) (by first | assumption | rfl) rfl rfl ?_
            refine w_il (j := 19) rfl rfl rfl ?_
            refine w_ial (j := 20) rfl rfl (by first | assumption | rfl) rfl (by omega) rfl rfl ?_
            refine w_ir rfl ?_
            exact Or.inl ⟨_, _, rfl, _, _, hb, hm, rfl, rfl, rfl, px_kp.rf⟩
          ·
            refine w_il (j := 14) rfl rfl rfl ?_
            refine w_swN (t := 21) rfl (by decide) (by omega) rfl ?_
            refine w_al (j := 22) rfl rfl rfl ?_
            first | refine w_gr (j := 23) rfl rfl (by first | assumption | rfl) (by first | assumption | rfl) rfl ?_ | refine w_gi (j := 23) rfl rfl (by first | assumption | rfl) (by first | assumption | rfl) rfl rfl ?_
            first | refine w_gr (j := 24) rfl rfl (by first | assumption | rfl) (by first | assumption | rfl) rfl ?_ | refine w_gi (j := 24) rfl rfl (by first | assumption | rfl) (by first | assumption | rfl) rfl rfl ?_
            refine w_il (j := 25) rfl rfl rfl ?_
            refine w_ial (j := 26) rfl rfl (by first | assumption | rfl) rfl (by omega) rfl rfl ?_
            refine w_ir rfl ?_
            exact Or.inl ⟨_, _, rfl, _, _, hb, hm, rfl, rfl, rfl, px_kp.rf⟩
          ·
            refine w_il (j := 14) rfl rfl rfl ?_
            refine w_swN (t := 27) rfl (by decide) (by omega) rfl ?_
            refine w_al (j := 28) rfl rfl rfl ?_
            first | refine w_gr (j := 29) rfl rfl (by first | assumption | rfl) (by first | assumption | rfl) rfl ?_ | refine w_gi (j := 29) rfl rfl (by first | assumption | rfl) (by first | assumption | rfl) rfl rfl ?_
            first | refine w_gr (j := 30) rfl rfl (by first | assumption | rfl) (by first | assumption | rfl) rfl ?_ | refine w_gi (j := 30) rfl rfl (by first | assumption | rfl) (by first | assumption | rfl) rfl rfl ?_
            refine w_il (j := 31) rfl rfl rfl ?_
            refine w_ial (j := 32) rfl rfl (by first | assumption | rfl) rfl (by omega) rfl rfl ?_
            refine w_ir rfl ?_
            exact Or.inl ⟨_, _, rfl, _, _, hb, hm, rfl, rfl, rfl, px_kp.rf⟩
          ·
            refine w_il (j := 14) rfl rfl rfl ?_
            refine w_swN (t := 33) rfl (by decide) (by omega) rfl ?_
            refine w_al (j := 34) rfl rfl rfl ?_
            first | refine w_gr (j := 35) rfl rfl (by first | assumption | rfl) (by first | assumption | rfl) rfl ?_ | refine w_gi (j := 35) rfl rfl (by first | assumption | rfl) (by first | assumption | rfl) rfl rfl ?_
            first | refine w_gr (j := 36) rfl rfl (by first | assumption | rfl) (by first | assumption | rfl) rfl ?_ | refine w_gi (j := 36) rfl rfl (by first | assumption | rfl) (by first | assumption | rfl) rfl rfl ?_
            refine w_il (j := 37) rfl rfl rfl ?_
            refine w_ial (j := 38) rfl rfl (by first | assumption | rfl) rfl (by omega) rfl rfl ?_
            refine w_ir rfl ?_
            exact Or.inl ⟨_, _, rfl, _, _, hb, hm, rfl, rfl, rfl, px_kp.rf⟩
          ·
            refine w_il (j := 14) rfl rfl rfl ?_
            refine w_swN (t := 39) rfl (by decide) (by omega) rfl ?_
            refine w_al (j := 40) rfl rfl rfl ?_
            first | refine w_gr (j := 41) rfl rfl (by first | assumption | rfl) (by first | assumption | rfl) rfl ?_ | refine w_gi (j := 41) rfl rfl (by first | assumption | rfl) (by first | assumption | rfl) rfl rfl ?_
            refine w_al (j := 42) rfl rfl rfl ?_
            first | refine w_gr (j := 43) rfl rfl (by first | assumption | rfl) (by first | assumption | rfl) rfl ?_ | refine w_gi (j := 43) rfl rfl (by first | assumption | rfl) (by first | assumption | rfl) rfl rfl ?_
            refine w_il (j := 44) rfl rfl rfl ?_
            refine w_cvPI (j := 45) rfl rfl rfl rfl (by first | assumption | rfl) rfl rfl (sp_71 px_St64 (by omega) l4 l6 l1 l3 (fun c hc => (nw.2.2.1 c hc).2) lw.1 lw.2.2) rfl ?_
            rintro v h1 ⟨e1, f1⟩
            refine w_ir rfl ?_
            exact Or.inl ⟨_, _, rfl, _, _, hb, hm, rfl, rfl, e1, px_kp.of f1 (by decide)⟩
          ·
            refine w_il (j := 14) rfl rfl rfl ?_
            refine w_swN (t := 46) rfl (by decide) (by omega) rfl ?_
            refine w_al (j := 47) rfl rfl rfl ?_
            first | refine w_gr (j := 48) rfl rfl (by first | assumption | rfl) (by first | assumption | rfl) rfl ?_ | refine w_gi (j := 48) rfl rfl (by first | assumption | rfl) (by first | assumption | rfl) rfl rfl ?_
            first | refine w_gr (j := 49) rfl rfl (by first | assumption | rfl) (by first | assumption | rfl) rfl ?_ | refine w_gi (j := 49) rfl rfl (by first | assumption | rfl) (by first | assumption | rfl) rfl rfl ?_
            refine w_il (j := 50) rfl rfl rfl ?_
            refine w_ial (j := 51) rfl rfl (by first | assumption | rfl) rfl (by omega) rfl rfl ?_
            refine w_ir rfl ?_
            exact Or.inl ⟨_, _, rfl, _, _, hb, hm, rfl, rfl, rfl, px_kp.rf⟩
theorem pf_lsM {c : Nat} (hl : px_land h B N T) (nw : px_now h 64 577 B 300) (hc : c < N) : pf_ls cs N (pf_rr h 113 0 6) (pf_rr h 129 0 8) (pf_sh (h 577) 8) (pf_sh (h 577) 16) (h 577) (pf_sh (h 577) 24) (h 577 31) c = pf_lsN h cs N c := by
  obtain ⟨l1, l2, l3, l4, l5, l6, l7, l8, l9, l10, l11, l12, l13, l14, l15⟩ := hl
  obtain ⟨n1, n2, n3, n4, n5, n6, n7, n8⟩ := nw
  refine (pf_ls_congr (B := B) (fun j hj => (n3 j (by omega)).1) (n3 c (by omega)).1 (n3 c (by omega)).2 l3 (n1 c (by omega)).1 (n2 c (by omega)) ?_ (fun b hb => ⟨?_, ?_⟩) n7).symm
  · rw [pf_rr_lt (by omega)]; exact (l13 c hc).1
  · rw [pf_rr_lt (by omega)]; exact (l12 b hb).1
  · exact n5 b (by omega)
theorem M_cry {b m : Nat} (hI : px_I h B N T cs L W I t) (hb : b < N) (hm : m ≤ 5) : px_PI 7 217 [.ref 100, .int (nI b), .int (nI m)] h (fun w h2 => w = pf_cry h cs N b m ∧ h2 100 0 = nI 0 ∧ px_kp h h2) := by
  have hB6 := hI.1.2.2.2.2.2.1
  refine px_M (M := mt_217) (ops := mo_217) tb_217 rfl rfl rfl rfl rfl ?_
  refine w_al (j := 1) rfl rfl rfl ?_
  refine w_ic (n := 0) (j := 2) rfl rfl ?_
  refine w_pf (j := 3) rfl rfl (by first | assumption | rfl) (by first | assumption | rfl) rfl ?_
  obtain ⟨I1, k1, t0⟩ := px_thr (v := nI 0) hI
  generalize ix_up h 100 0 (nI 0) = h1 at I1 k1 t0 ⊢
  rw [← pf_cry_kp k1]
  obtain ⟨ld, lw, ln, nw, hi, -⟩ := I1
  have ld' := ld
  obtain ⟨l1, l2, l3, l4, l5, l6, l7, l8, l9, l10, l11, l12, l13, l14, l15⟩ := ld
  have s129 := sh_129 b (by omega)
  refine w_al (j := 4) rfl rfl rfl ?_
  refine w_al (j := 5) rfl rfl rfl ?_
  refine w_il (j := 6) rfl rfl rfl ?_
  refine w_cvI (j := 7) rfl rfl rfl rfl (by first | assumption | rfl) rfl rfl (sp_213 l5 l6) rfl ?_
  rw [decide_eq_true (show 0 ≤ nI b ∧ nI b < nI N from ⟨px_nle0 (by omega), nI_lt hb (by omega)⟩)]
  refine w_neB (j := 8) rfl rfl (fun _ => ?_) (fun c => absurd c (by simp))
  refine w_ic (n := 0) (j := 11) rfl rfl ?_
  refine w_ic (n := 1) (j := 12) rfl rfl ?_
  refine w_ic (n := 0) (j := 13) rfl rfl ?_
  refine w_cvI (j := 14) rfl rfl rfl rfl (by first | assumption | rfl) rfl rfl (sp_154f t0) rfl ?_
  refine w_neB (j := 15) rfl rfl (fun c => absurd c (by simp)) (fun _ => ?_)
  refine w_al (j := 16) rfl rfl rfl ?_
  refine w_il (j := 17) rfl rfl rfl ?_
  refine w_ic (n := 0) (j := 18) rfl rfl ?_
  refine w_ic (n := 5) (j := 19) rfl rfl ?_
  refine w_csI (j := 20) rfl rfl rfl rfl rfl (sp_155) rfl ?_
  rw [px_ofN hm (by decide)]
  refine w_neB (j := 21) rfl rfl (fun _ => ?_) (fun c => absurd c (by simp))
  refine w_ic (n := 0) (j := 24) rfl rfl ?_
  refine w_ic (n := 2) (j := 25) rfl rfl ?_
  refine w_ic (n := 1) (j := 26) rfl rfl ?_
  refine w_cvI (j := 27) rfl rfl rfl rfl (by first | assumption | rfl) rfl rfl (sp_154f t0) rfl ?_
  refine w_eqB (j := 28) rfl rfl (fun _ => ?_) (fun c => absurd c (by simp))
  refine w_il (j := 31) rfl rfl rfl ?_
  obtain rfl | rfl | rfl | rfl | rfl | rfl : m = 0 ∨ m = 1 ∨ m = 2 ∨ m = 3 ∨ m = 4 ∨ m = 5 := by omega
  ·
    refine w_swN (t := 32) rfl (by decide) (by omega) rfl ?_
    refine w_al (j := 33) rfl rfl rfl ?_
    first | refine w_gr (j := 34) rfl rfl (by first | assumption | rfl) (by first | assumption | rfl) rfl ?_ | refine w_gi (j := 34) rfl rfl (by first | assumption | rfl) (by first | assumption | rfl) rfl rfl ?_
    refine w_il (j := 35) rfl rfl rfl ?_
    refine w_aal (j := 36) rfl rfl (by first | assumption | rfl) rfl (by omega) rfl ?_
    refine w_ic (n := 0) (j := 37) rfl rfl ?_
    refine w_ial (j := 38) rfl rfl (by first | assumption | rfl) rfl (by omega) rfl rfl ?_
    refine w_ir rfl ?_
    exact ⟨_, _, rfl, (l13 b hb).1.symm, t0, k1⟩
  ·
    refine w_swN (t := 39) rfl (by decide) (by omega) rfl ?_
    refine w_al (j := 40) rfl rfl rfl ?_
    first | refine w_gr (j := 41) rfl rfl (by first | assumption | rfl) (by first | assumption | rfl) rfl ?_ | refine w_gi (j := 41) rfl rfl (by first | assumption | rfl) (by first | assumption | rfl) rfl rfl ?_
    refine w_bi (j := 42) (a := nI 8) rfl rfl (by decide) ?_
    refine w_il (j := 43) rfl rfl rfl ?_
    first | refine w_add0 (j := 44) rfl rfl ?_ | refine w_addN (j := 44) rfl rfl ?_ | refine w_add (j := 44) rfl rfl ?_
    refine w_ial (j := 45) rfl rfl (by first | assumption | rfl) rfl (by omega) rfl rfl ?_
    refine w_ir rfl ?_
    exact ⟨_, _, rfl, (nw.1 b (by omega)).1.symm, t0, k1⟩
  ·
    refine w_swN (t := 46) rfl (by decide) (by omega) rfl ?_
    refine w_al (j := 47) rfl rfl rfl ?_
    first | refine w_gr (j := 48) rfl rfl (by first | assumption | rfl) (by first | assumption | rfl) rfl ?_ | refine w_gi (j := 48) rfl rfl (by first | assumption | rfl) (by first | assumption | rfl) rfl rfl ?_
    refine w_bi (j := 49) (a := nI 16) rfl rfl (by decide) ?_
    refine w_il (j := 50) rfl rfl rfl ?_
    first | refine w_add0 (j := 51) rfl rfl ?_ | refine w_addN (j := 51) rfl rfl ?_ | refine w_add (j := 51) rfl rfl ?_
    refine w_ial (j := 52) rfl rfl (by first | assumption | rfl) rfl (by omega) rfl rfl ?_
    refine w_ir rfl ?_
    exact ⟨_, _, rfl, (nw.2.1 b (by omega)).symm, t0, k1⟩
  ·
    refine w_swN (t := 53) rfl (by decide) (by omega) rfl ?_
    refine w_al (j := 54) rfl rfl rfl ?_
    first | refine w_gr (j := 55) rfl rfl (by first | assumption | rfl) (by first | assumption | rfl) rfl ?_ | refine w_gi (j := 55) rfl rfl (by first | assumption | rfl) (by first | assumption | rfl) rfl rfl ?_
    refine w_ic (n := 0) (j := 56) rfl rfl ?_
    refine w_il (j := 57) rfl rfl rfl ?_
    first | refine w_add0 (j := 58) rfl rfl ?_ | refine w_addN (j := 58) rfl rfl ?_ | refine w_add (j := 58) rfl rfl ?_
    refine w_ial (j := 59) rfl rfl (by first | assumption | rfl) rfl (by omega) rfl rfl ?_
    refine w_ir rfl ?_
    exact ⟨_, _, rfl, (nw.2.2.1 b (by omega)).1.symm, t0, k1⟩
  ·
    refine w_swN (t := 60) rfl (by decide) (by omega) rfl ?_
    refine w_al (j := 61) rfl rfl rfl ?_
    refine w_al (j := 62) rfl rfl rfl ?_
    first | refine w_gr (j := 63) rfl rfl (by first | assumption | rfl) (by first | assumption | rfl) rfl ?_ | refine w_gi (j := 63) rfl rfl (by first | assumption | rfl) (by first | assumption | rfl) rfl rfl ?_
    refine w_il (j := 64) rfl rfl rfl ?_
    refine w_cvPI (j := 65) rfl rfl rfl rfl (by first | assumption | rfl) rfl rfl (sp_200 (B := B) px_Rw577 (by omega) l5 l6 l3 (fun c hc => by rw [← (nw.2.2.1 c hc).1]; exact (nw.2.2.1 c hc).2) lw.2.1 lw.2.2) rfl ?_
    rintro v h2 ⟨e1, f1⟩
    refine w_ir rfl ?_
    exact ⟨_, _, rfl, by rw [e1, pf_lsM ld' nw hb]; rfl, by rw [f1 100 (by decide)]; exact t0, k1.fr f1 (by decide)⟩
  ·
    refine w_swN (t := 66) rfl (by decide) (by omega) rfl ?_
    refine w_al (j := 67) rfl rfl rfl ?_
    first | refine w_gr (j := 68) rfl rfl (by first | assumption | rfl) (by first | assumption | rfl) rfl ?_ | refine w_gi (j := 68) rfl rfl (by first | assumption | rfl) (by first | assumption | rfl) rfl rfl ?_
    refine w_il (j := 69) rfl rfl rfl ?_
    refine w_aal (j := 70) rfl rfl (by first | assumption | rfl) rfl (by omega) rfl ?_
    refine w_ic (n := 1) (j := 71) rfl rfl ?_
    refine w_ial (j := 72) rfl rfl (by first | assumption | rfl) rfl (by omega) rfl rfl ?_
    refine w_ir rfl ?_
    exact ⟨_, _, rfl, (l13 b hb).2.2.1.symm, t0, k1⟩
theorem MXE_cry {a w : Int32} (l2 : h 104 1 = nI N) (l3 : N ≤ 8) (hw : ¬ (0 ≤ a ∧ a < nI N)) : px_PI 3 217 [.ref 100, .int a, .int w] h (fun v h2 => h2 100 0 = nI 1 ∧ px_kp (ix_up h 102 0 (h 102 0 + nI 1)) h2) := by
  refine px_M (M := mt_217) (ops := mo_217) tb_217 rfl rfl rfl rfl rfl ?_
  refine w_al (j := 1) rfl rfl rfl ?_
  refine w_ic (n := 0) (j := 2) rfl rfl ?_
  refine w_pf (j := 3) rfl rfl (by first | assumption | rfl) (by first | assumption | rfl) rfl ?_
  refine w_al (j := 4) rfl rfl rfl ?_
  refine w_al (j := 5) rfl rfl rfl ?_
  refine w_il (j := 6) rfl rfl rfl ?_
  refine w_cvI (j := 7) rfl rfl rfl rfl (by first | assumption | rfl) rfl rfl (sp_213 (N := N) l2 l3) rfl ?_
  rw [decide_eq_false hw]
  refine w_neB (j := 8) rfl rfl (fun c => absurd c (by simp)) (fun _ => ?_)
  refine w_ic (n := 1) (j := 9) rfl rfl ?_
  refine w_go rfl ?_
  refine w_ic (n := 1) (j := 12) rfl rfl ?_
  refine w_ic (n := 0) (j := 13) rfl rfl ?_
  refine w_cvI (j := 14) rfl rfl rfl rfl (by first | assumption | rfl) rfl rfl (sp_154t (p := 0) (w := 1) rfl (by decide) (by decide) (by decide)) rfl ?_
  refine w_neB (j := 15) rfl rfl (fun _ => ?_) (fun c => absurd c (by simp))
  refine w_ic (n := 0) (j := 29) rfl rfl ?_
  refine w_ir rfl ?_
  exact ⟨_, _, rfl, rfl, px_kpX (by decide)⟩
theorem MXA_cry {a w : Int32} (l2 : h 104 1 = nI N) (l3 : N ≤ 8) (ha : 0 ≤ a ∧ a < nI N) (hw : ¬ (nI 0 ≤ w ∧ w ≤ nI 5)) : px_PI 3 217 [.ref 100, .int a, .int w] h (fun v h2 => h2 100 0 = nI 2 ∧ px_kp (ix_up h 102 1 (h 102 1 + nI 1)) h2) := by
  refine px_M (M := mt_217) (ops := mo_217) tb_217 rfl rfl rfl rfl rfl ?_
  refine w_al (j := 1) rfl rfl rfl ?_
  refine w_ic (n := 0) (j := 2) rfl rfl ?_
  refine w_pf (j := 3) rfl rfl (by first | assumption | rfl) (by first | assumption | rfl) rfl ?_
  refine w_al (j := 4) rfl rfl rfl ?_
  refine w_al (j := 5) rfl rfl rfl ?_
  refine w_il (j := 6) rfl rfl rfl ?_
  refine w_cvI (j := 7) rfl rfl rfl rfl (by first | assumption | rfl) rfl rfl (sp_213 (N := N) l2 l3) rfl ?_
  rw [decide_eq_true ha]
  refine w_neB (j := 8) rfl rfl (fun _ => ?_) (fun c => absurd c (by simp))
  refine w_ic (n := 0) (j := 11) rfl rfl ?_
  refine w_ic (n := 1) (j := 12) rfl rfl ?_
  refine w_ic (n := 0) (j := 13) rfl rfl ?_
  refine w_cvI (j := 14) rfl rfl rfl rfl (by first | assumption | rfl) rfl rfl (sp_154f rfl) rfl ?_
  refine w_neB (j := 15) rfl rfl (fun c => absurd c (by simp)) (fun _ => ?_)
  refine w_al (j := 16) rfl rfl rfl ?_
  refine w_il (j := 17) rfl rfl rfl ?_
  refine w_ic (n := 0) (j := 18) rfl rfl ?_
  refine w_ic (n := 5) (j := 19) rfl rfl ?_
  refine w_csI (j := 20) rfl rfl rfl rfl rfl (sp_155) rfl ?_
  rw [decide_eq_false hw]
  refine w_neB (j := 21) rfl rfl (fun c => absurd c (by simp)) (fun _ => ?_)
  refine w_ic (n := 1) (j := 22) rfl rfl ?_
  refine w_go rfl ?_
  refine w_ic (n := 2) (j := 25) rfl rfl ?_
  refine w_ic (n := 1) (j := 26) rfl rfl ?_
  refine w_cvI (j := 27) rfl rfl rfl rfl (by first | assumption | rfl) rfl rfl (sp_154t (p := 1) (w := 2) rfl (by decide) (by decide) (by decide)) rfl ?_
  refine w_eqB (j := 28) rfl rfl (fun c => absurd c (by simp)) (fun _ => ?_)
  refine w_ic (n := 0) (j := 29) rfl rfl ?_
  refine w_ir rfl ?_
  exact ⟨_, _, rfl, rfl, px_kpX (by decide)⟩
end OPS
