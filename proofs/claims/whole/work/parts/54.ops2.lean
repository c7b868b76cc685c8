theorem px_ofN {m q : Nat} (hm : m ≤ q) (hq : q < 2147483648) : decide (nI 0 ≤ nI m ∧ nI m ≤ nI q) = true := decide_eq_true (px_okN hm hq)
theorem sp_209 {h : ix_H} {r N : Nat} (hr : px_Rw r) (hN : h 104 1 = nI N) (hb : N ≤ 8) : px_V 1 209 [.ref 100, .ref r] h (some (.int (pf_sum (pf_sh (h r) 8) N))) h := by
  obtain ⟨r1, r2, r3⟩ := hr
  refine px_M (M := mt_209) (ops := mo_209) tb_209 rfl rfl rfl rfl rfl ?_
  refine w_ic (n := 0) (j := 1) rfl rfl ?_
  refine w_is (j := 2) rfl rfl rfl ?_
  refine w_ic (n := 0) (j := 3) rfl rfl ?_
  refine w_is (j := 4) rfl rfl rfl ?_
  refine px_for (fun c s => [.ref 100, .ref r, .int s, .int (nI c)]) (fun _ => h) (fun c v => v + pf_sh (h r) 8 c) N (nI 0) (fun _ _ => True) trivial (fun _ _ _ _ => trivial) ?_ ?_
  · intro c s hc _ H
    refine w_il (j := 5) rfl rfl rfl ?_
    refine w_al (j := 6) rfl rfl rfl ?_
    first | refine w_gr (j := 7) rfl rfl (by first | assumption | rfl) (by first | assumption | rfl) rfl ?_ | refine w_gi (j := 7) rfl rfl (by first | assumption | rfl) (by first | assumption | rfl) rfl rfl ?_
    refine w_ic (n := 1) (j := 8) rfl rfl ?_
    refine w_ial (j := 9) rfl rfl (by first | assumption | rfl) rfl (by omega) rfl hN ?_
    refine w_geN (j := 10) rfl rfl (by omega) (by omega) (fun c => absurd c (fun c => by omega)) (fun _ => ?_)
    refine w_il (j := 11) rfl rfl rfl ?_
    refine w_al (j := 12) rfl rfl rfl ?_
    refine w_bi (j := 13) (a := nI 8) rfl rfl (by decide) ?_
    refine w_il (j := 14) rfl rfl rfl ?_
    first | refine w_add0 (j := 15) rfl rfl ?_ | refine w_addN (j := 15) rfl rfl ?_ | refine w_add (j := 15) rfl rfl ?_
    refine w_ial (j := 16) rfl rfl (by first | assumption | rfl) rfl (by omega) rfl rfl ?_
    first | refine w_add0 (j := 17) rfl rfl ?_ | refine w_addN (j := 17) rfl rfl ?_ | refine w_add (j := 17) rfl rfl ?_
    refine w_is (j := 18) rfl rfl rfl ?_
    first | refine w_incN (j := 19) rfl rfl rfl ?_ | refine w_inc (j := 19) rfl rfl rfl rfl ?_
    refine w_go rfl ?_
    exact H
  · intro _
    refine w_il (j := 5) rfl rfl rfl ?_
    refine w_al (j := 6) rfl rfl rfl ?_
    first | refine w_gr (j := 7) rfl rfl (by first | assumption | rfl) (by first | assumption | rfl) rfl ?_ | refine w_gi (j := 7) rfl rfl (by first | assumption | rfl) (by first | assumption | rfl) rfl rfl ?_
    refine w_ic (n := 1) (j := 8) rfl rfl ?_
    refine w_ial (j := 9) rfl rfl (by first | assumption | rfl) rfl (by omega) rfl hN ?_
    refine w_geN (j := 10) rfl rfl (by omega) (by omega) (fun _ => ?_) (fun c => absurd c (fun c => by omega))
    refine w_il (j := 21) rfl rfl rfl ?_
    refine w_ir rfl ?_
    rfl
def pf_fm (P : Nat → Prop) [∀ c, Decidable (P c)] (c : Nat) (w : Int32) : Int32 := w ||| (if P c then pf_bit c else nI 0)
theorem pf_fm_eq (P : Nat → Prop) [∀ c, Decidable (P c)] : pf_fm P = pf_fb P := by
  funext c w
  unfold pf_fm pf_fb
  split
  · rfl
  · exact px_or0 w
theorem sp_210 {h : ix_H} {r N : Nat} (hr : px_Rw r) (hN : h 104 1 = nI N) (hb : N ≤ 8) : px_V 1 210 [.ref 100, .ref r] h (some (.int (px_fold (pf_fb (fun c => h r (8 + c) = 0)) N (nI 0)))) h := by
  obtain ⟨r1, r2, r3⟩ := hr
  rw [← pf_fm_eq]
  refine px_M (M := mt_210) (ops := mo_210) tb_210 rfl rfl rfl rfl rfl ?_
  refine w_ic (n := 0) (j := 1) rfl rfl ?_
  refine w_is (j := 2) rfl rfl rfl ?_
  refine w_ic (n := 0) (j := 3) rfl rfl ?_
  refine w_is (j := 4) rfl rfl rfl ?_
  refine px_for (fun c s => [.ref 100, .ref r, .int s, .int (nI c)]) (fun _ => h) (pf_fm (fun c => h r (8 + c) = 0)) N (nI 0) (fun _ _ => True) trivial (fun _ _ _ _ => trivial) ?_ ?_
  · intro c s hc _ H
    refine w_il (j := 5) rfl rfl rfl ?_
    refine w_al (j := 6) rfl rfl rfl ?_
    first | refine w_gr (j := 7) rfl rfl (by first | assumption | rfl) (by first | assumption | rfl) rfl ?_ | refine w_gi (j := 7) rfl rfl (by first | assumption | rfl) (by first | assumption | rfl) rfl rfl ?_
    refine w_ic (n := 1) (j := 8) rfl rfl ?_
    refine w_ial (j := 9) rfl rfl (by first | assumption | rfl) rfl (by omega) rfl hN ?_
    refine w_geN (j := 10) rfl rfl (by omega) (by omega) (fun c => absurd c (fun c => by omega)) (fun _ => ?_)
    refine w_il (j := 11) rfl rfl rfl ?_
    refine w_al (j := 12) rfl rfl rfl ?_
    refine w_bi (j := 13) (a := nI 8) rfl rfl (by decide) ?_
    refine w_il (j := 14) rfl rfl rfl ?_
    first | refine w_add0 (j := 15) rfl rfl ?_ | refine w_addN (j := 15) rfl rfl ?_ | refine w_add (j := 15) rfl rfl ?_
    refine w_ial (j := 16) rfl rfl (by first | assumption | rfl) rfl (by omega) rfl rfl ?_
    refine w_neZ (j := 17) rfl rfl (fun c1 => ?_) (fun c1 => ?_)
    ·
      refine w_ic (n := 0) (j := 22) rfl rfl ?_
      refine w_or (j := 23) rfl rfl ?_
      refine w_is (j := 24) rfl rfl rfl ?_
      first | refine w_incN (j := 25) rfl rfl rfl ?_ | refine w_inc (j := 25) rfl rfl rfl rfl ?_
      refine w_go rfl ?_
      rw [pf_fm, if_neg c1] at H
      exact H
    ·
      refine w_ic (n := 1) (j := 18) rfl rfl ?_
      refine w_il (j := 19) rfl rfl rfl ?_
      refine w_shl (j := 20) rfl rfl ?_
      refine w_go rfl ?_
      refine w_or (j := 23) rfl rfl ?_
      refine w_is (j := 24) rfl rfl rfl ?_
      first | refine w_incN (j := 25) rfl rfl rfl ?_ | refine w_inc (j := 25) rfl rfl rfl rfl ?_
      refine w_go rfl ?_
      rw [pf_fm, if_pos c1] at H
      exact H
  · intro _
    refine w_il (j := 5) rfl rfl rfl ?_
    refine w_al (j := 6) rfl rfl rfl ?_
    first | refine w_gr (j := 7) rfl rfl (by first | assumption | rfl) (by first | assumption | rfl) rfl ?_ | refine w_gi (j := 7) rfl rfl (by first | assumption | rfl) (by first | assumption | rfl) rfl rfl ?_
    refine w_ic (n := 1) (j := 8) rfl rfl ?_
    refine w_ial (j := 9) rfl rfl (by first | assumption | rfl) rfl (by omega) rfl hN ?_
    refine w_geN (j := 10) rfl rfl (by omega) (by omega) (fun _ => ?_) (fun c => absurd c (fun c => by omega))
    refine w_il (j := 27) rfl rfl rfl ?_
    refine w_ir rfl ?_
    rfl
theorem pf_fb_congr {P Q : Nat → Prop} [∀ c, Decidable (P c)] [∀ c, Decidable (Q c)] {N : Nat} {w : Int32} (h : ∀ c, c < N → (P c ↔ Q c)) : px_fold (pf_fb P) N w = px_fold (pf_fb Q) N w := by
  refine px_fold_congr N w (fun c s hc => ?_)
  unfold pf_fb
  by_cases hp : P c
  · rw [if_pos hp, if_pos ((h c hc).mp hp)]
  · rw [if_neg hp, if_neg (fun q => hp ((h c hc).mpr q))]
theorem pf_sum_congr {s s' : Nat → Int32} {N : Nat} (h : ∀ c, c < N → s c = s' c) : pf_sum s N = pf_sum s' N := px_fold_congr N _ (fun c v hc => by rw [h c hc])
section OPS
variable {h : ix_H} {B N T L W I t : Nat} {cs : List (Nat × Nat)}
theorem M_told {m : Nat} (hI : px_I h B N T cs L W I t) (hm : m ≤ 10) : px_PI 2 211 [.ref 100, .int (nI m)] h (fun w h2 => w = pf_told h N m ∧ h2 100 0 = nI 0 ∧ px_kp h h2) := by
  refine px_M (M := mt_211) (ops := mo_211) tb_211 rfl rfl rfl rfl rfl ?_
  refine w_al (j := 1) rfl rfl rfl ?_
  refine w_ic (n := 0) (j := 2) rfl rfl ?_
  refine w_pf (j := 3) rfl rfl (by first | assumption | rfl) (by first | assumption | rfl) rfl ?_
  obtain ⟨I1, k1, t0⟩ := px_thr (v := nI 0) hI
  generalize ix_up h 100 0 (nI 0) = h1 at I1 k1 t0 ⊢
  rw [← pf_told_kp k1]
  obtain ⟨⟨l1, l2, l3, l4, l5, l6, l7, l8, l9⟩, -, ln, nw, hi, -⟩ := I1
  refine w_al (j := 4) rfl rfl rfl ?_
  refine w_il (j := 5) rfl rfl rfl ?_
  refine w_ic (n := 0) (j := 6) rfl rfl ?_
  refine w_bi (j := 7) (a := nI 10) rfl rfl (by decide) ?_
  refine w_csI (j := 8) rfl rfl rfl rfl rfl (sp_155) rfl ?_
  rw [px_ofN hm (by decide)]
  refine w_neB (j := 9) rfl rfl (fun _ => ?_) (fun c => absurd c (by simp))
  refine w_ic (n := 0) (j := 12) rfl rfl ?_
  refine w_ic (n := 1) (j := 13) rfl rfl ?_
  refine w_ic (n := 1) (j := 14) rfl rfl ?_
  refine w_cvI (j := 15) rfl rfl rfl rfl (by first | assumption | rfl) rfl rfl (sp_154f t0) rfl ?_
  refine w_eqB (j := 16) rfl rfl (fun _ => ?_) (fun c => absurd c (by simp))
  refine w_ic (n := 0) (j := 19) rfl rfl ?_
  refine w_is (j := 20) rfl rfl rfl ?_
  refine w_ic (n := 0) (j := 21) rfl rfl ?_
  refine w_is (j := 22) rfl rfl rfl ?_
  refine w_ic (n := 0) (j := 23) rfl rfl ?_
  refine w_iS (j := 24) rfl rfl rfl ?_
  refine px_for (fun c s => [.ref 100, .int (nI m), .int s.1, .int s.2, .int (nI c)]) (fun _ => h1) (fun c s => (pf_fm (fun c => 0 ≤ h1 577 c) c s.1, pf_fm (fun c => h1 577 c = -2) c s.2)) N (nI 0, nI 0) (fun _ _ => True) trivial (fun _ _ _ _ => trivial) ?_ ?_
  · intro c s hc _ H
    refine w_iL (j := 25) rfl rfl rfl ?_
    refine w_al (j := 26) rfl rfl rfl ?_
    first | refine w_gr (j := 27) rfl rfl (by first | assumption | rfl) (by first | assumption | rfl) rfl ?_ | refine w_gi (j := 27) rfl rfl (by first | assumption | rfl) (by first | assumption | rfl) rfl rfl ?_
    refine w_ic (n := 1) (j := 28) rfl rfl ?_
    refine w_ial (j := 29) rfl rfl (by first | assumption | rfl) rfl (by omega) rfl l5 ?_
    refine w_geN (j := 30) rfl rfl (by omega) (by omega) (fun c => absurd c (fun c => by omega)) (fun _ => ?_)
    refine w_il (j := 31) rfl rfl rfl ?_
    refine w_al (j := 32) rfl rfl rfl ?_
    first | refine w_gr (j := 33) rfl rfl (by first | assumption | rfl) (by first | assumption | rfl) rfl ?_ | refine w_gi (j := 33) rfl rfl (by first | assumption | rfl) (by first | assumption | rfl) rfl rfl ?_
    refine w_ic (n := 0) (j := 34) rfl rfl ?_
    refine w_iL (j := 35) rfl rfl rfl ?_
    first | refine w_add0 (j := 36) rfl rfl ?_ | refine w_addN (j := 36) rfl rfl ?_ | refine w_add (j := 36) rfl rfl ?_
    refine w_ial (j := 37) rfl rfl (by first | assumption | rfl) rfl (by omega) rfl rfl ?_
    refine w_ltZ (j := 38) rfl rfl (fun c1 => ?_) (fun c1 => ?_)
    ·
      refine w_ic (n := 0) (j := 43) rfl rfl ?_
      refine w_or (j := 44) rfl rfl ?_
      refine w_is (j := 45) rfl rfl rfl ?_
      refine w_il (j := 46) rfl rfl rfl ?_
      refine w_al (j := 47) rfl rfl rfl ?_
      first | refine w_gr (j := 48) rfl rfl (by first | assumption | rfl) (by first | assumption | rfl) rfl ?_ | refine w_gi (j := 48) rfl rfl (by first | assumption | rfl) (by first | assumption | rfl) rfl rfl ?_
      refine w_ic (n := 0) (j := 49) rfl rfl ?_
      refine w_iL (j := 50) rfl rfl rfl ?_
      first | refine w_add0 (j := 51) rfl rfl ?_ | refine w_addN (j := 51) rfl rfl ?_ | refine w_add (j := 51) rfl rfl ?_
      refine w_ial (j := 52) rfl rfl (by first | assumption | rfl) rfl (by omega) rfl rfl ?_
      refine w_bi (j := 53) (a := (-2)) rfl rfl (by decide) ?_
      refine w_ne (j := 54) rfl rfl (fun c2 => ?_) (fun c2 => ?_)
      ·
        refine w_ic (n := 0) (j := 59) rfl rfl ?_
        refine w_or (j := 60) rfl rfl ?_
        refine w_is (j := 61) rfl rfl rfl ?_
        first | refine w_incN (j := 62) rfl rfl rfl ?_ | refine w_inc (j := 62) rfl rfl rfl rfl ?_
        refine w_go rfl ?_
        rw [pf_fm, pf_fm, if_neg (px_not_le.mpr c1), if_neg c2] at H
        exact H
      ·
        refine w_ic (n := 1) (j := 55) rfl rfl ?_
        refine w_iL (j := 56) rfl rfl rfl ?_
        refine w_shl (j := 57) rfl rfl ?_
        refine w_go rfl ?_
        refine w_or (j := 60) rfl rfl ?_
        refine w_is (j := 61) rfl rfl rfl ?_
        first | refine w_incN (j := 62) rfl rfl rfl ?_ | refine w_inc (j := 62) rfl rfl rfl rfl ?_
        refine w_go rfl ?_
        rw [pf_fm, pf_fm, if_neg (px_not_le.mpr c1), if_pos c2] at H
        exact H
    ·
      refine w_ic (n := 1) (j := 39) rfl rfl ?_
      refine w_iL (j := 40) rfl rfl rfl ?_
      refine w_shl (j := 41) rfl rfl ?_
      refine w_go rfl ?_
      refine w_or (j := 44) rfl rfl ?_
      refine w_is (j := 45) rfl rfl rfl ?_
      refine w_il (j := 46) rfl rfl rfl ?_
      refine w_al (j := 47) rfl rfl rfl ?_
      first | refine w_gr (j := 48) rfl rfl (by first | assumption | rfl) (by first | assumption | rfl) rfl ?_ | refine w_gi (j := 48) rfl rfl (by first | assumption | rfl) (by first | assumption | rfl) rfl rfl ?_
      refine w_ic (n := 0) (j := 49) rfl rfl ?_
      refine w_iL (j := 50) rfl rfl rfl ?_
      first | refine w_add0 (j := 51) rfl rfl ?_ | refine w_addN (j := 51) rfl rfl ?_ | refine w_add (j := 51) rfl rfl ?_
      refine w_ial (j := 52) rfl rfl (by first | assumption | rfl) rfl (by omega) rfl rfl ?_
      refine w_bi (j := 53) (a := (-2)) rfl rfl (by decide) ?_
      refine w_ne (j := 54) rfl rfl (fun c2 => ?_) (fun c2 => ?_)
      ·
        refine w_ic (n := 0) (j := 59) rfl rfl ?_
        refine w_or (j := 60) rfl rfl ?_
        refine w_is (j := 61) rfl rfl rfl ?_
        first | refine w_incN (j := 62) rfl rfl rfl ?_ | refine w_inc (j := 62) rfl rfl rfl rfl ?_
        refine w_go rfl ?_
        rw [pf_fm, pf_fm, if_pos c1, if_neg c2] at H
        exact H
      ·
        refine w_ic (n := 1) (j := 55) rfl rfl ?_
        refine w_iL (j := 56) rfl rfl rfl ?_
        refine w_shl (j := 57) rfl rfl ?_
        refine w_go rfl ?_
        refine w_or (j := 60) rfl rfl ?_
        refine w_is (j := 61) rfl rfl rfl ?_
        first | refine w_incN (j := 62) rfl rfl rfl ?_ | refine w_inc (j := 62) rfl rfl rfl rfl ?_
        refine w_go rfl ?_
        rw [pf_fm, pf_fm, if_pos c1, if_pos c2] at H
        exact H
  · intro _
    have ep : ∀ N s, px_fold (fun c (s : Int32 × Int32) => (pf_fm (fun c => 0 ≤ h1 577 c) c s.1, pf_fm (fun c => h1 577 c = -2) c s.2)) N s = (px_fold (pf_fm (fun c => 0 ≤ h1 577 c)) N s.1, px_fold (pf_fm (fun c => h1 577 c = -2)) N s.2) := by
      intro N s
      induction N with
      | zero => rfl
      | succ N ih => rw [px_fold, ih]; rfl
    rw [ep]
    have pl : ∀ c, c < N → h1 67 c = h1 577 c := fun c hc => (nw.2.2.1 c (by omega)).1
    have st : ∀ c, c < N → h1 65 c = h1 577 (8 + c) := fun c hc => (nw.1 c (by omega)).1
    refine w_iL (j := 25) rfl rfl rfl ?_
    refine w_al (j := 26) rfl rfl rfl ?_
    first | refine w_gr (j := 27) rfl rfl (by first | assumption | rfl) (by first | assumption | rfl) rfl ?_ | refine w_gi (j := 27) rfl rfl (by first | assumption | rfl) (by first | assumption | rfl) rfl rfl ?_
    refine w_ic (n := 1) (j := 28) rfl rfl ?_
    refine w_ial (j := 29) rfl rfl (by first | assumption | rfl) rfl (by omega) rfl l5 ?_
    refine w_geN (j := 30) rfl rfl (by omega) (by omega) (fun _ => ?_) (fun c => absurd c (fun c => by omega))
    refine w_il (j := 64) rfl rfl rfl ?_
    obtain rfl | rfl | rfl | rfl | rfl | rfl | rfl | rfl | rfl | rfl | rfl : m = 0 ∨ m = 1 ∨ m = 2 ∨ m = 3 ∨ m = 4 ∨ m = 5 ∨ m = 6 ∨ m = 7 ∨ m = 8 ∨ m = 9 ∨ m = 10 := by omega
    ·
      refine w_swN (t := 65) rfl (by decide) (by omega) rfl ?_
      refine w_al (j := 66) rfl rfl rfl ?_
      first | refine w_gr (j := 67) rfl rfl (by first | assumption | rfl) (by first | assumption | rfl) rfl ?_ | refine w_gi (j := 67) rfl rfl (by first | assumption | rfl) (by first | assumption | rfl) rfl rfl ?_
      refine w_il (j := 68) rfl rfl rfl ?_
      refine w_ial (j := 69) rfl rfl (by first | assumption | rfl) rfl (by omega) rfl rfl ?_
      refine w_ir rfl ?_
      refine ⟨_, _, rfl, ?_, t0, k1⟩
      show h1 104 0 = h1 3 6; rw [l1, l2]
    ·
      refine w_swN (t := 65) rfl (by decide) (by omega) rfl ?_
      refine w_al (j := 66) rfl rfl rfl ?_
      first | refine w_gr (j := 67) rfl rfl (by first | assumption | rfl) (by first | assumption | rfl) rfl ?_ | refine w_gi (j := 67) rfl rfl (by first | assumption | rfl) (by first | assumption | rfl) rfl rfl ?_
      refine w_il (j := 68) rfl rfl rfl ?_
      refine w_ial (j := 69) rfl rfl (by first | assumption | rfl) rfl (by omega) rfl rfl ?_
      refine w_ir rfl ?_
      refine ⟨_, _, rfl, ?_, t0, k1⟩
      show h1 104 1 = h1 3 7; rw [l4, l5]
    ·
      refine w_swN (t := 70) rfl (by decide) (by omega) rfl ?_
      refine w_al (j := 71) rfl rfl rfl ?_
      first | refine w_gr (j := 72) rfl rfl (by first | assumption | rfl) (by first | assumption | rfl) rfl ?_ | refine w_gi (j := 72) rfl rfl (by first | assumption | rfl) (by first | assumption | rfl) rfl rfl ?_
      refine w_bi (j := 73) (a := nI 31) rfl rfl (by decide) ?_
      refine w_ial (j := 74) rfl rfl (by first | assumption | rfl) rfl (by omega) rfl rfl ?_
      refine w_ir rfl ?_
      refine ⟨_, _, rfl, ?_, t0, k1⟩
      exact nw.2.2.2.2.2.2.1.symm
    ·
      refine w_swN (t := 75) rfl (by decide) (by omega) rfl ?_
      refine w_al (j := 76) rfl rfl rfl ?_
      first | refine w_gr (j := 77) rfl rfl (by first | assumption | rfl) (by first | assumption | rfl) rfl ?_ | refine w_gi (j := 77) rfl rfl (by first | assumption | rfl) (by first | assumption | rfl) rfl rfl ?_
      refine w_ic (n := 2) (j := 78) rfl rfl ?_
      refine w_ial (j := 79) rfl rfl (by first | assumption | rfl) rfl (by omega) rfl rfl ?_
      refine w_ir rfl ?_
      refine ⟨_, _, rfl, ?_, t0, k1⟩
      show h1 104 2 = h1 3 8; rw [l7, l8]
    ·
      refine w_swN (t := 80) rfl (by decide) (by omega) rfl ?_
      refine w_al (j := 81) rfl rfl rfl ?_
      first | refine w_gr (j := 82) rfl rfl (by first | assumption | rfl) (by first | assumption | rfl) rfl ?_ | refine w_gi (j := 82) rfl rfl (by first | assumption | rfl) (by first | assumption | rfl) rfl rfl ?_
      refine w_bi (j := 83) (a := nI 30) rfl rfl (by decide) ?_
      refine w_ial (j := 84) rfl rfl (by first | assumption | rfl) rfl (by omega) rfl rfl ?_
      refine w_ir rfl ?_
      refine ⟨_, _, rfl, ?_, t0, k1⟩
      exact nw.2.2.2.2.2.1.symm
    ·
      refine w_swN (t := 85) rfl (by decide) (by omega) rfl ?_
      refine w_il (j := 86) rfl rfl rfl ?_
      refine w_ir rfl ?_
      refine ⟨_, _, rfl, ?_, t0, k1⟩
      show px_fold (pf_fm _) N (nI 0) = pf_kept (h1 67) N; rw [pf_fm_eq]; exact pf_fb_congr (fun c hc => by rw [pl c hc])
    ·
      refine w_swN (t := 87) rfl (by decide) (by omega) rfl ?_
      refine w_il (j := 88) rfl rfl rfl ?_
      refine w_ir rfl ?_
      refine ⟨_, _, rfl, ?_, t0, k1⟩
      show px_fold (pf_fm _) N (nI 0) = px_fold (pf_fb (fun c => h1 67 c = -2)) N (nI 0); rw [pf_fm_eq]; exact pf_fb_congr (fun c hc => by rw [pl c hc])
    ·
      refine w_swN (t := 89) rfl (by decide) (by omega) rfl ?_
      refine w_al (j := 90) rfl rfl rfl ?_
      refine w_al (j := 91) rfl rfl rfl ?_
      first | refine w_gr (j := 92) rfl rfl (by first | assumption | rfl) (by first | assumption | rfl) rfl ?_ | refine w_gi (j := 92) rfl rfl (by first | assumption | rfl) (by first | assumption | rfl) rfl rfl ?_
      refine w_cvI (j := 93) rfl rfl rfl rfl (by first | assumption | rfl) rfl rfl (sp_210 px_Rw577 l5 l6) rfl ?_
      refine w_ir rfl ?_
      refine ⟨_, _, rfl, ?_, t0, k1⟩
      exact pf_fb_congr (fun c hc => by rw [st c hc])
    ·
      refine w_swN (t := 94) rfl (by decide) (by omega) rfl ?_
      refine w_al (j := 95) rfl rfl rfl ?_
      first | refine w_gr (j := 96) rfl rfl (by first | assumption | rfl) (by first | assumption | rfl) rfl ?_ | refine w_gi (j := 96) rfl rfl (by first | assumption | rfl) (by first | assumption | rfl) rfl rfl ?_
      refine w_ir rfl ?_
      refine ⟨_, _, rfl, ?_, t0, k1⟩
      show h1 100 35 = h1 51 2; rw [ln.2.1, ln.2.2.1]
    ·
      refine w_swN (t := 97) rfl (by decide) (by omega) rfl ?_
      refine w_al (j := 98) rfl rfl rfl ?_
      first | refine w_gr (j := 99) rfl rfl (by first | assumption | rfl) (by first | assumption | rfl) rfl ?_ | refine w_gi (j := 99) rfl rfl (by first | assumption | rfl) (by first | assumption | rfl) rfl rfl ?_
      refine w_ir rfl ?_
      refine ⟨_, _, rfl, ?_, t0, k1⟩
      exact hi.2.2.2.2.2.2.1.symm
    ·
      refine w_swN (t := 100) rfl (by decide) (by omega) rfl ?_
      refine w_al (j := 101) rfl rfl rfl ?_
      refine w_al (j := 102) rfl rfl rfl ?_
      first | refine w_gr (j := 103) rfl rfl (by first | assumption | rfl) (by first | assumption | rfl) rfl ?_ | refine w_gi (j := 103) rfl rfl (by first | assumption | rfl) (by first | assumption | rfl) rfl rfl ?_
      refine w_cvI (j := 104) rfl rfl rfl rfl (by first | assumption | rfl) rfl rfl (sp_209 px_Rw577 l5 l6) rfl ?_
      refine w_ir rfl ?_
      refine ⟨_, _, rfl, ?_, t0, k1⟩
      exact pf_sum_congr (fun c hc => (st c hc).symm)
theorem px_kpB {h h1 : ix_H} {w p : Nat} (k : px_kp h h1) (hp : p < 2) : px_kp (ix_up h 102 p (h 102 p + nI 1)) (px_hB h1 w p) := by
  unfold px_hB
  refine ⟨fun a ha => ?_, fun j hj => ?_⟩
  · by_cases h2 : a = 102
    · subst h2
      rw [ix_up_eq, ix_up_eq, k.1 102 (by decide), ix_up_ne (by decide), k.1 102 (by decide)]
    · rw [ix_up_ne h2, ix_up_ne h2, ix_up_ne (fun e => by subst e; cases ha), k.1 a ha]
  · rw [px_up_na (by decide), px_up_nk (fun e => by subst e; cases hj), px_up_na (by decide), k.2 j hj]
theorem MX_told {w : Int32} (hw : ¬ (nI 0 ≤ w ∧ w ≤ nI 10)) : px_PI 2 211 [.ref 100, .int w] h (fun v h2 => h2 100 0 = nI 1 ∧ px_kp (ix_up h 102 1 (h 102 1 + nI 1)) h2) := by
  refine px_M (M := mt_211) (ops := mo_211) tb_211 rfl rfl rfl rfl rfl ?_
  refine w_al (j := 1) rfl rfl rfl ?_
  refine w_ic (n := 0) (j := 2) rfl rfl ?_
  refine w_pf (j := 3) rfl rfl (by first | assumption | rfl) (by first | assumption | rfl) rfl ?_
  refine w_al (j := 4) rfl rfl rfl ?_
  refine w_il (j := 5) rfl rfl rfl ?_
  refine w_ic (n := 0) (j := 6) rfl rfl ?_
  refine w_bi (j := 7) (a := nI 10) rfl rfl (by decide) ?_
  refine w_csI (j := 8) rfl rfl rfl rfl rfl (sp_155) rfl ?_
  rw [decide_eq_false hw]
  refine w_neB (j := 9) rfl rfl (fun c => absurd c (by simp)) (fun _ => ?_)
  refine w_ic (n := 1) (j := 10) rfl rfl ?_
  refine w_go rfl ?_
  refine w_ic (n := 1) (j := 13) rfl rfl ?_
  refine w_ic (n := 1) (j := 14) rfl rfl ?_
  refine w_cvI (j := 15) rfl rfl rfl rfl (by first | assumption | rfl) rfl rfl (sp_154t (p := 1) (w := 1) rfl (by decide) (by decide) (by decide)) rfl ?_
  refine w_eqB (j := 16) rfl rfl (fun c => absurd c (by simp)) (fun _ => ?_)
  refine w_ic (n := 0) (j := 17) rfl rfl ?_
  refine w_ir rfl ?_
  exact ⟨_, _, rfl, rfl, px_kpB (px_kp.rf.up (by decide) (fun _ => by decide)) (by decide)⟩
end OPS
