section OPS
variable {h : ix_H} {B N T L W I t : Nat} {cs : List (Nat × Nat)}
def pf_mf (P : Prop) [Decidable P] (v : Int32) (s : Int32 × Int32) : Int32 × Int32 := if P then (s.1 + nI 1, if s.2 = -1 then v else s.2) else s
def pf_mg (P : Prop) [Decidable P] (v : Int32) (s : Int32 × Int32) : Int32 × Int32 := if P then (s.1 + nI 1, if s.1 = 0 then v else s.2) else s
def pf_mi (K : Nat) (s : Int32 × Int32) : Prop := ∃ k, k ≤ K ∧ s.1 = nI k ∧ (k = 0 ↔ s.2 = -1)
theorem pf_mi0 : pf_mi 0 (nI 0, -1) := ⟨0, by decide, rfl, by simp⟩
theorem pf_mfg {P : Prop} [Decidable P] {v : Int32} {s : Int32 × Int32} {K : Nat} (hs : pf_mi K s) (hK : K < 1000000) (hv : v ≠ -1) : pf_mg P v s = pf_mf P v s ∧ pf_mi (K + 1) (pf_mf P v s) := by
  obtain ⟨k, h1, h2, h3⟩ := hs
  unfold pf_mg pf_mf
  by_cases hp : P
  · rw [if_pos hp, if_pos hp]
    have e : (s.1 = 0) ↔ (s.2 = -1) := by
      rw [← h3, h2]
      exact px_neq (b := 0) (by omega) (by decide)
    by_cases h0 : s.2 = -1
    · rw [if_pos (e.mpr h0), if_pos h0]
      refine ⟨rfl, k + 1, by omega, by show s.1 + nI 1 = _; rw [h2, px_nadd], ?_⟩
      constructor
      · intro q; omega
      · intro q; exact absurd q hv
    · rw [if_neg (fun q => h0 (e.mp q)), if_neg h0]
      refine ⟨rfl, k + 1, by omega, by show s.1 + nI 1 = _; rw [h2, px_nadd], ?_⟩
      constructor
      · intro q; omega
      · intro q; exact absurd q h0
  · rw [if_neg hp, if_neg hp]
    exact ⟨rfl, k, by omega, h2, h3⟩
theorem px_nm1 {b : Nat} (hb : b < 2147483648) : nI b ≠ -1 := by
  intro e
  have := congrArg Int32.toInt e
  rw [nI_toInt hb, show (-1 : Int32).toInt = -1 from by decide] at this
  omega
def pf_pr1 (h : ix_H) (iv : Int32) (c j : Nat) (s : Int32 × Int32) : Int32 × Int32 := pf_mf (pf_iv h c (c + 1 + j) = iv) (nI (10 * c + (c + 1 + j))) s
def pf_pr2 (h : ix_H) (N : Nat) (iv : Int32) (c : Nat) (s : Int32 × Int32) : Int32 × Int32 := px_fold (pf_pr1 h iv c) (N - (c + 1)) s
def pf_prs (h : ix_H) (N : Nat) (iv : Int32) (m : Nat) : Int32 := if m = 0 then (px_fold (pf_pr2 h N iv) N (nI 0, -1)).1 else (px_fold (pf_pr2 h N iv) N (nI 0, -1)).2
theorem pf_prs_kp {h h' : ix_H} {iv : Int32} {m : Nat} (k : px_kp h h') : pf_prs h' N iv m = pf_prs h N iv m := by
  have e : pf_pr2 h' N iv = pf_pr2 h N iv := by
    funext c s
    unfold pf_pr2
    refine px_fold_congr _ _ (fun j s _ => ?_)
    unfold pf_pr1
    rw [pf_iv_kp k]
  unfold pf_prs
  rw [e]
theorem C_pairs {iv w : Int32} (hI : px_I h B N T cs L W I t) : px_CO 3 126 [.ref 0, .int iv, .int w] h (fun v h1 => ∃ m, m ≤ 1 ∧ w = nI m ∧ (nI 0 ≤ iv ∧ iv ≤ nI 11) ∧ v = pf_prs h N iv m ∧ px_kp h h1) (fun x h1 => x = 0 ∧ ¬ ((nI 0 ≤ iv ∧ iv ≤ nI 11) ∧ nI 0 ≤ w ∧ w ≤ nI 1) ∧ h1 = px_hX 0 h) := by
  obtain ⟨⟨l1, l2, l3, l4, l5, l6, l7, l8, l9⟩, lw, -, nw, -⟩ := hI
  refine px_M (M := mt_126) (ops := mo_126) tb_126 rfl rfl rfl rfl rfl ?_
  refine w_al (j := 1) rfl rfl rfl ?_
  refine w_il (j := 2) rfl rfl rfl ?_
  refine w_ic (n := 0) (j := 3) rfl rfl ?_
  refine w_bi (j := 4) (a := nI 11) rfl rfl (by decide) ?_
  refine w_chk (j := 5) rfl rfl rfl rfl (by first | assumption | rfl) rfl rfl (sp_147) rfl (fun c1 => ?_) (fun c1 => ?_)
  · exact Or.inr ⟨_, _, rfl, rfl, fun q => c1 q.1, rfl⟩
  refine w_al (j := 6) rfl rfl rfl ?_
  refine w_il (j := 7) rfl rfl rfl ?_
  refine w_ic (n := 0) (j := 8) rfl rfl ?_
  refine w_ic (n := 1) (j := 9) rfl rfl ?_
  refine w_chk (j := 10) rfl rfl rfl rfl (by first | assumption | rfl) rfl rfl (sp_147) rfl (fun c2 => ?_) (fun c2 => ?_)
  · exact Or.inr ⟨_, _, rfl, rfl, fun q => c2 q.2, rfl⟩
  obtain ⟨m, hm, rfl⟩ := px_bnd2 (by decide) c2
  refine w_ic (n := 0) (j := 11) rfl rfl ?_
  refine w_is (j := 12) rfl rfl rfl ?_
  refine w_im (j := 13) rfl rfl ?_
  refine w_iS (j := 14) rfl rfl rfl ?_
  refine w_ic (n := 0) (j := 15) rfl rfl ?_
  refine w_iS (j := 16) rfl rfl rfl ?_
  refine px_forI (fun c ls h1 => h1 = h ∧ ∃ g, ls = [.ref 0, .int iv, .int (nI m), .int (px_fold (pf_pr2 h N iv) c (nI 0, -1)).1, .int (px_fold (pf_pr2 h N iv) c (nI 0, -1)).2, .int (nI c), g]) N ?_ ?_ ⟨rfl, _, rfl⟩
  · rintro c _ h1 hc ⟨rfl, g, rfl⟩ H
    refine w_iL (j := 17) rfl rfl rfl ?_
    refine w_al (j := 18) rfl rfl rfl ?_
    first | refine w_gr (j := 19) rfl rfl (by first | assumption | rfl) (by first | assumption | rfl) rfl ?_ | refine w_gi (j := 19) rfl rfl (by first | assumption | rfl) (by first | assumption | rfl) rfl rfl ?_
    first | refine w_gr (j := 20) rfl rfl (by first | assumption | rfl) (by first | assumption | rfl) rfl ?_ | refine w_gi (j := 20) rfl rfl (by first | assumption | rfl) (by first | assumption | rfl) rfl l4 ?_
    refine w_geN (j := 21) rfl rfl (by omega) (by omega) (fun c => absurd c (fun c => by omega)) (fun _ => ?_)
    refine w_iL (j := 22) rfl rfl rfl ?_
    refine w_ic (n := 1) (j := 23) rfl rfl ?_
    first | refine w_add0 (j := 24) rfl rfl ?_ | refine w_addN (j := 24) rfl rfl ?_ | refine w_add (j := 24) rfl rfl ?_
    refine w_iS (j := 25) rfl rfl rfl ?_
    refine px_for (fun j s => [.ref 0, .int iv, .int (nI m), .int s.1, .int s.2, .int (nI c), .int (nI (c + 1 + j))]) (fun _ => h1) (pf_pr1 h1 iv c) (N - (c + 1)) (px_fold (pf_pr2 h1 N iv) c (nI 0, -1)) (fun _ _ => True) trivial (fun _ _ _ _ => trivial) ?_ ?_
    · intro j s hj _ H2
      refine w_iL (j := 26) rfl rfl rfl ?_
      refine w_al (j := 27) rfl rfl rfl ?_
      first | refine w_gr (j := 28) rfl rfl (by first | assumption | rfl) (by first | assumption | rfl) rfl ?_ | refine w_gi (j := 28) rfl rfl (by first | assumption | rfl) (by first | assumption | rfl) rfl rfl ?_
      first | refine w_gr (j := 29) rfl rfl (by first | assumption | rfl) (by first | assumption | rfl) rfl ?_ | refine w_gi (j := 29) rfl rfl (by first | assumption | rfl) (by first | assumption | rfl) rfl l4 ?_
      refine w_geN (j := 30) rfl rfl (by omega) (by omega) (fun c => absurd c (fun c => by omega)) (fun _ => ?_)
      refine w_al (j := 31) rfl rfl rfl ?_
      first | refine w_gr (j := 32) rfl rfl (by first | assumption | rfl) (by first | assumption | rfl) rfl ?_ | refine w_gi (j := 32) rfl rfl (by first | assumption | rfl) (by first | assumption | rfl) rfl rfl ?_
      refine w_iL (j := 33) rfl rfl rfl ?_
      refine w_iL (j := 34) rfl rfl rfl ?_
      refine w_cvI (j := 35) rfl rfl rfl rfl (by first | assumption | rfl) rfl rfl (sp_36 px_Ld3 (by omega) (by omega)) rfl ?_
      refine w_il (j := 36) rfl rfl rfl ?_
      refine w_ne (j := 37) rfl rfl (fun c3 => ?_) (fun c3 => ?_)
      ·
        first | refine w_incN (j := 50) rfl rfl rfl ?_ | refine w_inc (j := 50) rfl rfl rfl rfl ?_
        refine w_go rfl ?_
        rw [pf_pr1, pf_mf, if_neg (show ¬ pf_iv h1 c (c + 1 + j) = iv from c3)] at H2
        exact H2
      rw [pf_pr1, pf_mf, if_pos (show pf_iv h1 c (c + 1 + j) = iv from c3)] at H2
      first | refine w_incN (j := 38) rfl rfl rfl ?_ | refine w_inc (j := 38) rfl rfl rfl rfl ?_
      refine w_iL (j := 39) rfl rfl rfl ?_
      refine w_im (j := 40) rfl rfl ?_
      refine w_ne (j := 41) rfl rfl (fun c4 => ?_) (fun c4 => ?_)
      ·
        refine w_iL (j := 48) rfl rfl rfl ?_
        refine w_iS (j := 49) rfl rfl rfl ?_
        first | refine w_incN (j := 50) rfl rfl rfl ?_ | refine w_inc (j := 50) rfl rfl rfl rfl ?_
        refine w_go rfl ?_
        rw [if_neg c4] at H2
        exact H2
      ·
        refine w_bi (j := 42) (a := nI 10) rfl rfl (by decide) ?_
        refine w_iL (j := 43) rfl rfl rfl ?_
        first | refine w_mulN (j := 44) rfl rfl ?_ | refine w_mul (j := 44) rfl rfl ?_
        refine w_iL (j := 45) rfl rfl rfl ?_
        first | refine w_add0 (j := 46) rfl rfl ?_ | refine w_addN (j := 46) rfl rfl ?_ | refine w_add (j := 46) rfl rfl ?_
        refine w_go rfl ?_
        refine w_iS (j := 49) rfl rfl rfl ?_
        first | refine w_incN (j := 50) rfl rfl rfl ?_ | refine w_inc (j := 50) rfl rfl rfl rfl ?_
        refine w_go rfl ?_
        rw [if_pos c4] at H2
        exact H2
    · intro _
      refine w_iL (j := 26) rfl rfl rfl ?_
      refine w_al (j := 27) rfl rfl rfl ?_
      first | refine w_gr (j := 28) rfl rfl (by first | assumption | rfl) (by first | assumption | rfl) rfl ?_ | refine w_gi (j := 28) rfl rfl (by first | assumption | rfl) (by first | assumption | rfl) rfl rfl ?_
      first | refine w_gr (j := 29) rfl rfl (by first | assumption | rfl) (by first | assumption | rfl) rfl ?_ | refine w_gi (j := 29) rfl rfl (by first | assumption | rfl) (by first | assumption | rfl) rfl l4 ?_
      refine w_geN (j := 30) rfl rfl (by omega) (by omega) (fun _ => ?_) (fun c => absurd c (fun c => by omega))
      first | refine w_incN (j := 52) rfl rfl rfl ?_ | refine w_inc (j := 52) rfl rfl rfl rfl ?_
      refine w_go rfl ?_
      exact H _ _ ⟨rfl, _, rfl⟩
  · rintro _ h1 ⟨rfl, g, rfl⟩
    refine w_iL (j := 17) rfl rfl rfl ?_
    refine w_al (j := 18) rfl rfl rfl ?_
    first | refine w_gr (j := 19) rfl rfl (by first | assumption | rfl) (by first | assumption | rfl) rfl ?_ | refine w_gi (j := 19) rfl rfl (by first | assumption | rfl) (by first | assumption | rfl) rfl rfl ?_
    first | refine w_gr (j := 20) rfl rfl (by first | assumption | rfl) (by first | assumption | rfl) rfl ?_ | refine w_gi (j := 20) rfl rfl (by first | assumption | rfl) (by first | assumption | rfl) rfl l4 ?_
    refine w_geN (j := 21) rfl rfl (by omega) (by omega) (fun _ => ?_) (fun c => absurd c (fun c => by omega))
    refine w_il (j := 54) rfl rfl rfl ?_
    refine w_neM (j := 55) rfl rfl (by omega) (fun c3 => ?_) (fun c3 => ?_)
    ·
      refine w_iL (j := 58) rfl rfl rfl ?_
      refine w_ir rfl ?_
      exact Or.inl ⟨_, _, rfl, _, hm, rfl, c1, by rw [pf_prs, if_neg c3], px_kp.rf⟩
    ·
      refine w_il (j := 56) rfl rfl rfl ?_
      refine w_go rfl ?_
      refine w_ir rfl ?_
      exact Or.inl ⟨_, _, rfl, _, hm, rfl, c1, by rw [pf_prs, if_pos c3], px_kp.rf⟩
theorem M_pairs {iv : Int32} {m : Nat} (hI : px_I h B N T cs L W I t) (hm : m ≤ 1) (c1 : nI 0 ≤ iv ∧ iv ≤ nI 11) : px_PI 3 234 [.ref 100, .int iv, .int (nI m)] h (fun w h2 => w = pf_prs h N iv m ∧ h2 100 0 = nI 0 ∧ px_kp h h2) := by
  refine px_M (M := mt_234) (ops := mo_234) tb_234 rfl rfl rfl rfl rfl ?_
  refine w_al (j := 1) rfl rfl rfl ?_
  refine w_ic (n := 0) (j := 2) rfl rfl ?_
  refine w_pf (j := 3) rfl rfl (by first | assumption | rfl) (by first | assumption | rfl) rfl ?_
  obtain ⟨I1, k1, t0⟩ := px_thr (v := nI 0) hI
  generalize ix_up h 100 0 (nI 0) = h1 at I1 k1 t0 ⊢
  rw [← pf_prs_kp k1]
  obtain ⟨ld, -⟩ := I1
  have l5 := ld.2.2.2.2.1
  have l6 := ld.2.2.2.2.2.1
  refine w_al (j := 4) rfl rfl rfl ?_
  refine w_il (j := 5) rfl rfl rfl ?_
  refine w_ic (n := 0) (j := 6) rfl rfl ?_
  refine w_bi (j := 7) (a := nI 11) rfl rfl (by decide) ?_
  refine w_csI (j := 8) rfl rfl rfl rfl rfl (sp_155) rfl ?_
  rw [decide_eq_true c1]
  refine w_eqB (j := 9) rfl rfl (fun c => absurd c (by simp)) (fun _ => ?_)
  refine w_il (j := 10) rfl rfl rfl ?_
  refine w_ic (n := 0) (j := 11) rfl rfl ?_
  refine w_ic (n := 1) (j := 12) rfl rfl ?_
  refine w_csI (j := 13) rfl rfl rfl rfl rfl (sp_155) rfl ?_
  rw [px_ofN hm (by decide)]
  refine w_neB (j := 14) rfl rfl (fun _ => ?_) (fun c => absurd c (by simp))
  refine w_ic (n := 0) (j := 17) rfl rfl ?_
  refine w_ic (n := 1) (j := 18) rfl rfl ?_
  refine w_ic (n := 1) (j := 19) rfl rfl ?_
  refine w_cvI (j := 20) rfl rfl rfl rfl (by first | assumption | rfl) rfl rfl (sp_154f t0) rfl ?_
  refine w_eqB (j := 21) rfl rfl (fun _ => ?_) (fun c => absurd c (by simp))
  refine w_ic (n := 0) (j := 24) rfl rfl ?_
  refine w_is (j := 25) rfl rfl rfl ?_
  refine w_im (j := 26) rfl rfl ?_
  refine w_iS (j := 27) rfl rfl rfl ?_
  refine w_ic (n := 0) (j := 28) rfl rfl ?_
  refine w_iS (j := 29) rfl rfl rfl ?_
  refine px_forI (fun c ls h2 => h2 = h1 ∧ (∃ g, ls = [.ref 100, .int iv, .int (nI m), .int (px_fold (pf_pr2 h1 N iv) c (nI 0, -1)).1, .int (px_fold (pf_pr2 h1 N iv) c (nI 0, -1)).2, .int (nI c), g]) ∧ pf_mi (8 * c) (px_fold (pf_pr2 h1 N iv) c (nI 0, -1))) N ?_ ?_ ⟨rfl, ⟨_, rfl⟩, pf_mi0⟩
  · rintro c _ h2 hc ⟨rfl, ⟨g, rfl⟩, mi⟩ H
    refine w_iL (j := 30) rfl rfl rfl ?_
    refine w_al (j := 31) rfl rfl rfl ?_
    first | refine w_gr (j := 32) rfl rfl (by first | assumption | rfl) (by first | assumption | rfl) rfl ?_ | refine w_gi (j := 32) rfl rfl (by first | assumption | rfl) (by first | assumption | rfl) rfl rfl ?_
    refine w_ic (n := 1) (j := 33) rfl rfl ?_
    refine w_ial (j := 34) rfl rfl (by first | assumption | rfl) rfl (by omega) rfl l5 ?_
    refine w_geN (j := 35) rfl rfl (by omega) (by omega) (fun c => absurd c (fun c => by omega)) (fun _ => ?_)
    refine w_iL (j := 36) rfl rfl rfl ?_
    refine w_ic (n := 1) (j := 37) rfl rfl ?_
    first | refine w_add0 (j := 38) rfl rfl ?_ | refine w_addN (j := 38) rfl rfl ?_ | refine w_add (j := 38) rfl rfl ?_
    refine w_iS (j := 39) rfl rfl rfl ?_
    refine px_for (fun j s => [.ref 100, .int iv, .int (nI m), .int s.1, .int s.2, .int (nI c), .int (nI (c + 1 + j))]) (fun _ => h2) (pf_pr1 h2 iv c) (N - (c + 1)) (px_fold (pf_pr2 h2 N iv) c (nI 0, -1)) (fun j s => pf_mi (8 * c + j) s) mi (fun j s hj hs => (pf_mfg hs (by omega) (px_nm1 (by omega))).2) ?_ ?_
    · intro j s hj ms H2
      have e := (pf_mfg (P := pf_iv h2 c (c + 1 + j) = iv) (v := nI (10 * c + (c + 1 + j))) ms (by omega) (px_nm1 (by omega))).1
      rw [pf_pr1, ← e] at H2
      refine w_iL (j := 40) rfl rfl rfl ?_
      refine w_al (j := 41) rfl rfl rfl ?_
      first | refine w_gr (j := 42) rfl rfl (by first | assumption | rfl) (by first | assumption | rfl) rfl ?_ | refine w_gi (j := 42) rfl rfl (by first | assumption | rfl) (by first | assumption | rfl) rfl rfl ?_
      refine w_ic (n := 1) (j := 43) rfl rfl ?_
      refine w_ial (j := 44) rfl rfl (by first | assumption | rfl) rfl (by omega) rfl l5 ?_
      refine w_geN (j := 45) rfl rfl (by omega) (by omega) (fun c => absurd c (fun c => by omega)) (fun _ => ?_)
      refine w_al (j := 46) rfl rfl rfl ?_
      refine w_iL (j := 47) rfl rfl rfl ?_
      refine w_iL (j := 48) rfl rfl rfl ?_
      refine w_cvI (j := 49) rfl rfl rfl rfl (by first | assumption | rfl) rfl rfl (sp_232 ld hc (by omega)) rfl ?_
      refine w_il (j := 50) rfl rfl rfl ?_
      refine w_eq (j := 51) rfl rfl (fun c3 => ?_) (fun c3 => ?_)
      ·
        rw [pf_mg, if_pos (show pf_iv h2 c (c + 1 + j) = iv from c3)] at H2
        refine w_il (j := 53) rfl rfl rfl ?_
        refine w_neZ (j := 54) rfl rfl (fun c4 => ?_) (fun c4 => ?_)
        ·
          refine w_iL (j := 61) rfl rfl rfl ?_
          refine w_iS (j := 62) rfl rfl rfl ?_
          first | refine w_incN (j := 63) rfl rfl rfl ?_ | refine w_inc (j := 63) rfl rfl rfl rfl ?_
          first | refine w_incN (j := 64) rfl rfl rfl ?_ | refine w_inc (j := 64) rfl rfl rfl rfl ?_
          refine w_go rfl ?_
          rw [if_neg c4] at H2
          exact H2
        ·
          refine w_bi (j := 55) (a := nI 10) rfl rfl (by decide) ?_
          refine w_iL (j := 56) rfl rfl rfl ?_
          first | refine w_mulN (j := 57) rfl rfl ?_ | refine w_mul (j := 57) rfl rfl ?_
          refine w_iL (j := 58) rfl rfl rfl ?_
          first | refine w_add0 (j := 59) rfl rfl ?_ | refine w_addN (j := 59) rfl rfl ?_ | refine w_add (j := 59) rfl rfl ?_
          refine w_go rfl ?_
          refine w_iS (j := 62) rfl rfl rfl ?_
          first | refine w_incN (j := 63) rfl rfl rfl ?_ | refine w_inc (j := 63) rfl rfl rfl rfl ?_
          first | refine w_incN (j := 64) rfl rfl rfl ?_ | refine w_inc (j := 64) rfl rfl rfl rfl ?_
          refine w_go rfl ?_
          rw [if_pos c4] at H2
          exact H2
      ·
        refine w_go rfl ?_
        first | refine w_incN (j := 64) rfl rfl rfl ?_ | refine w_inc (j := 64) rfl rfl rfl rfl ?_
        refine w_go rfl ?_
        rw [pf_mg, if_neg (show ¬ pf_iv h2 c (c + 1 + j) = iv from c3)] at H2
        exact H2
    · intro mi2
      refine w_iL (j := 40) rfl rfl rfl ?_
      refine w_al (j := 41) rfl rfl rfl ?_
      first | refine w_gr (j := 42) rfl rfl (by first | assumption | rfl) (by first | assumption | rfl) rfl ?_ | refine w_gi (j := 42) rfl rfl (by first | assumption | rfl) (by first | assumption | rfl) rfl rfl ?_
      refine w_ic (n := 1) (j := 43) rfl rfl ?_
      refine w_ial (j := 44) rfl rfl (by first | assumption | rfl) rfl (by omega) rfl l5 ?_
      refine w_geN (j := 45) rfl rfl (by omega) (by omega) (fun _ => ?_) (fun c => absurd c (fun c => by omega))
      first | refine w_incN (j := 66) rfl rfl rfl ?_ | refine w_inc (j := 66) rfl rfl rfl rfl ?_
      refine w_go rfl ?_
      refine H _ _ ⟨rfl, ⟨_, rfl⟩, ?_⟩
      obtain ⟨k, q1, q2⟩ := mi2
      exact ⟨k, by omega, q2⟩
  · rintro _ h2 ⟨rfl, ⟨g, rfl⟩, mi⟩
    refine w_iL (j := 30) rfl rfl rfl ?_
    refine w_al (j := 31) rfl rfl rfl ?_
    first | refine w_gr (j := 32) rfl rfl (by first | assumption | rfl) (by first | assumption | rfl) rfl ?_ | refine w_gi (j := 32) rfl rfl (by first | assumption | rfl) (by first | assumption | rfl) rfl rfl ?_
    refine w_ic (n := 1) (j := 33) rfl rfl ?_
    refine w_ial (j := 34) rfl rfl (by first | assumption | rfl) rfl (by omega) rfl l5 ?_
    refine w_geN (j := 35) rfl rfl (by omega) (by omega) (fun _ => ?_) (fun c => absurd c (fun c => by omega))
    refine w_il (j := 68) rfl rfl rfl ?_
    refine w_neM (j := 69) rfl rfl (by omega) (fun c3 => ?_) (fun c3 => ?_)
    ·
      refine w_iL (j := 72) rfl rfl rfl ?_
      refine w_ir rfl ?_
      exact ⟨_, _, rfl, by rw [pf_prs, if_neg c3], t0, k1⟩
    ·
      refine w_il (j := 70) rfl rfl rfl ?_
      refine w_go rfl ?_
      refine w_ir rfl ?_
      exact ⟨_, _, rfl, by rw [pf_prs, if_pos c3], t0, k1⟩
-- loudest
def pf_ld (h : ix_H) (c : Nat) (s : Int32 × Int32) : Int32 × Int32 := if h 67 c ≠ -2 ∧ s.2 < h 65 c then (nI c, h 65 c) else s
def pf_lou (h : ix_H) (N m : Nat) : Int32 := if m = 0 then (px_fold (pf_ld h) N (-1, -1)).1 else (px_fold (pf_ld h) N (-1, -1)).2
theorem pf_lou_kp {h h' : ix_H} {m : Nat} (k : px_kp h h') : pf_lou h' N m = pf_lou h N m := by
  have e : pf_ld h' = pf_ld h := by funext c s; unfold pf_ld; rw [k.1 67 (by decide), k.1 65 (by decide)]
  unfold pf_lou
  rw [e]
theorem C_loudest {w : Int32} (hI : px_I h B N T cs L W I t) : px_CO 3 135 [.ref 0, .int w] h (fun v h1 => ∃ m, m ≤ 1 ∧ w = nI m ∧ v = pf_lou h N m ∧ px_kp h h1) (fun x h1 => x = 0 ∧ ¬ (nI 0 ≤ w ∧ w ≤ nI 1) ∧ h1 = px_hX 0 h) := by
  obtain ⟨⟨l1, l2, l3, l4, l5, l6, l7, l8, l9⟩, lw, -, nw, -⟩ := hI
  refine px_M (M := mt_135) (ops := mo_135) tb_135 rfl rfl rfl rfl rfl ?_
  refine w_al (j := 1) rfl rfl rfl ?_
  refine w_il (j := 2) rfl rfl rfl ?_
  refine w_ic (n := 0) (j := 3) rfl rfl ?_
  refine w_ic (n := 1) (j := 4) rfl rfl ?_
  refine w_chk (j := 5) rfl rfl rfl rfl (by first | assumption | rfl) rfl rfl (sp_147) rfl (fun c2 => ?_) (fun c2 => ?_)
  · exact Or.inr ⟨_, _, rfl, rfl, c2, rfl⟩
  obtain ⟨m, hm, rfl⟩ := px_bnd2 (by decide) c2
  refine w_im (j := 6) rfl rfl ?_
  refine w_is (j := 7) rfl rfl rfl ?_
  refine w_im (j := 8) rfl rfl ?_
  refine w_is (j := 9) rfl rfl rfl ?_
  refine w_ic (n := 0) (j := 10) rfl rfl ?_
  refine w_iS (j := 11) rfl rfl rfl ?_
  refine px_for (fun c s => [.ref 0, .int (nI m), .int s.1, .int s.2, .int (nI c)]) (fun _ => h) (pf_ld h) N (-1, -1) (fun _ _ => True) trivial (fun _ _ _ _ => trivial) ?_ ?_
  · intro c s hc _ H
    refine w_iL (j := 12) rfl rfl rfl ?_
    refine w_al (j := 13) rfl rfl rfl ?_
    first | refine w_gr (j := 14) rfl rfl (by first | assumption | rfl) (by first | assumption | rfl) rfl ?_ | refine w_gi (j := 14) rfl rfl (by first | assumption | rfl) (by first | assumption | rfl) rfl rfl ?_
    first | refine w_gr (j := 15) rfl rfl (by first | assumption | rfl) (by first | assumption | rfl) rfl ?_ | refine w_gi (j := 15) rfl rfl (by first | assumption | rfl) (by first | assumption | rfl) rfl l4 ?_
    refine w_geN (j := 16) rfl rfl (by omega) (by omega) (fun c => absurd c (fun c => by omega)) (fun _ => ?_)
    refine w_al (j := 17) rfl rfl rfl ?_
    first | refine w_gr (j := 18) rfl rfl (by first | assumption | rfl) (by first | assumption | rfl) rfl ?_ | refine w_gi (j := 18) rfl rfl (by first | assumption | rfl) (by first | assumption | rfl) rfl rfl ?_
    first | refine w_gr (j := 19) rfl rfl (by first | assumption | rfl) (by first | assumption | rfl) rfl ?_ | refine w_gi (j := 19) rfl rfl (by first | assumption | rfl) (by first | assumption | rfl) rfl rfl ?_
    refine w_iL (j := 20) rfl rfl rfl ?_
    refine w_ial (j := 21) rfl rfl (by first | assumption | rfl) rfl (by omega) rfl rfl ?_
    refine w_bi (j := 22) (a := (-2)) rfl rfl (by decide) ?_
    refine w_eq (j := 23) rfl rfl (fun c3 => ?_) (fun c3 => ?_)
    ·
      first | refine w_incN (j := 39) rfl rfl rfl ?_ | refine w_inc (j := 39) rfl rfl rfl rfl ?_
      refine w_go rfl ?_
      rw [pf_ld, if_neg (fun q => q.1 c3)] at H
      exact H
    refine w_al (j := 24) rfl rfl rfl ?_
    first | refine w_gr (j := 25) rfl rfl (by first | assumption | rfl) (by first | assumption | rfl) rfl ?_ | refine w_gi (j := 25) rfl rfl (by first | assumption | rfl) (by first | assumption | rfl) rfl rfl ?_
    first | refine w_gr (j := 26) rfl rfl (by first | assumption | rfl) (by first | assumption | rfl) rfl ?_ | refine w_gi (j := 26) rfl rfl (by first | assumption | rfl) (by first | assumption | rfl) rfl rfl ?_
    refine w_iL (j := 27) rfl rfl rfl ?_
    refine w_ial (j := 28) rfl rfl (by first | assumption | rfl) rfl (by omega) rfl rfl ?_
    refine w_il (j := 29) rfl rfl rfl ?_
    refine w_le (j := 30) rfl rfl (fun c4 => ?_) (fun c4 => ?_)
    ·
      first | refine w_incN (j := 39) rfl rfl rfl ?_ | refine w_inc (j := 39) rfl rfl rfl rfl ?_
      refine w_go rfl ?_
      rw [pf_ld, if_neg (fun q => px_not_lt.mpr c4 q.2)] at H
      exact H
    refine w_iL (j := 31) rfl rfl rfl ?_
    refine w_is (j := 32) rfl rfl rfl ?_
    refine w_al (j := 33) rfl rfl rfl ?_
    first | refine w_gr (j := 34) rfl rfl (by first | assumption | rfl) (by first | assumption | rfl) rfl ?_ | refine w_gi (j := 34) rfl rfl (by first | assumption | rfl) (by first | assumption | rfl) rfl rfl ?_
    first | refine w_gr (j := 35) rfl rfl (by first | assumption | rfl) (by first | assumption | rfl) rfl ?_ | refine w_gi (j := 35) rfl rfl (by first | assumption | rfl) (by first | assumption | rfl) rfl rfl ?_
    refine w_iL (j := 36) rfl rfl rfl ?_
    refine w_ial (j := 37) rfl rfl (by first | assumption | rfl) rfl (by omega) rfl rfl ?_
    refine w_is (j := 38) rfl rfl rfl ?_
    first | refine w_incN (j := 39) rfl rfl rfl ?_ | refine w_inc (j := 39) rfl rfl rfl rfl ?_
    refine w_go rfl ?_
    rw [pf_ld, if_pos ⟨c3, c4⟩] at H
    exact H
  · intro _
    refine w_iL (j := 12) rfl rfl rfl ?_
    refine w_al (j := 13) rfl rfl rfl ?_
    first | refine w_gr (j := 14) rfl rfl (by first | assumption | rfl) (by first | assumption | rfl) rfl ?_ | refine w_gi (j := 14) rfl rfl (by first | assumption | rfl) (by first | assumption | rfl) rfl rfl ?_
    first | refine w_gr (j := 15) rfl rfl (by first | assumption | rfl) (by first | assumption | rfl) rfl ?_ | refine w_gi (j := 15) rfl rfl (by first | assumption | rfl) (by first | assumption | rfl) rfl l4 ?_
    refine w_geN (j := 16) rfl rfl (by omega) (by omega) (fun _ => ?_) (fun c => absurd c (fun c => by omega))
    refine w_il (j := 41) rfl rfl rfl ?_
    refine w_neM (j := 42) rfl rfl (by omega) (fun c3 => ?_) (fun c3 => ?_)
    ·
      refine w_il (j := 45) rfl rfl rfl ?_
      refine w_ir rfl ?_
      exact Or.inl ⟨_, _, rfl, _, hm, rfl, by rw [pf_lou, if_neg c3], px_kp.rf⟩
    ·
      refine w_il (j := 43) rfl rfl rfl ?_
      refine w_go rfl ?_
      refine w_ir rfl ?_
      exact Or.inl ⟨_, _, rfl, _, hm, rfl, by rw [pf_lou, if_pos c3], px_kp.rf⟩
theorem M_loudest {m : Nat} (hI : px_I h B N T cs L W I t) (hm : m ≤ 1) : px_PI 2 244 [.ref 100, .int (nI m)] h (fun w h2 => w = pf_lou h N m ∧ h2 100 0 = nI 0 ∧ px_kp h h2) := by
  refine px_M (M := mt_244) (ops := mo_244) tb_244 rfl rfl rfl rfl rfl ?_
  refine w_al (j := 1) rfl rfl rfl ?_
  refine w_ic (n := 0) (j := 2) rfl rfl ?_
  refine w_pf (j := 3) rfl rfl (by first | assumption | rfl) (by first | assumption | rfl) rfl ?_
  obtain ⟨I1, k1, t0⟩ := px_thr (v := nI 0) hI
  generalize ix_up h 100 0 (nI 0) = h1 at I1 k1 t0 ⊢
  rw [← pf_lou_kp k1]
  obtain ⟨⟨l1, l2, l3, l4, l5, l6, l7, l8, l9⟩, lw, -, nw, -⟩ := I1
  refine w_al (j := 4) rfl rfl rfl ?_
  refine w_il (j := 5) rfl rfl rfl ?_
  refine w_ic (n := 0) (j := 6) rfl rfl ?_
  refine w_ic (n := 1) (j := 7) rfl rfl ?_
  refine w_csI (j := 8) rfl rfl rfl rfl rfl (sp_155) rfl ?_
  rw [px_ofN hm (by decide)]
  refine w_neB (j := 9) rfl rfl (fun _ => ?_) (fun c => absurd c (by simp))
  refine w_ic (n := 0) (j := 12) rfl rfl ?_
  refine w_ic (n := 1) (j := 13) rfl rfl ?_
  refine w_ic (n := 1) (j := 14) rfl rfl ?_
  refine w_cvI (j := 15) rfl rfl rfl rfl (by first | assumption | rfl) rfl rfl (sp_154f t0) rfl ?_
  refine w_eqB (j := 16) rfl rfl (fun _ => ?_) (fun c => absurd c (by simp))
  refine w_im (j := 19) rfl rfl ?_
  refine w_is (j := 20) rfl rfl rfl ?_
  refine w_im (j := 21) rfl rfl ?_
  refine w_is (j := 22) rfl rfl rfl ?_
  refine w_ic (n := 0) (j := 23) rfl rfl ?_
  refine w_iS (j := 24) rfl rfl rfl ?_
  refine px_for (fun c s => [.ref 100, .int (nI m), .int s.1, .int s.2, .int (nI c)]) (fun _ => h1) (pf_ld h1) N (-1, -1) (fun _ _ => True) trivial (fun _ _ _ _ => trivial) ?_ ?_
  · intro c s hc _ H
    have pl : h1 67 c = h1 577 c := (nw.2.2.1 c (by omega)).1
    have st : h1 65 c = h1 577 (8 + c) := (nw.1 c (by omega)).1
    rw [pf_ld, pl, st] at H
    refine w_iL (j := 25) rfl rfl rfl ?_
    refine w_al (j := 26) rfl rfl rfl ?_
    first | refine w_gr (j := 27) rfl rfl (by first | assumption | rfl) (by first | assumption | rfl) rfl ?_ | refine w_gi (j := 27) rfl rfl (by first | assumption | rfl) (by first | assumption | rfl) rfl rfl ?_
    refine w_ic (n := 1) (j := 28) rfl rfl ?_
    refine w_ial (j := 29) rfl rfl (by first | assumption | rfl) rfl (by omega) rfl l5 ?_
    refine w_geN (j := 30) rfl rfl (by omega) (by omega) (fun c => absurd c (fun c => by omega)) (fun _ => ?_)
    refine w_al (j := 31) rfl rfl rfl ?_
    first | refine w_gr (j := 32) rfl rfl (by first | assumption | rfl) (by first | assumption | rfl) rfl ?_ | refine w_gi (j := 32) rfl rfl (by first | assumption | rfl) (by first | assumption | rfl) rfl rfl ?_
    refine w_ic (n := 0) (j := 33) rfl rfl ?_
    refine w_iL (j := 34) rfl rfl rfl ?_
    first | refine w_add0 (j := 35) rfl rfl ?_ | refine w_addN (j := 35) rfl rfl ?_ | refine w_add (j := 35) rfl rfl ?_
    refine w_ial (j := 36) rfl rfl (by first | assumption | rfl) rfl (by omega) rfl rfl ?_
    refine w_bi (j := 37) (a := (-2)) rfl rfl (by decide) ?_
    refine w_eq (j := 38) rfl rfl (fun c3 => ?_) (fun c3 => ?_)
    ·
      first | refine w_incN (j := 57) rfl rfl rfl ?_ | refine w_inc (j := 57) rfl rfl rfl rfl ?_
      refine w_go rfl ?_
      rw [if_neg (fun q => q.1 c3)] at H
      exact H
    refine w_al (j := 39) rfl rfl rfl ?_
    first | refine w_gr (j := 40) rfl rfl (by first | assumption | rfl) (by first | assumption | rfl) rfl ?_ | refine w_gi (j := 40) rfl rfl (by first | assumption | rfl) (by first | assumption | rfl) rfl rfl ?_
    refine w_bi (j := 41) (a := nI 8) rfl rfl (by decide) ?_
    refine w_iL (j := 42) rfl rfl rfl ?_
    first | refine w_add0 (j := 43) rfl rfl ?_ | refine w_addN (j := 43) rfl rfl ?_ | refine w_add (j := 43) rfl rfl ?_
    refine w_ial (j := 44) rfl rfl (by first | assumption | rfl) rfl (by omega) rfl rfl ?_
    refine w_il (j := 45) rfl rfl rfl ?_
    refine w_gt (j := 46) rfl rfl (fun c4 => ?_) (fun c4 => ?_)
    ·
      refine w_iL (j := 48) rfl rfl rfl ?_
      refine w_is (j := 49) rfl rfl rfl ?_
      refine w_al (j := 50) rfl rfl rfl ?_
      first | refine w_gr (j := 51) rfl rfl (by first | assumption | rfl) (by first | assumption | rfl) rfl ?_ | refine w_gi (j := 51) rfl rfl (by first | assumption | rfl) (by first | assumption | rfl) rfl rfl ?_
      refine w_bi (j := 52) (a := nI 8) rfl rfl (by decide) ?_
      refine w_iL (j := 53) rfl rfl rfl ?_
      first | refine w_add0 (j := 54) rfl rfl ?_ | refine w_addN (j := 54) rfl rfl ?_ | refine w_add (j := 54) rfl rfl ?_
      refine w_ial (j := 55) rfl rfl (by first | assumption | rfl) rfl (by omega) rfl rfl ?_
      refine w_is (j := 56) rfl rfl rfl ?_
      first | refine w_incN (j := 57) rfl rfl rfl ?_ | refine w_inc (j := 57) rfl rfl rfl rfl ?_
      refine w_go rfl ?_
      rw [if_pos ⟨c3, c4⟩] at H
      exact H
    ·
      refine w_go rfl ?_
      first | refine w_incN (j := 57) rfl rfl rfl ?_ | refine w_inc (j := 57) rfl rfl rfl rfl ?_
      refine w_go rfl ?_
      rw [if_neg (fun q => px_not_lt.mpr c4 q.2)] at H
      exact H
  · intro _
    refine w_iL (j := 25) rfl rfl rfl ?_
    refine w_al (j := 26) rfl rfl rfl ?_
    first | refine w_gr (j := 27) rfl rfl (by first | assumption | rfl) (by first | assumption | rfl) rfl ?_ | refine w_gi (j := 27) rfl rfl (by first | assumption | rfl) (by first | assumption | rfl) rfl rfl ?_
    refine w_ic (n := 1) (j := 28) rfl rfl ?_
    refine w_ial (j := 29) rfl rfl (by first | assumption | rfl) rfl (by omega) rfl l5 ?_
    refine w_geN (j := 30) rfl rfl (by omega) (by omega) (fun _ => ?_) (fun c => absurd c (fun c => by omega))
    refine w_il (j := 59) rfl rfl rfl ?_
    refine w_neM (j := 60) rfl rfl (by omega) (fun c3 => ?_) (fun c3 => ?_)
    ·
      refine w_il (j := 63) rfl rfl rfl ?_
      refine w_ir rfl ?_
      exact ⟨_, _, rfl, by rw [pf_lou, if_neg c3], t0, k1⟩
    ·
      refine w_il (j := 61) rfl rfl rfl ?_
      refine w_go rfl ?_
      refine w_ir rfl ?_
      exact ⟨_, _, rfl, by rw [pf_lou, if_pos c3], t0, k1⟩
-- grown
theorem sp_85 {x c : Nat} (hx : px_St x) (hc : c < 8) (hN : h 3 7 = nI N) (hN8 : N ≤ 8) : px_V 2 85 [.ref x, .int (nI c)] h (some (.int (px_b (decide (c < N ∧ h (x + 3) c ≠ -2 ∧ h 3 8 ≤ h (x + 2) c))))) h := by
  obtain ⟨x1, x2, x3, x4, x5, x6, x7⟩ := hx
  refine px_M (M := mt_85) (ops := mo_85) tb_85 rfl rfl rfl rfl rfl ?_
  refine w_al (j := 1) rfl rfl rfl ?_
  first | refine w_gr (j := 2) rfl rfl (by first | assumption | rfl) (by first | assumption | rfl) rfl ?_ | refine w_gi (j := 2) rfl rfl (by first | assumption | rfl) (by first | assumption | rfl) rfl rfl ?_
  refine w_il (j := 3) rfl rfl rfl ?_
  refine w_cvI (j := 4) rfl rfl rfl rfl (by first | assumption | rfl) rfl rfl (sp_26 px_Ld3) rfl ?_
  rw [hN, show decide (0 ≤ nI c ∧ nI c < nI N) = decide (c < N) from px_dec_congr ⟨fun q => (px_nlt (by omega) (by omega)).mp q.2, fun q => ⟨px_nle0 (by omega), nI_lt q (by omega)⟩⟩]
  by_cases hcN : c < N
  · rw [decide_eq_true hcN]
    refine w_eqB (j := 5) rfl rfl (fun c => absurd c (by simp)) (fun _ => ?_)
    refine w_al (j := 6) rfl rfl rfl ?_
    first | refine w_gr (j := 7) rfl rfl (by first | assumption | rfl) (by first | assumption | rfl) rfl ?_ | refine w_gi (j := 7) rfl rfl (by first | assumption | rfl) (by first | assumption | rfl) rfl rfl ?_
    refine w_il (j := 8) rfl rfl rfl ?_
    refine w_ial (j := 9) rfl rfl (by first | assumption | rfl) rfl (by omega) rfl rfl ?_
    refine w_bi (j := 10) (a := (-2)) rfl rfl (by decide) ?_
    refine w_eq (j := 11) rfl rfl (fun c1 => ?_) (fun c1 => ?_)
    ·
      refine w_ic (n := 0) (j := 22) rfl rfl ?_
      refine w_irB rfl (by first | exact Or.inl rfl | exact Or.inr rfl | exact px_b01 _) ?_
      exact px_rb0 (fun q => q.2.1 c1)
    refine w_al (j := 12) rfl rfl rfl ?_
    first | refine w_gr (j := 13) rfl rfl (by first | assumption | rfl) (by first | assumption | rfl) rfl ?_ | refine w_gi (j := 13) rfl rfl (by first | assumption | rfl) (by first | assumption | rfl) rfl rfl ?_
    refine w_il (j := 14) rfl rfl rfl ?_
    refine w_ial (j := 15) rfl rfl (by first | assumption | rfl) rfl (by omega) rfl rfl ?_
    refine w_al (j := 16) rfl rfl rfl ?_
    first | refine w_gr (j := 17) rfl rfl (by first | assumption | rfl) (by first | assumption | rfl) rfl ?_ | refine w_gi (j := 17) rfl rfl (by first | assumption | rfl) (by first | assumption | rfl) rfl rfl ?_
    first | refine w_gr (j := 18) rfl rfl (by first | assumption | rfl) (by first | assumption | rfl) rfl ?_ | refine w_gi (j := 18) rfl rfl (by first | assumption | rfl) (by first | assumption | rfl) rfl rfl ?_
    refine w_lt (j := 19) rfl rfl (fun c2 => ?_) (fun c2 => ?_)
    ·
      refine w_ic (n := 0) (j := 22) rfl rfl ?_
      refine w_irB rfl (by first | exact Or.inl rfl | exact Or.inr rfl | exact px_b01 _) ?_
      exact px_rb0 (fun q => px_not_lt.mpr q.2.2 c2)
    refine w_ic (n := 1) (j := 20) rfl rfl ?_
    refine w_go rfl ?_
    refine w_irB rfl (by first | exact Or.inl rfl | exact Or.inr rfl | exact px_b01 _) ?_
    exact px_rb1 ⟨hcN, c1, c2⟩
  · rw [decide_eq_false hcN]
    refine w_eqB (j := 5) rfl rfl (fun _ => ?_) (fun c => absurd c (by simp))
    refine w_ic (n := 0) (j := 22) rfl rfl ?_
    refine w_irB rfl (by first | exact Or.inl rfl | exact Or.inr rfl | exact px_b01 _) ?_
    exact px_rb0 (fun q => hcN q.1)
def pf_gro (h : ix_H) (N : Nat) : Int32 := px_fold (pf_fb (fun c => h 67 c ≠ -2 ∧ h 3 8 ≤ h 66 c)) N (nI 0)
theorem pf_gro_kp {h h' : ix_H} (k : px_kp h h') : pf_gro h' N = pf_gro h N := by unfold pf_gro; rw [k.1 67 (by decide), k.1 66 (by decide), k.1 3 (by decide)]
theorem C_grown (hI : px_I h B N T cs L W I t) : px_V 3 137 [.ref 0] h (some (.int (pf_gro h N))) h := by
  obtain ⟨⟨l1, l2, l3, l4, l5, l6, l7, l8, l9⟩, lw, -, nw, -⟩ := hI
  refine px_M (M := mt_137) (ops := mo_137) tb_137 rfl rfl rfl rfl rfl ?_
  refine w_ic (n := 0) (j := 1) rfl rfl ?_
  refine w_is (j := 2) rfl rfl rfl ?_
  refine w_ic (n := 0) (j := 3) rfl rfl ?_
  refine w_is (j := 4) rfl rfl rfl ?_
  refine px_for (fun c s => [.ref 0, .int s, .int (nI c)]) (fun _ => h) (pf_fb (fun c => h 67 c ≠ -2 ∧ h 3 8 ≤ h 66 c)) N (nI 0) (fun _ _ => True) trivial (fun _ _ _ _ => trivial) ?_ ?_
  · intro c s hc _ H
    refine w_il (j := 5) rfl rfl rfl ?_
    refine w_al (j := 6) rfl rfl rfl ?_
    first | refine w_gr (j := 7) rfl rfl (by first | assumption | rfl) (by first | assumption | rfl) rfl ?_ | refine w_gi (j := 7) rfl rfl (by first | assumption | rfl) (by first | assumption | rfl) rfl rfl ?_
    first | refine w_gr (j := 8) rfl rfl (by first | assumption | rfl) (by first | assumption | rfl) rfl ?_ | refine w_gi (j := 8) rfl rfl (by first | assumption | rfl) (by first | assumption | rfl) rfl l4 ?_
    refine w_geN (j := 9) rfl rfl (by omega) (by omega) (fun c => absurd c (fun c => by omega)) (fun _ => ?_)
    refine w_al (j := 10) rfl rfl rfl ?_
    first | refine w_gr (j := 11) rfl rfl (by first | assumption | rfl) (by first | assumption | rfl) rfl ?_ | refine w_gi (j := 11) rfl rfl (by first | assumption | rfl) (by first | assumption | rfl) rfl rfl ?_
    refine w_il (j := 12) rfl rfl rfl ?_
    refine w_cvI (j := 13) rfl rfl rfl rfl (by first | assumption | rfl) rfl rfl (sp_85 px_St64 (by omega) l4 l6) rfl ?_
    refine w_eqB (j := 14) rfl rfl (fun c1 => ?_) (fun c1 => ?_)
    ·
      first | refine w_incN (j := 21) rfl rfl rfl ?_ | refine w_inc (j := 21) rfl rfl rfl rfl ?_
      refine w_go rfl ?_
      rw [pf_fb, if_neg (fun q => absurd ⟨hc, q⟩ (of_decide_eq_false c1))] at H
      exact H
    ·
      refine w_il (j := 15) rfl rfl rfl ?_
      refine w_ic (n := 1) (j := 16) rfl rfl ?_
      refine w_il (j := 17) rfl rfl rfl ?_
      refine w_shl (j := 18) rfl rfl ?_
      refine w_or (j := 19) rfl rfl ?_
      refine w_is (j := 20) rfl rfl rfl ?_
      first | refine w_incN (j := 21) rfl rfl rfl ?_ | refine w_inc (j := 21) rfl rfl rfl rfl ?_
      refine w_go rfl ?_
      rw [pf_fb, if_pos (of_decide_eq_true c1).2] at H
      exact H
  · intro _
    refine w_il (j := 5) rfl rfl rfl ?_
    refine w_al (j := 6) rfl rfl rfl ?_
    first | refine w_gr (j := 7) rfl rfl (by first | assumption | rfl) (by first | assumption | rfl) rfl ?_ | refine w_gi (j := 7) rfl rfl (by first | assumption | rfl) (by first | assumption | rfl) rfl rfl ?_
    first | refine w_gr (j := 8) rfl rfl (by first | assumption | rfl) (by first | assumption | rfl) rfl ?_ | refine w_gi (j := 8) rfl rfl (by first | assumption | rfl) (by first | assumption | rfl) rfl l4 ?_
    refine w_geN (j := 9) rfl rfl (by omega) (by omega) (fun _ => ?_) (fun c => absurd c (fun c => by omega))
    refine w_il (j := 23) rfl rfl rfl ?_
    refine w_ir rfl ?_
    rfl
theorem sp_204 {r c : Nat} (hr : px_Rw r) (hc : c < 8) : px_V 1 204 [.ref 100, .ref r, .int (nI c)] h (some (.int (px_b (decide (h r c ≠ -2 ∧ h 104 2 ≤ h r (16 + c)))))) h := by
  obtain ⟨r1, r2, r3⟩ := hr
  refine px_M (M := mt_204) (ops := mo_204) tb_204 rfl rfl rfl rfl rfl ?_
  refine w_al (j := 1) rfl rfl rfl ?_
  refine w_ic (n := 0) (j := 2) rfl rfl ?_
  refine w_il (j := 3) rfl rfl rfl ?_
  first | refine w_add0 (j := 4) rfl rfl ?_ | refine w_addN (j := 4) rfl rfl ?_ | refine w_add (j := 4) rfl rfl ?_
  refine w_ial (j := 5) rfl rfl (by first | assumption | rfl) rfl (by omega) rfl rfl ?_
  refine w_bi (j := 6) (a := (-2)) rfl rfl (by decide) ?_
  refine w_eq (j := 7) rfl rfl (fun c1 => ?_) (fun c1 => ?_)
  ·
    refine w_ic (n := 0) (j := 20) rfl rfl ?_
    refine w_irB rfl (by first | exact Or.inl rfl | exact Or.inr rfl | exact px_b01 _) ?_
    exact px_rb0 (fun q => q.1 c1)
  refine w_al (j := 8) rfl rfl rfl ?_
  refine w_bi (j := 9) (a := nI 16) rfl rfl (by decide) ?_
  refine w_il (j := 10) rfl rfl rfl ?_
  first | refine w_add0 (j := 11) rfl rfl ?_ | refine w_addN (j := 11) rfl rfl ?_ | refine w_add (j := 11) rfl rfl ?_
  refine w_ial (j := 12) rfl rfl (by first | assumption | rfl) rfl (by omega) rfl rfl ?_
  refine w_al (j := 13) rfl rfl rfl ?_
  first | refine w_gr (j := 14) rfl rfl (by first | assumption | rfl) (by first | assumption | rfl) rfl ?_ | refine w_gi (j := 14) rfl rfl (by first | assumption | rfl) (by first | assumption | rfl) rfl rfl ?_
  refine w_ic (n := 2) (j := 15) rfl rfl ?_
  refine w_ial (j := 16) rfl rfl (by first | assumption | rfl) rfl (by omega) rfl rfl ?_
  refine w_lt (j := 17) rfl rfl (fun c2 => ?_) (fun c2 => ?_)
  ·
    refine w_ic (n := 0) (j := 20) rfl rfl ?_
    refine w_irB rfl (by first | exact Or.inl rfl | exact Or.inr rfl | exact px_b01 _) ?_
    exact px_rb0 (fun q => px_not_lt.mpr q.2 c2)
  refine w_ic (n := 1) (j := 18) rfl rfl ?_
  refine w_go rfl ?_
  refine w_irB rfl (by first | exact Or.inl rfl | exact Or.inr rfl | exact px_b01 _) ?_
  exact px_rb1 ⟨c1, c2⟩
theorem M_grown (hI : px_I h B N T cs L W I t) : px_PI 2 246 [.ref 100] h (fun w h2 => w = pf_gro h N ∧ h2 100 0 = nI 0 ∧ px_kp h h2) := by
  refine px_M (M := mt_246) (ops := mo_246) tb_246 rfl rfl rfl rfl rfl ?_
  refine w_al (j := 1) rfl rfl rfl ?_
  refine w_ic (n := 0) (j := 2) rfl rfl ?_
  refine w_pf (j := 3) rfl rfl (by first | assumption | rfl) (by first | assumption | rfl) rfl ?_
  obtain ⟨I1, k1, t0⟩ := px_thr (v := nI 0) hI
  generalize ix_up h 100 0 (nI 0) = h1 at I1 k1 t0 ⊢
  rw [← pf_gro_kp k1]
  obtain ⟨⟨l1, l2, l3, l4, l5, l6, l7, l8, l9⟩, lw, -, nw, -⟩ := I1
  unfold pf_gro
  rw [← pf_fm_eq, show h1 3 8 = h1 104 2 by rw [l7, l8]]
  refine w_ic (n := 0) (j := 4) rfl rfl ?_
  refine w_is (j := 5) rfl rfl rfl ?_
  refine w_ic (n := 0) (j := 6) rfl rfl ?_
  refine w_is (j := 7) rfl rfl rfl ?_
  refine px_for (fun c s => [.ref 100, .int s, .int (nI c)]) (fun _ => h1) (pf_fm (fun c => h1 67 c ≠ -2 ∧ h1 104 2 ≤ h1 66 c)) N (nI 0) (fun _ _ => True) trivial (fun _ _ _ _ => trivial) ?_ ?_
  · intro c s hc _ H
    have pl : h1 67 c = h1 577 c := (nw.2.2.1 c (by omega)).1
    have ag : h1 66 c = h1 577 (16 + c) := nw.2.1 c (by omega)
    rw [pf_fm, pl, ag] at H
    refine w_il (j := 8) rfl rfl rfl ?_
    refine w_al (j := 9) rfl rfl rfl ?_
    first | refine w_gr (j := 10) rfl rfl (by first | assumption | rfl) (by first | assumption | rfl) rfl ?_ | refine w_gi (j := 10) rfl rfl (by first | assumption | rfl) (by first | assumption | rfl) rfl rfl ?_
    refine w_ic (n := 1) (j := 11) rfl rfl ?_
    refine w_ial (j := 12) rfl rfl (by first | assumption | rfl) rfl (by omega) rfl l5 ?_
    refine w_geN (j := 13) rfl rfl (by omega) (by omega) (fun c => absurd c (fun c => by omega)) (fun _ => ?_)
    refine w_il (j := 14) rfl rfl rfl ?_
    refine w_al (j := 15) rfl rfl rfl ?_
    refine w_al (j := 16) rfl rfl rfl ?_
    first | refine w_gr (j := 17) rfl rfl (by first | assumption | rfl) (by first | assumption | rfl) rfl ?_ | refine w_gi (j := 17) rfl rfl (by first | assumption | rfl) (by first | assumption | rfl) rfl rfl ?_
    refine w_il (j := 18) rfl rfl rfl ?_
    refine w_cvI (j := 19) rfl rfl rfl rfl (by first | assumption | rfl) rfl rfl (sp_204 px_Rw577 (by omega)) rfl ?_
    refine w_eqB (j := 20) rfl rfl (fun c1 => ?_) (fun c1 => ?_)
    ·
      refine w_ic (n := 0) (j := 25) rfl rfl ?_
      refine w_or (j := 26) rfl rfl ?_
      refine w_is (j := 27) rfl rfl rfl ?_
      first | refine w_incN (j := 28) rfl rfl rfl ?_ | refine w_inc (j := 28) rfl rfl rfl rfl ?_
      refine w_go rfl ?_
      rw [if_neg (of_decide_eq_false c1)] at H
      exact H
    ·
      refine w_ic (n := 1) (j := 21) rfl rfl ?_
      refine w_il (j := 22) rfl rfl rfl ?_
      refine w_shl (j := 23) rfl rfl ?_
      refine w_go rfl ?_
      refine w_or (j := 26) rfl rfl ?_
      refine w_is (j := 27) rfl rfl rfl ?_
      first | refine w_incN (j := 28) rfl rfl rfl ?_ | refine w_inc (j := 28) rfl rfl rfl rfl ?_
      refine w_go rfl ?_
      rw [if_pos (of_decide_eq_true c1)] at H
      exact H
  · intro _
    refine w_il (j := 8) rfl rfl rfl ?_
    refine w_al (j := 9) rfl rfl rfl ?_
    first | refine w_gr (j := 10) rfl rfl (by first | assumption | rfl) (by first | assumption | rfl) rfl ?_ | refine w_gi (j := 10) rfl rfl (by first | assumption | rfl) (by first | assumption | rfl) rfl rfl ?_
    refine w_ic (n := 1) (j := 11) rfl rfl ?_
    refine w_ial (j := 12) rfl rfl (by first | assumption | rfl) rfl (by omega) rfl l5 ?_
    refine w_geN (j := 13) rfl rfl (by omega) (by omega) (fun _ => ?_) (fun c => absurd c (fun c => by omega))
    refine w_il (j := 30) rfl rfl rfl ?_
    refine w_ir rfl ?_
    exact ⟨_, _, rfl, rfl, t0, k1⟩
-- room
def pf_rm1 (h : ix_H) (N b : Nat) (v : Int32) : Int32 := v + (h 5 b - nI (pf_ct (h 67) (nI b) N))
def pf_room (h : ix_H) (B N : Nat) : Int32 := px_fold (pf_rm1 h N) B (nI 0)
theorem pf_room_kp {h h' : ix_H} (k : px_kp h h') : pf_room h' B N = pf_room h B N := by
  have e : pf_rm1 h' N = pf_rm1 h N := by funext b v; unfold pf_rm1; rw [k.1 5 (by decide), k.1 67 (by decide)]
  unfold pf_room
  rw [e]
theorem C_room (hI : px_I h B N T cs L W I t) : px_V 3 138 [.ref 0] h (some (.int (pf_room h B N))) h := by
  obtain ⟨⟨l1, l2, l3, l4, l5, l6, l7, l8, l9⟩, lw, -, nw, -⟩ := hI
  refine px_M (M := mt_138) (ops := mo_138) tb_138 rfl rfl rfl rfl rfl ?_
  refine w_ic (n := 0) (j := 1) rfl rfl ?_
  refine w_is (j := 2) rfl rfl rfl ?_
  refine w_ic (n := 0) (j := 3) rfl rfl ?_
  refine w_is (j := 4) rfl rfl rfl ?_
  refine px_for (fun c s => [.ref 0, .int s, .int (nI c)]) (fun _ => h) (pf_rm1 h N) B (nI 0) (fun _ _ => True) trivial (fun _ _ _ _ => trivial) ?_ ?_
  · intro c s hc _ H
    refine w_il (j := 5) rfl rfl rfl ?_
    refine w_al (j := 6) rfl rfl rfl ?_
    first | refine w_gr (j := 7) rfl rfl (by first | assumption | rfl) (by first | assumption | rfl) rfl ?_ | refine w_gi (j := 7) rfl rfl (by first | assumption | rfl) (by first | assumption | rfl) rfl rfl ?_
    first | refine w_gr (j := 8) rfl rfl (by first | assumption | rfl) (by first | assumption | rfl) rfl ?_ | refine w_gi (j := 8) rfl rfl (by first | assumption | rfl) (by first | assumption | rfl) rfl l1 ?_
    refine w_geN (j := 9) rfl rfl (by omega) (by omega) (fun c => absurd c (fun c => by omega)) (fun _ => ?_)
    refine w_il (j := 10) rfl rfl rfl ?_
    refine w_al (j := 11) rfl rfl rfl ?_
    first | refine w_gr (j := 12) rfl rfl (by first | assumption | rfl) (by first | assumption | rfl) rfl ?_ | refine w_gi (j := 12) rfl rfl (by first | assumption | rfl) (by first | assumption | rfl) rfl rfl ?_
    first | refine w_gr (j := 13) rfl rfl (by first | assumption | rfl) (by first | assumption | rfl) rfl ?_ | refine w_gi (j := 13) rfl rfl (by first | assumption | rfl) (by first | assumption | rfl) rfl rfl ?_
    refine w_il (j := 14) rfl rfl rfl ?_
    refine w_ial (j := 15) rfl rfl (by first | assumption | rfl) rfl (by omega) rfl rfl ?_
    refine w_al (j := 16) rfl rfl rfl ?_
    first | refine w_gr (j := 17) rfl rfl (by first | assumption | rfl) (by first | assumption | rfl) rfl ?_ | refine w_gi (j := 17) rfl rfl (by first | assumption | rfl) (by first | assumption | rfl) rfl rfl ?_
    refine w_il (j := 18) rfl rfl rfl ?_
    refine w_cvI (j := 19) rfl rfl rfl rfl (by first | assumption | rfl) rfl rfl (sp_77 px_St64 l4 l6) rfl ?_
    refine w_csI (j := 20) rfl rfl rfl rfl rfl (sp_259) rfl ?_
    rw [pf_bck l6]
    first | refine w_subN (j := 21) rfl rfl (by omega) ?_ | refine w_sub (j := 21) rfl rfl ?_
    first | refine w_add0 (j := 22) rfl rfl ?_ | refine w_addN (j := 22) rfl rfl ?_ | refine w_add (j := 22) rfl rfl ?_
    refine w_is (j := 23) rfl rfl rfl ?_
    first | refine w_incN (j := 24) rfl rfl rfl ?_ | refine w_inc (j := 24) rfl rfl rfl rfl ?_
    refine w_go rfl ?_
    exact H
  · intro _
    refine w_il (j := 5) rfl rfl rfl ?_
    refine w_al (j := 6) rfl rfl rfl ?_
    first | refine w_gr (j := 7) rfl rfl (by first | assumption | rfl) (by first | assumption | rfl) rfl ?_ | refine w_gi (j := 7) rfl rfl (by first | assumption | rfl) (by first | assumption | rfl) rfl rfl ?_
    first | refine w_gr (j := 8) rfl rfl (by first | assumption | rfl) (by first | assumption | rfl) rfl ?_ | refine w_gi (j := 8) rfl rfl (by first | assumption | rfl) (by first | assumption | rfl) rfl l1 ?_
    refine w_geN (j := 9) rfl rfl (by omega) (by omega) (fun _ => ?_) (fun c => absurd c (fun c => by omega))
    refine w_il (j := 26) rfl rfl rfl ?_
    refine w_ir rfl ?_
    rfl
theorem pf_ct_congr {p p' : Nat → Int32} {v : Int32} : ∀ {N : Nat}, (∀ c, c < N → p c = p' c) → pf_ct p v N = pf_ct p' v N
  | 0, _ => rfl
  | N + 1, hh => by rw [pf_ct, pf_ct, pf_ct_congr (fun c hc => hh c (by omega)), hh N (by omega)]
theorem M_room (hI : px_I h B N T cs L W I t) : px_PI 2 247 [.ref 100] h (fun w h2 => w = pf_room h B N ∧ h2 100 0 = nI 0 ∧ px_kp h h2) := by
  refine px_M (M := mt_247) (ops := mo_247) tb_247 rfl rfl rfl rfl rfl ?_
  refine w_al (j := 1) rfl rfl rfl ?_
  refine w_ic (n := 0) (j := 2) rfl rfl ?_
  refine w_pf (j := 3) rfl rfl (by first | assumption | rfl) (by first | assumption | rfl) rfl ?_
  obtain ⟨I1, k1, t0⟩ := px_thr (v := nI 0) hI
  generalize ix_up h 100 0 (nI 0) = h1 at I1 k1 t0 ⊢
  rw [← pf_room_kp k1]
  obtain ⟨⟨l1, l2, l3, l4, l5, l6, l7, l8, l9, l10, l11, l12, l13, l14, l15⟩, lw, -, nw, -⟩ := I1
  refine w_ic (n := 0) (j := 4) rfl rfl ?_
  refine w_is (j := 5) rfl rfl rfl ?_
  refine w_ic (n := 0) (j := 6) rfl rfl ?_
  refine w_is (j := 7) rfl rfl rfl ?_
  refine px_for (fun c s => [.ref 100, .int s, .int (nI c)]) (fun _ => h1) (pf_rm1 h1 N) B (nI 0) (fun _ _ => True) trivial (fun _ _ _ _ => trivial) ?_ ?_
  · intro c s hc _ H
    rw [pf_rm1, (l12 c hc).2.1, pf_ct_congr (p' := h1 577) (fun j hj => (nw.2.2.1 j (by omega)).1)] at H
    have s1 := sh_113 c (by omega)
    refine w_il (j := 8) rfl rfl rfl ?_
    refine w_al (j := 9) rfl rfl rfl ?_
    first | refine w_gr (j := 10) rfl rfl (by first | assumption | rfl) (by first | assumption | rfl) rfl ?_ | refine w_gi (j := 10) rfl rfl (by first | assumption | rfl) (by first | assumption | rfl) rfl rfl ?_
    refine w_ic (n := 0) (j := 11) rfl rfl ?_
    refine w_ial (j := 12) rfl rfl (by first | assumption | rfl) rfl (by omega) rfl l2 ?_
    refine w_geN (j := 13) rfl rfl (by omega) (by omega) (fun c => absurd c (fun c => by omega)) (fun _ => ?_)
    refine w_il (j := 14) rfl rfl rfl ?_
    refine w_al (j := 15) rfl rfl rfl ?_
    first | refine w_gr (j := 16) rfl rfl (by first | assumption | rfl) (by first | assumption | rfl) rfl ?_ | refine w_gi (j := 16) rfl rfl (by first | assumption | rfl) (by first | assumption | rfl) rfl rfl ?_
    refine w_il (j := 17) rfl rfl rfl ?_
    refine w_aal (j := 18) rfl rfl (by first | assumption | rfl) rfl (by omega) rfl ?_
    refine w_ic (n := 1) (j := 19) rfl rfl ?_
    refine w_ial (j := 20) rfl rfl (by first | assumption | rfl) rfl (by omega) rfl rfl ?_
    refine w_al (j := 21) rfl rfl rfl ?_
    refine w_al (j := 22) rfl rfl rfl ?_
    first | refine w_gr (j := 23) rfl rfl (by first | assumption | rfl) (by first | assumption | rfl) rfl ?_ | refine w_gi (j := 23) rfl rfl (by first | assumption | rfl) (by first | assumption | rfl) rfl rfl ?_
    refine w_il (j := 24) rfl rfl rfl ?_
    refine w_cvI (j := 25) rfl rfl rfl rfl (by first | assumption | rfl) rfl rfl (sp_197 px_Rw577 l5 l6) rfl ?_
    first | refine w_subN (j := 26) rfl rfl (by omega) ?_ | refine w_sub (j := 26) rfl rfl ?_
    first | refine w_add0 (j := 27) rfl rfl ?_ | refine w_addN (j := 27) rfl rfl ?_ | refine w_add (j := 27) rfl rfl ?_
    refine w_is (j := 28) rfl rfl rfl ?_
    first | refine w_incN (j := 29) rfl rfl rfl ?_ | refine w_inc (j := 29) rfl rfl rfl rfl ?_
    refine w_go rfl ?_
    exact H
  · intro _
    refine w_il (j := 8) rfl rfl rfl ?_
    refine w_al (j := 9) rfl rfl rfl ?_
    first | refine w_gr (j := 10) rfl rfl (by first | assumption | rfl) (by first | assumption | rfl) rfl ?_ | refine w_gi (j := 10) rfl rfl (by first | assumption | rfl) (by first | assumption | rfl) rfl rfl ?_
    refine w_ic (n := 0) (j := 11) rfl rfl ?_
    refine w_ial (j := 12) rfl rfl (by first | assumption | rfl) rfl (by omega) rfl l2 ?_
    refine w_geN (j := 13) rfl rfl (by omega) (by omega) (fun _ => ?_) (fun c => absurd c (fun c => by omega))
    refine w_il (j := 31) rfl rfl rfl ?_
    refine w_ir rfl ?_
    exact ⟨_, _, rfl, rfl, t0, k1⟩
end OPS
