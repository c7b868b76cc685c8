section RO
variable {h : ix_H} {B N T L W I t : Nat} {cs : List (Nat × Nat)}
def px_dp (h h2 : ix_H) (w : Nat → Nat → Nat) : Prop := (∀ q, (q < 653 ∨ 716 < q) → h2 q = h q) ∧ ∀ s x, s < 64 → x < 6 → h2 (653 + s) x = nI (w s x)
theorem pf_wn_s {F : Nat → Nat → Nat} {bays S b n : Nat} {w : Nat → Nat → Nat} : pf_wn F bays S b w (n + 1) = fun s x => if w S b < 100000 ∧ bays / 2 ^ n % 2 = 1 ∧ S / 2 ^ n % 2 = 0 ∧ x = n ∧ s = S + 2 ^ n then min (w s x) (w S b + F b n) else pf_wn F bays S b w n s x := by
  funext s x
  unfold pf_wn
  by_cases hx : x = n
  · subst hx
    by_cases hc : w S b < 100000 ∧ bays / 2 ^ x % 2 = 1 ∧ S / 2 ^ x % 2 = 0 ∧ s = S + 2 ^ x
    · obtain ⟨c1, c2, c3, c4⟩ := hc
      rw [if_pos ⟨c1, c2, c3, by omega, c4⟩, if_pos ⟨c1, c2, c3, rfl, c4⟩]
    · rw [if_neg (fun q => hc ⟨q.1, q.2.1, q.2.2.1, q.2.2.2.2⟩), if_neg (fun q => hc ⟨q.1, q.2.1, q.2.2.1, q.2.2.2.2⟩), if_neg (fun q => hc ⟨q.1, q.2.1, q.2.2.1, q.2.2.2.2⟩)]
  · by_cases hc : w S b < 100000 ∧ bays / 2 ^ x % 2 = 1 ∧ S / 2 ^ x % 2 = 0 ∧ x < n ∧ s = S + 2 ^ x
    · obtain ⟨c1, c2, c3, c4, c5⟩ := hc
      rw [if_pos ⟨c1, c2, c3, by omega, c5⟩, if_neg (fun q => hx q.2.2.2.1), if_pos ⟨c1, c2, c3, c4, c5⟩]
    · rw [if_neg (fun q => hc ⟨q.1, q.2.1, q.2.2.1, by omega, q.2.2.2.2⟩), if_neg (fun q => hx q.2.2.2.1), if_neg hc]
theorem pf_wn_self {F : Nat → Nat → Nat} {bays S b n x : Nat} {w : Nat → Nat → Nat} : pf_wn F bays S b w n S x = w S x := by
  unfold pf_wn
  have := Nat.two_pow_pos x
  rw [if_neg (fun q => by omega)]
theorem pf_wn_next {F : Nat → Nat → Nat} {bays S b n : Nat} {w : Nat → Nat → Nat} : pf_wn F bays S b w n (S + 2 ^ n) n = w (S + 2 ^ n) n := by
  unfold pf_wn
  rw [if_neg (fun q => by omega)]
theorem pf_wn_0 {F : Nat → Nat → Nat} {bays S b : Nat} {w : Nat → Nat → Nat} : pf_wn F bays S b w 0 = w := by
  funext s x
  unfold pf_wn
  rw [if_neg (fun q => by omega)]
theorem pf_wn_big {F : Nat → Nat → Nat} {bays S b n : Nat} {w : Nat → Nat → Nat} (hw : ¬ w S b < 100000) : pf_wn F bays S b w n = w := by
  funext s x
  unfold pf_wn
  rw [if_neg (fun q => hw q.1)]
theorem M_round {x q : Nat} (hI : px_I h B N T cs L W I t) (hx : x < B) (hq : q < 2 ^ B) : px_PI 4 237 [.ref 100, .int (nI x), .int (nI q)] h (fun v h2 => v = pf_rnd h B x q ∧ h2 100 0 = nI 0 ∧ px_kp h h2) := by
  have hB6 := hI.1.2.2.1
  have hp : 2 ^ B ≤ 64 := Nat.pow_le_pow_right (n := 2) (j := 6) (by decide) hB6
  obtain ⟨tb1, tb2, tb3, tb4⟩ := pf_tb0 q (by omega) x (by omega)
  refine px_M (M := mt_237) (ops := mo_237) tb_237 rfl rfl rfl rfl rfl ?_
  refine w_al (j := 1) rfl rfl rfl ?_
  refine w_ic (n := 0) (j := 2) rfl rfl ?_
  refine w_pf (j := 3) rfl rfl (by first | assumption | rfl) (by first | assumption | rfl) rfl ?_
  obtain ⟨I1, k1, t0⟩ := px_thr (v := nI 0) hI
  generalize ix_up h 100 0 (nI 0) = h1 at I1 k1 t0 ⊢
  rw [← pf_rnd_kp hB6 (by omega) k1]
  obtain ⟨ld, lw, -, nw, -⟩ := I1
  have ld' := ld
  obtain ⟨l1, l2, l3, l4, l5, l6, l7, l8, l9⟩ := ld
  have hF := pf_farB (by omega) ld'
  refine w_al (j := 4) rfl rfl rfl ?_
  refine w_al (j := 5) rfl rfl rfl ?_
  refine w_il (j := 6) rfl rfl rfl ?_
  refine w_cvI (j := 7) rfl rfl rfl rfl (by first | assumption | rfl) rfl rfl (sp_212 l2 l3) rfl ?_
  rw [px_ofB hx (by omega)]
  refine w_neB (j := 8) rfl rfl (fun _ => ?_) (fun c => absurd c (by simp))
  refine w_ic (n := 0) (j := 11) rfl rfl ?_
  refine w_ic (n := 1) (j := 12) rfl rfl ?_
  refine w_ic (n := 0) (j := 13) rfl rfl ?_
  refine w_cvI (j := 14) rfl rfl rfl rfl (by first | assumption | rfl) rfl rfl (sp_154f t0) rfl ?_
  refine w_neB (j := 15) rfl rfl (fun c => absurd c (by simp)) (fun _ => ?_)
  refine w_al (j := 16) rfl rfl rfl ?_
  refine w_il (j := 17) rfl rfl rfl ?_
  refine w_ic (n := 0) (j := 18) rfl rfl ?_
  refine w_ic (n := 1) (j := 19) rfl rfl ?_
  refine w_al (j := 20) rfl rfl rfl ?_
  first | refine w_gr (j := 21) rfl rfl (by first | assumption | rfl) (by first | assumption | rfl) rfl ?_ | refine w_gi (j := 21) rfl rfl (by first | assumption | rfl) (by first | assumption | rfl) rfl rfl ?_
  refine w_ic (n := 0) (j := 22) rfl rfl ?_
  refine w_ial (j := 23) rfl rfl (by first | assumption | rfl) rfl (by omega) rfl l2 ?_
  refine w_shl (j := 24) rfl rfl ?_
  refine w_ic (n := 1) (j := 25) rfl rfl ?_
  first | refine w_subN (j := 26) rfl rfl (by omega) ?_ | refine w_sub (j := 26) rfl rfl ?_
  refine w_csI (j := 27) rfl rfl rfl rfl rfl (sp_155) rfl ?_
  rw [decide_eq_true ((px_bits2 (by omega)).mpr ⟨q, hq, rfl⟩)]
  refine w_neB (j := 28) rfl rfl (fun _ => ?_) (fun c => absurd c (by simp))
  refine w_ic (n := 0) (j := 31) rfl rfl ?_
  refine w_ic (n := 2) (j := 32) rfl rfl ?_
  refine w_ic (n := 1) (j := 33) rfl rfl ?_
  refine w_cvI (j := 34) rfl rfl rfl rfl (by first | assumption | rfl) rfl rfl (sp_154f t0) rfl ?_
  refine w_eqB (j := 35) rfl rfl (fun _ => ?_) (fun c => absurd c (by simp))
  refine w_ic (n := 0) (j := 38) rfl rfl ?_
  refine w_is (j := 39) rfl rfl rfl ?_
  refine px_forI (fun s ls h2 => (∃ g1 g2 g3 g4, ls = [.ref 100, .int (nI x), .int (nI q), .int (nI s), g1, g2, g3, g4]) ∧ (∀ q, (q < 653 ∨ 716 < q) → h2 q = h1 q) ∧ ∀ s' y, s' < s → y < 6 → h2 (653 + s') y = nI 100000) 64 ?_ ?_ ⟨⟨_, _, _, _, rfl⟩, fun _ _ => rfl, fun s' y hs => by omega⟩
  · rintro s _ h2 hs ⟨⟨g1, g2, g3, g4, rfl⟩, r1, r2⟩ H
    have s653 := sh_653 s hs
    refine w_il (j := 40) rfl rfl rfl ?_
    refine w_bi (j := 41) (a := nI 64) rfl rfl (by decide) ?_
    refine w_geN (j := 42) rfl rfl (by omega) (by omega) (fun c => absurd c (fun c => by omega)) (fun _ => ?_)
    refine w_ic (n := 0) (j := 43) rfl rfl ?_
    refine w_iS (j := 44) rfl rfl rfl ?_
    refine px_forI (fun y ls h3 => (∃ g2 g3 g4, ls = [.ref 100, .int (nI x), .int (nI q), .int (nI s), .int (nI y), g2, g3, g4]) ∧ (∀ q, (q < 653 ∨ 716 < q) → h3 q = h1 q) ∧ (∀ s' y, s' < s → y < 6 → h3 (653 + s') y = nI 100000) ∧ ∀ y', y' < y → h3 (653 + s) y' = nI 100000) 6 ?_ ?_ ⟨⟨_, _, _, rfl⟩, r1, r2, fun y' hy => by omega⟩
    · rintro y _ h3 hy ⟨⟨g2, g3, g4, rfl⟩, u1, u2, u3⟩ H2
      refine w_iL (j := 45) rfl rfl rfl ?_
      refine w_bi (j := 46) (a := nI 6) rfl rfl (by decide) ?_
      refine w_geN (j := 47) rfl rfl (by omega) (by omega) (fun c => absurd c (fun c => by omega)) (fun _ => ?_)
      refine w_al (j := 48) rfl rfl rfl ?_
      first | refine w_gr (j := 49) rfl rfl (by first | assumption | rfl) (by first | assumption | rfl) rfl ?_ | refine w_gi (j := 49) rfl rfl (by first | assumption | rfl) (by first | assumption | rfl) rfl rfl ?_
      refine w_il (j := 50) rfl rfl rfl ?_
      refine w_aal (j := 51) rfl rfl (by first | assumption | rfl) rfl (by omega) rfl ?_
      refine w_iL (j := 52) rfl rfl rfl ?_
      refine w_lc (j := 53) (a := nI 100000) rfl rfl (by decide) ?_
      refine w_ias (j := 54) rfl rfl (by first | assumption | rfl) rfl (by omega) rfl ?_
      first | refine w_incN (j := 55) rfl rfl rfl ?_ | refine w_inc (j := 55) rfl rfl rfl rfl ?_
      refine w_go rfl ?_
      refine H2 _ _ ⟨⟨_, _, _, rfl⟩, fun q hq => by rw [ix_up_ne (by omega)]; exact u1 q hq, fun s' y' hs' hy' => by rw [px_up_na (by omega)]; exact u2 s' y' hs' hy', fun y' hy' => ?_⟩
      by_cases e : y' = y
      · subst e; rw [px_up_at]
      · rw [px_up_nk e]; exact u3 y' (by omega)
    · rintro _ h3 ⟨⟨g2, g3, g4, rfl⟩, u1, u2, u3⟩
      refine w_iL (j := 45) rfl rfl rfl ?_
      refine w_bi (j := 46) (a := nI 6) rfl rfl (by decide) ?_
      refine w_geN (j := 47) rfl rfl (by omega) (by omega) (fun _ => ?_) (fun c => absurd c (fun c => by omega))
      first | refine w_incN (j := 57) rfl rfl rfl ?_ | refine w_inc (j := 57) rfl rfl rfl rfl ?_
      refine w_go rfl ?_
      refine H _ _ ⟨⟨_, _, _, _, rfl⟩, u1, fun s' y hs' hy => ?_⟩
      by_cases e : s' = s
      · subst e; exact u3 y hy
      · exact u2 s' y (by omega) hy
  · rintro _ h2 ⟨⟨g1, g2, g3, g4, rfl⟩, r1, r2⟩
    have s653 := sh_653 (q / 2 ^ x % 2 * 2 ^ x) tb3
    refine w_il (j := 40) rfl rfl rfl ?_
    refine w_bi (j := 41) (a := nI 64) rfl rfl (by decide) ?_
    refine w_geN (j := 42) rfl rfl (by omega) (by omega) (fun _ => ?_) (fun c => absurd c (fun c => by omega))
    refine w_al (j := 59) rfl rfl rfl ?_
    first | refine w_gr (j := 60) rfl rfl (by first | assumption | rfl) (by first | assumption | rfl) rfl ?_ | refine w_gi (j := 60) rfl rfl (by first | assumption | rfl) (by first | assumption | rfl) rfl rfl ?_
    refine w_il (j := 61) rfl rfl rfl ?_
    refine w_ic (n := 1) (j := 62) rfl rfl ?_
    refine w_il (j := 63) rfl rfl rfl ?_
    refine w_shl (j := 64) rfl rfl ?_
    refine w_and (j := 65) rfl rfl ?_
    rw [tb2]
    refine w_aal (j := 66) rfl rfl (by first | assumption | rfl) rfl (by omega) rfl ?_
    refine w_il (j := 67) rfl rfl rfl ?_
    refine w_ic (n := 0) (j := 68) rfl rfl ?_
    refine w_ias (j := 69) rfl rfl (by first | assumption | rfl) rfl (by omega) rfl ?_
    refine w_lc (j := 70) (a := nI 100000) rfl rfl (by decide) ?_
    refine w_is (j := 71) rfl rfl rfl ?_
    refine w_ic (n := 0) (j := 72) rfl rfl ?_
    refine w_iS (j := 73) rfl rfl rfl ?_
    have OPTe : pf_rnd h1 B x q = pf_x (pf_V (pf_far h1) B 7 x (q - q / 2 ^ x % 2 * 2 ^ x)) := rfl
    have vle := pf_Vle hF l3 7 x (q - q / 2 ^ x % 2 * 2 ^ x) (by omega)
    have hO : ∃ OPT, OPT = pf_V (pf_far h1) B 7 x (q - q / 2 ^ x % 2 * 2 ^ x) := ⟨_, rfl⟩
    obtain ⟨OPT, hO⟩ := hO
    rw [← hO] at OPTe vle
    have I0 : pf_dpi (pf_far h1) B q OPT 0 0 (fun s y => if s = q / 2 ^ x % 2 * 2 ^ x ∧ y = x then 0 else 100000) 100000 := by
      refine ⟨fun s y _ _ => ?_, fun s y hs hy hlt => ?_, ⟨Nat.le_refl _, fun z => by omega⟩, fun hl => Or.inr ⟨q / 2 ^ x % 2 * 2 ^ x, x, tb3, hx, ?_, ?_, by omega⟩⟩
      · show (if _ then _ else _) ≤ _
        split <;> omega
      · have hlt : (if s = q / 2 ^ x % 2 * 2 ^ x ∧ y = x then 0 else 100000) < 100000 := hlt
        by_cases hc : s = q / 2 ^ x % 2 * 2 ^ x ∧ y = x
        · obtain ⟨rfl, rfl⟩ := hc
          refine ⟨tb4, ?_⟩
          rw [hO]
          omega
        · rw [if_neg hc] at hlt; omega
      · show (if _ then _ else _) < _
        rw [if_pos ⟨rfl, rfl⟩]; omega
      · show (if _ then _ else _) + _ = _
        rw [if_pos ⟨rfl, rfl⟩, hO, Nat.zero_add]
    have R0 : px_dp h1 (ix_up h2 (653 + q / 2 ^ x % 2 * 2 ^ x) x (nI 0)) (fun s y => if s = q / 2 ^ x % 2 * 2 ^ x ∧ y = x then 0 else 100000) := by
      refine ⟨fun a ha => by rw [ix_up_ne (by omega)]; exact r1 a ha, fun s y hs hy => ?_⟩
      show _ = nI (if _ then _ else _)
      by_cases hc : s = q / 2 ^ x % 2 * 2 ^ x ∧ y = x
      · obtain ⟨rfl, rfl⟩ := hc
        rw [px_up_at, if_pos ⟨rfl, rfl⟩]
      · rw [if_neg hc]
        by_cases hs2 : s = q / 2 ^ x % 2 * 2 ^ x
        · subst hs2
          rw [px_up_nk (fun e => hc ⟨rfl, e⟩)]; exact r2 _ y hs hy
        · rw [px_up_na (by omega)]; exact r2 s y hs hy
    generalize ix_up h2 (653 + q / 2 ^ x % 2 * 2 ^ x) x (nI 0) = h3 at R0 ⊢
    clear r1 r2
    refine px_forI (fun S ls h4 => ∃ w best, (∃ g2 g3 g4, ls = [.ref 100, .int (nI x), .int (nI q), .int (nI best), .int (nI S), g2, g3, g4]) ∧ px_dp h1 h4 w ∧ pf_dpi (pf_far h1) B q OPT S 0 w best) (q + 1) ?_ ?_ ⟨_, _, ⟨_, _, _, rfl⟩, R0, I0⟩
    · rintro S _ h4 hS ⟨w, best, ⟨g2, g3, g4, rfl⟩, R4, I4⟩ H
      have s653S := sh_653 S (by omega)
      refine w_iL (j := 74) rfl rfl rfl ?_
      refine w_il (j := 75) rfl rfl rfl ?_
      refine w_gtN (j := 76) rfl rfl (by omega) (by omega) (fun c => absurd c (fun c => by omega)) (fun _ => ?_)
      refine w_ic (n := 0) (j := 77) rfl rfl ?_
      refine w_iS (j := 78) rfl rfl rfl ?_
      refine px_forI (fun b ls h5 => ∃ w best, (∃ g3 g4, ls = [.ref 100, .int (nI x), .int (nI q), .int (nI best), .int (nI S), .int (nI b), g3, g4]) ∧ px_dp h1 h5 w ∧ pf_dpi (pf_far h1) B q OPT S b w best) B ?_ ?_ ⟨_, _, ⟨_, _, rfl⟩, R4, I4⟩
      · rintro b _ h5 hb ⟨w, best, ⟨g3, g4, rfl⟩, R5, I5⟩ H2
        have e0 : h5 104 0 = nI B := by rw [R5.1 104 (by decide)]; exact l2
        have stp := pf_dpstep l3 hb (by omega : q < 64) (by omega : S < 64) I5
        have wb := I5.1 S b (by omega) (by omega)
        have wSb := R5.2 S b (by omega) (by omega)
        have bb := I5.2.2.1.1
        have s152 := sh_152 b (by omega)
        have inner : ∀ best', best' = (if S = q then min best (w S b) else best) → px_R px_E 3 mo_237 [] 96 [.ref 100, .int (nI x), .int (nI q), .int (nI best'), .int (nI S), .int (nI b), g3, g4] [] h5 0 (fun r => ∃ v h', r = (.inl (some (.int v)), h', 0) ∧ v = pf_rnd h1 B x q ∧ h' 100 0 = nI 0 ∧ px_kp h h') := by
          intro best' eb
          rw [← eb] at stp
          refine w_ic (n := 0) (j := 97) rfl rfl ?_
          refine w_iS (j := 98) rfl rfl rfl ?_
          have key : ∀ m c g4 h6, c + m = B → px_dp h1 h6 (pf_wn (pf_far h1) q S b w c) → px_R px_E 3 mo_237 [] 98 [.ref 100, .int (nI x), .int (nI q), .int (nI best'), .int (nI S), .int (nI b), .int (nI c), g4] [] h6 0 (fun r => ∃ v h', r = (.inl (some (.int v)), h', 0) ∧ v = pf_rnd h1 B x q ∧ h' 100 0 = nI 0 ∧ px_kp h h') := by
            intro m
            induction m with
            | zero =>
              intro c g4 h6 hc R6
              have e0 : h6 104 0 = nI B := by rw [R6.1 104 (by decide)]; exact l2
              have : c = B := by omega
              subst this
              refine w_iL (j := 99) rfl rfl rfl ?_
              refine w_al (j := 100) rfl rfl rfl ?_
              first | refine w_gr (j := 101) rfl rfl (by first | assumption | rfl) (by first | assumption | rfl) rfl ?_ | refine w_gi (j := 101) rfl rfl (by first | assumption | rfl) (by first | assumption | rfl) rfl rfl ?_
              refine w_ic (n := 0) (j := 102) rfl rfl ?_
              refine w_ial (j := 103) rfl rfl (by first | assumption | rfl) rfl (by omega) rfl e0 ?_
              refine w_geN (j := 104) rfl rfl (by omega) (by omega) (fun _ => ?_) (fun c => absurd c (fun c => by omega))
              first | refine w_incN (j := 156) rfl rfl rfl ?_ | refine w_inc (j := 156) rfl rfl rfl rfl ?_
              refine w_go rfl ?_
              exact H2 _ _ ⟨_, _, ⟨_, _, rfl⟩, R6, stp⟩
            | succ m ih =>
              intro c g4 h6 hc R6
              have e0 : h6 104 0 = nI B := by rw [R6.1 104 (by decide)]; exact l2
              have ew : h6 (653 + S) b = nI (w S b) := by rw [R6.2 S b (by omega) (by omega), pf_wn_self]
              refine w_iL (j := 99) rfl rfl rfl ?_
              refine w_al (j := 100) rfl rfl rfl ?_
              first | refine w_gr (j := 101) rfl rfl (by first | assumption | rfl) (by first | assumption | rfl) rfl ?_ | refine w_gi (j := 101) rfl rfl (by first | assumption | rfl) (by first | assumption | rfl) rfl rfl ?_
              refine w_ic (n := 0) (j := 102) rfl rfl ?_
              refine w_ial (j := 103) rfl rfl (by first | assumption | rfl) rfl (by omega) rfl e0 ?_
              refine w_geN (j := 104) rfl rfl (by omega) (by omega) (fun c => absurd c (fun c => by omega)) (fun _ => ?_)
              refine w_al (j := 105) rfl rfl rfl ?_
              first | refine w_gr (j := 106) rfl rfl (by first | assumption | rfl) (by first | assumption | rfl) rfl ?_ | refine w_gi (j := 106) rfl rfl (by first | assumption | rfl) (by first | assumption | rfl) rfl rfl ?_
              refine w_iL (j := 107) rfl rfl rfl ?_
              refine w_aal (j := 108) rfl rfl (by first | assumption | rfl) rfl (by omega) rfl ?_
              refine w_iL (j := 109) rfl rfl rfl ?_
              refine w_ial (j := 110) rfl rfl (by first | assumption | rfl) rfl (by omega) rfl ew ?_
              refine w_lc (j := 111) (a := nI 100000) rfl rfl (by decide) ?_
              refine w_geN (j := 112) rfl rfl (by omega) (by omega) (fun d1 => ?_) (fun d1 => ?_)
              ·
                first | refine w_incN (j := 156) rfl rfl rfl ?_ | refine w_inc (j := 156) rfl rfl rfl rfl ?_
                refine w_go rfl ?_
                refine H2 _ _ ⟨_, _, ⟨_, _, rfl⟩, ?_, stp⟩
                rw [pf_wn_big (by omega)] at R6 ⊢
                exact R6
              have nx : ∀ g4, (¬ (q / 2 ^ c % 2 = 1 ∧ S / 2 ^ c % 2 = 0)) → px_R px_E 3 mo_237 [] 153 [.ref 100, .int (nI x), .int (nI q), .int (nI best'), .int (nI S), .int (nI b), .int (nI c), g4] [] h6 0 (fun r => ∃ v h', r = (.inl (some (.int v)), h', 0) ∧ v = pf_rnd h1 B x q ∧ h' 100 0 = nI 0 ∧ px_kp h h') := by
                intro g4 hn
                first | refine w_incN (j := 154) rfl rfl rfl ?_ | refine w_inc (j := 154) rfl rfl rfl rfl ?_
                refine w_go rfl ?_
                refine ih (c + 1) _ _ (by omega) ?_
                have : pf_wn (pf_far h1) q S b w (c + 1) = pf_wn (pf_far h1) q S b w c := by
                  rw [pf_wn_s]
                  funext s y
                  rw [if_neg (fun z => hn ⟨z.2.1, z.2.2.1⟩)]
                rw [this]
                exact R6
              refine w_il (j := 113) rfl rfl rfl ?_
              refine w_iL (j := 114) rfl rfl rfl ?_
              refine w_csI (j := 115) rfl rfl rfl rfl rfl (sp_158N (by omega) (by omega)) rfl ?_
              by_cases d2 : q / 2 ^ c % 2 = 1
              rw [decide_eq_true d2]
              rotate_left
              · rw [decide_eq_false d2]
                refine w_eqB (j := 116) rfl rfl (fun _ => ?_) (fun c => absurd c (by simp))
                exact nx _ (fun z => d2 z.1)
              refine w_eqB (j := 116) rfl rfl (fun c => absurd c (by simp)) (fun _ => ?_)
              refine w_iL (j := 117) rfl rfl rfl ?_
              refine w_iL (j := 118) rfl rfl rfl ?_
              refine w_csI (j := 119) rfl rfl rfl rfl rfl (sp_158N (by omega) (by omega)) rfl ?_
              by_cases d3 : S / 2 ^ c % 2 = 1
              · rw [decide_eq_true d3]
                refine w_eqB (j := 120) rfl rfl (fun c => absurd c (by simp)) (fun _ => ?_)
                refine w_go rfl ?_
                exact nx _ (fun z => by omega)
              rw [decide_eq_false d3]
              have d3 : S / 2 ^ c % 2 = 0 := by omega
              obtain ⟨u1, u2, u3⟩ := pf_tb2 S (by omega) c (by omega) d3
              have s653T := sh_653 (S + 2 ^ c) u2
              have hpc := Nat.two_pow_pos c
              have ev : h6 (653 + (S + 2 ^ c)) c = nI (w (S + 2 ^ c) c) := by rw [R6.2 _ c u2 (by omega), pf_wn_next]
              have wc := I5.1 (S + 2 ^ c) c u2 (by omega)
              obtain ⟨ef, ef2⟩ := pf_far_eq (by omega) ld' (show b < 6 by omega) (show c < 6 by omega)
              have ef' : h6 (152 + b) c = nI (pf_far h1 b c) := by rw [R6.1 _ (by omega)]; exact ef
              have fb : pf_far h1 b c ≤ 100000 := by omega
              refine w_eqB (j := 120) rfl rfl (fun _ => ?_) (fun c => absurd c (by simp))
              refine w_iL (j := 122) rfl rfl rfl ?_
              refine w_ic (n := 1) (j := 123) rfl rfl ?_
              refine w_iL (j := 124) rfl rfl rfl ?_
              refine w_shl (j := 125) rfl rfl ?_
              refine w_or (j := 126) rfl rfl ?_
              rw [u1]
              refine w_iS (j := 127) rfl rfl rfl ?_
              refine w_al (j := 128) rfl rfl rfl ?_
              first | refine w_gr (j := 129) rfl rfl (by first | assumption | rfl) (by first | assumption | rfl) rfl ?_ | refine w_gi (j := 129) rfl rfl (by first | assumption | rfl) (by first | assumption | rfl) rfl rfl ?_
              refine w_iL (j := 130) rfl rfl rfl ?_
              refine w_aal (j := 131) rfl rfl (by first | assumption | rfl) rfl (by omega) rfl ?_
              refine w_iL (j := 132) rfl rfl rfl ?_
              refine w_al (j := 133) rfl rfl rfl ?_
              first | refine w_gr (j := 134) rfl rfl (by first | assumption | rfl) (by first | assumption | rfl) rfl ?_ | refine w_gi (j := 134) rfl rfl (by first | assumption | rfl) (by first | assumption | rfl) rfl rfl ?_
              refine w_iL (j := 135) rfl rfl rfl ?_
              refine w_aal (j := 136) rfl rfl (by first | assumption | rfl) rfl (by omega) rfl ?_
              refine w_iL (j := 137) rfl rfl rfl ?_
              refine w_ial (j := 138) rfl rfl (by first | assumption | rfl) rfl (by omega) rfl ev ?_
              refine w_al (j := 139) rfl rfl rfl ?_
              first | refine w_gr (j := 140) rfl rfl (by first | assumption | rfl) (by first | assumption | rfl) rfl ?_ | refine w_gi (j := 140) rfl rfl (by first | assumption | rfl) (by first | assumption | rfl) rfl rfl ?_
              refine w_iL (j := 141) rfl rfl rfl ?_
              refine w_aal (j := 142) rfl rfl (by first | assumption | rfl) rfl (by omega) rfl ?_
              refine w_iL (j := 143) rfl rfl rfl ?_
              refine w_ial (j := 144) rfl rfl (by first | assumption | rfl) rfl (by omega) rfl ew ?_
              refine w_al (j := 145) rfl rfl rfl ?_
              first | refine w_gr (j := 146) rfl rfl (by first | assumption | rfl) (by first | assumption | rfl) rfl ?_ | refine w_gi (j := 146) rfl rfl (by first | assumption | rfl) (by first | assumption | rfl) rfl rfl ?_
              refine w_iL (j := 147) rfl rfl rfl ?_
              refine w_aal (j := 148) rfl rfl (by first | assumption | rfl) rfl (by omega) rfl ?_
              refine w_iL (j := 149) rfl rfl rfl ?_
              refine w_ial (j := 150) rfl rfl (by first | assumption | rfl) rfl (by omega) rfl ef' ?_
              first | refine w_add0 (j := 151) rfl rfl ?_ | refine w_addN (j := 151) rfl rfl ?_ | refine w_add (j := 151) rfl rfl ?_
              refine w_csI (j := 152) rfl rfl rfl rfl rfl (sp_156) rfl ?_
              rw [show pf_ls2 (nI (w (S + 2 ^ c) c)) (nI (w S b + pf_far h1 b c)) = nI (min (w (S + 2 ^ c) c) (w S b + pf_far h1 b c)) by unfold pf_ls2; rw [px_nmin (by omega) (by omega), Nat.min_comm]]
              refine w_ias (j := 153) rfl rfl (by first | assumption | rfl) rfl (by omega) rfl ?_
              first | refine w_incN (j := 154) rfl rfl rfl ?_ | refine w_inc (j := 154) rfl rfl rfl rfl ?_
              refine w_go rfl ?_
              refine ih (c + 1) _ _ (by omega) ⟨fun a ha => by rw [ix_up_ne (by omega)]; exact R6.1 a ha, fun s y hs hy => ?_⟩
              rw [pf_wn_s]
              show _ = nI (if _ then _ else _)
              by_cases hc2 : y = c ∧ s = S + 2 ^ c
              · obtain ⟨rfl, rfl⟩ := hc2
                rw [px_up_at, if_pos ⟨by omega, d2, d3, rfl, rfl⟩]
              · rw [if_neg (fun z => hc2 z.2.2.2)]
                by_cases hs2 : s = S + 2 ^ c
                · subst hs2
                  rw [px_up_nk (fun e => hc2 ⟨e, rfl⟩)]; exact R6.2 _ y hs hy
                · rw [px_up_na (by omega)]; exact R6.2 s y hs hy
          exact key B 0 _ h5 (by omega) (by rw [pf_wn_0]; exact R5)
        refine w_iL (j := 79) rfl rfl rfl ?_
        refine w_al (j := 80) rfl rfl rfl ?_
        first | refine w_gr (j := 81) rfl rfl (by first | assumption | rfl) (by first | assumption | rfl) rfl ?_ | refine w_gi (j := 81) rfl rfl (by first | assumption | rfl) (by first | assumption | rfl) rfl rfl ?_
        refine w_ic (n := 0) (j := 82) rfl rfl ?_
        refine w_ial (j := 83) rfl rfl (by first | assumption | rfl) rfl (by omega) rfl e0 ?_
        refine w_geN (j := 84) rfl rfl (by omega) (by omega) (fun c => absurd c (fun c => by omega)) (fun _ => ?_)
        refine w_iL (j := 85) rfl rfl rfl ?_
        refine w_il (j := 86) rfl rfl rfl ?_
        refine w_neN (j := 87) rfl rfl (by omega) (by omega) (fun d1 => ?_) (fun d1 => ?_)
        ·
          exact inner best (by rw [if_neg d1])
        ·
          refine w_il (j := 88) rfl rfl rfl ?_
          refine w_al (j := 89) rfl rfl rfl ?_
          first | refine w_gr (j := 90) rfl rfl (by first | assumption | rfl) (by first | assumption | rfl) rfl ?_ | refine w_gi (j := 90) rfl rfl (by first | assumption | rfl) (by first | assumption | rfl) rfl rfl ?_
          refine w_iL (j := 91) rfl rfl rfl ?_
          refine w_aal (j := 92) rfl rfl (by first | assumption | rfl) rfl (by omega) rfl ?_
          refine w_iL (j := 93) rfl rfl rfl ?_
          refine w_ial (j := 94) rfl rfl (by first | assumption | rfl) rfl (by omega) rfl wSb ?_
          refine w_csI (j := 95) rfl rfl rfl rfl rfl (sp_156) rfl ?_
          rw [show pf_ls2 (nI best) (nI (w S b)) = nI (min best (w S b)) by unfold pf_ls2; rw [px_nmin (by omega) (by omega), Nat.min_comm]]
          refine w_is (j := 96) rfl rfl rfl ?_
          exact inner _ (by rw [if_pos d1])
      · rintro _ h5 ⟨w, best, ⟨g3, g4, rfl⟩, R5, I5⟩
        have e0 : h5 104 0 = nI B := by rw [R5.1 104 (by decide)]; exact l2
        refine w_iL (j := 79) rfl rfl rfl ?_
        refine w_al (j := 80) rfl rfl rfl ?_
        first | refine w_gr (j := 81) rfl rfl (by first | assumption | rfl) (by first | assumption | rfl) rfl ?_ | refine w_gi (j := 81) rfl rfl (by first | assumption | rfl) (by first | assumption | rfl) rfl rfl ?_
        refine w_ic (n := 0) (j := 82) rfl rfl ?_
        refine w_ial (j := 83) rfl rfl (by first | assumption | rfl) rfl (by omega) rfl e0 ?_
        refine w_geN (j := 84) rfl rfl (by omega) (by omega) (fun _ => ?_) (fun c => absurd c (fun c => by omega))
        first | refine w_incN (j := 158) rfl rfl rfl ?_ | refine w_inc (j := 158) rfl rfl rfl rfl ?_
        refine w_go rfl ?_
        refine H _ _ ⟨w, best, ⟨_, _, _, rfl⟩, R5, I5.1, I5.2.1, I5.2.2.1, fun hl => ?_⟩
        rcases I5.2.2.2 hl with e | ⟨s, y, a1, a2, a3, a4, a5⟩
        · exact Or.inl e
        · exact Or.inr ⟨s, y, a1, a2, a3, a4, by omega⟩
    · rintro _ h4 ⟨w, best, ⟨g2, g3, g4, rfl⟩, R4, I4⟩
      have kk : px_kp h1 h4 := ⟨fun a ha => R4.1 a (by have := of_decide_eq_true ha; omega), fun j _ => by rw [R4.1 100 (by decide)]⟩
      have t9 : h4 100 0 = nI 0 := by rw [R4.1 100 (by decide)]; exact t0
      obtain ⟨A, A1, A2, Bi⟩ := I4
      have bo : OPT < 100000 → best = OPT := by
        intro hl
        rcases Bi hl with e | ⟨s, y, a1, a2, a3, a4, a5⟩
        · exact e
        · have := (pf_tb3 q (by omega) s a1 (A1 s y a1 a2 a3).1).1
          omega
      refine w_iL (j := 74) rfl rfl rfl ?_
      refine w_il (j := 75) rfl rfl rfl ?_
      refine w_gtN (j := 76) rfl rfl (by omega) (by omega) (fun _ => ?_) (fun c => absurd c (fun c => by omega))
      refine w_il (j := 160) rfl rfl rfl ?_
      refine w_lc (j := 161) (a := nI 100000) rfl rfl (by decide) ?_
      refine w_ltN (j := 162) rfl rfl (by omega) (by omega) (fun d1 => ?_) (fun d1 => ?_)
      ·
        refine w_il (j := 165) rfl rfl rfl ?_
        refine w_ir rfl ?_
        refine ⟨_, _, rfl, ?_, t9, k1.tr kk⟩
        have := A2.2 d1
        have := bo (by omega)
        rw [OPTe, pf_x, if_pos (by omega), this]
      ·
        refine w_im (j := 163) rfl rfl ?_
        refine w_go rfl ?_
        refine w_ir rfl ?_
        refine ⟨_, _, rfl, ?_, t9, k1.tr kk⟩
        have : ¬ OPT < 100000 := fun z => by have := bo z; omega
        rw [OPTe, pf_x, if_neg this]
theorem MXE_round {a w : Int32} (l2 : h 104 0 = nI B) (l3 : B ≤ 6) (hw : ¬ (0 ≤ a ∧ a < nI B)) : px_PI 3 237 [.ref 100, .int a, .int w] h (fun v h2 => h2 100 0 = nI 1 ∧ px_kp (ix_up h 102 0 (h 102 0 + nI 1)) h2) := by
  refine px_M (M := mt_237) (ops := mo_237) tb_237 rfl rfl rfl rfl rfl ?_
  refine w_al (j := 1) rfl rfl rfl ?_
  refine w_ic (n := 0) (j := 2) rfl rfl ?_
  refine w_pf (j := 3) rfl rfl (by first | assumption | rfl) (by first | assumption | rfl) rfl ?_
  refine w_al (j := 4) rfl rfl rfl ?_
  refine w_al (j := 5) rfl rfl rfl ?_
  refine w_il (j := 6) rfl rfl rfl ?_
  refine w_cvI (j := 7) rfl rfl rfl rfl (by first | assumption | rfl) rfl rfl (sp_212 (B := B) l2 l3) rfl ?_
  rw [decide_eq_false hw]
  refine w_neB (j := 8) rfl rfl (fun c => absurd c (by simp)) (fun _ => ?_)
  refine w_ic (n := 1) (j := 9) rfl rfl ?_
  refine w_go rfl ?_
  refine w_ic (n := 1) (j := 12) rfl rfl ?_
  refine w_ic (n := 0) (j := 13) rfl rfl ?_
  refine w_cvI (j := 14) rfl rfl rfl rfl (by first | assumption | rfl) rfl rfl (sp_154t (p := 0) (w := 1) rfl (by decide) (by decide) (by decide)) rfl ?_
  refine w_neB (j := 15) rfl rfl (fun _ => ?_) (fun c => absurd c (by simp))
  refine w_ic (n := 0) (j := 36) rfl rfl ?_
  refine w_ir rfl ?_
  exact ⟨_, _, rfl, rfl, px_kpX (by decide)⟩
theorem MXA_round {a w : Int32} (l2 : h 104 0 = nI B) (l3 : B ≤ 6) (ha : 0 ≤ a ∧ a < nI B) (hw : ¬ (∃ q, q < 2 ^ B ∧ w = nI q)) : px_PI 3 237 [.ref 100, .int a, .int w] h (fun v h2 => h2 100 0 = nI 2 ∧ px_kp (ix_up h 102 1 (h 102 1 + nI 1)) h2) := by
  have l2' : ix_up h 100 0 (nI 0) 104 0 = nI B := l2
  refine px_M (M := mt_237) (ops := mo_237) tb_237 rfl rfl rfl rfl rfl ?_
  refine w_al (j := 1) rfl rfl rfl ?_
  refine w_ic (n := 0) (j := 2) rfl rfl ?_
  refine w_pf (j := 3) rfl rfl (by first | assumption | rfl) (by first | assumption | rfl) rfl ?_
  refine w_al (j := 4) rfl rfl rfl ?_
  refine w_al (j := 5) rfl rfl rfl ?_
  refine w_il (j := 6) rfl rfl rfl ?_
  refine w_cvI (j := 7) rfl rfl rfl rfl (by first | assumption | rfl) rfl rfl (sp_212 (B := B) l2 l3) rfl ?_
  rw [decide_eq_true ha]
  refine w_neB (j := 8) rfl rfl (fun _ => ?_) (fun c => absurd c (by simp))
  refine w_ic (n := 0) (j := 11) rfl rfl ?_
  refine w_ic (n := 1) (j := 12) rfl rfl ?_
  refine w_ic (n := 0) (j := 13) rfl rfl ?_
  refine w_cvI (j := 14) rfl rfl rfl rfl (by first | assumption | rfl) rfl rfl (sp_154f rfl) rfl ?_
  refine w_neB (j := 15) rfl rfl (fun c => absurd c (by simp)) (fun _ => ?_)
  refine w_al (j := 16) rfl rfl rfl ?_
  refine w_il (j := 17) rfl rfl rfl ?_
  refine w_ic (n := 0) (j := 18) rfl rfl ?_
  refine w_ic (n := 1) (j := 19) rfl rfl ?_
  refine w_al (j := 20) rfl rfl rfl ?_
  first | refine w_gr (j := 21) rfl rfl (by first | assumption | rfl) (by first | assumption | rfl) rfl ?_ | refine w_gi (j := 21) rfl rfl (by first | assumption | rfl) (by first | assumption | rfl) rfl rfl ?_
  refine w_ic (n := 0) (j := 22) rfl rfl ?_
  refine w_ial (j := 23) rfl rfl (by first | assumption | rfl) rfl (by omega) rfl l2' ?_
  refine w_shl (j := 24) rfl rfl ?_
  refine w_ic (n := 1) (j := 25) rfl rfl ?_
  first | refine w_subN (j := 26) rfl rfl (by omega) ?_ | refine w_sub (j := 26) rfl rfl ?_
  refine w_csI (j := 27) rfl rfl rfl rfl rfl (sp_155) rfl ?_
  rw [decide_eq_false (fun q => hw ((px_bits2 (by omega)).mp q))]
  refine w_neB (j := 28) rfl rfl (fun c => absurd c (by simp)) (fun _ => ?_)
  refine w_ic (n := 1) (j := 29) rfl rfl ?_
  refine w_go rfl ?_
  refine w_ic (n := 2) (j := 32) rfl rfl ?_
  refine w_ic (n := 1) (j := 33) rfl rfl ?_
  refine w_cvI (j := 34) rfl rfl rfl rfl (by first | assumption | rfl) rfl rfl (sp_154t (p := 1) (w := 2) rfl (by decide) (by decide) (by decide)) rfl ?_
  refine w_eqB (j := 35) rfl rfl (fun c => absurd c (by simp)) (fun _ => ?_)
  refine w_ic (n := 0) (j := 36) rfl rfl ?_
  refine w_ir rfl ?_
  exact ⟨_, _, rfl, rfl, px_kpX (by decide)⟩
end RO
