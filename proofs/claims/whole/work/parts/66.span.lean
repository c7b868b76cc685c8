theorem px_nmin {a b : Nat} (ha : a < 2147483648) (hb : b < 2147483648) : (if nI b < nI a then nI b else nI a) = nI (min a b) := by
  by_cases h1 : b < a
  · rw [if_pos (nI_lt h1 ha), Nat.min_eq_right (by omega)]
  · rw [if_neg (fun q => h1 ((px_nlt hb ha).mp q)), Nat.min_eq_left (by omega)]
theorem px_nmax {a b : Nat} (ha : a < 2147483648) (hb : b < 2147483648) : (if nI a < nI b then nI b else nI a) = nI (max a b) := by
  by_cases h1 : a < b
  · rw [if_pos (nI_lt h1 hb), Nat.max_eq_right (by omega)]
  · rw [if_neg (fun q => h1 ((px_nlt ha hb).mp q)), Nat.max_eq_left (by omega)]
section CE
variable {h : ix_H} {B N T L W I t : Nat} {cs : List (Nat × Nat)}
abbrev pf_ok7 (N : Nat) (n a b c w d : Int32) : Prop := (nI 1 ≤ n ∧ n ≤ nI 20) ∧ pf_ok3 a b c ∧ (nI 0 ≤ w ∧ w ≤ nI 2) ∧ 0 ≤ d ∧ d < nI N
theorem C_span {sd n a b c w d : Int32} (hI : px_I h B N T cs L W I t) : px_CO 9 140 [.ref 0, .int sd, .int n, .int a, .int b, .int c, .int w, .int d] h (fun v h1 => ∃ n' y m cr, n' ≤ 20 ∧ 1 ≤ n' ∧ y ≤ 96 ∧ m ≤ 2 ∧ cr < N ∧ n = nI n' ∧ a = nI y ∧ w = nI m ∧ d = nI cr ∧ pf_ok7 N n a b c w d ∧ v = pf_spn (pf_spf h cs B N sd b c y cr n') m ∧ px_kp h h1) (fun x h1 => x = 0 ∧ ¬ pf_ok7 N n a b c w d ∧ h1 = px_hX 0 h) := by
  have l4 := hI.1.2.2.2.1
  have l6 := hI.1.2.2.2.2.2.1
  refine px_M (M := mt_140) (ops := mo_140) tb_140 rfl rfl rfl rfl rfl ?_
  refine w_al (j := 1) rfl rfl rfl ?_
  refine w_il (j := 2) rfl rfl rfl ?_
  refine w_ic (n := 1) (j := 3) rfl rfl ?_
  refine w_bi (j := 4) (a := nI 20) rfl rfl (by decide) ?_
  refine w_chk (j := 5) rfl rfl rfl rfl (by first | assumption | rfl) rfl rfl (sp_147) rfl (fun c1 => ?_) (fun c1 => ?_)
  · exact Or.inr ⟨_, _, rfl, rfl, fun q => c1 q.1, rfl⟩
  refine w_al (j := 6) rfl rfl rfl ?_
  refine w_il (j := 7) rfl rfl rfl ?_
  refine w_iL (j := 8) rfl rfl rfl ?_
  refine w_iL (j := 9) rfl rfl rfl ?_
  refine w_chk (j := 10) rfl rfl rfl rfl (by first | assumption | rfl) rfl rfl (sp_141) rfl (fun c2 => ?_) (fun c2 => ?_)
  · exact Or.inr ⟨_, _, rfl, rfl, fun q => c2 q.2.1, rfl⟩
  refine w_al (j := 11) rfl rfl rfl ?_
  refine w_iL (j := 12) rfl rfl rfl ?_
  refine w_ic (n := 0) (j := 13) rfl rfl ?_
  refine w_ic (n := 2) (j := 14) rfl rfl ?_
  refine w_chk (j := 15) rfl rfl rfl rfl (by first | assumption | rfl) rfl rfl (sp_147) rfl (fun c3 => ?_) (fun c3 => ?_)
  · exact Or.inr ⟨_, _, rfl, rfl, fun q => c3 q.2.2.1, rfl⟩
  refine w_al (j := 16) rfl rfl rfl ?_
  refine w_al (j := 17) rfl rfl rfl ?_
  first | refine w_gr (j := 18) rfl rfl (by first | assumption | rfl) (by first | assumption | rfl) rfl ?_ | refine w_gi (j := 18) rfl rfl (by first | assumption | rfl) (by first | assumption | rfl) rfl rfl ?_
  refine w_iL (j := 19) rfl rfl rfl ?_
  refine w_cvI (j := 20) rfl rfl rfl rfl (by first | assumption | rfl) rfl rfl (sp_26 px_Ld3) rfl ?_
  rw [l4]
  refine w_chk (j := 21) rfl rfl rfl rfl (by first | assumption | rfl) rfl rfl (sp_146) rfl (fun c4 => ?_) (fun c4 => ?_)
  · exact Or.inr ⟨_, _, rfl, rfl, fun q => c4 (decide_eq_true q.2.2.2), rfl⟩
  have c4 := of_decide_eq_true c4
  have ok7 : pf_ok7 N n a b c w d := ⟨c1, c2, c3, c4⟩
  obtain ⟨n', hn1, hn2, rfl⟩ := px_bndl (by decide) (by decide) c1
  obtain ⟨y, hy1, hy2, rfl⟩ := px_bndl (by decide) (by decide) c2.1
  obtain ⟨m, hm, rfl⟩ := px_bnd2 (by decide) c3
  obtain ⟨cr, hcr, rfl⟩ := px_bnd (by omega) c4
  refine w_si (j := 22) (a := nI 792) rfl rfl (by decide) ?_
  refine w_iS (j := 23) rfl rfl rfl ?_
  refine w_ic (n := 0) (j := 24) rfl rfl ?_
  refine w_iS (j := 25) rfl rfl rfl ?_
  refine w_ic (n := 0) (j := 26) rfl rfl ?_
  refine w_iS (j := 27) rfl rfl rfl ?_
  refine w_ic (n := 0) (j := 28) rfl rfl ?_
  refine w_iS (j := 29) rfl rfl rfl ?_
  refine px_forI (fun i ls h2 => ls = [.ref 0, .int sd, .int (nI n'), .int (nI y), .int b, .int c, .int (nI m), .int (nI cr), .int (nI (pf_spf h cs B N sd b c y cr i).1), .int (nI (pf_spf h cs B N sd b c y cr i).2.1), .int (pf_spf h cs B N sd b c y cr i).2.2, .int (nI i)] ∧ px_kp h h2) n' ?_ ?_ ⟨rfl, px_kp.rf⟩
  · rintro i _ h2 hi ⟨rfl, k2⟩ H
    have le := pf_spf_le (sd := sd) (q := b) (m := c) (y := y) (c := cr) hI i
    obtain ⟨sk, sl⟩ := pf_spk_eq (sd := sd) (q := b) (m := c) (y := y) (i := i) hI
    have st : pf_spf h cs B N sd b c y cr (i + 1) = pf_sp1 h cs B N sd b c y cr i (pf_spf h cs B N sd b c y cr i) := rfl
    have ok := pf_cenO (sd := sd + nI i) (q := b) (m := c) hI y
    rw [st] at H
    generalize pf_spf h cs B N sd b c y cr i = F at H le ⊢
    refine w_iL (j := 30) rfl rfl rfl ?_
    refine w_il (j := 31) rfl rfl rfl ?_
    refine w_geN (j := 32) rfl rfl (by omega) (by omega) (fun c => absurd c (fun c => by omega)) (fun _ => ?_)
    refine w_al (j := 33) rfl rfl rfl ?_
    first | refine w_gr (j := 34) rfl rfl (by first | assumption | rfl) (by first | assumption | rfl) rfl ?_ | refine w_gi (j := 34) rfl rfl (by first | assumption | rfl) (by first | assumption | rfl) rfl rfl ?_
    refine w_al (j := 35) rfl rfl rfl ?_
    first | refine w_gr (j := 36) rfl rfl (by first | assumption | rfl) (by first | assumption | rfl) rfl ?_ | refine w_gi (j := 36) rfl rfl (by first | assumption | rfl) (by first | assumption | rfl) rfl rfl ?_
    refine w_cvPU (j := 37) rfl rfl rfl rfl (by first | assumption | rfl) rfl rfl (px_tr0 (cs := cs) (N := N)) rfl ?_
    rintro h3 R
    have R2 : pf_cR (pf_cS h 64) h3 68 := by
      have := R.2
      rw [pf_Y_kp k2] at this
      exact this
    refine w_al (j := 38) rfl rfl rfl ?_
    first | refine w_gr (j := 39) rfl rfl (by first | assumption | rfl) (by first | assumption | rfl) rfl ?_ | refine w_gi (j := 39) rfl rfl (by first | assumption | rfl) (by first | assumption | rfl) rfl rfl ?_
    refine w_al (j := 40) rfl rfl rfl ?_
    first | refine w_gr (j := 41) rfl rfl (by first | assumption | rfl) (by first | assumption | rfl) rfl ?_ | refine w_gi (j := 41) rfl rfl (by first | assumption | rfl) (by first | assumption | rfl) rfl rfl ?_
    refine w_il (j := 42) rfl rfl rfl ?_
    refine w_iL (j := 43) rfl rfl rfl ?_
    first | refine w_add0 (j := 44) rfl rfl ?_ | refine w_addN (j := 44) rfl rfl ?_ | refine w_add (j := 44) rfl rfl ?_
    refine w_il (j := 45) rfl rfl rfl ?_
    refine w_iL (j := 46) rfl rfl rfl ?_
    refine w_iL (j := 47) rfl rfl rfl ?_
    refine w_cvPU (j := 48) rfl rfl rfl rfl (by first | assumption | rfl) rfl rfl (sp_0 hI (by omega) (k2.tr (px_trk R)) R2) rfl ?_
    rintro h4 R4
    have I4 := hI.kp R4.1
    obtain ⟨⟨l1, l2, l3, l4, l5, l6, l7, l8, l9⟩, lw, -, nw, -⟩ := I4
    have S82 : px_V 3 82 [.ref 68] h4 (some (.int (nI (pf_spk h cs B N sd b c y i)))) h4 := by
      rw [← sk, ← pf_sum_congr (fun c hc => R4.2.2.2.2.1 c (by omega))]
      exact sp_82 px_St68 l4 l6 (fun c hc => by rw [R4.2.2.2.2.1 c (by omega)]; exact ok.1 c (by omega))
    obtain ⟨q0, hq0, eq0⟩ := ok.1 cr (by omega)
    have eq1 : h4 69 cr = nI q0 := (R4.2.2.2.2.1 cr (by omega)).trans eq0
    refine w_iL (j := 49) rfl rfl rfl ?_
    refine w_al (j := 50) rfl rfl rfl ?_
    first | refine w_gr (j := 51) rfl rfl (by first | assumption | rfl) (by first | assumption | rfl) rfl ?_ | refine w_gi (j := 51) rfl rfl (by first | assumption | rfl) (by first | assumption | rfl) rfl rfl ?_
    refine w_cvI (j := 52) rfl rfl rfl rfl (by first | assumption | rfl) rfl rfl (S82) rfl ?_
    refine w_min (j := 53) rfl rfl rfl ?_
    rw [px_nmin (by omega) (by omega)]
    refine w_iS (j := 54) rfl rfl rfl ?_
    refine w_iL (j := 55) rfl rfl rfl ?_
    refine w_al (j := 56) rfl rfl rfl ?_
    first | refine w_gr (j := 57) rfl rfl (by first | assumption | rfl) (by first | assumption | rfl) rfl ?_ | refine w_gi (j := 57) rfl rfl (by first | assumption | rfl) (by first | assumption | rfl) rfl rfl ?_
    refine w_cvI (j := 58) rfl rfl rfl rfl (by first | assumption | rfl) rfl rfl (S82) rfl ?_
    refine w_max (j := 59) rfl rfl rfl ?_
    rw [px_nmax (by omega) (by omega)]
    refine w_iS (j := 60) rfl rfl rfl ?_
    refine w_iL (j := 61) rfl rfl rfl ?_
    refine w_al (j := 62) rfl rfl rfl ?_
    first | refine w_gr (j := 63) rfl rfl (by first | assumption | rfl) (by first | assumption | rfl) rfl ?_ | refine w_gi (j := 63) rfl rfl (by first | assumption | rfl) (by first | assumption | rfl) rfl rfl ?_
    first | refine w_gr (j := 64) rfl rfl (by first | assumption | rfl) (by first | assumption | rfl) rfl ?_ | refine w_gi (j := 64) rfl rfl (by first | assumption | rfl) (by first | assumption | rfl) rfl rfl ?_
    refine w_iL (j := 65) rfl rfl rfl ?_
    refine w_ial (j := 66) rfl rfl (by first | assumption | rfl) rfl (by omega) rfl eq1 ?_
    have ed : pf_sp1 h cs B N sd b c y cr i F = (min F.1 (pf_spk h cs B N sd b c y i), max F.2.1 (pf_spk h cs B N sd b c y i), F.2.2 + (if nI q0 = 0 then nI 0 else nI 1)) := by rw [← eq0]; rfl
    rw [ed] at H
    refine w_leM (j := 67) rfl rfl (by omega) (fun d1 => ?_) (fun d1 => ?_)
    ·
      refine w_ic (n := 0) (j := 70) rfl rfl ?_
      first | refine w_add0 (j := 71) rfl rfl ?_ | refine w_addN (j := 71) rfl rfl ?_ | refine w_add (j := 71) rfl rfl ?_
      refine w_iS (j := 72) rfl rfl rfl ?_
      first | refine w_incN (j := 73) rfl rfl rfl ?_ | refine w_inc (j := 73) rfl rfl rfl rfl ?_
      refine w_go rfl ?_
      rw [if_pos (by rw [d1]; rfl)] at H
      exact H _ _ ⟨rfl, R4.1⟩
    ·
      refine w_ic (n := 1) (j := 68) rfl rfl ?_
      refine w_go rfl ?_
      first | refine w_add0 (j := 71) rfl rfl ?_ | refine w_addN (j := 71) rfl rfl ?_ | refine w_add (j := 71) rfl rfl ?_
      refine w_iS (j := 72) rfl rfl rfl ?_
      first | refine w_incN (j := 73) rfl rfl rfl ?_ | refine w_inc (j := 73) rfl rfl rfl rfl ?_
      refine w_go rfl ?_
      rw [if_neg (nI_ne0 d1 (by omega))] at H
      exact H _ _ ⟨rfl, R4.1⟩
  · rintro _ h2 ⟨rfl, k2⟩
    refine w_iL (j := 30) rfl rfl rfl ?_
    refine w_il (j := 31) rfl rfl rfl ?_
    refine w_geN (j := 32) rfl rfl (by omega) (by omega) (fun _ => ?_) (fun c => absurd c (fun c => by omega))
    refine w_iL (j := 75) rfl rfl rfl ?_
    refine w_ic (n := 2) (j := 76) rfl rfl ?_
    obtain rfl | rfl | rfl : m = 0 ∨ m = 1 ∨ m = 2 := by omega
    ·
      refine w_neN (j := 77) rfl rfl (by omega) (by omega) (fun _ => ?_) (fun c => absurd c (fun c => by omega))
      refine w_iL (j := 80) rfl rfl rfl ?_
      refine w_neM (j := 81) rfl rfl (by omega) (fun c => absurd c (fun c => by omega)) (fun _ => ?_)
      refine w_iL (j := 82) rfl rfl rfl ?_
      refine w_go rfl ?_
      refine w_ir rfl ?_
      exact Or.inl ⟨_, _, rfl, n', y, 0, cr, hn2, hn1, hy2, hm, hcr, rfl, rfl, rfl, rfl, ok7, rfl, k2⟩
    ·
      refine w_neN (j := 77) rfl rfl (by omega) (by omega) (fun _ => ?_) (fun c => absurd c (fun c => by omega))
      refine w_iL (j := 80) rfl rfl rfl ?_
      refine w_neM (j := 81) rfl rfl (by omega) (fun _ => ?_) (fun c => absurd c (fun c => by omega))
      refine w_iL (j := 84) rfl rfl rfl ?_
      refine w_ir rfl ?_
      exact Or.inl ⟨_, _, rfl, n', y, 1, cr, hn2, hn1, hy2, hm, hcr, rfl, rfl, rfl, rfl, ok7, rfl, k2⟩
    ·
      refine w_neN (j := 77) rfl rfl (by omega) (by omega) (fun c => absurd c (fun c => by omega)) (fun _ => ?_)
      refine w_iL (j := 78) rfl rfl rfl ?_
      refine w_ir rfl ?_
      exact Or.inl ⟨_, _, rfl, n', y, 2, cr, hn2, hn1, hy2, hm, hcr, rfl, rfl, rfl, rfl, ok7, rfl, k2⟩
theorem M_span {sd b c : Int32} {n y m cr : Nat} (hI : px_I h B N T cs L W I t) (hn2 : n ≤ 20) (hn1 : 1 ≤ n) (hy2 : y ≤ 96) (hm : m ≤ 2) (hcr : cr < N) (ok7 : pf_ok7 N (nI n) (nI y) b c (nI m) (nI cr)) : px_PI 10 252 [.ref 100, .int sd, .int (nI n), .int (nI y), .int b, .int c, .int (nI m), .int (nI cr)] h (fun w h2 => w = pf_spn (pf_spf h cs B N sd b c y cr n) m ∧ h2 100 0 = nI 0 ∧ px_kp h h2) := by
  refine px_M (M := mt_252) (ops := mo_252) tb_252 rfl rfl rfl rfl rfl ?_
  refine w_al (j := 1) rfl rfl rfl ?_
  refine w_ic (n := 0) (j := 2) rfl rfl ?_
  refine w_pf (j := 3) rfl rfl (by first | assumption | rfl) (by first | assumption | rfl) rfl ?_
  obtain ⟨I1, k1, t0⟩ := px_thr (v := nI 0) hI
  generalize ix_up h 100 0 (nI 0) = h1 at I1 k1 t0 ⊢
  rw [← pf_spf_kp k1]
  have l5 := I1.1.2.2.2.2.1
  have l6 := I1.1.2.2.2.2.2.1
  refine w_al (j := 4) rfl rfl rfl ?_
  refine w_il (j := 5) rfl rfl rfl ?_
  refine w_ic (n := 1) (j := 6) rfl rfl ?_
  refine w_bi (j := 7) (a := nI 20) rfl rfl (by decide) ?_
  refine w_csI (j := 8) rfl rfl rfl rfl rfl (sp_155) rfl ?_
  rw [decide_eq_true ok7.1]
  refine w_eqB (j := 9) rfl rfl (fun c => absurd c (by simp)) (fun _ => ?_)
  refine w_il (j := 10) rfl rfl rfl ?_
  refine w_iL (j := 11) rfl rfl rfl ?_
  refine w_iL (j := 12) rfl rfl rfl ?_
  refine w_csPI (j := 13) rfl rfl rfl rfl rfl (sp_250) rfl ?_
  rintro v h9 ⟨e9, d, e8, hd⟩
  subst e9 e8
  rw [hd.mpr ok7.2.1]
  refine w_eqB (j := 14) rfl rfl (fun c => absurd c (by simp)) (fun _ => ?_)
  refine w_iL (j := 15) rfl rfl rfl ?_
  refine w_ic (n := 0) (j := 16) rfl rfl ?_
  refine w_ic (n := 2) (j := 17) rfl rfl ?_
  refine w_csI (j := 18) rfl rfl rfl rfl rfl (sp_155) rfl ?_
  rw [px_ofN hm (by decide)]
  refine w_eqB (j := 19) rfl rfl (fun c => absurd c (by simp)) (fun _ => ?_)
  refine w_al (j := 20) rfl rfl rfl ?_
  refine w_iL (j := 21) rfl rfl rfl ?_
  refine w_cvI (j := 22) rfl rfl rfl rfl (by first | assumption | rfl) rfl rfl (sp_213 l5 l6) rfl ?_
  rw [px_ofB hcr l6]
  refine w_neB (j := 23) rfl rfl (fun _ => ?_) (fun c => absurd c (by simp))
  refine w_ic (n := 0) (j := 26) rfl rfl ?_
  refine w_ic (n := 1) (j := 27) rfl rfl ?_
  refine w_ic (n := 1) (j := 28) rfl rfl ?_
  refine w_cvI (j := 29) rfl rfl rfl rfl (by first | assumption | rfl) rfl rfl (sp_154f t0) rfl ?_
  refine w_eqB (j := 30) rfl rfl (fun _ => ?_) (fun c => absurd c (by simp))
  refine w_im (j := 33) rfl rfl ?_
  refine w_iS (j := 34) rfl rfl rfl ?_
  refine w_ic (n := 0) (j := 35) rfl rfl ?_
  refine w_iS (j := 36) rfl rfl rfl ?_
  refine w_ic (n := 0) (j := 37) rfl rfl ?_
  refine w_iS (j := 38) rfl rfl rfl ?_
  refine w_ic (n := 0) (j := 39) rfl rfl ?_
  refine w_iS (j := 40) rfl rfl rfl ?_
  refine px_forI (fun i ls h2 => (∃ l g, ls = [.ref 100, .int sd, .int (nI n), .int (nI y), .int b, .int c, .int (nI m), .int (nI cr), .int l, .int (nI (pf_spf h9 cs B N sd b c y cr i).2.1), .int (pf_spf h9 cs B N sd b c y cr i).2.2, .int (nI i), g] ∧ ((i = 0 ∧ l = -1) ∨ (0 < i ∧ l = nI (pf_spf h9 cs B N sd b c y cr i).1))) ∧ px_kp h9 h2 ∧ h2 100 0 = nI 0) n ?_ ?_ ⟨⟨_, _, rfl, Or.inl ⟨rfl, rfl⟩⟩, px_kp.rf, t0⟩
  · rintro i _ h2 hi ⟨⟨l, g, rfl, hl⟩, k2, t2⟩ H
    have le := pf_spf_le (sd := sd) (q := b) (m := c) (y := y) (c := cr) I1 i
    obtain ⟨sk, sl⟩ := pf_spk_eq (sd := sd) (q := b) (m := c) (y := y) (i := i) I1
    have st : pf_spf h9 cs B N sd b c y cr (i + 1) = pf_sp1 h9 cs B N sd b c y cr i (pf_spf h9 cs B N sd b c y cr i) := rfl
    have ok := pf_cenO (sd := sd + nI i) (q := b) (m := c) I1 y
    have e792 : i = 0 → (pf_spf h9 cs B N sd b c y cr i).1 = 792 := fun e => by rw [e]; rfl
    rw [st] at H
    generalize pf_spf h9 cs B N sd b c y cr i = F at H le hl e792 ⊢
    refine w_iL (j := 41) rfl rfl rfl ?_
    refine w_il (j := 42) rfl rfl rfl ?_
    refine w_geN (j := 43) rfl rfl (by omega) (by omega) (fun c => absurd c (fun c => by omega)) (fun _ => ?_)
    refine w_al (j := 44) rfl rfl rfl ?_
    refine w_il (j := 45) rfl rfl rfl ?_
    refine w_iL (j := 46) rfl rfl rfl ?_
    first | refine w_add0 (j := 47) rfl rfl ?_ | refine w_addN (j := 47) rfl rfl ?_ | refine w_add (j := 47) rfl rfl ?_
    refine w_il (j := 48) rfl rfl rfl ?_
    refine w_iL (j := 49) rfl rfl rfl ?_
    refine w_iL (j := 50) rfl rfl rfl ?_
    refine w_cvPU (j := 51) rfl rfl rfl rfl (by first | assumption | rfl) rfl rfl (sp_249 (I1.kp k2) hy2) rfl ?_
    rintro h4 R4
    rw [pf_cen_kp k2] at R4
    have k4 := k2.tr R4.1
    have t4 : h4 100 0 = nI 0 := R4.2.1.trans t2
    have I4 := I1.kp k4
    obtain ⟨⟨l1, l2, l3, l4, l5, l6, l7, l8, l9⟩, lw, -, nw, -⟩ := I4
    have S82 : px_V 1 209 [.ref 100, .ref 578] h4 (some (.int (nI (pf_spk h9 cs B N sd b c y i)))) h4 := by
      rw [← sk, ← pf_sum_congr (fun c hc => R4.2.2.2.2.2.1 c (by omega))]
      exact sp_209 px_Rw578 l5 l6
    obtain ⟨q0, hq0, eq0⟩ := ok.1 cr (by omega)
    have eq1 : h4 578 (8 + cr) = nI q0 := (R4.2.2.2.2.2.1 cr (by omega)).trans eq0
    have ed : pf_sp1 h9 cs B N sd b c y cr i F = (min F.1 (pf_spk h9 cs B N sd b c y i), max F.2.1 (pf_spk h9 cs B N sd b c y i), F.2.2 + (if nI q0 = 0 then nI 0 else nI 1)) := by rw [← eq0]; rfl
    rw [ed] at H
    generalize hK : pf_spk h9 cs B N sd b c y i = K at sl H S82
    have p2 : px_R px_E 9 mo_252 [] 64 [.ref 100, .int sd, .int (nI n), .int (nI y), .int b, .int c, .int (nI m), .int (nI cr), .int l, .int (nI F.2.1), .int F.2.2, .int (nI i), .int (nI K)] [.int (nI (min F.1 K))] h4 0 (fun r => ∃ v h', r = (.inl (some (.int v)), h', 0) ∧ v = pf_spn (pf_spf h9 cs B N sd b c y cr n) m ∧ h' 100 0 = nI 0 ∧ px_kp h h') := by
      refine w_iS (j := 65) rfl rfl rfl ?_
      refine w_iL (j := 66) rfl rfl rfl ?_
      refine w_iL (j := 67) rfl rfl rfl ?_
      refine w_csI (j := 68) rfl rfl rfl rfl rfl (sp_157) rfl ?_
      rw [show pf_mo2 (nI F.2.1) (nI K) = nI (max F.2.1 K) by unfold pf_mo2; rw [px_nmax (by omega) (by omega), Nat.max_comm]]
      refine w_iS (j := 69) rfl rfl rfl ?_
      refine w_iL (j := 70) rfl rfl rfl ?_
      refine w_al (j := 71) rfl rfl rfl ?_
      first | refine w_gr (j := 72) rfl rfl (by first | assumption | rfl) (by first | assumption | rfl) rfl ?_ | refine w_gi (j := 72) rfl rfl (by first | assumption | rfl) (by first | assumption | rfl) rfl rfl ?_
      refine w_bi (j := 73) (a := nI 8) rfl rfl (by decide) ?_
      refine w_iL (j := 74) rfl rfl rfl ?_
      first | refine w_add0 (j := 75) rfl rfl ?_ | refine w_addN (j := 75) rfl rfl ?_ | refine w_add (j := 75) rfl rfl ?_
      refine w_ial (j := 76) rfl rfl (by first | assumption | rfl) rfl (by omega) rfl eq1 ?_
      refine w_neM (j := 77) rfl rfl (by omega) (fun d1 => ?_) (fun d1 => ?_)
      ·
        refine w_ic (n := 1) (j := 80) rfl rfl ?_
        first | refine w_add0 (j := 81) rfl rfl ?_ | refine w_addN (j := 81) rfl rfl ?_ | refine w_add (j := 81) rfl rfl ?_
        refine w_iS (j := 82) rfl rfl rfl ?_
        first | refine w_incN (j := 83) rfl rfl rfl ?_ | refine w_inc (j := 83) rfl rfl rfl rfl ?_
        refine w_go rfl ?_
        rw [if_neg (nI_ne0 (by omega) (by omega))] at H
        exact H _ _ ⟨⟨_, _, rfl, Or.inr ⟨by omega, rfl⟩⟩, k4, t4⟩
      ·
        refine w_ic (n := 0) (j := 78) rfl rfl ?_
        refine w_go rfl ?_
        first | refine w_add0 (j := 81) rfl rfl ?_ | refine w_addN (j := 81) rfl rfl ?_ | refine w_add (j := 81) rfl rfl ?_
        refine w_iS (j := 82) rfl rfl rfl ?_
        first | refine w_incN (j := 83) rfl rfl rfl ?_ | refine w_inc (j := 83) rfl rfl rfl rfl ?_
        refine w_go rfl ?_
        rw [if_pos (by rw [d1]; rfl)] at H
        exact H _ _ ⟨⟨_, _, rfl, Or.inr ⟨by omega, rfl⟩⟩, k4, t4⟩
    refine w_al (j := 52) rfl rfl rfl ?_
    refine w_al (j := 53) rfl rfl rfl ?_
    first | refine w_gr (j := 54) rfl rfl (by first | assumption | rfl) (by first | assumption | rfl) rfl ?_ | refine w_gi (j := 54) rfl rfl (by first | assumption | rfl) (by first | assumption | rfl) rfl rfl ?_
    refine w_cvI (j := 55) rfl rfl rfl rfl (by first | assumption | rfl) rfl rfl (S82) rfl ?_
    refine w_iS (j := 56) rfl rfl rfl ?_
    refine w_iL (j := 57) rfl rfl rfl ?_
    refine w_im (j := 58) rfl rfl ?_
    rcases hl with ⟨i0, rfl⟩ | ⟨i0, rfl⟩
    ·
      refine w_ne (j := 59) rfl rfl (fun c => absurd c (fun q => q rfl)) (fun _ => ?_)
      refine w_iL (j := 60) rfl rfl rfl ?_
      refine w_go rfl ?_
      have eK : min F.1 K = K := by rw [e792 i0]; omega
      rw [eK] at p2
      exact p2
    ·
      refine w_ne (j := 59) rfl rfl (fun _ => ?_) (fun c => absurd c (px_nm1 (by omega)))
      refine w_iL (j := 62) rfl rfl rfl ?_
      refine w_iL (j := 63) rfl rfl rfl ?_
      refine w_csI (j := 64) rfl rfl rfl rfl rfl (sp_156) rfl ?_
      rw [show pf_ls2 (nI F.1) (nI K) = nI (min F.1 K) by unfold pf_ls2; rw [px_nmin (by omega) (by omega), Nat.min_comm]]
      exact p2
  · rintro _ h2 ⟨⟨l, g, rfl, hl⟩, k2, t2⟩
    have hl : l = nI (pf_spf h9 cs B N sd b c y cr n).1 := by
      rcases hl with ⟨e, -⟩ | ⟨-, e⟩
      · omega
      · exact e
    subst hl
    have k9 := k1.tr k2
    refine w_iL (j := 41) rfl rfl rfl ?_
    refine w_il (j := 42) rfl rfl rfl ?_
    refine w_geN (j := 43) rfl rfl (by omega) (by omega) (fun _ => ?_) (fun c => absurd c (fun c => by omega))
    refine w_iL (j := 85) rfl rfl rfl ?_
    obtain rfl | rfl | rfl : m = 0 ∨ m = 1 ∨ m = 2 := by omega
    ·
      refine w_neM (j := 86) rfl rfl (by omega) (fun c => absurd c (fun c => by omega)) (fun _ => ?_)
      refine w_iL (j := 87) rfl rfl rfl ?_
      refine w_go rfl ?_
      refine w_ir rfl ?_
      exact ⟨_, _, rfl, rfl, t2, k9⟩
    ·
      refine w_neM (j := 86) rfl rfl (by omega) (fun _ => ?_) (fun c => absurd c (fun c => by omega))
      refine w_iL (j := 89) rfl rfl rfl ?_
      refine w_ic (n := 1) (j := 90) rfl rfl ?_
      refine w_neN (j := 91) rfl rfl (by omega) (by omega) (fun c => absurd c (fun c => by omega)) (fun _ => ?_)
      refine w_iL (j := 92) rfl rfl rfl ?_
      refine w_go rfl ?_
      refine w_ir rfl ?_
      exact ⟨_, _, rfl, rfl, t2, k9⟩
    ·
      refine w_neM (j := 86) rfl rfl (by omega) (fun _ => ?_) (fun c => absurd c (fun c => by omega))
      refine w_iL (j := 89) rfl rfl rfl ?_
      refine w_ic (n := 1) (j := 90) rfl rfl ?_
      refine w_neN (j := 91) rfl rfl (by omega) (by omega) (fun _ => ?_) (fun c => absurd c (fun c => by omega))
      refine w_iL (j := 94) rfl rfl rfl ?_
      refine w_ir rfl ?_
      exact ⟨_, _, rfl, rfl, t2, k9⟩
theorem MX_span {sd n a b c w d : Int32} (l5 : h 104 1 = nI N) (l6 : N ≤ 8) (ok : ¬ pf_ok7 N n a b c w d) : px_PI 4 252 [.ref 100, .int sd, .int n, .int a, .int b, .int c, .int w, .int d] h (fun v h2 => h2 100 0 = nI 1 ∧ px_kp (ix_up h 102 1 (h 102 1 + nI 1)) h2) := by
  have tail : px_R px_E 3 mo_252 [] 23 [.ref 100, .int sd, .int n, .int a, .int b, .int c, .int w, .int d, .null, .null, .null, .null, .null] [.ref 100] (ix_up h 100 0 (nI 0)) 0 (fun r => ∃ v h', r = (.inl (some (.int v)), h', 0) ∧ h' 100 0 = nI 1 ∧ px_kp (ix_up h 102 1 (h 102 1 + nI 1)) h') := by
    refine w_ic (n := 1) (j := 24) rfl rfl ?_
    refine w_go rfl ?_
    refine w_ic (n := 1) (j := 27) rfl rfl ?_
    refine w_ic (n := 1) (j := 28) rfl rfl ?_
    refine w_cvI (j := 29) rfl rfl rfl rfl (by first | assumption | rfl) rfl rfl (sp_154t (p := 1) (w := 1) rfl (by decide) (by decide) (by decide)) rfl ?_
    refine w_eqB (j := 30) rfl rfl (fun c => absurd c (by simp)) (fun _ => ?_)
    refine w_ic (n := 0) (j := 31) rfl rfl ?_
    refine w_ir rfl ?_
    exact ⟨_, _, rfl, rfl, px_kpX (by decide)⟩
  refine px_M (M := mt_252) (ops := mo_252) tb_252 rfl rfl rfl rfl rfl ?_
  refine w_al (j := 1) rfl rfl rfl ?_
  refine w_ic (n := 0) (j := 2) rfl rfl ?_
  refine w_pf (j := 3) rfl rfl (by first | assumption | rfl) (by first | assumption | rfl) rfl ?_
  refine w_al (j := 4) rfl rfl rfl ?_
  refine w_il (j := 5) rfl rfl rfl ?_
  refine w_ic (n := 1) (j := 6) rfl rfl ?_
  refine w_bi (j := 7) (a := nI 20) rfl rfl (by decide) ?_
  refine w_csI (j := 8) rfl rfl rfl rfl rfl (sp_155) rfl ?_
  by_cases c1 : nI 1 ≤ n ∧ n ≤ nI 20
  rw [decide_eq_true c1]
  rotate_left
  · rw [decide_eq_false c1]
    exact w_eqB rfl rfl (fun _ => tail) (fun c => absurd c (by simp))
  refine w_eqB (j := 9) rfl rfl (fun c => absurd c (by simp)) (fun _ => ?_)
  refine w_il (j := 10) rfl rfl rfl ?_
  refine w_iL (j := 11) rfl rfl rfl ?_
  refine w_iL (j := 12) rfl rfl rfl ?_
  refine w_csPI (j := 13) rfl rfl rfl rfl rfl (sp_250) rfl ?_
  rintro v h9 ⟨e9, d9, e8, hd⟩
  subst e9 e8
  cases d9 with
  | false => exact w_eqB rfl rfl (fun _ => tail) (fun c => absurd c (by simp))
  | true =>
    refine w_eqB (j := 14) rfl rfl (fun c => absurd c (by simp)) (fun _ => ?_)
    refine w_iL (j := 15) rfl rfl rfl ?_
    refine w_ic (n := 0) (j := 16) rfl rfl ?_
    refine w_ic (n := 2) (j := 17) rfl rfl ?_
    refine w_csI (j := 18) rfl rfl rfl rfl rfl (sp_155) rfl ?_
    by_cases c3 : nI 0 ≤ w ∧ w ≤ nI 2
    rw [decide_eq_true c3]
    rotate_left
    · rw [decide_eq_false c3]
      exact w_eqB rfl rfl (fun _ => tail) (fun c => absurd c (by simp))
    refine w_eqB (j := 19) rfl rfl (fun c => absurd c (by simp)) (fun _ => ?_)
    refine w_al (j := 20) rfl rfl rfl ?_
    refine w_iL (j := 21) rfl rfl rfl ?_
    refine w_cvI (j := 22) rfl rfl rfl rfl (by first | assumption | rfl) rfl rfl (sp_213 (N := N) l5 l6) rfl ?_
    rw [decide_eq_false (fun q => ok ⟨c1, hd.mp rfl, c3, q⟩)]
    refine w_neB (j := 23) rfl rfl (fun c => absurd c (by simp)) (fun _ => ?_)
    exact tail
end CE
