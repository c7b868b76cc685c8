def pf_lev (s : Nat → Int32) (cries bound : Int32) (c : Nat) (v : Int32) : Int32 := if cries >>> (nI c &&& 31) &&& nI 1 = nI 1 then v + (if bound < s c then bound else s c) else v
theorem sp_83 {h : ix_H} {x N : Nat} {cries bound : Int32} (hx : px_St x) (hN : h 3 7 = nI N) (hb : N ≤ 8) : px_V 1 83 [.ref x, .int cries, .int bound] h (some (.int (px_fold (pf_lev (h (x + 1)) cries bound) N (nI 0)))) h := by
  obtain ⟨x1, x2, x3, x4, x5, x6, x7⟩ := hx
  refine px_M (M := mt_83) (ops := mo_83) tb_83 rfl rfl rfl rfl rfl ?_
  refine w_ic (n := 0) (j := 1) rfl rfl ?_
  refine w_is (j := 2) rfl rfl rfl ?_
  refine w_ic (n := 0) (j := 3) rfl rfl ?_
  refine w_iS (j := 4) rfl rfl rfl ?_
  refine px_for (fun c s => [.ref x, .int cries, .int bound, .int s, .int (nI c)]) (fun _ => h) (pf_lev (h (x + 1)) cries bound) N (nI 0) (fun _ _ => True) trivial (fun _ _ _ _ => trivial) ?_ ?_
  · intro c s hc _ H
    refine w_iL (j := 5) rfl rfl rfl ?_
    refine w_al (j := 6) rfl rfl rfl ?_
    first | refine w_gr (j := 7) rfl rfl (by first | assumption | rfl) (by first | assumption | rfl) rfl ?_ | refine w_gi (j := 7) rfl rfl (by first | assumption | rfl) (by first | assumption | rfl) rfl rfl ?_
    first | refine w_gr (j := 8) rfl rfl (by first | assumption | rfl) (by first | assumption | rfl) rfl ?_ | refine w_gi (j := 8) rfl rfl (by first | assumption | rfl) (by first | assumption | rfl) rfl hN ?_
    refine w_geN (j := 9) rfl rfl (by omega) (by omega) (fun c => absurd c (fun c => by omega)) (fun _ => ?_)
    refine w_il (j := 10) rfl rfl rfl ?_
    refine w_iL (j := 11) rfl rfl rfl ?_
    refine w_shr (j := 12) rfl rfl ?_
    refine w_ic (n := 1) (j := 13) rfl rfl ?_
    refine w_and (j := 14) rfl rfl ?_
    refine w_ic (n := 1) (j := 15) rfl rfl ?_
    refine w_ne (j := 16) rfl rfl (fun c1 => ?_) (fun c1 => ?_)
    ·
      first | refine w_incN (j := 26) rfl rfl rfl ?_ | refine w_inc (j := 26) rfl rfl rfl rfl ?_
      refine w_go rfl ?_
      rw [pf_lev, if_neg c1] at H
      exact H
    ·
      refine w_il (j := 17) rfl rfl rfl ?_
      refine w_al (j := 18) rfl rfl rfl ?_
      first | refine w_gr (j := 19) rfl rfl (by first | assumption | rfl) (by first | assumption | rfl) rfl ?_ | refine w_gi (j := 19) rfl rfl (by first | assumption | rfl) (by first | assumption | rfl) rfl rfl ?_
      refine w_iL (j := 20) rfl rfl rfl ?_
      refine w_ial (j := 21) rfl rfl (by first | assumption | rfl) rfl (by omega) rfl rfl ?_
      refine w_il (j := 22) rfl rfl rfl ?_
      refine w_min (j := 23) rfl rfl rfl ?_
      first | refine w_add0 (j := 24) rfl rfl ?_ | refine w_addN (j := 24) rfl rfl ?_ | refine w_add (j := 24) rfl rfl ?_
      refine w_is (j := 25) rfl rfl rfl ?_
      first | refine w_incN (j := 26) rfl rfl rfl ?_ | refine w_inc (j := 26) rfl rfl rfl rfl ?_
      refine w_go rfl ?_
      rw [pf_lev, if_pos c1] at H
      exact H
  · intro _
    refine w_iL (j := 5) rfl rfl rfl ?_
    refine w_al (j := 6) rfl rfl rfl ?_
    first | refine w_gr (j := 7) rfl rfl (by first | assumption | rfl) (by first | assumption | rfl) rfl ?_ | refine w_gi (j := 7) rfl rfl (by first | assumption | rfl) (by first | assumption | rfl) rfl rfl ?_
    first | refine w_gr (j := 8) rfl rfl (by first | assumption | rfl) (by first | assumption | rfl) rfl ?_ | refine w_gi (j := 8) rfl rfl (by first | assumption | rfl) (by first | assumption | rfl) rfl hN ?_
    refine w_geN (j := 9) rfl rfl (by omega) (by omega) (fun _ => ?_) (fun c => absurd c (fun c => by omega))
    refine w_il (j := 28) rfl rfl rfl ?_
    refine w_ir rfl ?_
    rfl
theorem sp_81 {h : ix_H} {x N : Nat} {cries : Int32} (hx : px_St x) (hN : h 3 7 = nI N) (hb : N ≤ 8) : px_V 2 81 [.ref x, .int cries] h (some (.int (px_fold (pf_lev (h (x + 1)) cries (nI 99)) N (nI 0)))) h := by
  have hx' := hx
  obtain ⟨x1, x2, x3, x4, x5, x6, x7⟩ := hx
  refine px_M (M := mt_81) (ops := mo_81) tb_81 rfl rfl rfl rfl rfl ?_
  refine w_al (j := 1) rfl rfl rfl ?_
  refine w_il (j := 2) rfl rfl rfl ?_
  refine w_bi (j := 3) (a := nI 99) rfl rfl (by decide) ?_
  refine w_cvI (j := 4) rfl rfl rfl rfl (by first | assumption | rfl) rfl rfl (sp_83 hx' hN hb) rfl ?_
  refine w_ir rfl ?_
  rfl
def pf_all (N : Nat) : Int32 := nI 1 <<< (nI N &&& 31) - nI 1
def pf_sum (s : Nat → Int32) (N : Nat) : Int32 := px_fold (fun c v => v + s c) N (nI 0)
theorem pf_sum_lev {s : Nat → Int32} {N : Nat} (hN : N ≤ 8) (hs : ∀ c, c < N → ∃ q, q ≤ 99 ∧ s c = nI q) : px_fold (pf_lev s (pf_all N) (nI 99)) N (nI 0) = pf_sum s N := by
  refine px_fold_congr N _ (fun c v hc => ?_)
  obtain ⟨q, hq, e⟩ := hs c hc
  rw [pf_lev, pf_all, if_pos (pf_has_all N hN c hc), e, if_neg (fun w => by have := (px_nlt (by decide) (by omega)).mp w; omega)]
theorem sp_82 {h : ix_H} {x N : Nat} (hx : px_St x) (hN : h 3 7 = nI N) (hb : N ≤ 8) (hs : ∀ c, c < N → ∃ q, q ≤ 99 ∧ h (x + 1) c = nI q) : px_V 3 82 [.ref x] h (some (.int (pf_sum (h (x + 1)) N))) h := by
  have hx' := hx
  obtain ⟨x1, x2, x3, x4, x5, x6, x7⟩ := hx
  refine px_M (M := mt_82) (ops := mo_82) tb_82 rfl rfl rfl rfl rfl ?_
  refine w_al (j := 1) rfl rfl rfl ?_
  refine w_ic (n := 1) (j := 2) rfl rfl ?_
  refine w_al (j := 3) rfl rfl rfl ?_
  first | refine w_gr (j := 4) rfl rfl (by first | assumption | rfl) (by first | assumption | rfl) rfl ?_ | refine w_gi (j := 4) rfl rfl (by first | assumption | rfl) (by first | assumption | rfl) rfl rfl ?_
  first | refine w_gr (j := 5) rfl rfl (by first | assumption | rfl) (by first | assumption | rfl) rfl ?_ | refine w_gi (j := 5) rfl rfl (by first | assumption | rfl) (by first | assumption | rfl) rfl hN ?_
  refine w_shl (j := 6) rfl rfl ?_
  refine w_ic (n := 1) (j := 7) rfl rfl ?_
  first | refine w_subN (j := 8) rfl rfl (by omega) ?_ | refine w_sub (j := 8) rfl rfl ?_
  refine w_cvI (j := 9) rfl rfl rfl rfl (by first | assumption | rfl) rfl rfl (sp_81 hx' hN hb) rfl ?_
  refine w_ir rfl ?_
  exact px_ri (pf_sum_lev hb hs)
theorem sp_80 {h : ix_H} {x N : Nat} (hx : px_St x) (hN : h 3 7 = nI N) (hb : N ≤ 8) : px_V 1 80 [.ref x] h (some (.int (px_fold (pf_fb (fun c => h (x + 1) c = 0)) N (nI 0)))) h := by
  obtain ⟨x1, x2, x3, x4, x5, x6, x7⟩ := hx
  refine px_M (M := mt_80) (ops := mo_80) tb_80 rfl rfl rfl rfl rfl ?_
  refine w_ic (n := 0) (j := 1) rfl rfl ?_
  refine w_is (j := 2) rfl rfl rfl ?_
  refine w_ic (n := 0) (j := 3) rfl rfl ?_
  refine w_is (j := 4) rfl rfl rfl ?_
  refine px_for (fun c s => [.ref x, .int s, .int (nI c)]) (fun _ => h) (pf_fb (fun c => h (x + 1) c = 0)) N (nI 0) (fun _ _ => True) trivial (fun _ _ _ _ => trivial) ?_ ?_
  · intro c s hc _ H
    refine w_il (j := 5) rfl rfl rfl ?_
    refine w_al (j := 6) rfl rfl rfl ?_
    first | refine w_gr (j := 7) rfl rfl (by first | assumption | rfl) (by first | assumption | rfl) rfl ?_ | refine w_gi (j := 7) rfl rfl (by first | assumption | rfl) (by first | assumption | rfl) rfl rfl ?_
    first | refine w_gr (j := 8) rfl rfl (by first | assumption | rfl) (by first | assumption | rfl) rfl ?_ | refine w_gi (j := 8) rfl rfl (by first | assumption | rfl) (by first | assumption | rfl) rfl hN ?_
    refine w_geN (j := 9) rfl rfl (by omega) (by omega) (fun c => absurd c (fun c => by omega)) (fun _ => ?_)
    refine w_al (j := 10) rfl rfl rfl ?_
    first | refine w_gr (j := 11) rfl rfl (by first | assumption | rfl) (by first | assumption | rfl) rfl ?_ | refine w_gi (j := 11) rfl rfl (by first | assumption | rfl) (by first | assumption | rfl) rfl rfl ?_
    refine w_il (j := 12) rfl rfl rfl ?_
    refine w_ial (j := 13) rfl rfl (by first | assumption | rfl) rfl (by omega) rfl rfl ?_
    refine w_neZ (j := 14) rfl rfl (fun c1 => ?_) (fun c1 => ?_)
    ·
      first | refine w_incN (j := 21) rfl rfl rfl ?_ | refine w_inc (j := 21) rfl rfl rfl rfl ?_
      refine w_go rfl ?_
      rw [pf_fb, if_neg c1] at H
      exact H
    ·
      refine w_il (j := 15) rfl rfl rfl ?_
      refine w_ic (n := 1) (j := 16) rfl rfl ?_
      refine w_il (j := 17) rfl rfl rfl ?_
      refine w_shl (j := 18) rfl rfl ?_
      refine w_or (j := 19) rfl rfl ?_
      refine w_is (j := 20) rfl rfl rfl ?_
      first | refine w_incN (j := 21) rfl rfl rfl ?_ | refine w_inc (j := 21) rfl rfl rfl rfl ?_
      refine w_go rfl ?_
      rw [pf_fb, if_pos c1] at H
      exact H
  · intro _
    refine w_il (j := 5) rfl rfl rfl ?_
    refine w_al (j := 6) rfl rfl rfl ?_
    first | refine w_gr (j := 7) rfl rfl (by first | assumption | rfl) (by first | assumption | rfl) rfl ?_ | refine w_gi (j := 7) rfl rfl (by first | assumption | rfl) (by first | assumption | rfl) rfl rfl ?_
    first | refine w_gr (j := 8) rfl rfl (by first | assumption | rfl) (by first | assumption | rfl) rfl ?_ | refine w_gi (j := 8) rfl rfl (by first | assumption | rfl) (by first | assumption | rfl) rfl hN ?_
    refine w_geN (j := 9) rfl rfl (by omega) (by omega) (fun _ => ?_) (fun c => absurd c (fun c => by omega))
    refine w_il (j := 23) rfl rfl rfl ?_
    refine w_ir rfl ?_
    rfl
theorem sp_79 {h : ix_H} {x N : Nat} (hx : px_St x) (hN : h 3 7 = nI N) (hb : N ≤ 8) : px_V 2 79 [.ref x] h (some (.int (px_fold (pf_fb (fun c => h (x + 3) c = -2)) N (nI 0)))) h := by
  have hx' := hx
  obtain ⟨x1, x2, x3, x4, x5, x6, x7⟩ := hx
  refine px_M (M := mt_79) (ops := mo_79) tb_79 rfl rfl rfl rfl rfl ?_
  refine w_al (j := 1) rfl rfl rfl ?_
  refine w_bi (j := 2) (a := (-2)) rfl rfl (by decide) ?_
  refine w_cvI (j := 3) rfl rfl rfl rfl (by first | assumption | rfl) rfl rfl (sp_77 hx' hN hb) rfl ?_
  refine w_ir rfl ?_
  rfl
def pf_kept (p : Nat → Int32) (N : Nat) : Int32 := px_fold (pf_fb (fun c => 0 ≤ p c)) N (nI 0)
theorem pf_kept_eq {p : Nat → Int32} {N B : Nat} (hN : N ≤ 8) (hB : B ≤ 6) (hp : ∀ c, c < N → p c = -2 ∨ p c = -1 ∨ ∃ b, b < B ∧ p c = nI b) : (pf_all N &&& (px_fold (pf_kin p (-1)) N (nI 0) ^^^ (-1))) &&& (px_fold (pf_kin p (-2)) N (nI 0) ^^^ (-1)) = pf_kept p N := by
  apply px_bitx
  intro i hi
  show pf_g _ i = pf_g _ i
  have a1 := pf_g_fb (fun c => p c = -1) (nI 0) i hi N hN
  have a2 := pf_g_fb (fun c => p c = -2) (nI 0) i hi N hN
  have a3 := pf_g_fb (fun c => 0 ≤ p c) (nI 0) i hi N hN
  rw [pf_g_and, pf_g_and, pf_g_xor, pf_g_xor, pf_g_m1 i hi, show pf_g (pf_all N) i = decide (i < N) from pf_g_all N hN i hi]
  rw [show pf_g (px_fold (pf_kin p (-1)) N (nI 0)) i = _ from a1, show pf_g (px_fold (pf_kin p (-2)) N (nI 0)) i = _ from a2]
  unfold pf_kept
  rw [a3, pf_g_0]
  by_cases hiN : i < N
  · rcases hp i hiN with e | e | ⟨b, hb, e⟩
    · have : ¬ (0 : Int32) ≤ -2 := by decide
      simp [e, this]
    · have : ¬ (0 : Int32) ≤ -1 := by decide
      simp [e, this]
    · have h1 := (px_nneg (b := b) (by omega)).1
      have h2 := (px_nneg (b := b) (by omega)).2
      have h3 : (0 : Int32) ≤ nI b := nI_pos' (by omega)
      simp [e, h1, h2, h3, hiN]
  · simp [hiN]
theorem sp_78 {h : ix_H} {x N B : Nat} (hx : px_St x) (hN : h 3 7 = nI N) (hb : N ≤ 8) (hB : B ≤ 6) (hp : ∀ c, c < N → h (x + 3) c = -2 ∨ h (x + 3) c = -1 ∨ ∃ b, b < B ∧ h (x + 3) c = nI b) : px_V 2 78 [.ref x] h (some (.int (pf_kept (h (x + 3)) N))) h := by
  have hx' := hx
  obtain ⟨x1, x2, x3, x4, x5, x6, x7⟩ := hx
  refine px_M (M := mt_78) (ops := mo_78) tb_78 rfl rfl rfl rfl rfl ?_
  refine w_ic (n := 1) (j := 1) rfl rfl ?_
  refine w_al (j := 2) rfl rfl rfl ?_
  first | refine w_gr (j := 3) rfl rfl (by first | assumption | rfl) (by first | assumption | rfl) rfl ?_ | refine w_gi (j := 3) rfl rfl (by first | assumption | rfl) (by first | assumption | rfl) rfl rfl ?_
  first | refine w_gr (j := 4) rfl rfl (by first | assumption | rfl) (by first | assumption | rfl) rfl ?_ | refine w_gi (j := 4) rfl rfl (by first | assumption | rfl) (by first | assumption | rfl) rfl hN ?_
  refine w_shl (j := 5) rfl rfl ?_
  refine w_ic (n := 1) (j := 6) rfl rfl ?_
  first | refine w_subN (j := 7) rfl rfl (by omega) ?_ | refine w_sub (j := 7) rfl rfl ?_
  refine w_al (j := 8) rfl rfl rfl ?_
  refine w_im (j := 9) rfl rfl ?_
  refine w_cvI (j := 10) rfl rfl rfl rfl (by first | assumption | rfl) rfl rfl (sp_77 hx' hN hb) rfl ?_
  refine w_im (j := 11) rfl rfl ?_
  refine w_xor (j := 12) rfl rfl ?_
  refine w_and (j := 13) rfl rfl ?_
  refine w_al (j := 14) rfl rfl rfl ?_
  refine w_bi (j := 15) (a := (-2)) rfl rfl (by decide) ?_
  refine w_cvI (j := 16) rfl rfl rfl rfl (by first | assumption | rfl) rfl rfl (sp_77 hx' hN hb) rfl ?_
  refine w_im (j := 17) rfl rfl ?_
  refine w_xor (j := 18) rfl rfl ?_
  refine w_and (j := 19) rfl rfl ?_
  refine w_ir rfl ?_
  exact px_ri (pf_kept_eq hb hB hp)
theorem px_thr {h : ix_H} {B N T L W I t : Nat} {cs : List (Nat × Nat)} {v : Int32} (hI : px_I h B N T cs L W I t) : px_I (ix_up h 100 0 v) B N T cs L W I t ∧ px_kp h (ix_up h 100 0 v) ∧ ix_up h 100 0 v 100 0 = v := by
  have k : px_kp h (ix_up h 100 0 v) := px_kp.rf.up (by decide) (fun _ => by decide)
  exact ⟨hI.kp k, k, rfl⟩
def pf_told (h : ix_H) (N m : Nat) : Int32 := if m = 0 then h 3 6 else if m = 1 then h 3 7 else if m = 2 then h 64 6 else if m = 3 then h 3 8 else if m = 4 then h 64 5 else if m = 5 then pf_kept (h 67) N else if m = 6 then px_fold (pf_fb (fun c => h 67 c = -2)) N (nI 0) else if m = 7 then px_fold (pf_fb (fun c => h 65 c = 0)) N (nI 0) else if m = 8 then h 51 2 else if m = 9 then h 72 5 else pf_sum (h 65) N
theorem pf_told_kp {h h' : ix_H} {N m : Nat} (k : px_kp h h') : pf_told h' N m = pf_told h N m := by
  unfold pf_told
  rw [k.1 3 (by decide), k.1 64 (by decide), k.1 67 (by decide), k.1 65 (by decide), k.1 51 (by decide), k.1 72 (by decide)]
section OPS
variable {h : ix_H} {B N T L W I t : Nat} {cs : List (Nat × Nat)}
theorem C_told {w : Int32} (hI : px_I h B N T cs L W I t) : px_CO 4 113 [.ref 0, .int w] h (fun v h1 => ∃ m, m ≤ 10 ∧ w = nI m ∧ v = pf_told h N m ∧ px_kp h h1) (fun x h1 => x = 0 ∧ ¬ (nI 0 ≤ w ∧ w ≤ nI 10) ∧ h1 = px_hX 0 h) := by
  obtain ⟨⟨l1, l2, l3, l4, l5, l6, l7, l8, l9⟩, -, -, nw, -⟩ := hI
  have hs : ∀ c, c < N → ∃ q, q ≤ 99 ∧ h 65 c = nI q := fun c hc => (nw.1 c (by omega)).2
  have hp : ∀ c, c < N → h 67 c = -2 ∨ h 67 c = -1 ∨ ∃ b, b < B ∧ h 67 c = nI b := fun c hc => (nw.2.2.1 c (by omega)).2
  refine px_M (M := mt_113) (ops := mo_113) tb_113 rfl rfl rfl rfl rfl ?_
  refine w_al (j := 1) rfl rfl rfl ?_
  refine w_il (j := 2) rfl rfl rfl ?_
  refine w_ltZ (j := 3) rfl rfl (fun c1 => ?_) (fun c1 => ?_)
  ·
    refine w_ic (n := 0) (j := 9) rfl rfl ?_
    refine w_chk (j := 10) rfl rfl rfl rfl (by first | assumption | rfl) rfl rfl (sp_146 (b := false)) rfl (fun c => ?_) (fun c => ?_)
    · exact Or.inr ⟨_, _, rfl, rfl, fun q => px_not_lt.mpr q.1 c1, rfl⟩
    · cases c
  ·
    refine w_il (j := 4) rfl rfl rfl ?_
    refine w_bi (j := 5) (a := nI 10) rfl rfl (by decide) ?_
    refine w_gt (j := 6) rfl rfl (fun c2 => ?_) (fun c2 => ?_)
    ·
      refine w_ic (n := 0) (j := 9) rfl rfl ?_
      refine w_chk (j := 10) rfl rfl rfl rfl (by first | assumption | rfl) rfl rfl (sp_146 (b := false)) rfl (fun c => ?_) (fun c => ?_)
      · exact Or.inr ⟨_, _, rfl, rfl, fun q => px_not_le.mpr c2 q.2, rfl⟩
      · cases c
    ·
      refine w_ic (n := 1) (j := 7) rfl rfl ?_
      refine w_go rfl ?_
      refine w_chk (j := 10) rfl rfl rfl rfl (by first | assumption | rfl) rfl rfl (sp_146 (b := true)) rfl (fun c => ?_) (fun c => ?_)
      · exact absurd rfl c
      ·
        obtain ⟨m, hm, rfl⟩ := px_bnd2 (by decide) ⟨c1, c2⟩
        obtain rfl | rfl | rfl | rfl | rfl | rfl | rfl | rfl | rfl | rfl | rfl : m = 0 ∨ m = 1 ∨ m = 2 ∨ m = 3 ∨ m = 4 ∨ m = 5 ∨ m = 6 ∨ m = 7 ∨ m = 8 ∨ m = 9 ∨ m = 10 := by omega
        ·
          refine w_il (j := 11) rfl rfl rfl ?_
          refine w_swN (t := 12) rfl (by decide) (by omega) rfl ?_
          refine w_al (j := 13) rfl rfl rfl ?_
          first | refine w_gr (j := 14) rfl rfl (by first | assumption | rfl) (by first | assumption | rfl) rfl ?_ | refine w_gi (j := 14) rfl rfl (by first | assumption | rfl) (by first | assumption | rfl) rfl rfl ?_
          first | refine w_gr (j := 15) rfl rfl (by first | assumption | rfl) (by first | assumption | rfl) rfl ?_ | refine w_gi (j := 15) rfl rfl (by first | assumption | rfl) (by first | assumption | rfl) rfl rfl ?_
          refine w_ir rfl ?_
          exact Or.inl ⟨_, _, rfl, _, hm, rfl, rfl, px_kp.rf⟩
        ·
          refine w_il (j := 11) rfl rfl rfl ?_
          refine w_swN (t := 16) rfl (by decide) (by omega) rfl ?_
          refine w_al (j := 17) rfl rfl rfl ?_
          first | refine w_gr (j := 18) rfl rfl (by first | assumption | rfl) (by first | assumption | rfl) rfl ?_ | refine w_gi (j := 18) rfl rfl (by first | assumption | rfl) (by first | assumption | rfl) rfl rfl ?_
          first | refine w_gr (j := 19) rfl rfl (by first | assumption | rfl) (by first | assumption | rfl) rfl ?_ | refine w_gi (j := 19) rfl rfl (by first | assumption | rfl) (by first | assumption | rfl) rfl rfl ?_
          refine w_ir rfl ?_
          exact Or.inl ⟨_, _, rfl, _, hm, rfl, rfl, px_kp.rf⟩
        ·
          refine w_il (j := 11) rfl rfl rfl ?_
          refine w_swN (t := 20) rfl (by decide) (by omega) rfl ?_
          refine w_al (j := 21) rfl rfl rfl ?_
          first | refine w_gr (j := 22) rfl rfl (by first | assumption | rfl) (by first | assumption | rfl) rfl ?_ | refine w_gi (j := 22) rfl rfl (by first | assumption | rfl) (by first | assumption | rfl) rfl rfl ?_
          first | refine w_gr (j := 23) rfl rfl (by first | assumption | rfl) (by first | assumption | rfl) rfl ?_ | refine w_gi (j := 23) rfl rfl (by first | assumption | rfl) (by first | assumption | rfl) rfl rfl ?_
          refine w_ir rfl ?_
          exact Or.inl ⟨_, _, rfl, _, hm, rfl, rfl, px_kp.rf⟩
        ·
          refine w_il (j := 11) rfl rfl rfl ?_
          refine w_swN (t := 24) rfl (by decide) (by omega) rfl ?_
          refine w_al (j := 25) rfl rfl rfl ?_
          first | refine w_gr (j := 26) rfl rfl (by first | assumption | rfl) (by first | assumption | rfl) rfl ?_ | refine w_gi (j := 26) rfl rfl (by first | assumption | rfl) (by first | assumption | rfl) rfl rfl ?_
          first | refine w_gr (j := 27) rfl rfl (by first | assumption | rfl) (by first | assumption | rfl) rfl ?_ | refine w_gi (j := 27) rfl rfl (by first | assumption | rfl) (by first | assumption | rfl) rfl rfl ?_
          refine w_ir rfl ?_
          exact Or.inl ⟨_, _, rfl, _, hm, rfl, rfl, px_kp.rf⟩
        ·
          refine w_il (j := 11) rfl rfl rfl ?_
          refine w_swN (t := 28) rfl (by decide) (by omega) rfl ?_
          refine w_al (j := 29) rfl rfl rfl ?_
          first | refine w_gr (j := 30) rfl rfl (by first | assumption | rfl) (by first | assumption | rfl) rfl ?_ | refine w_gi (j := 30) rfl rfl (by first | assumption | rfl) (by first | assumption | rfl) rfl rfl ?_
          first | refine w_gr (j := 31) rfl rfl (by first | assumption | rfl) (by first | assumption | rfl) rfl ?_ | refine w_gi (j := 31) rfl rfl (by first | assumption | rfl) (by first | assumption | rfl) rfl rfl ?_
          refine w_ir rfl ?_
          exact Or.inl ⟨_, _, rfl, _, hm, rfl, rfl, px_kp.rf⟩
        ·
          refine w_il (j := 11) rfl rfl rfl ?_
          refine w_swN (t := 32) rfl (by decide) (by omega) rfl ?_
          refine w_al (j := 33) rfl rfl rfl ?_
          first | refine w_gr (j := 34) rfl rfl (by first | assumption | rfl) (by first | assumption | rfl) rfl ?_ | refine w_gi (j := 34) rfl rfl (by first | assumption | rfl) (by first | assumption | rfl) rfl rfl ?_
          refine w_cvI (j := 35) rfl rfl rfl rfl (by first | assumption | rfl) rfl rfl (sp_78 px_St64 l4 l6 l3 hp) rfl ?_
          refine w_ir rfl ?_
          exact Or.inl ⟨_, _, rfl, _, hm, rfl, rfl, px_kp.rf⟩
        ·
          refine w_il (j := 11) rfl rfl rfl ?_
          refine w_swN (t := 36) rfl (by decide) (by omega) rfl ?_
          refine w_al (j := 37) rfl rfl rfl ?_
          first | refine w_gr (j := 38) rfl rfl (by first | assumption | rfl) (by first | assumption | rfl) rfl ?_ | refine w_gi (j := 38) rfl rfl (by first | assumption | rfl) (by first | assumption | rfl) rfl rfl ?_
          refine w_cvI (j := 39) rfl rfl rfl rfl (by first | assumption | rfl) rfl rfl (sp_79 px_St64 l4 l6) rfl ?_
          refine w_ir rfl ?_
          exact Or.inl ⟨_, _, rfl, _, hm, rfl, rfl, px_kp.rf⟩
        ·
          refine w_il (j := 11) rfl rfl rfl ?_
          refine w_swN (t := 40) rfl (by decide) (by omega) rfl ?_
          refine w_al (j := 41) rfl rfl rfl ?_
          first | refine w_gr (j := 42) rfl rfl (by first | assumption | rfl) (by first | assumption | rfl) rfl ?_ | refine w_gi (j := 42) rfl rfl (by first | assumption | rfl) (by first | assumption | rfl) rfl rfl ?_
          refine w_cvI (j := 43) rfl rfl rfl rfl (by first | assumption | rfl) rfl rfl (sp_80 px_St64 l4 l6) rfl ?_
          refine w_ir rfl ?_
          exact Or.inl ⟨_, _, rfl, _, hm, rfl, rfl, px_kp.rf⟩
        ·
          refine w_il (j := 11) rfl rfl rfl ?_
          refine w_swN (t := 44) rfl (by decide) (by omega) rfl ?_
          refine w_al (j := 45) rfl rfl rfl ?_
          first | refine w_gr (j := 46) rfl rfl (by first | assumption | rfl) (by first | assumption | rfl) rfl ?_ | refine w_gi (j := 46) rfl rfl (by first | assumption | rfl) (by first | assumption | rfl) rfl rfl ?_
          first | refine w_gr (j := 47) rfl rfl (by first | assumption | rfl) (by first | assumption | rfl) rfl ?_ | refine w_gi (j := 47) rfl rfl (by first | assumption | rfl) (by first | assumption | rfl) rfl rfl ?_
          refine w_ir rfl ?_
          exact Or.inl ⟨_, _, rfl, _, hm, rfl, rfl, px_kp.rf⟩
        ·
          refine w_il (j := 11) rfl rfl rfl ?_
          refine w_swN (t := 48) rfl (by decide) (by omega) rfl ?_
          refine w_al (j := 49) rfl rfl rfl ?_
          first | refine w_gr (j := 50) rfl rfl (by first | assumption | rfl) (by first | assumption | rfl) rfl ?_ | refine w_gi (j := 50) rfl rfl (by first | assumption | rfl) (by first | assumption | rfl) rfl rfl ?_
          first | refine w_gr (j := 51) rfl rfl (by first | assumption | rfl) (by first | assumption | rfl) rfl ?_ | refine w_gi (j := 51) rfl rfl (by first | assumption | rfl) (by first | assumption | rfl) rfl rfl ?_
          refine w_ir rfl ?_
          exact Or.inl ⟨_, _, rfl, _, hm, rfl, rfl, px_kp.rf⟩
        ·
          refine w_il (j := 11) rfl rfl rfl ?_
          refine w_swN (t := 52) rfl (by decide) (by omega) rfl ?_
          refine w_al (j := 53) rfl rfl rfl ?_
          first | refine w_gr (j := 54) rfl rfl (by first | assumption | rfl) (by first | assumption | rfl) rfl ?_ | refine w_gi (j := 54) rfl rfl (by first | assumption | rfl) (by first | assumption | rfl) rfl rfl ?_
          refine w_cvI (j := 55) rfl rfl rfl rfl (by first | assumption | rfl) rfl rfl (sp_82 px_St64 l4 l6 hs) rfl ?_
          refine w_ir rfl ?_
          exact Or.inl ⟨_, _, rfl, _, hm, rfl, rfl, px_kp.rf⟩
end OPS
