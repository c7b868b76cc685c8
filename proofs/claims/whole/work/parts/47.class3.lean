def pf_kin (p : Nat → Int32) (v : Int32) (c : Nat) (w : Int32) : Int32 := if p c = v then w ||| pf_bit c else w
def pf_ct (p : Nat → Int32) (v : Int32) : Nat → Nat
  | 0 => 0
  | n + 1 => (if p n = v then 1 else 0) + pf_ct p v n
theorem pf_tab8 : ∀ c, c < 8 → ∀ m, m < 2 ^ c → (nI m ||| pf_bit c = nI (m + 2 ^ c) ∧ pf_bc (nI (m + 2 ^ c)) = pf_bc (nI m) + nI 1) := by decide +kernel
theorem pf_kinN (p : Nat → Int32) (v : Int32) : ∀ N, N ≤ 8 → ∃ m, m < 2 ^ N ∧ px_fold (pf_kin p v) N (nI 0) = nI m ∧ pf_bc (nI m) = nI (pf_ct p v N)
  | 0, _ => ⟨0, by decide, rfl, (by decide : pf_bc (nI 0) = nI 0)⟩
  | N + 1, h => by
    obtain ⟨m, h1, h2, h3⟩ := pf_kinN p v N (by omega)
    rw [px_fold, h2, pf_kin, pf_ct]
    obtain ⟨t1, t2⟩ := pf_tab8 N (by omega) m h1
    by_cases hp : p N = v
    · refine ⟨m + 2 ^ N, by rw [Nat.pow_succ]; omega, by rw [if_pos hp, t1], ?_⟩
      rw [t2, h3, if_pos hp, px_nadd, Nat.add_comm]
    · refine ⟨m, by rw [Nat.pow_succ]; omega, by rw [if_neg hp], ?_⟩
      rw [h3, if_neg hp, Nat.zero_add]
theorem pf_bck {p : Nat → Int32} {v : Int32} {N : Nat} (h : N ≤ 8) : pf_bc (px_fold (pf_kin p v) N (nI 0)) = nI (pf_ct p v N) := by
  obtain ⟨m, h1, h2, h3⟩ := pf_kinN p v N h
  rw [h2, h3]
theorem pf_ct_le (p : Nat → Int32) (v : Int32) : ∀ N, pf_ct p v N ≤ N
  | 0 => Nat.le_refl _
  | N + 1 => by rw [pf_ct]; have := pf_ct_le p v N; split <;> omega
def pf_bt (v : Int32) (b : Nat) : Int32 := v >>> (nI b &&& 31) &&& nI 1
def pf_gv (f m t s p a b y : Int32) : Nat → Int32 := fun j => if j = 0 then f else if j = 1 then m else if j = 2 then t else if j = 3 then s else if j = 4 then p else if j = 5 then a else if j = 6 then b else y
def pf_li (cs : List (Nat × Nat)) (f m t s p a b y : Int32) : Int32 := if s = 0 then nI 0 else if s < pf_ev cs (pf_gv f m t s p a b y) then s else pf_ev cs (pf_gv f m t s p a b y)
theorem px_lw.fr {S : List Nat} {h h' : ix_H} {cs : List (Nat × Nat)} (hl : px_lw h cs) (hf : px_fr S h h') (hS : 41 ∉ S ∧ 43 ∉ S ∧ 44 ∉ S) : px_lw h' cs := by
  obtain ⟨l1, l2, l3⟩ := hl
  unfold px_lw
  rw [hf 41 hS.1, hf 43 hS.2.1, hf 44 hS.2.2]
  exact ⟨l1, l2, l3⟩
def px_St (x : Nat) : Prop := ix_sh x = (5, 9, 0) ∧ ix_rf x = [some 3, some (x + 1), some (x + 2), some (x + 3), none, none, none] ∧ ix_sh (x + 1) = (1, 8, 0) ∧ ix_sh (x + 2) = (1, 8, 0) ∧ ix_sh (x + 3) = (1, 8, 0) ∧ 64 ≤ x ∧ x ≤ 86
theorem px_St64 : px_St 64 := by unfold px_St; decide
theorem px_St68 : px_St 68 := by unfold px_St; decide
theorem px_St86 : px_St 86 := by unfold px_St; decide
theorem sp_84 {h : ix_H} {x b : Nat} (hx : px_St x) : px_V 1 84 [.ref x, .int (nI b)] h (some (.int (pf_bt (h x 4) b))) h := by
  obtain ⟨x1, x2, x3, x4, x5, x6, x7⟩ := hx
  refine px_M (M := mt_84) (ops := mo_84) tb_84 rfl rfl rfl rfl rfl ?_
  refine w_al (j := 1) rfl rfl rfl ?_
  first | refine w_gr (j := 2) rfl rfl (by first | assumption | rfl) (by first | assumption | rfl) rfl ?_ | refine w_gi (j := 2) rfl rfl (by first | assumption | rfl) (by first | assumption | rfl) rfl rfl ?_
  refine w_il (j := 3) rfl rfl rfl ?_
  refine w_shr (j := 4) rfl rfl ?_
  refine w_ic (n := 1) (j := 5) rfl rfl ?_
  refine w_and (j := 6) rfl rfl ?_
  refine w_ir rfl ?_
  rfl
theorem sp_77 {h : ix_H} {x N : Nat} {b : Int32} (hx : px_St x) (hN : h 3 7 = nI N) (hb : N ≤ 8) : px_V 1 77 [.ref x, .int b] h (some (.int (px_fold (pf_kin (h (x + 3)) b) N (nI 0)))) h := by
  obtain ⟨x1, x2, x3, x4, x5, x6, x7⟩ := hx
  refine px_M (M := mt_77) (ops := mo_77) tb_77 rfl rfl rfl rfl rfl ?_
  refine w_ic (n := 0) (j := 1) rfl rfl ?_
  refine w_is (j := 2) rfl rfl rfl ?_
  refine w_ic (n := 0) (j := 3) rfl rfl ?_
  refine w_is (j := 4) rfl rfl rfl ?_
  refine px_for (fun c s => [.ref x, .int b, .int s, .int (nI c)]) (fun _ => h) (pf_kin (h (x + 3)) b) N (nI 0) (fun _ _ => True) trivial (fun _ _ _ _ => trivial) ?_ ?_
  · intro c s hc _ H
    refine w_il (j := 5) rfl rfl rfl ?_
    refine w_al (j := 6) rfl rfl rfl ?_
    first | refine w_gr (j := 7) rfl rfl (by first | assumption | rfl) (by first | assumption | rfl) rfl ?_ | refine w_gi (j := 7) rfl rfl (by first | assumption | rfl) (by first | assumption | rfl) rfl rfl ?_
    first | refine w_gr (j := 8) rfl rfl (by first | assumption | rfl) (by first | assumption | rfl) rfl ?_ | refine w_gi (j := 8) rfl rfl (by first | assumption | rfl) (by first | assumption | rfl) rfl hN ?_
    refine w_geN (j := 9) rfl rfl (by omega) (by omega) (fun c => absurd c (fun c => by omega)) (fun _ => ?_)
    refine w_al (j := 10) rfl rfl rfl ?_
    first | refine w_gr (j := 11) rfl rfl (by first | assumption | rfl) (by first | assumption | rfl) rfl ?_ | refine w_gi (j := 11) rfl rfl (by first | assumption | rfl) (by first | assumption | rfl) rfl rfl ?_
    refine w_il (j := 12) rfl rfl rfl ?_
    refine w_ial (j := 13) rfl rfl (by first | assumption | rfl) rfl (by omega) rfl rfl ?_
    refine w_il (j := 14) rfl rfl rfl ?_
    refine w_ne (j := 15) rfl rfl (fun c1 => ?_) (fun c1 => ?_)
    ·
      first | refine w_incN (j := 22) rfl rfl rfl ?_ | refine w_inc (j := 22) rfl rfl rfl rfl ?_
      refine w_go rfl ?_
      rw [pf_kin, if_neg c1] at H
      exact H
    ·
      refine w_il (j := 16) rfl rfl rfl ?_
      refine w_ic (n := 1) (j := 17) rfl rfl ?_
      refine w_il (j := 18) rfl rfl rfl ?_
      refine w_shl (j := 19) rfl rfl ?_
      refine w_or (j := 20) rfl rfl ?_
      refine w_is (j := 21) rfl rfl rfl ?_
      first | refine w_incN (j := 22) rfl rfl rfl ?_ | refine w_inc (j := 22) rfl rfl rfl rfl ?_
      refine w_go rfl ?_
      rw [pf_kin, if_pos c1] at H
      exact H
  · intro _
    refine w_il (j := 5) rfl rfl rfl ?_
    refine w_al (j := 6) rfl rfl rfl ?_
    first | refine w_gr (j := 7) rfl rfl (by first | assumption | rfl) (by first | assumption | rfl) rfl ?_ | refine w_gi (j := 7) rfl rfl (by first | assumption | rfl) (by first | assumption | rfl) rfl rfl ?_
    first | refine w_gr (j := 8) rfl rfl (by first | assumption | rfl) (by first | assumption | rfl) rfl ?_ | refine w_gi (j := 8) rfl rfl (by first | assumption | rfl) (by first | assumption | rfl) rfl hN ?_
    refine w_geN (j := 9) rfl rfl (by omega) (by omega) (fun _ => ?_) (fun c => absurd c (fun c => by omega))
    refine w_il (j := 24) rfl rfl rfl ?_
    refine w_ir rfl ?_
    rfl
theorem sp_70 {h : ix_H} {x b c : Nat} {m : Int32} {cs : List (Nat × Nat)} (hx : px_St x) (hc : c < 8) (hb : b < 6) (hl : px_lw h cs) (hw : pf_wf cs 0 1) : px_PI 3 70 [.ref 62, .ref x, .int (nI c), .int (nI b), .int m] h (fun v h' => v = pf_li cs (h 4 b) m (pf_bt (h x 4) b) (h (x + 1) c) (h 6 c) (h (x + 2) c) (nI b) (h x 6) ∧ px_fr [42, 45] h h') := by
  have hx' := hx
  obtain ⟨x1, x2, x3, x4, x5, x6, x7⟩ := hx
  refine px_M (M := mt_70) (ops := mo_70) tb_70 rfl rfl rfl rfl rfl ?_
  refine w_al (j := 1) rfl rfl rfl ?_
  first | refine w_gr (j := 2) rfl rfl (by first | assumption | rfl) (by first | assumption | rfl) rfl ?_ | refine w_gi (j := 2) rfl rfl (by first | assumption | rfl) (by first | assumption | rfl) rfl rfl ?_
  refine w_il (j := 3) rfl rfl rfl ?_
  refine w_ial (j := 4) rfl rfl (by first | assumption | rfl) rfl (by omega) rfl rfl ?_
  refine w_iS (j := 5) rfl rfl rfl ?_
  refine w_iL (j := 6) rfl rfl rfl ?_
  refine w_neZ (j := 7) rfl rfl (fun c1 => ?_) (fun c1 => ?_)
  ·
    refine w_al (j := 10) rfl rfl rfl ?_
    first | refine w_gr (j := 11) rfl rfl (by first | assumption | rfl) (by first | assumption | rfl) rfl ?_ | refine w_gi (j := 11) rfl rfl (by first | assumption | rfl) (by first | assumption | rfl) rfl rfl ?_
    first | refine w_gr (j := 12) rfl rfl (by first | assumption | rfl) (by first | assumption | rfl) rfl ?_ | refine w_gi (j := 12) rfl rfl (by first | assumption | rfl) (by first | assumption | rfl) rfl rfl ?_
    refine w_ic (n := 0) (j := 13) rfl rfl ?_
    refine w_al (j := 14) rfl rfl rfl ?_
    first | refine w_gr (j := 15) rfl rfl (by first | assumption | rfl) (by first | assumption | rfl) rfl ?_ | refine w_gi (j := 15) rfl rfl (by first | assumption | rfl) (by first | assumption | rfl) rfl rfl ?_
    first | refine w_gr (j := 16) rfl rfl (by first | assumption | rfl) (by first | assumption | rfl) rfl ?_ | refine w_gi (j := 16) rfl rfl (by first | assumption | rfl) (by first | assumption | rfl) rfl rfl ?_
    refine w_il (j := 17) rfl rfl rfl ?_
    refine w_ial (j := 18) rfl rfl (by first | assumption | rfl) rfl (by omega) rfl rfl ?_
    refine w_ias (j := 19) rfl rfl (by first | assumption | rfl) rfl (by omega) rfl ?_
    refine w_al (j := 20) rfl rfl rfl ?_
    first | refine w_gr (j := 21) rfl rfl (by first | assumption | rfl) (by first | assumption | rfl) rfl ?_ | refine w_gi (j := 21) rfl rfl (by first | assumption | rfl) (by first | assumption | rfl) rfl rfl ?_
    first | refine w_gr (j := 22) rfl rfl (by first | assumption | rfl) (by first | assumption | rfl) rfl ?_ | refine w_gi (j := 22) rfl rfl (by first | assumption | rfl) (by first | assumption | rfl) rfl rfl ?_
    refine w_ic (n := 1) (j := 23) rfl rfl ?_
    refine w_iL (j := 24) rfl rfl rfl ?_
    refine w_ias (j := 25) rfl rfl (by first | assumption | rfl) rfl (by omega) rfl ?_
    refine w_al (j := 26) rfl rfl rfl ?_
    first | refine w_gr (j := 27) rfl rfl (by first | assumption | rfl) (by first | assumption | rfl) rfl ?_ | refine w_gi (j := 27) rfl rfl (by first | assumption | rfl) (by first | assumption | rfl) rfl rfl ?_
    first | refine w_gr (j := 28) rfl rfl (by first | assumption | rfl) (by first | assumption | rfl) rfl ?_ | refine w_gi (j := 28) rfl rfl (by first | assumption | rfl) (by first | assumption | rfl) rfl rfl ?_
    refine w_ic (n := 2) (j := 29) rfl rfl ?_
    refine w_al (j := 30) rfl rfl rfl ?_
    refine w_il (j := 31) rfl rfl rfl ?_
    refine w_cvI (j := 32) rfl rfl rfl rfl (by first | assumption | rfl) rfl rfl (sp_84 hx') rfl ?_
    refine w_ias (j := 33) rfl rfl (by first | assumption | rfl) rfl (by omega) rfl ?_
    refine w_al (j := 34) rfl rfl rfl ?_
    first | refine w_gr (j := 35) rfl rfl (by first | assumption | rfl) (by first | assumption | rfl) rfl ?_ | refine w_gi (j := 35) rfl rfl (by first | assumption | rfl) (by first | assumption | rfl) rfl rfl ?_
    first | refine w_gr (j := 36) rfl rfl (by first | assumption | rfl) (by first | assumption | rfl) rfl ?_ | refine w_gi (j := 36) rfl rfl (by first | assumption | rfl) (by first | assumption | rfl) rfl rfl ?_
    refine w_ic (n := 3) (j := 37) rfl rfl ?_
    refine w_iL (j := 38) rfl rfl rfl ?_
    refine w_ias (j := 39) rfl rfl (by first | assumption | rfl) rfl (by omega) rfl ?_
    refine w_al (j := 40) rfl rfl rfl ?_
    first | refine w_gr (j := 41) rfl rfl (by first | assumption | rfl) (by first | assumption | rfl) rfl ?_ | refine w_gi (j := 41) rfl rfl (by first | assumption | rfl) (by first | assumption | rfl) rfl rfl ?_
    first | refine w_gr (j := 42) rfl rfl (by first | assumption | rfl) (by first | assumption | rfl) rfl ?_ | refine w_gi (j := 42) rfl rfl (by first | assumption | rfl) (by first | assumption | rfl) rfl rfl ?_
    refine w_ic (n := 4) (j := 43) rfl rfl ?_
    refine w_al (j := 44) rfl rfl rfl ?_
    first | refine w_gr (j := 45) rfl rfl (by first | assumption | rfl) (by first | assumption | rfl) rfl ?_ | refine w_gi (j := 45) rfl rfl (by first | assumption | rfl) (by first | assumption | rfl) rfl rfl ?_
    first | refine w_gr (j := 46) rfl rfl (by first | assumption | rfl) (by first | assumption | rfl) rfl ?_ | refine w_gi (j := 46) rfl rfl (by first | assumption | rfl) (by first | assumption | rfl) rfl rfl ?_
    refine w_il (j := 47) rfl rfl rfl ?_
    refine w_ial (j := 48) rfl rfl (by first | assumption | rfl) rfl (by omega) rfl rfl ?_
    refine w_ias (j := 49) rfl rfl (by first | assumption | rfl) rfl (by omega) rfl ?_
    refine w_al (j := 50) rfl rfl rfl ?_
    first | refine w_gr (j := 51) rfl rfl (by first | assumption | rfl) (by first | assumption | rfl) rfl ?_ | refine w_gi (j := 51) rfl rfl (by first | assumption | rfl) (by first | assumption | rfl) rfl rfl ?_
    first | refine w_gr (j := 52) rfl rfl (by first | assumption | rfl) (by first | assumption | rfl) rfl ?_ | refine w_gi (j := 52) rfl rfl (by first | assumption | rfl) (by first | assumption | rfl) rfl rfl ?_
    refine w_ic (n := 5) (j := 53) rfl rfl ?_
    refine w_al (j := 54) rfl rfl rfl ?_
    first | refine w_gr (j := 55) rfl rfl (by first | assumption | rfl) (by first | assumption | rfl) rfl ?_ | refine w_gi (j := 55) rfl rfl (by first | assumption | rfl) (by first | assumption | rfl) rfl rfl ?_
    refine w_il (j := 56) rfl rfl rfl ?_
    refine w_ial (j := 57) rfl rfl (by first | assumption | rfl) rfl (by omega) rfl rfl ?_
    refine w_ias (j := 58) rfl rfl (by first | assumption | rfl) rfl (by omega) rfl ?_
    refine w_al (j := 59) rfl rfl rfl ?_
    first | refine w_gr (j := 60) rfl rfl (by first | assumption | rfl) (by first | assumption | rfl) rfl ?_ | refine w_gi (j := 60) rfl rfl (by first | assumption | rfl) (by first | assumption | rfl) rfl rfl ?_
    first | refine w_gr (j := 61) rfl rfl (by first | assumption | rfl) (by first | assumption | rfl) rfl ?_ | refine w_gi (j := 61) rfl rfl (by first | assumption | rfl) (by first | assumption | rfl) rfl rfl ?_
    refine w_bi (j := 62) (a := nI 6) rfl rfl (by decide) ?_
    refine w_il (j := 63) rfl rfl rfl ?_
    refine w_ias (j := 64) rfl rfl (by first | assumption | rfl) rfl (by omega) rfl ?_
    refine w_al (j := 65) rfl rfl rfl ?_
    first | refine w_gr (j := 66) rfl rfl (by first | assumption | rfl) (by first | assumption | rfl) rfl ?_ | refine w_gi (j := 66) rfl rfl (by first | assumption | rfl) (by first | assumption | rfl) rfl rfl ?_
    first | refine w_gr (j := 67) rfl rfl (by first | assumption | rfl) (by first | assumption | rfl) rfl ?_ | refine w_gi (j := 67) rfl rfl (by first | assumption | rfl) (by first | assumption | rfl) rfl rfl ?_
    refine w_bi (j := 68) (a := nI 7) rfl rfl (by decide) ?_
    refine w_al (j := 69) rfl rfl rfl ?_
    first | refine w_gr (j := 70) rfl rfl (by first | assumption | rfl) (by first | assumption | rfl) rfl ?_ | refine w_gi (j := 70) rfl rfl (by first | assumption | rfl) (by first | assumption | rfl) rfl rfl ?_
    refine w_ias (j := 71) rfl rfl (by first | assumption | rfl) rfl (by omega) rfl ?_
    refine w_al (j := 72) rfl rfl rfl ?_
    first | refine w_gr (j := 73) rfl rfl (by first | assumption | rfl) (by first | assumption | rfl) rfl ?_ | refine w_gi (j := 73) rfl rfl (by first | assumption | rfl) (by first | assumption | rfl) rfl rfl ?_
    refine w_cvPI (j := 74) rfl rfl rfl rfl (by first | assumption | rfl) rfl rfl (sp_46 (px_lw.fr (S := [42, 45]) hl (by repeat first | exact px_fr.rf | refine px_fr.up ?_ (by decide)) (by decide)) hw) rfl ?_
    rintro v h9 ⟨e1, f1⟩
    refine w_iL (j := 75) rfl rfl rfl ?_
    refine w_min (j := 76) rfl rfl rfl ?_
    refine w_ir rfl ?_
    refine ⟨_, _, rfl, ?_, ?_⟩
    · subst e1
      rw [pf_li, if_neg c1]
      rw [pf_ev_congr (g' := pf_gv (h 4 b) m (pf_bt (h x 4) b) (h (x + 1) c) (h 6 c) (h (x + 2) c) (nI b) (h x 6)) ?_ hw]
      intro j hj
      have q1 : (x : Nat) ≠ 42 := by omega
      have q2 : (x + 2 : Nat) ≠ 42 := by omega
      obtain rfl | rfl | rfl | rfl | rfl | rfl | rfl | rfl : j = 0 ∨ j = 1 ∨ j = 2 ∨ j = 3 ∨ j = 4 ∨ j = 5 ∨ j = 6 ∨ j = 7 := by omega
      all_goals simp [ix_up, pf_gv, q1, q2]
    · refine px_fr.tr ?_ (f1.sub (by decide))
      repeat first | exact px_fr.rf | refine px_fr.up ?_ (by decide)
  ·
    refine w_ic (n := 0) (j := 8) rfl rfl ?_
    refine w_ir rfl ?_
    exact ⟨_, _, rfl, by rw [pf_li, if_pos c1], px_fr.rf⟩
def px_pl (h : ix_H) (x B : Nat) : Prop := ∀ c, c < 8 → h (x + 3) c = -2 ∨ h (x + 3) c = -1 ∨ ∃ b, b < B ∧ h (x + 3) c = nI b
def pf_ls (cs : List (Nat × Nat)) (N : Nat) (fade pitch s a p : Nat → Int32) (ft : Nat → Int32) (yr : Int32) (c : Nat) : Int32 := if p c = -2 then nI 0 else if p c = -1 then s c - s c / nI 2 else pf_li cs (fade (p c).toNatClampNeg) (nI (pf_ct p (p c) N) - nI 1) (ft (p c).toNatClampNeg) (s c) (pitch c) (a c) (p c) yr
theorem px_nneg {b : Nat} (hb : b < 100) : nI b ≠ -1 ∧ nI b ≠ -2 := by
  constructor
  · intro e
    have := congrArg Int32.toInt e
    rw [nI_toInt (by omega)] at this
    rw [show (-1 : Int32).toInt = -1 from by decide] at this
    omega
  · intro e
    have := congrArg Int32.toInt e
    rw [nI_toInt (by omega)] at this
    rw [show (-2 : Int32).toInt = -2 from by decide] at this
    omega
theorem sp_71 {h : ix_H} {x c N B : Nat} {cs : List (Nat × Nat)} (hx : px_St x) (hc : c < 8) (hN : h 3 7 = nI N) (hN8 : N ≤ 8) (hB : h 3 6 = nI B) (hB6 : B ≤ 6) (hp : px_pl h x B) (hl : px_lw h cs) (hw : pf_wf cs 0 1) : px_PI 4 71 [.ref 62, .ref x, .int (nI c)] h (fun v h' => v = pf_ls cs N (h 4) (h 6) (h (x + 1)) (h (x + 2)) (h (x + 3)) (pf_bt (h x 4)) (h x 6) c ∧ px_fr [42, 45] h h') := by
  have hx' := hx
  obtain ⟨x1, x2, x3, x4, x5, x6, x7⟩ := hx
  refine px_M (M := mt_71) (ops := mo_71) tb_71 rfl rfl rfl rfl rfl ?_
  refine w_al (j := 1) rfl rfl rfl ?_
  first | refine w_gr (j := 2) rfl rfl (by first | assumption | rfl) (by first | assumption | rfl) rfl ?_ | refine w_gi (j := 2) rfl rfl (by first | assumption | rfl) (by first | assumption | rfl) rfl rfl ?_
  refine w_il (j := 3) rfl rfl rfl ?_
  refine w_ial (j := 4) rfl rfl (by first | assumption | rfl) rfl (by omega) rfl rfl ?_
  refine w_is (j := 5) rfl rfl rfl ?_
  refine w_al (j := 6) rfl rfl rfl ?_
  first | refine w_gr (j := 7) rfl rfl (by first | assumption | rfl) (by first | assumption | rfl) rfl ?_ | refine w_gi (j := 7) rfl rfl (by first | assumption | rfl) (by first | assumption | rfl) rfl rfl ?_
  refine w_il (j := 8) rfl rfl rfl ?_
  refine w_ial (j := 9) rfl rfl (by first | assumption | rfl) rfl (by omega) rfl rfl ?_
  refine w_iS (j := 10) rfl rfl rfl ?_
  refine w_il (j := 11) rfl rfl rfl ?_
  refine w_bi (j := 12) (a := (-2)) rfl rfl (by decide) ?_
  refine w_ne (j := 13) rfl rfl (fun c1 => ?_) (fun c1 => ?_)
  ·
    refine w_al (j := 16) rfl rfl rfl ?_
    first | refine w_gr (j := 17) rfl rfl (by first | assumption | rfl) (by first | assumption | rfl) rfl ?_ | refine w_gi (j := 17) rfl rfl (by first | assumption | rfl) (by first | assumption | rfl) rfl rfl ?_
    refine w_il (j := 18) rfl rfl rfl ?_
    refine w_cvI (j := 19) rfl rfl rfl rfl (by first | assumption | rfl) rfl rfl (sp_25 px_Ld3) rfl ?_
    rcases hp c hc with h1 | h1 | ⟨b, hb, h1⟩
    · exact absurd h1 c1
    · rw [h1, show decide ((0 : Int32) ≤ -1 ∧ -1 < h 3 6) = false from decide_eq_false (fun q => absurd q.1 (by decide))]
      refine w_neB (j := 20) rfl rfl (fun c => absurd c (by simp)) (fun _ => ?_)
      refine w_iL (j := 21) rfl rfl rfl ?_
      refine w_iL (j := 22) rfl rfl rfl ?_
      refine w_ic (n := 2) (j := 23) rfl rfl ?_
      refine w_div (j := 24) rfl rfl (by first | decide | assumption) ?_
      first | refine w_subN (j := 25) rfl rfl (by omega) ?_ | refine w_sub (j := 25) rfl rfl ?_
      refine w_ir rfl ?_
      exact ⟨_, _, rfl, by rw [pf_ls, if_neg c1, if_pos h1], px_fr.rf⟩
    · rw [h1, show decide ((0 : Int32) ≤ nI b ∧ nI b < h 3 6) = true from decide_eq_true ⟨nI_pos' (by omega), by rw [hB]; exact nI_lt hb (by omega)⟩]
      refine w_neB (j := 20) rfl rfl (fun _ => ?_) (fun c => absurd c (by simp))
      refine w_al (j := 27) rfl rfl rfl ?_
      refine w_al (j := 28) rfl rfl rfl ?_
      refine w_il (j := 29) rfl rfl rfl ?_
      refine w_il (j := 30) rfl rfl rfl ?_
      refine w_al (j := 31) rfl rfl rfl ?_
      refine w_il (j := 32) rfl rfl rfl ?_
      refine w_cvI (j := 33) rfl rfl rfl rfl (by first | assumption | rfl) rfl rfl (sp_77 hx' hN hN8) rfl ?_
      refine w_csI (j := 34) rfl rfl rfl rfl rfl (sp_259) rfl ?_
      refine w_ic (n := 1) (j := 35) rfl rfl ?_
      first | refine w_subN (j := 36) rfl rfl (by omega) ?_ | refine w_sub (j := 36) rfl rfl ?_
      rw [pf_bck hN8]
      refine w_cvPI (j := 37) rfl rfl rfl rfl (by first | assumption | rfl) rfl rfl (sp_70 hx' hc (b := b) (by omega) hl hw) rfl ?_
      rintro v h9 ⟨e1, f1⟩
      refine w_ir rfl ?_
      refine ⟨_, _, rfl, ?_, f1⟩
      rw [e1, pf_ls, if_neg c1, h1, if_neg (px_nneg (by omega)).1, nI_clamp (by omega)]
  ·
    refine w_ic (n := 0) (j := 14) rfl rfl ?_
    refine w_ir rfl ?_
    exact ⟨_, _, rfl, by rw [pf_ls, if_pos c1], px_fr.rf⟩
theorem px_f3 {S : List Nat} {h h' : ix_H} (f : px_fr S h h') {a k : Nat} {v : Int32} (e : h a k = v) (ha : a ∉ S) : h' a k = v := by rw [f a ha]; exact e
theorem sp_72 {h : ix_H} {x N B : Nat} {cs : List (Nat × Nat)} (hx : px_St x) (hN : h 3 7 = nI N) (hN8 : N ≤ 8) (hB : h 3 6 = nI B) (hB6 : B ≤ 6) (hp : px_pl h x B) (hl : px_lw h cs) (hw : pf_wf cs 0 1) : px_PU 5 72 [.ref 62, .ref x] h (fun h' => px_fr [42, 45, 63, x, x + 1, x + 2] h h' ∧ (∀ j, h' (x + 1) j = if j < N then h (x + 1) j - pf_ls cs N (h 4) (h 6) (h (x + 1)) (h (x + 2)) (h (x + 3)) (pf_bt (h x 4)) (h x 6) j else h (x + 1) j) ∧ (∀ j, h' (x + 2) j = if j < N ∧ h (x + 3) j ≠ -2 then h (x + 2) j + nI 1 else h (x + 2) j) ∧ ∀ j, h' x j = if j = 6 then h x 6 + nI 1 else h x j) := by
  have hx' := hx
  obtain ⟨x1, x2, x3, x4, x5, x6, x7⟩ := hx
  generalize hL : pf_ls cs N (h 4) (h 6) (h (x + 1)) (h (x + 2)) (h (x + 3)) (pf_bt (h x 4)) (h x 6) = L
  have nm : ∀ q : Nat, (q = 3 ∨ q = 4 ∨ q = 6 ∨ q = x ∨ q = x + 1 ∨ q = x + 2 ∨ q = x + 3) → q ∉ [42, 45, 63] := by
    intro q hq
    simp only [List.mem_cons, List.not_mem_nil, or_false]
    omega
  refine px_M (M := mt_72) (ops := mo_72) tb_72 rfl rfl rfl rfl rfl ?_
  refine w_ic (n := 0) (j := 1) rfl rfl ?_
  refine w_is (j := 2) rfl rfl rfl ?_
  refine px_forI (fun c ls h1 => ls = [.ref 62, .ref x, .int (nI c)] ∧ px_fr [42, 45, 63] h h1 ∧ ∀ j, j < c → h1 63 j = L j) N ?_ ?_ ⟨rfl, px_fr.rf, fun j hj => by omega⟩
  · rintro c _ h1 hc ⟨rfl, fr, ha⟩ H
    have e7 := px_f3 fr hN (by decide)
    have e6 := px_f3 fr hB (by decide)
    have r1 := fr x (nm x (by omega))
    have r2 := fr (x + 1) (nm _ (by omega))
    have r3 := fr (x + 2) (nm _ (by omega))
    have r4 := fr (x + 3) (nm _ (by omega))
    have r5 := fr 4 (by decide)
    have r6 := fr 6 (by decide)
    refine w_il (j := 3) rfl rfl rfl ?_
    refine w_al (j := 4) rfl rfl rfl ?_
    first | refine w_gr (j := 5) rfl rfl (by first | assumption | rfl) (by first | assumption | rfl) rfl ?_ | refine w_gi (j := 5) rfl rfl (by first | assumption | rfl) (by first | assumption | rfl) rfl rfl ?_
    first | refine w_gr (j := 6) rfl rfl (by first | assumption | rfl) (by first | assumption | rfl) rfl ?_ | refine w_gi (j := 6) rfl rfl (by first | assumption | rfl) (by first | assumption | rfl) rfl e7 ?_
    refine w_geN (j := 7) rfl rfl (by omega) (by omega) (fun c => absurd c (fun c => by omega)) (fun _ => ?_)
    refine w_al (j := 8) rfl rfl rfl ?_
    first | refine w_gr (j := 9) rfl rfl (by first | assumption | rfl) (by first | assumption | rfl) rfl ?_ | refine w_gi (j := 9) rfl rfl (by first | assumption | rfl) (by first | assumption | rfl) rfl rfl ?_
    refine w_il (j := 10) rfl rfl rfl ?_
    refine w_al (j := 11) rfl rfl rfl ?_
    refine w_al (j := 12) rfl rfl rfl ?_
    refine w_il (j := 13) rfl rfl rfl ?_
    refine w_cvPI (j := 14) rfl rfl rfl rfl (by first | assumption | rfl) rfl rfl (sp_71 hx' (by omega) e7 hN8 e6 hB6 (by unfold px_pl; rw [r4]; exact hp) (hl.fr fr (by decide)) hw) rfl ?_
    rintro v h9 ⟨e1, f1⟩
    refine w_ias (j := 15) rfl rfl (by first | assumption | rfl) rfl (by omega) rfl ?_
    first | refine w_incN (j := 16) rfl rfl rfl ?_ | refine w_inc (j := 16) rfl rfl rfl rfl ?_
    refine w_go rfl ?_
    refine H _ _ ⟨rfl, (fr.tr (f1.sub (by decide))).up (by decide), fun j hj => ?_⟩
    by_cases hjc : j = c
    · subst hjc
      rw [px_up_at, e1, r1, r2, r3, r4, r5, r6, hL]
    · rw [px_up_nk hjc, f1 63 (by decide)]
      exact ha j (by omega)
  · rintro _ h1 ⟨rfl, fr, ha⟩
    have e7 := px_f3 fr hN (by decide)
    refine w_il (j := 3) rfl rfl rfl ?_
    refine w_al (j := 4) rfl rfl rfl ?_
    first | refine w_gr (j := 5) rfl rfl (by first | assumption | rfl) (by first | assumption | rfl) rfl ?_ | refine w_gi (j := 5) rfl rfl (by first | assumption | rfl) (by first | assumption | rfl) rfl rfl ?_
    first | refine w_gr (j := 6) rfl rfl (by first | assumption | rfl) (by first | assumption | rfl) rfl ?_ | refine w_gi (j := 6) rfl rfl (by first | assumption | rfl) (by first | assumption | rfl) rfl e7 ?_
    refine w_geN (j := 7) rfl rfl (by omega) (by omega) (fun _ => ?_) (fun c => absurd c (fun c => by omega))
    refine w_ic (n := 0) (j := 18) rfl rfl ?_
    refine w_is (j := 19) rfl rfl rfl ?_
    refine px_forI (fun c ls h2 => ls = [.ref 62, .ref x, .int (nI c)] ∧ px_fr [42, 45, 63, x + 1, x + 2] h h2 ∧ (∀ j, j < N → h2 63 j = L j) ∧ (∀ j, h2 (x + 1) j = if j < c then h (x + 1) j - L j else h (x + 1) j) ∧ ∀ j, h2 (x + 2) j = if j < c ∧ h (x + 3) j ≠ -2 then h (x + 2) j + nI 1 else h (x + 2) j) N ?_ ?_ ⟨rfl, fr.sub (by simp), ha, ?_, ?_⟩
    · rintro c _ h2 hc ⟨rfl, f2, ha2, hb2, hc2⟩ H
      have e72 : h2 3 7 = nI N := px_f3 f2 hN (by simp; omega)
      have rp : h2 (x + 3) = h (x + 3) := f2 _ (by simp; omega)
      have k1 : (x + 1 : Nat) ≠ 63 := by omega
      have k2 : (x + 2 : Nat) ≠ 63 := by omega
      have k3 : (x + 2 : Nat) ≠ x + 1 := by omega
      have k4 : (63 : Nat) ≠ x + 1 := by omega
      have k5 : (63 : Nat) ≠ x + 2 := by omega
      have k6 : (x + 3 : Nat) ≠ x + 1 := by omega
      have k7 : (x + 1 : Nat) ≠ x + 2 := by omega
      refine w_il (j := 20) rfl rfl rfl ?_
      refine w_al (j := 21) rfl rfl rfl ?_
      first | refine w_gr (j := 22) rfl rfl (by first | assumption | rfl) (by first | assumption | rfl) rfl ?_ | refine w_gi (j := 22) rfl rfl (by first | assumption | rfl) (by first | assumption | rfl) rfl rfl ?_
      first | refine w_gr (j := 23) rfl rfl (by first | assumption | rfl) (by first | assumption | rfl) rfl ?_ | refine w_gi (j := 23) rfl rfl (by first | assumption | rfl) (by first | assumption | rfl) rfl e72 ?_
      refine w_geN (j := 24) rfl rfl (by omega) (by omega) (fun c => absurd c (fun c => by omega)) (fun _ => ?_)
      refine w_al (j := 25) rfl rfl rfl ?_
      first | refine w_gr (j := 26) rfl rfl (by first | assumption | rfl) (by first | assumption | rfl) rfl ?_ | refine w_gi (j := 26) rfl rfl (by first | assumption | rfl) (by first | assumption | rfl) rfl rfl ?_
      refine w_il (j := 27) rfl rfl rfl ?_
      refine w_dup2 (j := 28) rfl rfl ?_
      refine w_ial (j := 29) rfl rfl (by first | assumption | rfl) rfl (by omega) rfl rfl ?_
      refine w_al (j := 30) rfl rfl rfl ?_
      first | refine w_gr (j := 31) rfl rfl (by first | assumption | rfl) (by first | assumption | rfl) rfl ?_ | refine w_gi (j := 31) rfl rfl (by first | assumption | rfl) (by first | assumption | rfl) rfl rfl ?_
      refine w_il (j := 32) rfl rfl rfl ?_
      refine w_ial (j := 33) rfl rfl (by first | assumption | rfl) rfl (by omega) rfl rfl ?_
      first | refine w_subN (j := 34) rfl rfl (by omega) ?_ | refine w_sub (j := 34) rfl rfl ?_
      refine w_ias (j := 35) rfl rfl (by first | assumption | rfl) rfl (by omega) rfl ?_
      refine w_al (j := 36) rfl rfl rfl ?_
      first | refine w_gr (j := 37) rfl rfl (by first | assumption | rfl) (by first | assumption | rfl) rfl ?_ | refine w_gi (j := 37) rfl rfl (by first | assumption | rfl) (by first | assumption | rfl) rfl rfl ?_
      refine w_il (j := 38) rfl rfl rfl ?_
      refine w_ial (j := 39) rfl rfl (by first | assumption | rfl) rfl (by omega) rfl rfl ?_
      refine w_bi (j := 40) (a := (-2)) rfl rfl (by decide) ?_
      refine w_eq (j := 41) rfl rfl (fun c1 => ?_) (fun c1 => ?_)
      ·
        first | refine w_incN (j := 50) rfl rfl rfl ?_ | refine w_inc (j := 50) rfl rfl rfl rfl ?_
        refine w_go rfl ?_
        rw [px_up_na k6, rp] at c1
        refine H _ _ ⟨rfl, f2.up (by simp), fun j hj => ?_, fun j => ?_, fun j => ?_⟩
        · rw [px_up_na k4]; exact ha2 j hj
        · by_cases hj : j = c
          · subst hj
            rw [px_up_at, if_pos (by omega), ha2 j hc, hb2, if_neg (by omega)]
          · rw [px_up_nk hj, hb2]
            by_cases h5 : j < c
            · rw [if_pos h5, if_pos (by omega)]
            · rw [if_neg h5, if_neg (by omega)]
        · rw [px_up_na k3, hc2]
          by_cases hj : j = c
          · subst hj
            rw [if_neg (by omega), if_neg (fun q => q.2 c1)]
          · by_cases h5 : j < c ∧ h (x + 3) j ≠ -2
            · rw [if_pos h5, if_pos ⟨by omega, h5.2⟩]
            · rw [if_neg h5, if_neg (fun q => h5 ⟨by omega, q.2⟩)]
      ·
        refine w_al (j := 42) rfl rfl rfl ?_
        first | refine w_gr (j := 43) rfl rfl (by first | assumption | rfl) (by first | assumption | rfl) rfl ?_ | refine w_gi (j := 43) rfl rfl (by first | assumption | rfl) (by first | assumption | rfl) rfl rfl ?_
        refine w_il (j := 44) rfl rfl rfl ?_
        refine w_dup2 (j := 45) rfl rfl ?_
        refine w_ial (j := 46) rfl rfl (by first | assumption | rfl) rfl (by omega) rfl rfl ?_
        refine w_ic (n := 1) (j := 47) rfl rfl ?_
        first | refine w_add0 (j := 48) rfl rfl ?_ | refine w_addN (j := 48) rfl rfl ?_ | refine w_add (j := 48) rfl rfl ?_
        refine w_ias (j := 49) rfl rfl (by first | assumption | rfl) rfl (by omega) rfl ?_
        first | refine w_incN (j := 50) rfl rfl rfl ?_ | refine w_inc (j := 50) rfl rfl rfl rfl ?_
        refine w_go rfl ?_
        rw [px_up_na k6, rp] at c1
        refine H _ _ ⟨rfl, (f2.up (by simp)).up (by simp), fun j hj => ?_, fun j => ?_, fun j => ?_⟩
        · rw [px_up_na k5, px_up_na k4]; exact ha2 j hj
        · rw [px_up_na k7]
          by_cases hj : j = c
          · subst hj
            rw [px_up_at, if_pos (by omega), ha2 j hc, hb2, if_neg (by omega)]
          · rw [px_up_nk hj, hb2]
            by_cases h5 : j < c
            · rw [if_pos h5, if_pos (by omega)]
            · rw [if_neg h5, if_neg (by omega)]
        · by_cases hj : j = c
          · subst hj
            rw [px_up_at, px_up_na k3, hc2, if_neg (by omega), if_pos ⟨by omega, c1⟩]
          · rw [px_up_nk hj, px_up_na k3, hc2]
            by_cases h5 : j < c ∧ h (x + 3) j ≠ -2
            · rw [if_pos h5, if_pos ⟨by omega, h5.2⟩]
            · rw [if_neg h5, if_neg (fun q => h5 ⟨by omega, q.2⟩)]
    · rintro _ h2 ⟨rfl, f2, ha2, hb2, hc2⟩
      have e72 : h2 3 7 = nI N := px_f3 f2 hN (by simp; omega)
      have rx : h2 x = h x := f2 _ (by simp; omega)
      refine w_il (j := 20) rfl rfl rfl ?_
      refine w_al (j := 21) rfl rfl rfl ?_
      first | refine w_gr (j := 22) rfl rfl (by first | assumption | rfl) (by first | assumption | rfl) rfl ?_ | refine w_gi (j := 22) rfl rfl (by first | assumption | rfl) (by first | assumption | rfl) rfl rfl ?_
      first | refine w_gr (j := 23) rfl rfl (by first | assumption | rfl) (by first | assumption | rfl) rfl ?_ | refine w_gi (j := 23) rfl rfl (by first | assumption | rfl) (by first | assumption | rfl) rfl e72 ?_
      refine w_geN (j := 24) rfl rfl (by omega) (by omega) (fun _ => ?_) (fun c => absurd c (fun c => by omega))
      refine w_al (j := 52) rfl rfl rfl ?_
      first | refine w_dupr (j := 53) rfl rfl ?_ | refine w_dupi (j := 53) rfl rfl ?_
      first | refine w_gr (j := 54) rfl rfl (by first | assumption | rfl) (by first | assumption | rfl) rfl ?_ | refine w_gi (j := 54) rfl rfl (by first | assumption | rfl) (by first | assumption | rfl) rfl rfl ?_
      refine w_ic (n := 1) (j := 55) rfl rfl ?_
      first | refine w_add0 (j := 56) rfl rfl ?_ | refine w_addN (j := 56) rfl rfl ?_ | refine w_add (j := 56) rfl rfl ?_
      refine w_pf (j := 57) rfl rfl (by first | assumption | rfl) (by first | assumption | rfl) rfl ?_
      refine w_rt rfl ?_
      refine ⟨_, rfl, (f2.sub (by simp)).up (by simp), fun j => ?_, fun j => ?_, fun j => ?_⟩
      · rw [px_up_na (by omega)]; exact hb2 j
      · rw [px_up_na (by omega)]; exact hc2 j
      · rw [ix_up_eq, rx]; rfl
    · intro j
      rw [fr _ (nm _ (by omega)), if_neg (by omega)]
    · intro j
      rw [fr _ (nm _ (by omega)), if_neg (by omega)]
