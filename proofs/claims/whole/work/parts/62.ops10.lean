section OPS
variable {h : ix_H} {B N T L W I t : Nat} {cs : List (Nat × Nat)}
-- way
def pf_fs (P : Nat → Bool) : Nat → Nat → Int32
  | 0, _ => -1
  | k + 1, c => if P c = true then nI c else pf_fs P k (c + 1)
theorem pf_fs_congr {P Q : Nat → Bool} : ∀ k c, (∀ j, c ≤ j → j < c + k → P j = Q j) → pf_fs P k c = pf_fs Q k c
  | 0, c, _ => rfl
  | k + 1, c, hh => by rw [pf_fs, pf_fs, hh c (by omega) (by omega), pf_fs_congr k (c + 1) (fun j h1 h2 => hh j (by omega) (by omega))]
def pf_nx (h : ix_H) (a b n : Nat) : Bool := decide (0 < h (9 + a) n ∧ h (16 + n) b ≠ -1 ∧ h (9 + a) n + h (16 + n) b = h (16 + a) b)
def pf_way (h : ix_H) (B a b m : Nat) : Int32 := if m = 0 then h (16 + a) b else if h (16 + a) b ≤ 0 then -1 else pf_fs (pf_nx h a b) B 0
theorem pf_way_kp {h h' : ix_H} {a b m : Nat} (hB : B ≤ 6) (ha : a < 6) (k : px_kp h h') : pf_way h' B a b m = pf_way h B a b m := by
  unfold pf_way
  rw [k.1 (16 + a) (pf_pers_i (by omega)), pf_fs_congr (Q := pf_nx h a b) B 0 (fun j _ hj => ?_)]
  unfold pf_nx
  rw [k.1 (16 + a) (pf_pers_i (by omega)), k.1 (9 + a) (pf_pers_i (by omega)), k.1 (16 + j) (pf_pers_i (by omega))]
theorem sp_32 {a b : Nat} (ha : a < 6) (hb : b < 6) (hB : h 3 6 = nI B) (hB6 : B ≤ 6) : px_V 2 32 [.ref 3, .int (nI a), .int (nI b)] h (some (.int (pf_way h B a b 1))) h := by
  obtain ⟨x1, x2, x3, x4, x5, x6, x7, x8, x9⟩ := px_Ld3
  have s9 : ix_sh (9 + a) = (1, 6, 0) := (x9 a ha).1
  have s16 : ix_sh (16 + a) = (1, 6, 0) := (x9 a ha).2
  refine px_M (M := mt_32) (ops := mo_32) tb_32 rfl rfl rfl rfl rfl ?_
  refine w_al (j := 1) rfl rfl rfl ?_
  first | refine w_gr (j := 2) rfl rfl (by first | assumption | rfl) (by first | assumption | rfl) rfl ?_ | refine w_gi (j := 2) rfl rfl (by first | assumption | rfl) (by first | assumption | rfl) rfl rfl ?_
  refine w_il (j := 3) rfl rfl rfl ?_
  refine w_aal (j := 4) rfl rfl (by first | assumption | rfl) rfl (by omega) rfl ?_
  refine w_il (j := 5) rfl rfl rfl ?_
  refine w_ial (j := 6) rfl rfl (by first | assumption | rfl) rfl (by omega) rfl rfl ?_
  refine w_gtZ (j := 7) rfl rfl (fun c1 => ?_) (fun c1 => ?_)
  rotate_left
  ·
    refine w_im (j := 8) rfl rfl ?_
    refine w_ir rfl ?_
    exact px_ri (by rw [pf_way, if_neg (by decide), if_pos c1])
  have e0 : pf_way h B a b 1 = pf_fs (pf_nx h a b) B 0 := by rw [pf_way, if_neg (by decide), if_neg (px_not_le.mpr c1)]
  rw [e0]
  refine w_ic (n := 0) (j := 10) rfl rfl ?_
  refine w_is (j := 11) rfl rfl rfl ?_
  refine px_forI (fun c ls h1 => h1 = h ∧ ls = [.ref 3, .int (nI a), .int (nI b), .int (nI c)] ∧ pf_fs (pf_nx h a b) (B - c) c = pf_fs (pf_nx h a b) B 0) B ?_ ?_ ⟨rfl, rfl, rfl⟩
  · rintro c _ h1 hc ⟨rfl, rfl, hs⟩ H
    have sc : ix_sh (16 + c) = (1, 6, 0) := (x9 c (by omega)).2
    rw [show B - c = (B - (c + 1)) + 1 by omega, pf_fs] at hs
    refine w_il (j := 12) rfl rfl rfl ?_
    refine w_al (j := 13) rfl rfl rfl ?_
    first | refine w_gr (j := 14) rfl rfl (by first | assumption | rfl) (by first | assumption | rfl) rfl ?_ | refine w_gi (j := 14) rfl rfl (by first | assumption | rfl) (by first | assumption | rfl) rfl hB ?_
    refine w_geN (j := 15) rfl rfl (by omega) (by omega) (fun c => absurd c (fun c => by omega)) (fun _ => ?_)
    refine w_al (j := 16) rfl rfl rfl ?_
    first | refine w_gr (j := 17) rfl rfl (by first | assumption | rfl) (by first | assumption | rfl) rfl ?_ | refine w_gi (j := 17) rfl rfl (by first | assumption | rfl) (by first | assumption | rfl) rfl rfl ?_
    refine w_il (j := 18) rfl rfl rfl ?_
    refine w_aal (j := 19) rfl rfl (by first | assumption | rfl) rfl (by omega) rfl ?_
    refine w_il (j := 20) rfl rfl rfl ?_
    refine w_ial (j := 21) rfl rfl (by first | assumption | rfl) rfl (by omega) rfl rfl ?_
    refine w_leZ (j := 22) rfl rfl (fun d1 => ?_) (fun d1 => ?_)
    ·
      first | refine w_incN (j := 53) rfl rfl rfl ?_ | refine w_inc (j := 53) rfl rfl rfl rfl ?_
      refine w_go rfl ?_
      rw [if_neg (show ¬ pf_nx h1 a b c = true from fun q => px_not_lt.mpr d1 (of_decide_eq_true q).1)] at hs
      exact H _ _ ⟨rfl, rfl, hs⟩
    refine w_al (j := 23) rfl rfl rfl ?_
    first | refine w_gr (j := 24) rfl rfl (by first | assumption | rfl) (by first | assumption | rfl) rfl ?_ | refine w_gi (j := 24) rfl rfl (by first | assumption | rfl) (by first | assumption | rfl) rfl rfl ?_
    refine w_il (j := 25) rfl rfl rfl ?_
    refine w_aal (j := 26) rfl rfl (by first | assumption | rfl) rfl (by omega) rfl ?_
    refine w_il (j := 27) rfl rfl rfl ?_
    refine w_ial (j := 28) rfl rfl (by first | assumption | rfl) rfl (by omega) rfl rfl ?_
    refine w_im (j := 29) rfl rfl ?_
    refine w_eq (j := 30) rfl rfl (fun d2 => ?_) (fun d2 => ?_)
    ·
      first | refine w_incN (j := 53) rfl rfl rfl ?_ | refine w_inc (j := 53) rfl rfl rfl rfl ?_
      refine w_go rfl ?_
      rw [if_neg (show ¬ pf_nx h1 a b c = true from fun q => (of_decide_eq_true q).2.1 d2)] at hs
      exact H _ _ ⟨rfl, rfl, hs⟩
    refine w_al (j := 31) rfl rfl rfl ?_
    first | refine w_gr (j := 32) rfl rfl (by first | assumption | rfl) (by first | assumption | rfl) rfl ?_ | refine w_gi (j := 32) rfl rfl (by first | assumption | rfl) (by first | assumption | rfl) rfl rfl ?_
    refine w_il (j := 33) rfl rfl rfl ?_
    refine w_aal (j := 34) rfl rfl (by first | assumption | rfl) rfl (by omega) rfl ?_
    refine w_il (j := 35) rfl rfl rfl ?_
    refine w_ial (j := 36) rfl rfl (by first | assumption | rfl) rfl (by omega) rfl rfl ?_
    refine w_al (j := 37) rfl rfl rfl ?_
    first | refine w_gr (j := 38) rfl rfl (by first | assumption | rfl) (by first | assumption | rfl) rfl ?_ | refine w_gi (j := 38) rfl rfl (by first | assumption | rfl) (by first | assumption | rfl) rfl rfl ?_
    refine w_il (j := 39) rfl rfl rfl ?_
    refine w_aal (j := 40) rfl rfl (by first | assumption | rfl) rfl (by omega) rfl ?_
    refine w_il (j := 41) rfl rfl rfl ?_
    refine w_ial (j := 42) rfl rfl (by first | assumption | rfl) rfl (by omega) rfl rfl ?_
    first | refine w_add0 (j := 43) rfl rfl ?_ | refine w_addN (j := 43) rfl rfl ?_ | refine w_add (j := 43) rfl rfl ?_
    refine w_al (j := 44) rfl rfl rfl ?_
    first | refine w_gr (j := 45) rfl rfl (by first | assumption | rfl) (by first | assumption | rfl) rfl ?_ | refine w_gi (j := 45) rfl rfl (by first | assumption | rfl) (by first | assumption | rfl) rfl rfl ?_
    refine w_il (j := 46) rfl rfl rfl ?_
    refine w_aal (j := 47) rfl rfl (by first | assumption | rfl) rfl (by omega) rfl ?_
    refine w_il (j := 48) rfl rfl rfl ?_
    refine w_ial (j := 49) rfl rfl (by first | assumption | rfl) rfl (by omega) rfl rfl ?_
    refine w_ne (j := 50) rfl rfl (fun d3 => ?_) (fun d3 => ?_)
    ·
      first | refine w_incN (j := 53) rfl rfl rfl ?_ | refine w_inc (j := 53) rfl rfl rfl rfl ?_
      refine w_go rfl ?_
      rw [if_neg (show ¬ pf_nx h1 a b c = true from fun q => d3 (of_decide_eq_true q).2.2)] at hs
      exact H _ _ ⟨rfl, rfl, hs⟩
    refine w_il (j := 51) rfl rfl rfl ?_
    refine w_ir rfl ?_
    rw [if_pos (show pf_nx h1 a b c = true from decide_eq_true ⟨d1, d2, d3⟩)] at hs
    exact px_ri hs
  · rintro _ h1 ⟨rfl, rfl, hs⟩
    rw [Nat.sub_self] at hs
    refine w_il (j := 12) rfl rfl rfl ?_
    refine w_al (j := 13) rfl rfl rfl ?_
    first | refine w_gr (j := 14) rfl rfl (by first | assumption | rfl) (by first | assumption | rfl) rfl ?_ | refine w_gi (j := 14) rfl rfl (by first | assumption | rfl) (by first | assumption | rfl) rfl hB ?_
    refine w_geN (j := 15) rfl rfl (by omega) (by omega) (fun _ => ?_) (fun c => absurd c (fun c => by omega))
    refine w_im (j := 55) rfl rfl ?_
    refine w_ir rfl ?_
    exact px_ri hs
theorem C_way {a b w : Int32} (hI : px_I h B N T cs L W I t) : px_CO 6 128 [.ref 0, .int a, .int b, .int w] h (fun v h1 => ∃ x y m, x < B ∧ y < B ∧ m ≤ 1 ∧ a = nI x ∧ b = nI y ∧ w = nI m ∧ v = pf_way h B x y m ∧ px_kp h h1) (fun x h1 => (x = 1 ∧ ¬ ((0 ≤ a ∧ a < nI B) ∧ 0 ≤ b ∧ b < nI B) ∧ h1 = px_hX 1 h) ∨ (x = 0 ∧ ((0 ≤ a ∧ a < nI B) ∧ 0 ≤ b ∧ b < nI B) ∧ ¬ (nI 0 ≤ w ∧ w ≤ nI 1) ∧ h1 = px_hX 0 h)) := by
  obtain ⟨⟨l1, l2, l3, l4, l5, l6, l7, l8, l9⟩, lw, -, nw, -⟩ := hI
  refine px_M (M := mt_128) (ops := mo_128) tb_128 rfl rfl rfl rfl rfl ?_
  refine w_al (j := 1) rfl rfl rfl ?_
  refine w_il (j := 2) rfl rfl rfl ?_
  refine w_chk (j := 3) rfl rfl rfl rfl (by first | assumption | rfl) rfl rfl (sp_149) rfl (fun c1 => ?_) (fun c1 => ?_)
  · rw [l1] at c1
    exact Or.inr ⟨_, _, rfl, Or.inl ⟨rfl, fun q => c1 q.1, rfl⟩⟩
  rw [l1] at c1
  refine w_al (j := 4) rfl rfl rfl ?_
  refine w_il (j := 5) rfl rfl rfl ?_
  refine w_chk (j := 6) rfl rfl rfl rfl (by first | assumption | rfl) rfl rfl (sp_149) rfl (fun c2 => ?_) (fun c2 => ?_)
  · rw [l1] at c2
    exact Or.inr ⟨_, _, rfl, Or.inl ⟨rfl, fun q => c2 q.2, rfl⟩⟩
  rw [l1] at c2
  refine w_al (j := 7) rfl rfl rfl ?_
  refine w_il (j := 8) rfl rfl rfl ?_
  refine w_ic (n := 0) (j := 9) rfl rfl ?_
  refine w_ic (n := 1) (j := 10) rfl rfl ?_
  refine w_chk (j := 11) rfl rfl rfl rfl (by first | assumption | rfl) rfl rfl (sp_147) rfl (fun c3 => ?_) (fun c3 => ?_)
  · exact Or.inr ⟨_, _, rfl, Or.inr ⟨rfl, ⟨c1, c2⟩, c3, rfl⟩⟩
  obtain ⟨x, hx, rfl⟩ := px_bnd (by omega) c1
  obtain ⟨y, hy, rfl⟩ := px_bnd (by omega) c2
  obtain ⟨m, hm, rfl⟩ := px_bnd2 (by decide) c3
  have s16 : ix_sh (16 + x) = (1, 6, 0) := (px_Ld3.2.2.2.2.2.2.2.2 x (by omega)).2
  obtain rfl | rfl : m = 0 ∨ m = 1 := by omega
  ·
    refine w_il (j := 12) rfl rfl rfl ?_
    refine w_neM (j := 13) rfl rfl (by omega) (fun c => absurd c (fun c => by omega)) (fun _ => ?_)
    refine w_al (j := 14) rfl rfl rfl ?_
    first | refine w_gr (j := 15) rfl rfl (by first | assumption | rfl) (by first | assumption | rfl) rfl ?_ | refine w_gi (j := 15) rfl rfl (by first | assumption | rfl) (by first | assumption | rfl) rfl rfl ?_
    first | refine w_gr (j := 16) rfl rfl (by first | assumption | rfl) (by first | assumption | rfl) rfl ?_ | refine w_gi (j := 16) rfl rfl (by first | assumption | rfl) (by first | assumption | rfl) rfl rfl ?_
    refine w_il (j := 17) rfl rfl rfl ?_
    refine w_aal (j := 18) rfl rfl (by first | assumption | rfl) rfl (by omega) rfl ?_
    refine w_il (j := 19) rfl rfl rfl ?_
    refine w_ial (j := 20) rfl rfl (by first | assumption | rfl) rfl (by omega) rfl rfl ?_
    refine w_go rfl ?_
    refine w_ir rfl ?_
    exact Or.inl ⟨_, _, rfl, x, y, 0, hx, hy, hm, rfl, rfl, rfl, rfl, px_kp.rf⟩
  ·
    refine w_il (j := 12) rfl rfl rfl ?_
    refine w_neM (j := 13) rfl rfl (by omega) (fun _ => ?_) (fun c => absurd c (fun c => by omega))
    refine w_al (j := 22) rfl rfl rfl ?_
    first | refine w_gr (j := 23) rfl rfl (by first | assumption | rfl) (by first | assumption | rfl) rfl ?_ | refine w_gi (j := 23) rfl rfl (by first | assumption | rfl) (by first | assumption | rfl) rfl rfl ?_
    refine w_il (j := 24) rfl rfl rfl ?_
    refine w_il (j := 25) rfl rfl rfl ?_
    refine w_cvI (j := 26) rfl rfl rfl rfl (by first | assumption | rfl) rfl rfl (sp_32 (by omega) (by omega) l1 l3) rfl ?_
    refine w_ir rfl ?_
    exact Or.inl ⟨_, _, rfl, x, y, 1, hx, hy, hm, rfl, rfl, rfl, rfl, px_kp.rf⟩
theorem M_way {x y m : Nat} (hI : px_I h B N T cs L W I t) (hx : x < B) (hy : y < B) (hm : m ≤ 1) : px_PI 4 236 [.ref 100, .int (nI x), .int (nI y), .int (nI m)] h (fun w h2 => w = pf_way h B x y m ∧ h2 100 0 = nI 0 ∧ px_kp h h2) := by
  have hB6 := hI.1.2.2.1
  refine px_M (M := mt_236) (ops := mo_236) tb_236 rfl rfl rfl rfl rfl ?_
  refine w_al (j := 1) rfl rfl rfl ?_
  refine w_ic (n := 0) (j := 2) rfl rfl ?_
  refine w_pf (j := 3) rfl rfl (by first | assumption | rfl) (by first | assumption | rfl) rfl ?_
  obtain ⟨I1, k1, t0⟩ := px_thr (v := nI 0) hI
  generalize ix_up h 100 0 (nI 0) = h1 at I1 k1 t0 ⊢
  rw [← pf_way_kp hB6 (by omega) k1]
  obtain ⟨⟨l1, l2, l3, l4, l5, l6, l7, l8, l9, l10, l11, l12, l13, l14, l15⟩, lw, -, nw, -⟩ := I1
  have s1 := sh_152 x (by omega)
  have s2 := sh_145 x (by omega)
  refine w_al (j := 4) rfl rfl rfl ?_
  refine w_al (j := 5) rfl rfl rfl ?_
  refine w_il (j := 6) rfl rfl rfl ?_
  refine w_cvI (j := 7) rfl rfl rfl rfl (by first | assumption | rfl) rfl rfl (sp_212 l2 l3) rfl ?_
  rw [px_ofB hx (by omega)]
  refine w_eqB (j := 8) rfl rfl (fun c => absurd c (by simp)) (fun _ => ?_)
  refine w_al (j := 9) rfl rfl rfl ?_
  refine w_il (j := 10) rfl rfl rfl ?_
  refine w_cvI (j := 11) rfl rfl rfl rfl (by first | assumption | rfl) rfl rfl (sp_212 l2 l3) rfl ?_
  rw [px_ofB hy (by omega)]
  refine w_neB (j := 12) rfl rfl (fun _ => ?_) (fun c => absurd c (by simp))
  refine w_ic (n := 0) (j := 15) rfl rfl ?_
  refine w_ic (n := 1) (j := 16) rfl rfl ?_
  refine w_ic (n := 0) (j := 17) rfl rfl ?_
  refine w_cvI (j := 18) rfl rfl rfl rfl (by first | assumption | rfl) rfl rfl (sp_154f t0) rfl ?_
  refine w_neB (j := 19) rfl rfl (fun c => absurd c (by simp)) (fun _ => ?_)
  refine w_al (j := 20) rfl rfl rfl ?_
  refine w_il (j := 21) rfl rfl rfl ?_
  refine w_ic (n := 0) (j := 22) rfl rfl ?_
  refine w_ic (n := 1) (j := 23) rfl rfl ?_
  refine w_csI (j := 24) rfl rfl rfl rfl rfl (sp_155) rfl ?_
  rw [px_ofN hm (by decide)]
  refine w_neB (j := 25) rfl rfl (fun _ => ?_) (fun c => absurd c (by simp))
  refine w_ic (n := 0) (j := 28) rfl rfl ?_
  refine w_ic (n := 2) (j := 29) rfl rfl ?_
  refine w_ic (n := 1) (j := 30) rfl rfl ?_
  refine w_cvI (j := 31) rfl rfl rfl rfl (by first | assumption | rfl) rfl rfl (sp_154f t0) rfl ?_
  refine w_eqB (j := 32) rfl rfl (fun _ => ?_) (fun c => absurd c (by simp))
  rcases l15 (by omega) x y (by omega) (by omega) with ⟨ne, e1, e2⟩ | ⟨q, hq, e1, e2, e3⟩
  ·
    refine w_al (j := 35) rfl rfl rfl ?_
    first | refine w_gr (j := 36) rfl rfl (by first | assumption | rfl) (by first | assumption | rfl) rfl ?_ | refine w_gi (j := 36) rfl rfl (by first | assumption | rfl) (by first | assumption | rfl) rfl rfl ?_
    refine w_il (j := 37) rfl rfl rfl ?_
    refine w_aal (j := 38) rfl rfl (by first | assumption | rfl) rfl (by omega) rfl ?_
    refine w_il (j := 39) rfl rfl rfl ?_
    refine w_ial (j := 40) rfl rfl (by first | assumption | rfl) rfl (by omega) rfl e2 ?_
    refine w_lc (j := 41) (a := nI 100000) rfl rfl (by decide) ?_
    refine w_ltN (j := 42) rfl rfl (by omega) (by omega) (fun c => absurd c (fun c => by omega)) (fun _ => ?_)
    refine w_im (j := 43) rfl rfl ?_
    refine w_ir rfl ?_
    refine ⟨_, _, rfl, ?_, t0, k1⟩
    unfold pf_way
    rw [e1]
    obtain rfl | rfl : m = 0 ∨ m = 1 := by omega
    · rfl
    · rw [if_neg (by decide), if_pos (by decide)]
  ·
    refine w_al (j := 35) rfl rfl rfl ?_
    first | refine w_gr (j := 36) rfl rfl (by first | assumption | rfl) (by first | assumption | rfl) rfl ?_ | refine w_gi (j := 36) rfl rfl (by first | assumption | rfl) (by first | assumption | rfl) rfl rfl ?_
    refine w_il (j := 37) rfl rfl rfl ?_
    refine w_aal (j := 38) rfl rfl (by first | assumption | rfl) rfl (by omega) rfl ?_
    refine w_il (j := 39) rfl rfl rfl ?_
    refine w_ial (j := 40) rfl rfl (by first | assumption | rfl) rfl (by omega) rfl e2 ?_
    refine w_lc (j := 41) (a := nI 100000) rfl rfl (by decide) ?_
    refine w_ltN (j := 42) rfl rfl (by omega) (by omega) (fun _ => ?_) (fun c => absurd c (fun c => by omega))
    refine w_il (j := 45) rfl rfl rfl ?_
    obtain rfl | rfl : m = 0 ∨ m = 1 := by omega
    ·
      refine w_neM (j := 46) rfl rfl (by omega) (fun c => absurd c (fun c => by omega)) (fun _ => ?_)
      refine w_al (j := 47) rfl rfl rfl ?_
      first | refine w_gr (j := 48) rfl rfl (by first | assumption | rfl) (by first | assumption | rfl) rfl ?_ | refine w_gi (j := 48) rfl rfl (by first | assumption | rfl) (by first | assumption | rfl) rfl rfl ?_
      refine w_il (j := 49) rfl rfl rfl ?_
      refine w_aal (j := 50) rfl rfl (by first | assumption | rfl) rfl (by omega) rfl ?_
      refine w_il (j := 51) rfl rfl rfl ?_
      refine w_ial (j := 52) rfl rfl (by first | assumption | rfl) rfl (by omega) rfl e2 ?_
      refine w_ir rfl ?_
      refine ⟨_, _, rfl, ?_, t0, k1⟩
      exact e1.symm
    refine w_neM (j := 46) rfl rfl (by omega) (fun _ => ?_) (fun c => absurd c (fun c => by omega))
    refine w_ic (n := 0) (j := 54) rfl rfl ?_
    refine w_iS (j := 55) rfl rfl rfl ?_
    by_cases hxy : x = y
    · have q0 := e3.mpr hxy
      subst hxy q0
      refine w_iL (j := 56) rfl rfl rfl ?_
      refine w_al (j := 57) rfl rfl rfl ?_
      first | refine w_gr (j := 58) rfl rfl (by first | assumption | rfl) (by first | assumption | rfl) rfl ?_ | refine w_gi (j := 58) rfl rfl (by first | assumption | rfl) (by first | assumption | rfl) rfl rfl ?_
      refine w_ic (n := 0) (j := 59) rfl rfl ?_
      refine w_ial (j := 60) rfl rfl (by first | assumption | rfl) rfl (by omega) rfl l2 ?_
      refine w_geN (j := 61) rfl rfl (by omega) (by omega) (fun c => absurd c (fun c => by omega)) (fun _ => ?_)
      refine w_il (j := 62) rfl rfl rfl ?_
      refine w_il (j := 63) rfl rfl rfl ?_
      refine w_eqN (j := 64) rfl rfl (by omega) (by omega) (fun _ => ?_) (fun c => absurd c (fun c => by omega))
      refine w_im (j := 96) rfl rfl ?_
      refine w_ir rfl ?_
      refine ⟨_, _, rfl, ?_, t0, k1⟩
      rw [pf_way, if_neg (by decide), e1, if_pos (by decide)]
    · have q0 : q ≠ 0 := fun z => hxy (e3.mp z)
      have e0 : pf_way h1 B x y 1 = pf_fs (pf_nx h1 x y) B 0 := by
        rw [pf_way, if_neg (by decide), e1, if_neg (fun z => by have := (px_nle (b := 0) (by omega) (by decide)).mp z; omega)]
      rw [e0]
      refine px_forI (fun c ls h2 => h2 = h1 ∧ ls = [.ref 100, .int (nI x), .int (nI y), .int (nI 1), .int (nI c)] ∧ pf_fs (pf_nx h1 x y) (B - c) c = pf_fs (pf_nx h1 x y) B 0) B ?_ ?_ ⟨rfl, rfl, rfl⟩
      · rintro c _ h2 hc ⟨rfl, rfl, hs⟩ H
        have sc := sh_152 c (by omega)
        obtain ⟨p1, p, hp, p2⟩ := l14 x c (by omega) (by omega)
        have p3 : h2 (145 + x) c = nI p := by rw [← p1, p2]
        rw [show B - c = (B - (c + 1)) + 1 by omega, pf_fs] at hs
        refine w_iL (j := 56) rfl rfl rfl ?_
        refine w_al (j := 57) rfl rfl rfl ?_
        first | refine w_gr (j := 58) rfl rfl (by first | assumption | rfl) (by first | assumption | rfl) rfl ?_ | refine w_gi (j := 58) rfl rfl (by first | assumption | rfl) (by first | assumption | rfl) rfl rfl ?_
        refine w_ic (n := 0) (j := 59) rfl rfl ?_
        refine w_ial (j := 60) rfl rfl (by first | assumption | rfl) rfl (by omega) rfl l2 ?_
        refine w_geN (j := 61) rfl rfl (by omega) (by omega) (fun c => absurd c (fun c => by omega)) (fun _ => ?_)
        refine w_il (j := 62) rfl rfl rfl ?_
        refine w_il (j := 63) rfl rfl rfl ?_
        refine w_eqN (j := 64) rfl rfl (by omega) (by omega) (fun c => absurd c (fun c => by omega)) (fun _ => ?_)
        refine w_al (j := 65) rfl rfl rfl ?_
        first | refine w_gr (j := 66) rfl rfl (by first | assumption | rfl) (by first | assumption | rfl) rfl ?_ | refine w_gi (j := 66) rfl rfl (by first | assumption | rfl) (by first | assumption | rfl) rfl rfl ?_
        refine w_il (j := 67) rfl rfl rfl ?_
        refine w_aal (j := 68) rfl rfl (by first | assumption | rfl) rfl (by omega) rfl ?_
        refine w_iL (j := 69) rfl rfl rfl ?_
        refine w_ial (j := 70) rfl rfl (by first | assumption | rfl) rfl (by omega) rfl p3 ?_
        refine w_leM (j := 71) rfl rfl (by omega) (fun d1 => ?_) (fun d1 => ?_)
        ·
          first | refine w_incN (j := 94) rfl rfl rfl ?_ | refine w_inc (j := 94) rfl rfl rfl rfl ?_
          refine w_go rfl ?_
          rw [if_neg (show ¬ pf_nx h2 x y c = true from fun z => by have := (of_decide_eq_true z).1; rw [p2, d1] at this; exact absurd this (by decide))] at hs
          exact H _ _ ⟨rfl, rfl, hs⟩
        rcases l15 (by omega) c y (by omega) (by omega) with ⟨ne, u1, u2⟩ | ⟨r, hr, u1, u2, u3⟩
        ·
          refine w_al (j := 72) rfl rfl rfl ?_
          first | refine w_gr (j := 73) rfl rfl (by first | assumption | rfl) (by first | assumption | rfl) rfl ?_ | refine w_gi (j := 73) rfl rfl (by first | assumption | rfl) (by first | assumption | rfl) rfl rfl ?_
          refine w_il (j := 74) rfl rfl rfl ?_
          refine w_aal (j := 75) rfl rfl (by first | assumption | rfl) rfl (by omega) rfl ?_
          refine w_iL (j := 76) rfl rfl rfl ?_
          refine w_ial (j := 77) rfl rfl (by first | assumption | rfl) rfl (by omega) rfl p3 ?_
          refine w_al (j := 78) rfl rfl rfl ?_
          first | refine w_gr (j := 79) rfl rfl (by first | assumption | rfl) (by first | assumption | rfl) rfl ?_ | refine w_gi (j := 79) rfl rfl (by first | assumption | rfl) (by first | assumption | rfl) rfl rfl ?_
          refine w_iL (j := 80) rfl rfl rfl ?_
          refine w_aal (j := 81) rfl rfl (by first | assumption | rfl) rfl (by omega) rfl ?_
          refine w_il (j := 82) rfl rfl rfl ?_
          refine w_ial (j := 83) rfl rfl (by first | assumption | rfl) rfl (by omega) rfl u2 ?_
          first | refine w_add0 (j := 84) rfl rfl ?_ | refine w_addN (j := 84) rfl rfl ?_ | refine w_add (j := 84) rfl rfl ?_
          refine w_al (j := 85) rfl rfl rfl ?_
          first | refine w_gr (j := 86) rfl rfl (by first | assumption | rfl) (by first | assumption | rfl) rfl ?_ | refine w_gi (j := 86) rfl rfl (by first | assumption | rfl) (by first | assumption | rfl) rfl rfl ?_
          refine w_il (j := 87) rfl rfl rfl ?_
          refine w_aal (j := 88) rfl rfl (by first | assumption | rfl) rfl (by omega) rfl ?_
          refine w_il (j := 89) rfl rfl rfl ?_
          refine w_ial (j := 90) rfl rfl (by first | assumption | rfl) rfl (by omega) rfl e2 ?_
          refine w_neN (j := 91) rfl rfl (by omega) (by omega) (fun _ => ?_) (fun c => absurd c (fun c => by omega))
          first | refine w_incN (j := 94) rfl rfl rfl ?_ | refine w_inc (j := 94) rfl rfl rfl rfl ?_
          refine w_go rfl ?_
          rw [if_neg (show ¬ pf_nx h2 x y c = true from fun z => (of_decide_eq_true z).2.1 u1)] at hs
          exact H _ _ ⟨rfl, rfl, hs⟩
        ·
          refine w_al (j := 72) rfl rfl rfl ?_
          first | refine w_gr (j := 73) rfl rfl (by first | assumption | rfl) (by first | assumption | rfl) rfl ?_ | refine w_gi (j := 73) rfl rfl (by first | assumption | rfl) (by first | assumption | rfl) rfl rfl ?_
          refine w_il (j := 74) rfl rfl rfl ?_
          refine w_aal (j := 75) rfl rfl (by first | assumption | rfl) rfl (by omega) rfl ?_
          refine w_iL (j := 76) rfl rfl rfl ?_
          refine w_ial (j := 77) rfl rfl (by first | assumption | rfl) rfl (by omega) rfl p3 ?_
          refine w_al (j := 78) rfl rfl rfl ?_
          first | refine w_gr (j := 79) rfl rfl (by first | assumption | rfl) (by first | assumption | rfl) rfl ?_ | refine w_gi (j := 79) rfl rfl (by first | assumption | rfl) (by first | assumption | rfl) rfl rfl ?_
          refine w_iL (j := 80) rfl rfl rfl ?_
          refine w_aal (j := 81) rfl rfl (by first | assumption | rfl) rfl (by omega) rfl ?_
          refine w_il (j := 82) rfl rfl rfl ?_
          refine w_ial (j := 83) rfl rfl (by first | assumption | rfl) rfl (by omega) rfl u2 ?_
          first | refine w_add0 (j := 84) rfl rfl ?_ | refine w_addN (j := 84) rfl rfl ?_ | refine w_add (j := 84) rfl rfl ?_
          refine w_al (j := 85) rfl rfl rfl ?_
          first | refine w_gr (j := 86) rfl rfl (by first | assumption | rfl) (by first | assumption | rfl) rfl ?_ | refine w_gi (j := 86) rfl rfl (by first | assumption | rfl) (by first | assumption | rfl) rfl rfl ?_
          refine w_il (j := 87) rfl rfl rfl ?_
          refine w_aal (j := 88) rfl rfl (by first | assumption | rfl) rfl (by omega) rfl ?_
          refine w_il (j := 89) rfl rfl rfl ?_
          refine w_ial (j := 90) rfl rfl (by first | assumption | rfl) rfl (by omega) rfl e2 ?_
          refine w_neN (j := 91) rfl rfl (by omega) (by omega) (fun d2 => ?_) (fun d2 => ?_)
          ·
            first | refine w_incN (j := 94) rfl rfl rfl ?_ | refine w_inc (j := 94) rfl rfl rfl rfl ?_
            refine w_go rfl ?_
            rw [if_neg (show ¬ pf_nx h2 x y c = true from fun z => by have := (of_decide_eq_true z).2.2; rw [p2, u1, e1, px_nadd] at this; exact d2 ((px_neq (by omega) (by omega)).mp this))] at hs
            exact H _ _ ⟨rfl, rfl, hs⟩
          ·
            refine w_iL (j := 92) rfl rfl rfl ?_
            refine w_ir rfl ?_
            rw [if_pos (show pf_nx h2 x y c = true from decide_eq_true ⟨by rw [p2]; exact (px_nlt (a := 0) (by decide) (by omega)).mpr d1, by rw [u1]; exact px_nm1 (by omega), by rw [p2, u1, e1, px_nadd, d2]⟩)] at hs
            exact ⟨_, _, rfl, hs, t0, k1⟩
      · rintro _ h2 ⟨rfl, rfl, hs⟩
        rw [Nat.sub_self] at hs
        refine w_iL (j := 56) rfl rfl rfl ?_
        refine w_al (j := 57) rfl rfl rfl ?_
        first | refine w_gr (j := 58) rfl rfl (by first | assumption | rfl) (by first | assumption | rfl) rfl ?_ | refine w_gi (j := 58) rfl rfl (by first | assumption | rfl) (by first | assumption | rfl) rfl rfl ?_
        refine w_ic (n := 0) (j := 59) rfl rfl ?_
        refine w_ial (j := 60) rfl rfl (by first | assumption | rfl) rfl (by omega) rfl l2 ?_
        refine w_geN (j := 61) rfl rfl (by omega) (by omega) (fun _ => ?_) (fun c => absurd c (fun c => by omega))
        refine w_im (j := 96) rfl rfl ?_
        refine w_ir rfl ?_
        exact ⟨_, _, rfl, hs, t0, k1⟩
theorem MXE_way {a b w : Int32} (l2 : h 104 0 = nI B) (l3 : B ≤ 6) (ok : ¬ ((0 ≤ a ∧ a < nI B) ∧ 0 ≤ b ∧ b < nI B)) : px_PI 4 236 [.ref 100, .int a, .int b, .int w] h (fun v h2 => h2 100 0 = nI 1 ∧ px_kp (ix_up h 102 0 (h 102 0 + nI 1)) h2) := by
  have tail : px_R px_E 3 mo_236 [] 12 [.ref 100, .int a, .int b, .int w, .null] [.ref 100] (ix_up h 100 0 (nI 0)) 0 (fun r => ∃ v h', r = (.inl (some (.int v)), h', 0) ∧ h' 100 0 = nI 1 ∧ px_kp (ix_up h 102 0 (h 102 0 + nI 1)) h') := by
    refine w_ic (n := 1) (j := 13) rfl rfl ?_
    refine w_go rfl ?_
    refine w_ic (n := 1) (j := 16) rfl rfl ?_
    refine w_ic (n := 0) (j := 17) rfl rfl ?_
    refine w_cvI (j := 18) rfl rfl rfl rfl (by first | assumption | rfl) rfl rfl (sp_154t (p := 0) (w := 1) rfl (by decide) (by decide) (by decide)) rfl ?_
    refine w_neB (j := 19) rfl rfl (fun _ => ?_) (fun c => absurd c (by simp))
    refine w_ic (n := 0) (j := 33) rfl rfl ?_
    refine w_ir rfl ?_
    exact ⟨_, _, rfl, rfl, px_kpX (by decide)⟩
  refine px_M (M := mt_236) (ops := mo_236) tb_236 rfl rfl rfl rfl rfl ?_
  refine w_al (j := 1) rfl rfl rfl ?_
  refine w_ic (n := 0) (j := 2) rfl rfl ?_
  refine w_pf (j := 3) rfl rfl (by first | assumption | rfl) (by first | assumption | rfl) rfl ?_
  refine w_al (j := 4) rfl rfl rfl ?_
  refine w_al (j := 5) rfl rfl rfl ?_
  refine w_il (j := 6) rfl rfl rfl ?_
  refine w_cvI (j := 7) rfl rfl rfl rfl (by first | assumption | rfl) rfl rfl (sp_212 (B := B) l2 l3) rfl ?_
  by_cases c1 : 0 ≤ a ∧ a < nI B
  · rw [decide_eq_true c1]
    refine w_eqB (j := 8) rfl rfl (fun c => absurd c (by simp)) (fun _ => ?_)
    refine w_al (j := 9) rfl rfl rfl ?_
    refine w_il (j := 10) rfl rfl rfl ?_
    refine w_cvI (j := 11) rfl rfl rfl rfl (by first | assumption | rfl) rfl rfl (sp_212 (B := B) l2 l3) rfl ?_
    rw [decide_eq_false (fun q => ok ⟨c1, q⟩)]
    refine w_neB (j := 12) rfl rfl (fun c => absurd c (by simp)) (fun _ => ?_)
    exact tail
  · rw [decide_eq_false c1]
    refine w_eqB (j := 8) rfl rfl (fun _ => ?_) (fun c => absurd c (by simp))
    exact tail
theorem MXA_way {a b w : Int32} (l2 : h 104 0 = nI B) (l3 : B ≤ 6) (ok : (0 ≤ a ∧ a < nI B) ∧ 0 ≤ b ∧ b < nI B) (hw : ¬ (nI 0 ≤ w ∧ w ≤ nI 1)) : px_PI 4 236 [.ref 100, .int a, .int b, .int w] h (fun v h2 => h2 100 0 = nI 2 ∧ px_kp (ix_up h 102 1 (h 102 1 + nI 1)) h2) := by
  refine px_M (M := mt_236) (ops := mo_236) tb_236 rfl rfl rfl rfl rfl ?_
  refine w_al (j := 1) rfl rfl rfl ?_
  refine w_ic (n := 0) (j := 2) rfl rfl ?_
  refine w_pf (j := 3) rfl rfl (by first | assumption | rfl) (by first | assumption | rfl) rfl ?_
  refine w_al (j := 4) rfl rfl rfl ?_
  refine w_al (j := 5) rfl rfl rfl ?_
  refine w_il (j := 6) rfl rfl rfl ?_
  refine w_cvI (j := 7) rfl rfl rfl rfl (by first | assumption | rfl) rfl rfl (sp_212 (B := B) l2 l3) rfl ?_
  rw [decide_eq_true ok.1]
  refine w_eqB (j := 8) rfl rfl (fun c => absurd c (by simp)) (fun _ => ?_)
  refine w_al (j := 9) rfl rfl rfl ?_
  refine w_il (j := 10) rfl rfl rfl ?_
  refine w_cvI (j := 11) rfl rfl rfl rfl (by first | assumption | rfl) rfl rfl (sp_212 (B := B) l2 l3) rfl ?_
  rw [decide_eq_true ok.2]
  refine w_neB (j := 12) rfl rfl (fun _ => ?_) (fun c => absurd c (by simp))
  refine w_ic (n := 0) (j := 15) rfl rfl ?_
  refine w_ic (n := 1) (j := 16) rfl rfl ?_
  refine w_ic (n := 0) (j := 17) rfl rfl ?_
  refine w_cvI (j := 18) rfl rfl rfl rfl (by first | assumption | rfl) rfl rfl (sp_154f rfl) rfl ?_
  refine w_neB (j := 19) rfl rfl (fun c => absurd c (by simp)) (fun _ => ?_)
  refine w_al (j := 20) rfl rfl rfl ?_
  refine w_il (j := 21) rfl rfl rfl ?_
  refine w_ic (n := 0) (j := 22) rfl rfl ?_
  refine w_ic (n := 1) (j := 23) rfl rfl ?_
  refine w_csI (j := 24) rfl rfl rfl rfl rfl (sp_155) rfl ?_
  rw [decide_eq_false hw]
  refine w_neB (j := 25) rfl rfl (fun c => absurd c (by simp)) (fun _ => ?_)
  refine w_ic (n := 1) (j := 26) rfl rfl ?_
  refine w_go rfl ?_
  refine w_ic (n := 2) (j := 29) rfl rfl ?_
  refine w_ic (n := 1) (j := 30) rfl rfl ?_
  refine w_cvI (j := 31) rfl rfl rfl rfl (by first | assumption | rfl) rfl rfl (sp_154t (p := 1) (w := 2) rfl (by decide) (by decide) (by decide)) rfl ?_
  refine w_eqB (j := 32) rfl rfl (fun c => absurd c (by simp)) (fun _ => ?_)
  refine w_ic (n := 0) (j := 33) rfl rfl ?_
  refine w_ir rfl ?_
  exact ⟨_, _, rfl, rfl, px_kpX (by decide)⟩
-- ears
def pf_on (y : Nat) : Nat → Nat
  | 0 => 0
  | k + 1 => pf_on y k + y / 2 ^ k % 2
theorem pf_on_le (y : Nat) : ∀ k, pf_on y k ≤ k
  | 0 => Nat.le_refl _
  | k + 1 => by rw [pf_on]; have := pf_on_le y k; omega
theorem pf_bc_on : ∀ y, y < 256 → pf_bc (nI y) = nI (pf_on y 8) := by decide +kernel
theorem sp_224 {y : Nat} (hy : y < 2147483648) : px_V 1 224 [.int (nI y)] h (some (.int (nI (pf_on y 8)))) h := by
  refine px_M (M := mt_224) (ops := mo_224) tb_224 rfl rfl rfl rfl rfl ?_
  refine w_ic (n := 0) (j := 1) rfl rfl ?_
  refine w_is (j := 2) rfl rfl rfl ?_
  refine w_ic (n := 0) (j := 3) rfl rfl ?_
  refine w_is (j := 4) rfl rfl rfl ?_
  refine px_forI (fun c ls h1 => h1 = h ∧ ls = [.int (nI y), .int (nI (pf_on y c)), .int (nI c)]) 8 ?_ ?_ ⟨rfl, rfl⟩
  · rintro c _ h1 hc ⟨rfl, rfl⟩ H
    refine w_il (j := 5) rfl rfl rfl ?_
    refine w_bi (j := 6) (a := nI 8) rfl rfl (by decide) ?_
    refine w_geN (j := 7) rfl rfl (by omega) (by omega) (fun c => absurd c (fun c => by omega)) (fun _ => ?_)
    refine w_il (j := 8) rfl rfl rfl ?_
    refine w_il (j := 9) rfl rfl rfl ?_
    refine w_il (j := 10) rfl rfl rfl ?_
    refine w_shr (j := 11) rfl rfl ?_
    refine w_ic (n := 1) (j := 12) rfl rfl ?_
    refine w_and (j := 13) rfl rfl ?_
    rw [px_has (a := y) (k := c) hy (by omega)]
    first | refine w_add0 (j := 14) rfl rfl ?_ | refine w_addN (j := 14) rfl rfl ?_ | refine w_add (j := 14) rfl rfl ?_
    refine w_is (j := 15) rfl rfl rfl ?_
    first | refine w_incN (j := 16) rfl rfl rfl ?_ | refine w_inc (j := 16) rfl rfl rfl rfl ?_
    refine w_go rfl ?_
    exact H _ _ ⟨rfl, rfl⟩
  · rintro _ h1 ⟨rfl, rfl⟩
    refine w_il (j := 5) rfl rfl rfl ?_
    refine w_bi (j := 6) (a := nI 8) rfl rfl (by decide) ?_
    refine w_geN (j := 7) rfl rfl (by omega) (by omega) (fun _ => ?_) (fun c => absurd c (fun c => by omega))
    refine w_il (j := 18) rfl rfl rfl ?_
    refine w_ir rfl ?_
    rfl
def pf_hr (h : ix_H) (B y : Nat) : Int32 := px_fold (pf_hb (fun a => h (9 + a)) B (nI y)) B (nI y)
def pf_gd (h : ix_H) (B y : Nat) : Prop := pf_hr h B y = nI (2 ^ B - 1)
def pf_key (y : Nat) : Nat := 256 * pf_on y 8 + y
def pf_ear (h : ix_H) (B z : Nat) : Prop := z < 2 ^ B ∧ (z = 2 ^ B - 1 ∨ pf_gd h B z) ∧ ∀ y, y < 2 ^ B → pf_gd h B y → pf_key z ≤ pf_key y
theorem pf_on_all : ∀ B, B ≤ 6 → ∀ y, y < 2 ^ B → pf_on (2 ^ B - 1) 8 ≤ pf_on y 8 → y = 2 ^ B - 1 := by decide +kernel
theorem C_ears (hI : px_I h B N T cs L W I t) : px_PI 6 130 [.ref 0] h (fun v h1 => h1 = h ∧ ∃ z, v = nI z ∧ pf_ear h B z) := by
  obtain ⟨⟨l1, l2, l3, l4, l5, l6, l7, l8, l9⟩, lw, -, nw, -⟩ := hI
  have hp := px_pw (N := B) (by omega)
  have hp0 := Nat.two_pow_pos B
  have key : px_PI 5 34 [.ref 3] h (fun v h1 => h1 = h ∧ ∃ z, v = nI z ∧ pf_ear h B z) := by
    refine px_M (M := mt_34) (ops := mo_34) tb_34 rfl rfl rfl rfl rfl ?_
    refine w_ic (n := 1) (j := 1) rfl rfl ?_
    refine w_al (j := 2) rfl rfl rfl ?_
    first | refine w_gr (j := 3) rfl rfl (by first | assumption | rfl) (by first | assumption | rfl) rfl ?_ | refine w_gi (j := 3) rfl rfl (by first | assumption | rfl) (by first | assumption | rfl) rfl l1 ?_
    refine w_shl (j := 4) rfl rfl ?_
    rw [px_shl1 B (by omega)]
    refine w_ic (n := 1) (j := 5) rfl rfl ?_
    first | refine w_subN (j := 6) rfl rfl (by omega) ?_ | refine w_sub (j := 6) rfl rfl ?_
    refine w_is (j := 7) rfl rfl rfl ?_
    refine w_il (j := 8) rfl rfl rfl ?_
    refine w_is (j := 9) rfl rfl rfl ?_
    refine w_ic (n := 0) (j := 10) rfl rfl ?_
    refine w_is (j := 11) rfl rfl rfl ?_
    refine px_forI (fun c ls h1 => h1 = h ∧ ∃ z, ls = [.ref 3, .int (nI (2 ^ B - 1)), .int (nI z), .int (nI c)] ∧ z < 2 ^ B ∧ (z = 2 ^ B - 1 ∨ (pf_gd h B z ∧ z < c)) ∧ ∀ y, y < c → pf_gd h B y → pf_key z ≤ pf_key y) (2 ^ B) ?_ ?_ ⟨rfl, 2 ^ B - 1, rfl, by omega, Or.inl rfl, fun y hy => by omega⟩
    · rintro c _ h1 hc ⟨rfl, z, rfl, hz, hz2, hk⟩ H
      have o1 := pf_on_le c 8
      have o2 := pf_on_le z 8
      refine w_il (j := 12) rfl rfl rfl ?_
      refine w_il (j := 13) rfl rfl rfl ?_
      refine w_gtN (j := 14) rfl rfl (by omega) (by omega) (fun c => absurd c (fun c => by omega)) (fun _ => ?_)
      refine w_il (j := 15) rfl rfl rfl ?_
      refine w_csI (j := 16) rfl rfl rfl rfl rfl (sp_259) rfl ?_
      refine w_il (j := 17) rfl rfl rfl ?_
      refine w_csI (j := 18) rfl rfl rfl rfl rfl (sp_259) rfl ?_
      rw [pf_bc_on c (by omega), pf_bc_on z (by omega)]
      refine w_geN (j := 19) rfl rfl (by omega) (by omega) (fun d1 => ?_) (fun d1 => ?_)
      ·
        first | refine w_incN (j := 27) rfl rfl rfl ?_ | refine w_inc (j := 27) rfl rfl rfl rfl ?_
        refine w_go rfl ?_
        refine H _ _ ⟨rfl, z, rfl, hz, ?_, fun y hy hg => ?_⟩
        · rcases hz2 with e | e
          · exact Or.inl e
          · exact Or.inr ⟨e.1, by omega⟩
        · by_cases hyc : y = c
          · subst hyc
            unfold pf_key
            rcases hz2 with e | e
            · rw [e] at d1 ⊢
              have := pf_on_all B l3 y (by omega) d1
              rw [this]
              exact Nat.le_refl _
            · omega
          · exact hk y (by omega) hg
      refine w_al (j := 20) rfl rfl rfl ?_
      refine w_il (j := 21) rfl rfl rfl ?_
      refine w_cvI (j := 22) rfl rfl rfl rfl (by first | assumption | rfl) rfl rfl (sp_35 px_Ld3 l1 l3) rfl ?_
      refine w_il (j := 23) rfl rfl rfl ?_
      refine w_ne (j := 24) rfl rfl (fun d2 => ?_) (fun d2 => ?_)
      ·
        first | refine w_incN (j := 27) rfl rfl rfl ?_ | refine w_inc (j := 27) rfl rfl rfl rfl ?_
        refine w_go rfl ?_
        refine H _ _ ⟨rfl, z, rfl, hz, ?_, fun y hy hg => ?_⟩
        · rcases hz2 with e | e
          · exact Or.inl e
          · exact Or.inr ⟨e.1, by omega⟩
        · by_cases hyc : y = c
          · subst hyc
            exact absurd hg d2
          · exact hk y (by omega) hg
      ·
        refine w_il (j := 25) rfl rfl rfl ?_
        refine w_is (j := 26) rfl rfl rfl ?_
        first | refine w_incN (j := 27) rfl rfl rfl ?_ | refine w_inc (j := 27) rfl rfl rfl rfl ?_
        refine w_go rfl ?_
        refine H _ _ ⟨rfl, c, rfl, by omega, Or.inr ⟨d2, by omega⟩, fun y hy hg => ?_⟩
        by_cases hyc : y = c
        · rw [hyc]; exact Nat.le_refl _
        · have := hk y (by omega) hg
          unfold pf_key at this ⊢
          omega
    · rintro _ h1 ⟨rfl, z, rfl, hz, hz2, hk⟩
      refine w_il (j := 12) rfl rfl rfl ?_
      refine w_il (j := 13) rfl rfl rfl ?_
      refine w_gtN (j := 14) rfl rfl (by omega) (by omega) (fun _ => ?_) (fun c => absurd c (fun c => by omega))
      refine w_il (j := 29) rfl rfl rfl ?_
      refine w_ir rfl ?_
      exact ⟨_, _, rfl, rfl, z, rfl, hz, hz2.elim Or.inl (fun q => Or.inr q.1), hk⟩
  refine px_M (M := mt_130) (ops := mo_130) tb_130 rfl rfl rfl rfl rfl ?_
  refine w_al (j := 1) rfl rfl rfl ?_
  first | refine w_gr (j := 2) rfl rfl (by first | assumption | rfl) (by first | assumption | rfl) rfl ?_ | refine w_gi (j := 2) rfl rfl (by first | assumption | rfl) (by first | assumption | rfl) rfl rfl ?_
  refine w_cvPI (j := 3) rfl rfl rfl rfl (by first | assumption | rfl) rfl rfl (key) rfl ?_
  rintro v h1 hq
  refine w_ir rfl ?_
  exact ⟨_, _, rfl, hq⟩
theorem pf_ear_u {z z' : Nat} (hB : B ≤ 6) (ga : pf_gd h B (2 ^ B - 1)) (h1 : pf_ear h B z) (h2 : pf_ear h B z') : z = z' := by
  obtain ⟨a1, a2, a3⟩ := h1
  obtain ⟨b1, b2, b3⟩ := h2
  have hp := px_pw (N := B) (by omega)
  have g1 : pf_gd h B z := a2.elim (fun e => by rw [e]; exact ga) id
  have g2 : pf_gd h B z' := b2.elim (fun e => by rw [e]; exact ga) id
  have k1 := a3 z' b1 g2
  have k2 := b3 z a1 g1
  unfold pf_key at k1 k2
  omega
theorem pf_hr_eq {y : Nat} (hB : B ≤ 6) (hy : y < 2147483648) (l14 : ∀ a b, a < 6 → b < 6 → h (9 + a) b = h (145 + a) b) : px_fold (fun b s => s ||| (if y / 2 ^ b % 2 = 1 then px_fold (pf_fb (fun c => 0 < h (145 + b) c)) B (nI 0) else nI 0)) B (nI y) = pf_hr h B y := by
  refine px_fold_congr B _ (fun b s hb => ?_)
  unfold pf_hb
  have e : px_fold (pf_fb (fun c => 0 < h (145 + b) c)) B (nI 0) = px_fold (pf_nb (h (9 + b))) B (nI 0) := px_fold_congr B _ (fun c s hc => by unfold pf_fb pf_nb; rw [l14 b c (by omega) (by omega)])
  by_cases hh : y / 2 ^ b % 2 = 1
  · rw [if_pos hh, if_pos ((px_hasI hy (by omega)).mpr hh), e]
  · rw [if_neg hh, if_neg (fun q => hh ((px_hasI hy (by omega)).mp q)), px_or0]
theorem M_ears (hI : px_I h B N T cs L W I t) : px_PI 6 238 [.ref 100] h (fun v h2 => (∃ z, v = nI z ∧ pf_ear h B z) ∧ h2 100 0 = nI 0 ∧ px_kp h h2) := by
  have hB6 := hI.1.2.2.1
  refine px_M (M := mt_238) (ops := mo_238) tb_238 rfl rfl rfl rfl rfl ?_
  refine w_al (j := 1) rfl rfl rfl ?_
  refine w_ic (n := 0) (j := 2) rfl rfl ?_
  refine w_pf (j := 3) rfl rfl (by first | assumption | rfl) (by first | assumption | rfl) rfl ?_
  obtain ⟨I1, k1, t0⟩ := px_thr (v := nI 0) hI
  generalize ix_up h 100 0 (nI 0) = h1 at I1 k1 t0 ⊢
  have hear : ∀ z, pf_ear h1 B z → pf_ear h B z := by
    intro z hz
    have e : ∀ y, pf_hr h1 B y = pf_hr h B y := by
      intro y
      refine px_fold_congr B _ (fun b s hb => ?_)
      unfold pf_hb
      dsimp only
      rw [k1.1 (9 + b) (pf_pers_i (by omega))]
    unfold pf_ear pf_gd at hz ⊢
    rw [e] at hz
    exact ⟨hz.1, hz.2.1, fun y hy hg => hz.2.2 y hy (by rw [e]; exact hg)⟩
  obtain ⟨⟨l1, l2, l3, l4, l5, l6, l7, l8, l9, l10, l11, l12, l13, l14, l15⟩, lw, -, nw, -⟩ := I1
  have hp := px_pw (N := B) (by omega)
  have hp0 := Nat.two_pow_pos B
  refine w_ic (n := 1) (j := 4) rfl rfl ?_
  refine w_al (j := 5) rfl rfl rfl ?_
  first | refine w_gr (j := 6) rfl rfl (by first | assumption | rfl) (by first | assumption | rfl) rfl ?_ | refine w_gi (j := 6) rfl rfl (by first | assumption | rfl) (by first | assumption | rfl) rfl rfl ?_
  refine w_ic (n := 0) (j := 7) rfl rfl ?_
  refine w_ial (j := 8) rfl rfl (by first | assumption | rfl) rfl (by omega) rfl l2 ?_
  refine w_shl (j := 9) rfl rfl ?_
  rw [px_shl1 B (by omega)]
  refine w_ic (n := 1) (j := 10) rfl rfl ?_
  first | refine w_subN (j := 11) rfl rfl (by omega) ?_ | refine w_sub (j := 11) rfl rfl ?_
  refine w_is (j := 12) rfl rfl rfl ?_
  refine w_il (j := 13) rfl rfl rfl ?_
  refine w_is (j := 14) rfl rfl rfl ?_
  have key : ∀ c z g1 g2, c ≤ 2 ^ B → z < 2 ^ B → (z = 2 ^ B - 1 ∨ pf_gd h1 B z) → (c ≤ z ∨ z = 2 ^ B - 1) → (∀ y, c ≤ y → y < 2 ^ B → pf_gd h1 B y → pf_key z ≤ pf_key y) → px_R px_E 5 mo_238 [] 14 [.ref 100, .int (nI z), .int (nI c - nI 1), g1, g2] [] h1 0 (fun r => ∃ v h', r = (.inl (some (.int v)), h', 0) ∧ (∃ z, v = nI z ∧ pf_ear h B z) ∧ h' 100 0 = nI 0 ∧ px_kp h h') := by
    intro c
    induction c with
    | zero =>
      intro z g1 g2 hc hz hz2 hcz hk
      refine w_il (j := 15) rfl rfl rfl ?_
      refine w_ltZ (j := 16) rfl rfl (fun _ => ?_) (fun c => absurd c (by decide))
      refine w_il (j := 62) rfl rfl rfl ?_
      refine w_ir rfl ?_
      exact ⟨_, _, rfl, ⟨z, rfl, hear z ⟨hz, hz2, fun y hy hg => hk y (by omega) hy hg⟩⟩, t0, k1⟩
    | succ c ih =>
      intro z g1 g2 hc hz hz2 hcz hk
      have o1 := pf_on_le c 8
      have o2 := pf_on_le z 8
      rw [px_nsub (by omega), Nat.add_sub_cancel]
      have hcz2 : c ≤ z := by omega
      refine w_il (j := 15) rfl rfl rfl ?_
      refine w_ltM (j := 16) rfl rfl (by omega) ?_
      refine w_il (j := 17) rfl rfl rfl ?_
      refine w_is (j := 18) rfl rfl rfl ?_
      refine w_ic (n := 0) (j := 19) rfl rfl ?_
      refine w_iS (j := 20) rfl rfl rfl ?_
      refine px_for (fun b s => [.ref 100, .int (nI z), .int (nI c), .int s, .int (nI b)]) (fun _ => h1) (fun b s => s ||| (if c / 2 ^ b % 2 = 1 then px_fold (pf_fb (fun d => 0 < h1 (145 + b) d)) B (nI 0) else nI 0)) B (nI c) (fun _ _ => True) trivial (fun _ _ _ _ => trivial) ?_ ?_
      · intro b s hb _ H
        refine w_iL (j := 21) rfl rfl rfl ?_
        refine w_al (j := 22) rfl rfl rfl ?_
        first | refine w_gr (j := 23) rfl rfl (by first | assumption | rfl) (by first | assumption | rfl) rfl ?_ | refine w_gi (j := 23) rfl rfl (by first | assumption | rfl) (by first | assumption | rfl) rfl rfl ?_
        refine w_ic (n := 0) (j := 24) rfl rfl ?_
        refine w_ial (j := 25) rfl rfl (by first | assumption | rfl) rfl (by omega) rfl l2 ?_
        refine w_geN (j := 26) rfl rfl (by omega) (by omega) (fun c => absurd c (fun c => by omega)) (fun _ => ?_)
        refine w_il (j := 27) rfl rfl rfl ?_
        refine w_il (j := 28) rfl rfl rfl ?_
        refine w_iL (j := 29) rfl rfl rfl ?_
        refine w_csI (j := 30) rfl rfl rfl rfl rfl (sp_158N (by omega) (by omega)) rfl ?_
        by_cases hh : c / 2 ^ b % 2 = 1
        · rw [decide_eq_true hh]
          rw [if_pos hh] at H
          refine w_eqB (j := 31) rfl rfl (fun c => absurd c (by simp)) (fun _ => ?_)
          refine w_al (j := 32) rfl rfl rfl ?_
          refine w_iL (j := 33) rfl rfl rfl ?_
          refine w_cvI (j := 34) rfl rfl rfl rfl (by first | assumption | rfl) rfl rfl (sp_215 (by omega) l2 l3) rfl ?_
          refine w_go rfl ?_
          refine w_or (j := 37) rfl rfl ?_
          refine w_is (j := 38) rfl rfl rfl ?_
          first | refine w_incN (j := 39) rfl rfl rfl ?_ | refine w_inc (j := 39) rfl rfl rfl rfl ?_
          refine w_go rfl ?_
          exact H
        · rw [decide_eq_false hh]
          rw [if_neg hh] at H
          refine w_eqB (j := 31) rfl rfl (fun _ => ?_) (fun c => absurd c (by simp))
          refine w_ic (n := 0) (j := 36) rfl rfl ?_
          refine w_or (j := 37) rfl rfl ?_
          refine w_is (j := 38) rfl rfl rfl ?_
          first | refine w_incN (j := 39) rfl rfl rfl ?_ | refine w_inc (j := 39) rfl rfl rfl rfl ?_
          refine w_go rfl ?_
          exact H
      · intro _
        rw [pf_hr_eq l3 (by omega) (fun a b ha hb => (l14 a b ha hb).1)]
        have nxt : ∀ z', z' < 2 ^ B → (z' = 2 ^ B - 1 ∨ pf_gd h1 B z') → (c ≤ z' ∨ z' = 2 ^ B - 1) → (∀ y, c ≤ y → y < 2 ^ B → pf_gd h1 B y → pf_key z' ≤ pf_key y) → px_R px_E 5 mo_238 [] 58 [.ref 100, .int (nI z), .int (nI c), .int (pf_hr h1 B c), .int (nI B)] [.int (nI z')] h1 0 (fun r => ∃ v h', r = (.inl (some (.int v)), h', 0) ∧ (∃ z, v = nI z ∧ pf_ear h B z) ∧ h' 100 0 = nI 0 ∧ px_kp h h') := by
          intro z' a1 a2 a3 a4
          refine w_is (j := 59) rfl rfl rfl ?_
          refine w_inc (j := 60) (b := nI c - nI 1) rfl rfl rfl (by show nI c + (-1) = _; rw [Int32.sub_eq_add_neg]; rfl) ?_
          refine w_go rfl ?_
          exact ih z' _ _ (by omega) a1 a2 a3 a4
        refine w_iL (j := 21) rfl rfl rfl ?_
        refine w_al (j := 22) rfl rfl rfl ?_
        first | refine w_gr (j := 23) rfl rfl (by first | assumption | rfl) (by first | assumption | rfl) rfl ?_ | refine w_gi (j := 23) rfl rfl (by first | assumption | rfl) (by first | assumption | rfl) rfl rfl ?_
        refine w_ic (n := 0) (j := 24) rfl rfl ?_
        refine w_ial (j := 25) rfl rfl (by first | assumption | rfl) rfl (by omega) rfl l2 ?_
        refine w_geN (j := 26) rfl rfl (by omega) (by omega) (fun _ => ?_) (fun c => absurd c (fun c => by omega))
        refine w_il (j := 41) rfl rfl rfl ?_
        refine w_ic (n := 1) (j := 42) rfl rfl ?_
        refine w_al (j := 43) rfl rfl rfl ?_
        first | refine w_gr (j := 44) rfl rfl (by first | assumption | rfl) (by first | assumption | rfl) rfl ?_ | refine w_gi (j := 44) rfl rfl (by first | assumption | rfl) (by first | assumption | rfl) rfl rfl ?_
        refine w_ic (n := 0) (j := 45) rfl rfl ?_
        refine w_ial (j := 46) rfl rfl (by first | assumption | rfl) rfl (by omega) rfl l2 ?_
        refine w_shl (j := 47) rfl rfl ?_
        rw [px_shl1 B (by omega)]
        refine w_ic (n := 1) (j := 48) rfl rfl ?_
        first | refine w_subN (j := 49) rfl rfl (by omega) ?_ | refine w_sub (j := 49) rfl rfl ?_
        refine w_ne (j := 50) rfl rfl (fun d1 => ?_) (fun d1 => ?_)
        ·
          refine w_il (j := 58) rfl rfl rfl ?_
          refine nxt z hz hz2 (by omega) (fun y hy hyB hg => ?_)
          by_cases hyc : y = c
          · subst hyc; exact absurd hg d1
          · exact hk y (by omega) hyB hg
        refine w_il (j := 51) rfl rfl rfl ?_
        refine w_csI (j := 52) rfl rfl rfl rfl rfl (sp_224 (by omega)) rfl ?_
        refine w_il (j := 53) rfl rfl rfl ?_
        refine w_csI (j := 54) rfl rfl rfl rfl rfl (sp_224 (by omega)) rfl ?_
        refine w_gtN (j := 55) rfl rfl (by omega) (by omega) (fun d2 => ?_) (fun d2 => ?_)
        ·
          refine w_il (j := 58) rfl rfl rfl ?_
          refine nxt z hz hz2 (by omega) (fun y hy hyB hg => ?_)
          by_cases hyc : y = c
          · subst hyc
            unfold pf_key
            omega
          · exact hk y (by omega) hyB hg
        ·
          refine w_il (j := 56) rfl rfl rfl ?_
          refine w_go rfl ?_
          refine nxt c (by omega) (Or.inr d1) (Or.inl (Nat.le_refl _)) (fun y hy hyB hg => ?_)
          by_cases hyc : y = c
          · rw [hyc]; exact Nat.le_refl _
          · have := hk y (by omega) hyB hg
            unfold pf_key at this ⊢
            omega
  have fin := key (2 ^ B) (2 ^ B - 1) .null .null (Nat.le_refl _) (by omega) (Or.inl rfl) (Or.inr rfl) (fun y h1 h2 => by omega)
  rw [px_nsub (show 1 ≤ 2 ^ B from hp0)] at fin
  exact fin
end OPS
