theorem sh_106 : ∀ b, b < 6 → ix_sh (106 + b) = (1, 2, 0) := by decide
theorem sh_113 : ∀ b, b < 6 → ix_sh (113 + b) = (1, 2, 0) := by decide
theorem sh_120 : ∀ b, b < 8 → ix_sh (120 + b) = (1, 2, 0) := by decide
theorem sh_129 : ∀ b, b < 8 → ix_sh (129 + b) = (1, 2, 0) := by decide
theorem sh_138 : ∀ b, b < 6 → ix_sh (138 + b) = (1, 6, 0) := by decide
theorem sh_145 : ∀ b, b < 6 → ix_sh (145 + b) = (1, 6, 0) := by decide
theorem sh_152 : ∀ b, b < 6 → ix_sh (152 + b) = (1, 6, 0) := by decide
theorem sh_159 : ∀ b, b < 160 → ix_sh (159 + b) = (1, 2, 0) := by decide +kernel
theorem sh_320 : ∀ b, b < 160 → ix_sh (320 + b) = (1, 2, 0) := by decide +kernel
theorem sh_481 : ∀ b, b < 6 → ix_sh (481 + b) = (1, 2, 0) := by decide
theorem sh_488 : ∀ b, b < 6 → ix_sh (488 + b) = (1, 2, 0) := by decide
theorem sh_497 : ∀ b, b < 80 → ix_sh (497 + b) = (1, 4, 0) := by decide +kernel
theorem sh_581 : ∀ b, b < 16 → ix_sh (581 + b) = (1, 32, 0) := by decide +kernel
theorem sh_598 : ∀ b, b < 3 → ix_sh (598 + b) = (1, 545, 0) := by decide
theorem sh_604 : ∀ b, b < 48 → ix_sh (604 + b) = (1, 41, 0) := by decide +kernel
theorem sh_653 : ∀ b, b < 64 → ix_sh (653 + b) = (1, 6, 0) := by decide +kernel
theorem sp_153 {h : ix_H} : px_V 1 153 [.ref 100] h (some (.int (h 100 0))) h := by
  refine px_M (M := mt_153) (ops := mo_153) tb_153 rfl rfl rfl rfl rfl ?_
  refine w_al (j := 1) rfl rfl rfl ?_
  first | refine w_gr (j := 2) rfl rfl (by first | assumption | rfl) (by first | assumption | rfl) rfl ?_ | refine w_gi (j := 2) rfl rfl (by first | assumption | rfl) (by first | assumption | rfl) rfl rfl ?_
  refine w_ir rfl ?_
  rfl
theorem sp_155 {h : ix_H} {v lo hi : Int32} : px_V 1 155 [.int v, .int lo, .int hi] h (some (.int (px_b (decide (lo ≤ v ∧ v ≤ hi))))) h := by
  refine px_M (M := mt_155) (ops := mo_155) tb_155 rfl rfl rfl rfl rfl ?_
  refine w_il (j := 1) rfl rfl rfl ?_
  refine w_il (j := 2) rfl rfl rfl ?_
  refine w_lt (j := 3) rfl rfl (fun c1 => ?_) (fun c1 => ?_)
  ·
    refine w_ic (n := 0) (j := 9) rfl rfl ?_
    refine w_irB rfl (by first | exact Or.inl rfl | exact Or.inr rfl | exact px_b01 _) ?_
    exact px_rb0 (fun q => px_not_lt.mpr q.1 c1)
  ·
    refine w_il (j := 4) rfl rfl rfl ?_
    refine w_il (j := 5) rfl rfl rfl ?_
    refine w_gt (j := 6) rfl rfl (fun c2 => ?_) (fun c2 => ?_)
    ·
      refine w_ic (n := 0) (j := 9) rfl rfl ?_
      refine w_irB rfl (by first | exact Or.inl rfl | exact Or.inr rfl | exact px_b01 _) ?_
      exact px_rb0 (fun q => px_not_le.mpr c2 q.2)
    ·
      refine w_ic (n := 1) (j := 7) rfl rfl ?_
      refine w_go rfl ?_
      refine w_irB rfl (by first | exact Or.inl rfl | exact Or.inr rfl | exact px_b01 _) ?_
      exact px_rb1 ⟨c1, c2⟩
def pf_ls2 (a b : Int32) : Int32 := if a < b then a else b
def pf_mo2 (a b : Int32) : Int32 := if b < a then a else b
theorem sp_156 {h : ix_H} {a b : Int32} : px_V 1 156 [.int a, .int b] h (some (.int (pf_ls2 a b))) h := by
  refine px_M (M := mt_156) (ops := mo_156) tb_156 rfl rfl rfl rfl rfl ?_
  refine w_il (j := 1) rfl rfl rfl ?_
  refine w_il (j := 2) rfl rfl rfl ?_
  refine w_ge (j := 3) rfl rfl (fun c1 => ?_) (fun c1 => ?_)
  ·
    refine w_il (j := 6) rfl rfl rfl ?_
    refine w_ir rfl ?_
    exact px_ri (if_neg (px_not_lt.mpr c1)).symm
  ·
    refine w_il (j := 4) rfl rfl rfl ?_
    refine w_go rfl ?_
    refine w_ir rfl ?_
    exact px_ri (if_pos c1).symm
theorem sp_157 {h : ix_H} {a b : Int32} : px_V 1 157 [.int a, .int b] h (some (.int (pf_mo2 a b))) h := by
  refine px_M (M := mt_157) (ops := mo_157) tb_157 rfl rfl rfl rfl rfl ?_
  refine w_il (j := 1) rfl rfl rfl ?_
  refine w_il (j := 2) rfl rfl rfl ?_
  refine w_le (j := 3) rfl rfl (fun c1 => ?_) (fun c1 => ?_)
  ·
    refine w_il (j := 6) rfl rfl rfl ?_
    refine w_ir rfl ?_
    exact px_ri (if_neg (px_not_lt.mpr c1)).symm
  ·
    refine w_il (j := 4) rfl rfl rfl ?_
    refine w_go rfl ?_
    refine w_ir rfl ?_
    exact px_ri (if_pos c1).symm
theorem sp_158 {h : ix_H} {a b : Int32} : px_V 1 158 [.int a, .int b] h (some (.int (px_b (decide (a >>> (b &&& 31) &&& nI 1 = nI 1))))) h := by
  refine px_M (M := mt_158) (ops := mo_158) tb_158 rfl rfl rfl rfl rfl ?_
  refine w_il (j := 1) rfl rfl rfl ?_
  refine w_il (j := 2) rfl rfl rfl ?_
  refine w_shr (j := 3) rfl rfl ?_
  refine w_ic (n := 1) (j := 4) rfl rfl ?_
  refine w_and (j := 5) rfl rfl ?_
  refine w_ic (n := 1) (j := 6) rfl rfl ?_
  refine w_ne (j := 7) rfl rfl (fun c1 => ?_) (fun c1 => ?_)
  ·
    refine w_ic (n := 0) (j := 10) rfl rfl ?_
    refine w_irB rfl (by first | exact Or.inl rfl | exact Or.inr rfl | exact px_b01 _) ?_
    exact px_rb0 c1
  ·
    refine w_ic (n := 1) (j := 8) rfl rfl ?_
    refine w_go rfl ?_
    refine w_irB rfl (by first | exact Or.inl rfl | exact Or.inr rfl | exact px_b01 _) ?_
    exact px_rb1 c1
theorem px_divm (a : Int32) : a / (-1) = -a := by
  apply Int32.toInt_inj.mp
  rw [Int32.toInt_div, show (-1 : Int32).toInt = -1 from by decide, Int.tdiv_neg, Int.tdiv_one, Int32.toInt_neg]
theorem sp_190 {h : ix_H} {m : Nat} {a b : Int32} (h2 : 2 ≤ m) (h8 : m ≤ 8) : px_V 2 190 [.int (nI m), .int a, .int b] h (some (.int (pf_jn m a b))) h := by
  refine px_M (M := mt_190) (ops := mo_190) tb_190 rfl rfl rfl rfl rfl ?_
  refine w_il (j := 1) rfl rfl rfl ?_
  obtain rfl | rfl | rfl | rfl | rfl | rfl | rfl : m = 2 ∨ m = 3 ∨ m = 4 ∨ m = 5 ∨ m = 6 ∨ m = 7 ∨ m = 8 := by omega
  ·
    refine w_swN (t := 2) rfl (by decide) (by omega) rfl ?_
    refine w_il (j := 3) rfl rfl rfl ?_
    refine w_il (j := 4) rfl rfl rfl ?_
    first | refine w_add0 (j := 5) rfl rfl ?_ | refine w_addN (j := 5) rfl rfl ?_ | refine w_add (j := 5) rfl rfl ?_
    refine w_ir rfl ?_
    rfl
  ·
    refine w_swN (t := 6) rfl (by decide) (by omega) rfl ?_
    refine w_il (j := 7) rfl rfl rfl ?_
    refine w_il (j := 8) rfl rfl rfl ?_
    first | refine w_subN (j := 9) rfl rfl (by omega) ?_ | refine w_sub (j := 9) rfl rfl ?_
    refine w_ir rfl ?_
    rfl
  ·
    refine w_swN (t := 10) rfl (by decide) (by omega) rfl ?_
    refine w_il (j := 11) rfl rfl rfl ?_
    refine w_il (j := 12) rfl rfl rfl ?_
    first | refine w_mulN (j := 13) rfl rfl ?_ | refine w_mul (j := 13) rfl rfl ?_
    refine w_ir rfl ?_
    rfl
  ·
    refine w_swN (t := 14) rfl (by decide) (by omega) rfl ?_
    refine w_il (j := 15) rfl rfl rfl ?_
    refine w_neZ (j := 16) rfl rfl (fun c => ?_) (fun c => ?_)
    ·
      refine w_il (j := 19) rfl rfl rfl ?_
      refine w_im (j := 20) rfl rfl ?_
      refine w_ne (j := 21) rfl rfl (fun c2 => ?_) (fun c2 => ?_)
      ·
        refine w_il (j := 25) rfl rfl rfl ?_
        refine w_il (j := 26) rfl rfl rfl ?_
        refine w_div (j := 27) rfl rfl (by first | decide | assumption) ?_
        refine w_ir rfl ?_
        exact px_ri (if_neg c).symm
      ·
        refine w_il (j := 22) rfl rfl rfl ?_
        refine w_neg (j := 23) rfl rfl ?_
        refine w_go rfl ?_
        refine w_ir rfl ?_
        refine px_ri ?_
        rw [show pf_jn 5 a b = if b = 0 then nI 0 else a / b from rfl, if_neg c, c2, px_divm]
    ·
      refine w_ic (n := 0) (j := 17) rfl rfl ?_
      refine w_go rfl ?_
      refine w_ir rfl ?_
      exact px_ri (if_pos c).symm
  ·
    refine w_swN (t := 28) rfl (by decide) (by omega) rfl ?_
    refine w_il (j := 29) rfl rfl rfl ?_
    refine w_eqZ (j := 30) rfl rfl (fun c => ?_) (fun c => ?_)
    ·
      refine w_ic (n := 0) (j := 34) rfl rfl ?_
      refine w_go rfl ?_
      refine w_ir rfl ?_
      exact px_ri (if_pos c).symm
    ·
      refine w_il (j := 31) rfl rfl rfl ?_
      refine w_im (j := 32) rfl rfl ?_
      refine w_ne (j := 33) rfl rfl (fun c2 => ?_) (fun c2 => ?_)
      ·
        refine w_il (j := 36) rfl rfl rfl ?_
        refine w_il (j := 37) rfl rfl rfl ?_
        refine w_rem (j := 38) rfl rfl (by first | decide | assumption) ?_
        refine w_ir rfl ?_
        exact px_ri (if_neg c).symm
      ·
        refine w_ic (n := 0) (j := 34) rfl rfl ?_
        refine w_go rfl ?_
        refine w_ir rfl ?_
        refine px_ri ?_
        rw [show pf_jn 6 a b = if b = 0 then nI 0 else a - a / b * b from rfl, if_neg c, c2, px_divm]
        rw [Int32.mul_neg, Int32.mul_one, Int32.neg_neg, Int32.sub_self]
        rfl
  ·
    refine w_swN (t := 39) rfl (by decide) (by omega) rfl ?_
    refine w_il (j := 40) rfl rfl rfl ?_
    refine w_il (j := 41) rfl rfl rfl ?_
    refine w_csI (j := 42) rfl rfl rfl rfl rfl (sp_156) rfl ?_
    refine w_ir rfl ?_
    rfl
  ·
    refine w_swN (t := 43) rfl (by decide) (by omega) rfl ?_
    refine w_il (j := 44) rfl rfl rfl ?_
    refine w_il (j := 45) rfl rfl rfl ?_
    refine w_csI (j := 46) rfl rfl rfl rfl rfl (sp_157) rfl ?_
    refine w_ir rfl ?_
    rfl
def pf_usual : List (Nat × Nat) := [(1, 0), (1, 1), (2, 0), (1, 2), (0, 2), (4, 0), (3, 0)]
theorem pf_wfu : pf_wf pf_usual 0 1 := by unfold pf_usual; simp [pf_wf]
theorem pf_evu (g : Nat → Int32) : pf_ev pf_usual g = pf_cl (g 0 + g 1 - g 2 * nI 2) := rfl
def px_mw (h : ix_H) (cs : List (Nat × Nat)) : Prop := (h 100 20 = nI cs.length ∧ 1 ≤ cs.length ∧ cs.length ≤ 150 ∧ ∀ k c, cs[k]? = some c → h (159 + k) 0 = nI c.1 ∧ h (159 + k) 1 = nI c.2) ∨ (h 100 20 = nI 0 ∧ cs = pf_usual)
theorem pf_clm (v : Int32) : pf_ls2 (nI 99) (pf_mo2 (nI 0) v) = pf_cl v := by
  unfold pf_ls2 pf_mo2 pf_cl
  have e0 : (nI 0).toInt = 0 := nI_toInt (by decide)
  have e9 : (nI 99).toInt = 99 := nI_toInt (by decide)
  by_cases h1 : v < nI 0
  · have h2 : ¬ nI 99 < v := by rw [Int32.lt_iff_toInt_lt] at h1 ⊢; omega
    have h3 : ¬ nI 99 < nI 0 := by decide
    have h4 : ¬ nI 0 < v := by rw [Int32.lt_iff_toInt_lt] at h1 ⊢; omega
    rw [if_pos h1, if_neg h3, if_neg h2, if_neg h4]
  · by_cases h2 : nI 99 < v
    · rw [if_neg h1, if_pos h2, if_pos (by decide)]
    · by_cases h4 : nI 0 < v
      · rw [if_neg h1, if_neg h2, if_pos h4]
      · have : v = nI 0 := by apply Int32.toInt_inj.mp; rw [Int32.lt_iff_toInt_lt] at h1 h4; omega
        rw [if_neg h1, if_neg h2, if_neg h4, this]
theorem sp_191 {h : ix_H} {cs : List (Nat × Nat)} (hl : px_mw h cs) (hw : pf_wf cs 0 1) : px_PI 3 191 [.ref 100] h (fun v h' => v = pf_ev cs (h 495) ∧ px_fr [494] h h') := by
  have fin : ∀ h1 : ix_H, px_fr [494] h h1 → ∀ ls, pf_cl (h1 494 0) = pf_ev cs (h 495) → ls[0]? = some (Value.ref 100) → px_R px_E 2 mo_191 [] 91 ls [] h1 0 (fun r => ∃ v h', r = (.inl (some (.int v)), h', 0) ∧ v = pf_ev cs (h 495) ∧ px_fr [494] h h') := by
    intro h1 fr ls e0 hls
    refine w_bi (j := 92) (a := nI 99) rfl rfl (by decide) ?_
    refine w_ic (n := 0) (j := 93) rfl rfl ?_
    refine w_al (j := 94) rfl rfl hls ?_
    first | refine w_gr (j := 95) rfl rfl (by first | assumption | rfl) (by first | assumption | rfl) rfl ?_ | refine w_gi (j := 95) rfl rfl (by first | assumption | rfl) (by first | assumption | rfl) rfl rfl ?_
    refine w_ic (n := 0) (j := 96) rfl rfl ?_
    refine w_ial (j := 97) rfl rfl (by first | assumption | rfl) rfl (by omega) rfl rfl ?_
    refine w_csI (j := 98) rfl rfl rfl rfl rfl (sp_157) rfl ?_
    refine w_csI (j := 99) rfl rfl rfl rfl rfl (sp_156) rfl ?_
    refine w_ir rfl ?_
    exact ⟨_, _, rfl, by rw [pf_clm, e0], fr⟩
  refine px_M (M := mt_191) (ops := mo_191) tb_191 rfl rfl rfl rfl rfl ?_
  refine w_ic (n := 0) (j := 1) rfl rfl ?_
  refine w_is (j := 2) rfl rfl rfl ?_
  refine w_al (j := 3) rfl rfl rfl ?_
  first | refine w_gr (j := 4) rfl rfl (by first | assumption | rfl) (by first | assumption | rfl) rfl ?_ | refine w_gi (j := 4) rfl rfl (by first | assumption | rfl) (by first | assumption | rfl) rfl rfl ?_
  refine w_ic (n := 0) (j := 5) rfl rfl ?_
  refine w_al (j := 6) rfl rfl rfl ?_
  first | refine w_gr (j := 7) rfl rfl (by first | assumption | rfl) (by first | assumption | rfl) rfl ?_ | refine w_gi (j := 7) rfl rfl (by first | assumption | rfl) (by first | assumption | rfl) rfl rfl ?_
  refine w_ic (n := 0) (j := 8) rfl rfl ?_
  refine w_ial (j := 9) rfl rfl (by first | assumption | rfl) rfl (by omega) rfl rfl ?_
  refine w_al (j := 10) rfl rfl rfl ?_
  first | refine w_gr (j := 11) rfl rfl (by first | assumption | rfl) (by first | assumption | rfl) rfl ?_ | refine w_gi (j := 11) rfl rfl (by first | assumption | rfl) (by first | assumption | rfl) rfl rfl ?_
  refine w_ic (n := 1) (j := 12) rfl rfl ?_
  refine w_ial (j := 13) rfl rfl (by first | assumption | rfl) rfl (by omega) rfl rfl ?_
  first | refine w_add0 (j := 14) rfl rfl ?_ | refine w_addN (j := 14) rfl rfl ?_ | refine w_add (j := 14) rfl rfl ?_
  refine w_ic (n := 2) (j := 15) rfl rfl ?_
  refine w_al (j := 16) rfl rfl rfl ?_
  first | refine w_gr (j := 17) rfl rfl (by first | assumption | rfl) (by first | assumption | rfl) rfl ?_ | refine w_gi (j := 17) rfl rfl (by first | assumption | rfl) (by first | assumption | rfl) rfl rfl ?_
  refine w_ic (n := 2) (j := 18) rfl rfl ?_
  refine w_ial (j := 19) rfl rfl (by first | assumption | rfl) rfl (by omega) rfl rfl ?_
  first | refine w_mulN (j := 20) rfl rfl ?_ | refine w_mul (j := 20) rfl rfl ?_
  first | refine w_subN (j := 21) rfl rfl (by omega) ?_ | refine w_sub (j := 21) rfl rfl ?_
  refine w_ias (j := 22) rfl rfl (by first | assumption | rfl) rfl (by omega) rfl ?_
  refine w_ic (n := 0) (j := 23) rfl rfl ?_
  refine w_is (j := 24) rfl rfl rfl ?_
  rcases hl with ⟨l1, l0, l2, l3⟩ | ⟨l1, rfl⟩
  · refine px_forI (fun k ls h1 => ∃ top, ls = [.ref 100, .int (nI top), .int (nI k)] ∧ pf_wf (cs.take k) 0 top ∧ px_fr [494] h h1 ∧ pf_sts (h 495) (cs.take k) [] = pf_tk (h1 494) top) cs.length ?_ ?_ ⟨0, rfl, rfl, px_fr.rf.up (by decide), rfl⟩
    · rintro k _ h1 hk ⟨top, rfl, w1, fr, ev⟩ H
      have hc : cs[k]? = some cs[k] := List.getElem?_eq_getElem hk
      generalize cs[k] = c at hc
      obtain ⟨e1, e2⟩ := l3 k c hc
      have sk := sh_159 k (by omega)
      have nk : (159 + k : Nat) ∉ [494] := by simp; omega
      have e43 : h1 (159 + k) 0 = nI c.1 := by rw [fr _ nk]; exact e1
      have e44 : h1 (159 + k) 1 = nI c.2 := by rw [fr _ nk]; exact e2
      have e41 : h1 100 20 = nI cs.length := by rw [fr 100 (by decide)]; exact l1
      have e42 : h1 495 = h 495 := fr 495 (by decide)
      have htop := pf_wf_le _ _ _ w1
      rw [List.length_take] at htop
      obtain ⟨d1, w2, w3⟩ := pf_wf_split cs k 0 1 c hw hc
      have hd : d1 = top := pf_wf_det _ _ _ _ w2 w1
      subst hd
      refine w_il (j := 25) rfl rfl rfl ?_
      refine w_al (j := 26) rfl rfl rfl ?_
      first | refine w_gr (j := 27) rfl rfl (by first | assumption | rfl) (by first | assumption | rfl) rfl ?_ | refine w_gi (j := 27) rfl rfl (by first | assumption | rfl) (by first | assumption | rfl) rfl e41 ?_
      refine w_geN (j := 28) rfl rfl (by omega) (by omega) (fun c => absurd c (fun c => by omega)) (fun _ => ?_)
      rcases w3 with ⟨y1, y2, y3, y4⟩ | ⟨y1, y2, y3, y4, y5⟩
      ·
        refine w_al (j := 29) rfl rfl rfl ?_
        first | refine w_gr (j := 30) rfl rfl (by first | assumption | rfl) (by first | assumption | rfl) rfl ?_ | refine w_gi (j := 30) rfl rfl (by first | assumption | rfl) (by first | assumption | rfl) rfl rfl ?_
        refine w_il (j := 31) rfl rfl rfl ?_
        refine w_aal (j := 32) rfl rfl (by first | assumption | rfl) rfl (by omega) rfl ?_
        refine w_ic (n := 0) (j := 33) rfl rfl ?_
        refine w_ial (j := 34) rfl rfl (by first | assumption | rfl) rfl (by omega) rfl e43 ?_
        refine w_ic (n := 2) (j := 35) rfl rfl ?_
        refine w_geN (j := 36) rfl rfl (by omega) (by omega) (fun c => absurd c (fun c => by omega)) (fun _ => ?_)
        refine w_al (j := 37) rfl rfl rfl ?_
        first | refine w_gr (j := 38) rfl rfl (by first | assumption | rfl) (by first | assumption | rfl) rfl ?_ | refine w_gi (j := 38) rfl rfl (by first | assumption | rfl) (by first | assumption | rfl) rfl rfl ?_
        refine w_il (j := 39) rfl rfl rfl ?_
        refine w_al (j := 40) rfl rfl rfl ?_
        first | refine w_gr (j := 41) rfl rfl (by first | assumption | rfl) (by first | assumption | rfl) rfl ?_ | refine w_gi (j := 41) rfl rfl (by first | assumption | rfl) (by first | assumption | rfl) rfl rfl ?_
        refine w_il (j := 42) rfl rfl rfl ?_
        refine w_aal (j := 43) rfl rfl (by first | assumption | rfl) rfl (by omega) rfl ?_
        refine w_ic (n := 0) (j := 44) rfl rfl ?_
        refine w_ial (j := 45) rfl rfl (by first | assumption | rfl) rfl (by omega) rfl e43 ?_
        refine w_neM (j := 46) rfl rfl (by omega) (fun c1 => ?_) (fun c1 => ?_)
        · have y2 := y2 (by omega)
          refine w_al (j := 54) rfl rfl rfl ?_
          first | refine w_gr (j := 55) rfl rfl (by first | assumption | rfl) (by first | assumption | rfl) rfl ?_ | refine w_gi (j := 55) rfl rfl (by first | assumption | rfl) (by first | assumption | rfl) rfl rfl ?_
          refine w_al (j := 56) rfl rfl rfl ?_
          first | refine w_gr (j := 57) rfl rfl (by first | assumption | rfl) (by first | assumption | rfl) rfl ?_ | refine w_gi (j := 57) rfl rfl (by first | assumption | rfl) (by first | assumption | rfl) rfl rfl ?_
          refine w_il (j := 58) rfl rfl rfl ?_
          refine w_aal (j := 59) rfl rfl (by first | assumption | rfl) rfl (by omega) rfl ?_
          refine w_ic (n := 1) (j := 60) rfl rfl ?_
          refine w_ial (j := 61) rfl rfl (by first | assumption | rfl) rfl (by omega) rfl e44 ?_
          refine w_ial (j := 62) rfl rfl (by first | assumption | rfl) rfl (by omega) rfl rfl ?_
          refine w_ias (j := 63) rfl rfl (by first | assumption | rfl) rfl (by omega) rfl ?_
          first | refine w_incN (j := 64) rfl rfl rfl ?_ | refine w_inc (j := 64) rfl rfl rfl rfl ?_
          refine w_go rfl ?_
          first | refine w_incN (j := 90) rfl rfl rfl ?_ | refine w_inc (j := 90) rfl rfl rfl rfl ?_
          refine w_go rfl ?_
          refine H _ _ ⟨d1 + 1, rfl, y4, fr.up (by decide), ?_⟩
          rw [pf_take_succ hc, pf_sts_snoc, ev, ix_up_eq, pf_tk, pk_us, pf_tk_up _ _ _ _ (Nat.le_refl _), e42]
          unfold pf_st
          rw [if_neg c1, if_pos (by omega)]
        ·
          refine w_al (j := 47) rfl rfl rfl ?_
          first | refine w_gr (j := 48) rfl rfl (by first | assumption | rfl) (by first | assumption | rfl) rfl ?_ | refine w_gi (j := 48) rfl rfl (by first | assumption | rfl) (by first | assumption | rfl) rfl rfl ?_
          refine w_il (j := 49) rfl rfl rfl ?_
          refine w_aal (j := 50) rfl rfl (by first | assumption | rfl) rfl (by omega) rfl ?_
          refine w_ic (n := 1) (j := 51) rfl rfl ?_
          refine w_ial (j := 52) rfl rfl (by first | assumption | rfl) rfl (by omega) rfl e44 ?_
          refine w_go rfl ?_
          refine w_ias (j := 63) rfl rfl (by first | assumption | rfl) rfl (by omega) rfl ?_
          first | refine w_incN (j := 64) rfl rfl rfl ?_ | refine w_inc (j := 64) rfl rfl rfl rfl ?_
          refine w_go rfl ?_
          first | refine w_incN (j := 90) rfl rfl rfl ?_ | refine w_inc (j := 90) rfl rfl rfl rfl ?_
          refine w_go rfl ?_
          refine H _ _ ⟨d1 + 1, rfl, y4, fr.up (by decide), ?_⟩
          rw [pf_take_succ hc, pf_sts_snoc, ev, ix_up_eq, pf_tk, pk_us, pf_tk_up _ _ _ _ (Nat.le_refl _)]
          unfold pf_st
          rw [if_pos c1]
      ·
        refine w_al (j := 29) rfl rfl rfl ?_
        first | refine w_gr (j := 30) rfl rfl (by first | assumption | rfl) (by first | assumption | rfl) rfl ?_ | refine w_gi (j := 30) rfl rfl (by first | assumption | rfl) (by first | assumption | rfl) rfl rfl ?_
        refine w_il (j := 31) rfl rfl rfl ?_
        refine w_aal (j := 32) rfl rfl (by first | assumption | rfl) rfl (by omega) rfl ?_
        refine w_ic (n := 0) (j := 33) rfl rfl ?_
        refine w_ial (j := 34) rfl rfl (by first | assumption | rfl) rfl (by omega) rfl e43 ?_
        refine w_ic (n := 2) (j := 35) rfl rfl ?_
        refine w_geN (j := 36) rfl rfl (by omega) (by omega) (fun _ => ?_) (fun c => absurd c (fun c => by omega))
        first | refine w_decN (j := 66) rfl rfl rfl (by omega) ?_ | refine w_inc (j := 66) rfl rfl rfl rfl ?_
        refine w_al (j := 67) rfl rfl rfl ?_
        first | refine w_gr (j := 68) rfl rfl (by first | assumption | rfl) (by first | assumption | rfl) rfl ?_ | refine w_gi (j := 68) rfl rfl (by first | assumption | rfl) (by first | assumption | rfl) rfl rfl ?_
        refine w_il (j := 69) rfl rfl rfl ?_
        refine w_ic (n := 1) (j := 70) rfl rfl ?_
        first | refine w_subN (j := 71) rfl rfl (by omega) ?_ | refine w_sub (j := 71) rfl rfl ?_
        refine w_al (j := 72) rfl rfl rfl ?_
        first | refine w_gr (j := 73) rfl rfl (by first | assumption | rfl) (by first | assumption | rfl) rfl ?_ | refine w_gi (j := 73) rfl rfl (by first | assumption | rfl) (by first | assumption | rfl) rfl rfl ?_
        refine w_il (j := 74) rfl rfl rfl ?_
        refine w_aal (j := 75) rfl rfl (by first | assumption | rfl) rfl (by omega) rfl ?_
        refine w_ic (n := 0) (j := 76) rfl rfl ?_
        refine w_ial (j := 77) rfl rfl (by first | assumption | rfl) rfl (by omega) rfl e43 ?_
        refine w_al (j := 78) rfl rfl rfl ?_
        first | refine w_gr (j := 79) rfl rfl (by first | assumption | rfl) (by first | assumption | rfl) rfl ?_ | refine w_gi (j := 79) rfl rfl (by first | assumption | rfl) (by first | assumption | rfl) rfl rfl ?_
        refine w_il (j := 80) rfl rfl rfl ?_
        refine w_ic (n := 1) (j := 81) rfl rfl ?_
        first | refine w_subN (j := 82) rfl rfl (by omega) ?_ | refine w_sub (j := 82) rfl rfl ?_
        refine w_ial (j := 83) rfl rfl (by first | assumption | rfl) rfl (by omega) rfl rfl ?_
        refine w_al (j := 84) rfl rfl rfl ?_
        first | refine w_gr (j := 85) rfl rfl (by first | assumption | rfl) (by first | assumption | rfl) rfl ?_ | refine w_gi (j := 85) rfl rfl (by first | assumption | rfl) (by first | assumption | rfl) rfl rfl ?_
        refine w_il (j := 86) rfl rfl rfl ?_
        refine w_ial (j := 87) rfl rfl (by first | assumption | rfl) rfl (by omega) rfl rfl ?_
        refine w_csI (j := 88) rfl rfl rfl rfl rfl (sp_190 y1 y2) rfl ?_
        refine w_ias (j := 89) rfl rfl (by first | assumption | rfl) rfl (by omega) rfl ?_
        first | refine w_incN (j := 90) rfl rfl rfl ?_ | refine w_inc (j := 90) rfl rfl rfl rfl ?_
        refine w_go rfl ?_
        refine H _ _ ⟨d1 - 1, rfl, y5, fr.up (by decide), ?_⟩
        obtain ⟨t, rfl⟩ : ∃ t, d1 = t + 2 := ⟨d1 - 2, by omega⟩
        rw [pf_take_succ hc, pf_sts_snoc, ev, ix_up_eq]
        show pf_st (h 495) c (h1 494 (t + 1) :: h1 494 t :: pf_tk (h1 494) t) = pf_tk (upd (h1 494) t _) (t + 1)
        rw [pf_tk, pk_us, pf_tk_up _ _ _ _ (Nat.le_refl _)]
        unfold pf_st
        rw [if_neg (by omega), if_neg (by omega)]
        rfl
    · rintro _ h1 ⟨top, rfl, w1, fr, ev⟩
      have e41 : h1 100 20 = nI cs.length := by rw [fr 100 (by decide)]; exact l1
      rw [List.take_length] at w1 ev
      have ht := pf_wf_det _ _ _ _ w1 hw
      subst ht
      refine w_il (j := 25) rfl rfl rfl ?_
      refine w_al (j := 26) rfl rfl rfl ?_
      first | refine w_gr (j := 27) rfl rfl (by first | assumption | rfl) (by first | assumption | rfl) rfl ?_ | refine w_gi (j := 27) rfl rfl (by first | assumption | rfl) (by first | assumption | rfl) rfl e41 ?_
      refine w_geN (j := 28) rfl rfl (by omega) (by omega) (fun _ => ?_) (fun c => absurd c (fun c => by omega))
      refine fin h1 fr _ ?_ rfl
      unfold pf_ev
      rw [ev]
      rfl
  ·
    refine w_il (j := 25) rfl rfl rfl ?_
    refine w_al (j := 26) rfl rfl rfl ?_
    first | refine w_gr (j := 27) rfl rfl (by first | assumption | rfl) (by first | assumption | rfl) rfl ?_ | refine w_gi (j := 27) rfl rfl (by first | assumption | rfl) (by first | assumption | rfl) rfl l1 ?_
    refine w_geN (j := 28) rfl rfl (by omega) (by omega) (fun _ => ?_) (fun c => absurd c (fun c => by omega))
    refine fin _ (px_fr.rf.up (by decide)) _ ?_ rfl
    rw [px_up_at, pf_evu, Int32.mul_comm]
