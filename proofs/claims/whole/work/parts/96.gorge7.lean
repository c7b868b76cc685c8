def px_Lr (x : Nat) : Prop := ix_sh x = (5, 5, 0) ∧ ix_rf x = [some (x + 1), some (x + 2), some (x + 3), some (x + 4), none] ∧ ix_sh (x + 2) = (1, 150, 0) ∧ ix_sh (x + 3) = (1, 150, 0)
theorem px_Lr41 : px_Lr 41 := by unfold px_Lr; decide
theorem px_Lr46 : px_Lr 46 := by unfold px_Lr; decide
def px_lx (h : ix_H) (x : Nat) (cs : List (Nat × Nat)) : Prop := h x 4 = nI cs.length ∧ cs.length ≤ 150 ∧ ∀ (k : Nat) (c : Nat × Nat), cs[k]? = some c → h (x + 2) k = nI c.1 ∧ h (x + 3) k = nI c.2
theorem px_lx.of {h h' : ix_H} {x : Nat} {cs : List (Nat × Nat)} (e1 : h' x = h x) (e2 : h' (x + 2) = h (x + 2)) (e3 : h' (x + 3) = h (x + 3)) (q : px_lx h x cs) : px_lx h' x cs := by
  unfold px_lx at q ⊢
  rw [e1, e2, e3]
  exact q
def gx_em (cs : List (Nat × Nat)) (a b : Nat) : List (Nat × Nat) := if cs.length < 150 then cs ++ [(a, b)] else cs
section GO
variable {h : ix_H} {tx : Nat → Nat} {n p pc o k : Nat} {pl : Int32}
theorem sp_39 {x a b : Nat} {cs : List (Nat × Nat)} (hx : px_Lr x) (L : px_lx h x cs) : px_PU 1 39 [.ref x, .int (nI a), .int (nI b)] h (fun h1 => px_fr [x, x + 2, x + 3] h h1 ∧ px_lx h1 x (gx_em cs a b)) := by
  obtain ⟨x1, x2, x3, x4⟩ := hx
  obtain ⟨l1, l2, l3⟩ := L
  have n1 : x ≠ x + 2 := by omega
  have n2 : x ≠ x + 3 := by omega
  have n3 : x + 2 ≠ x + 3 := by omega
  refine px_M (M := mt_39) (ops := mo_39) tb_39 rfl rfl rfl rfl rfl ?_
  refine w_al (j := 1) rfl rfl rfl ?_
  first | refine w_gr (j := 2) rfl rfl (by first | assumption | rfl) (by first | assumption | rfl) rfl ?_ | refine w_gi (j := 2) rfl rfl (by first | assumption | rfl) (by first | assumption | rfl) rfl l1 ?_
  refine w_al (j := 3) rfl rfl rfl ?_
  first | refine w_gr (j := 4) rfl rfl (by first | assumption | rfl) (by first | assumption | rfl) rfl ?_ | refine w_gi (j := 4) rfl rfl (by first | assumption | rfl) (by first | assumption | rfl) rfl rfl ?_
  refine w_alen (j := 5) rfl rfl (by first | assumption | rfl) (by decide) ?_
  refine w_geN (j := 6) rfl rfl (by omega) (by omega) (fun c => ?_) (fun c => ?_)
  ·
    refine w_rt rfl ?_
    refine ⟨_, rfl, px_fr.rf, ?_⟩
    unfold gx_em
    rw [if_neg (by omega)]
    exact ⟨l1, l2, l3⟩
  ·
    refine w_al (j := 7) rfl rfl rfl ?_
    first | refine w_gr (j := 8) rfl rfl (by first | assumption | rfl) (by first | assumption | rfl) rfl ?_ | refine w_gi (j := 8) rfl rfl (by first | assumption | rfl) (by first | assumption | rfl) rfl rfl ?_
    refine w_al (j := 9) rfl rfl rfl ?_
    first | refine w_gr (j := 10) rfl rfl (by first | assumption | rfl) (by first | assumption | rfl) rfl ?_ | refine w_gi (j := 10) rfl rfl (by first | assumption | rfl) (by first | assumption | rfl) rfl l1 ?_
    refine w_il (j := 11) rfl rfl rfl ?_
    refine w_ias (j := 12) rfl rfl (by first | assumption | rfl) rfl (by omega) rfl ?_
    have l1' : ix_up h (x + 2) cs.length (nI a) x 4 = nI cs.length := by rw [px_up_na n1]; exact l1
    refine w_al (j := 13) rfl rfl rfl ?_
    first | refine w_gr (j := 14) rfl rfl (by first | assumption | rfl) (by first | assumption | rfl) rfl ?_ | refine w_gi (j := 14) rfl rfl (by first | assumption | rfl) (by first | assumption | rfl) rfl rfl ?_
    refine w_al (j := 15) rfl rfl rfl ?_
    first | refine w_gr (j := 16) rfl rfl (by first | assumption | rfl) (by first | assumption | rfl) rfl ?_ | refine w_gi (j := 16) rfl rfl (by first | assumption | rfl) (by first | assumption | rfl) rfl l1' ?_
    refine w_il (j := 17) rfl rfl rfl ?_
    refine w_ias (j := 18) rfl rfl (by first | assumption | rfl) rfl (by omega) rfl ?_
    have l1'' : ix_up (ix_up h (x + 2) cs.length (nI a)) (x + 3) cs.length (nI b) x 4 = nI cs.length := by rw [px_up_na n2]; exact l1'
    refine w_al (j := 19) rfl rfl rfl ?_
    first | refine w_dupr (j := 20) rfl rfl ?_ | refine w_dupi (j := 20) rfl rfl ?_
    first | refine w_gr (j := 21) rfl rfl (by first | assumption | rfl) (by first | assumption | rfl) rfl ?_ | refine w_gi (j := 21) rfl rfl (by first | assumption | rfl) (by first | assumption | rfl) rfl l1'' ?_
    refine w_ic (n := 1) (j := 22) rfl rfl ?_
    first | refine w_add0 (j := 23) rfl rfl ?_ | refine w_addN (j := 23) rfl rfl ?_ | refine w_add (j := 23) rfl rfl ?_
    refine w_pf (j := 24) rfl rfl (by first | assumption | rfl) (by first | assumption | rfl) rfl ?_
    refine w_rt rfl ?_
    refine ⟨_, rfl, ?_, ?_⟩
    · repeat first | exact px_fr.rf | refine px_fr.up ?_ (by simp)
    · unfold gx_em
      rw [if_pos c]
      refine ⟨by rw [px_up_at, List.length_append, List.length_singleton], by rw [List.length_append, List.length_singleton]; omega, fun k c hk => ?_⟩
      have G2 : ix_up (ix_up (ix_up h (x + 2) cs.length (nI a)) (x + 3) cs.length (nI b)) x 4 (nI (cs.length + 1)) (x + 2) k = ix_up h (x + 2) cs.length (nI a) (x + 2) k := by rw [px_up_na (Ne.symm n1), px_up_na n3]
      have G3 : ix_up (ix_up (ix_up h (x + 2) cs.length (nI a)) (x + 3) cs.length (nI b)) x 4 (nI (cs.length + 1)) (x + 3) k = ix_up (ix_up h (x + 2) cs.length (nI a)) (x + 3) cs.length (nI b) (x + 3) k := by rw [px_up_na (Ne.symm n2)]
      rw [G2, G3]
      by_cases e : k < cs.length
      · rw [List.getElem?_append_left e] at hk
        rw [px_up_nk (x := x + 2) (by omega), px_up_nk (x := x + 3) (by omega), px_up_na (Ne.symm n3)]
        exact l3 k c hk
      · rw [List.getElem?_append_right (by omega)] at hk
        have : k = cs.length := by
          have := (List.getElem?_eq_some_iff.mp hk).1
          rw [List.length_singleton] at this
          omega
        subst this
        rw [Nat.sub_self] at hk
        cases hk
        exact ⟨px_up_at, px_up_at⟩
theorem sp_37 {x : Nat} (hx : px_Lr x) : px_PU 2 37 [.ref x] h (fun h1 => px_fr [x, x + 2, x + 3] h h1 ∧ px_lx h1 x pf_usual) := by
  have hx' := hx
  obtain ⟨x1, x2, x3, x4⟩ := hx
  have L0 : px_lx (ix_up h x 4 (nI 0)) x [] := ⟨px_up_at, by decide, fun k c hk => by cases hk⟩
  refine px_M (M := mt_37) (ops := mo_37) tb_37 rfl rfl rfl rfl rfl ?_
  refine w_al (j := 1) rfl rfl rfl ?_
  refine w_ic (n := 0) (j := 2) rfl rfl ?_
  refine w_pf (j := 3) rfl rfl (by first | assumption | rfl) (by first | assumption | rfl) rfl ?_
  refine w_al (j := 4) rfl rfl rfl ?_
  refine w_ic (n := 1) (j := 5) rfl rfl ?_
  refine w_ic (n := 0) (j := 6) rfl rfl ?_
  refine w_cvPU (j := 7) rfl rfl rfl rfl (by first | assumption | rfl) rfl rfl (sp_39 (a := 1) (b := 0) hx' L0) rfl ?_
  rintro h1 ⟨u1, L1⟩
  refine w_al (j := 8) rfl rfl rfl ?_
  refine w_ic (n := 1) (j := 9) rfl rfl ?_
  refine w_ic (n := 1) (j := 10) rfl rfl ?_
  refine w_cvPU (j := 11) rfl rfl rfl rfl (by first | assumption | rfl) rfl rfl (sp_39 (a := 1) (b := 1) hx' L1) rfl ?_
  rintro h2 ⟨u2, L2⟩
  refine w_al (j := 12) rfl rfl rfl ?_
  refine w_ic (n := 2) (j := 13) rfl rfl ?_
  refine w_ic (n := 0) (j := 14) rfl rfl ?_
  refine w_cvPU (j := 15) rfl rfl rfl rfl (by first | assumption | rfl) rfl rfl (sp_39 (a := 2) (b := 0) hx' L2) rfl ?_
  rintro h3 ⟨u3, L3⟩
  refine w_al (j := 16) rfl rfl rfl ?_
  refine w_ic (n := 1) (j := 17) rfl rfl ?_
  refine w_ic (n := 2) (j := 18) rfl rfl ?_
  refine w_cvPU (j := 19) rfl rfl rfl rfl (by first | assumption | rfl) rfl rfl (sp_39 (a := 1) (b := 2) hx' L3) rfl ?_
  rintro h4 ⟨u4, L4⟩
  refine w_al (j := 20) rfl rfl rfl ?_
  refine w_ic (n := 0) (j := 21) rfl rfl ?_
  refine w_ic (n := 2) (j := 22) rfl rfl ?_
  refine w_cvPU (j := 23) rfl rfl rfl rfl (by first | assumption | rfl) rfl rfl (sp_39 (a := 0) (b := 2) hx' L4) rfl ?_
  rintro h5 ⟨u5, L5⟩
  refine w_al (j := 24) rfl rfl rfl ?_
  refine w_ic (n := 4) (j := 25) rfl rfl ?_
  refine w_ic (n := 0) (j := 26) rfl rfl ?_
  refine w_cvPU (j := 27) rfl rfl rfl rfl (by first | assumption | rfl) rfl rfl (sp_39 (a := 4) (b := 0) hx' L5) rfl ?_
  rintro h6 ⟨u6, L6⟩
  refine w_al (j := 28) rfl rfl rfl ?_
  refine w_ic (n := 3) (j := 29) rfl rfl ?_
  refine w_ic (n := 0) (j := 30) rfl rfl ?_
  refine w_cvPU (j := 31) rfl rfl rfl rfl (by first | assumption | rfl) rfl rfl (sp_39 (a := 3) (b := 0) hx' L6) rfl ?_
  rintro h7 ⟨u7, L7⟩
  refine w_rt rfl ?_
  exact ⟨_, rfl, (((((((px_fr.rf.up (by simp)).tr u1).tr u2).tr u3).tr u4).tr u5).tr u6).tr u7, L7⟩
theorem sp_9 : px_V 1 9 [.ref 51] h none (ix_up h 51 2 (nI 0)) := by
  refine px_M (M := mt_9) (ops := mo_9) tb_9 rfl rfl rfl rfl rfl ?_
  refine w_al (j := 1) rfl rfl rfl ?_
  refine w_ic (n := 0) (j := 2) rfl rfl ?_
  refine w_pf (j := 3) rfl rfl (by first | assumption | rfl) (by first | assumption | rfl) rfl ?_
  refine w_rt rfl ?_
  rfl
theorem sp_13 : px_V 1 13 [.ref 72] h none (ix_up (ix_up (ix_up h 72 3 (nI 0)) 72 4 (nI 0)) 72 5 (nI 0)) := by
  refine px_M (M := mt_13) (ops := mo_13) tb_13 rfl rfl rfl rfl rfl ?_
  refine w_al (j := 1) rfl rfl rfl ?_
  refine w_ic (n := 0) (j := 2) rfl rfl ?_
  refine w_pf (j := 3) rfl rfl (by first | assumption | rfl) (by first | assumption | rfl) rfl ?_
  refine w_al (j := 4) rfl rfl rfl ?_
  refine w_ic (n := 0) (j := 5) rfl rfl ?_
  refine w_pf (j := 6) rfl rfl (by first | assumption | rfl) (by first | assumption | rfl) rfl ?_
  refine w_al (j := 7) rfl rfl rfl ?_
  refine w_ic (n := 0) (j := 8) rfl rfl ?_
  refine w_pf (j := 9) rfl rfl (by first | assumption | rfl) (by first | assumption | rfl) rfl ?_
  refine w_rt rfl ?_
  rfl
theorem sp_73 {N : Nat} (hN : h 3 7 = nI N) (h8 : N ≤ 8) : px_PU 1 73 [.ref 64] h (fun h1 => px_fr [64, 65, 66, 67] h h1 ∧ (∀ c, c < 8 → h1 65 c = (if c < N then h 7 c else nI 0) ∧ h1 66 c = nI 0 ∧ h1 67 c = -1) ∧ h1 64 4 = nI 0 ∧ h1 64 5 = h 3 9 ∧ h1 64 6 = nI 0) := by
  refine px_M (M := mt_73) (ops := mo_73) tb_73 rfl rfl rfl rfl rfl ?_
  refine w_ic (n := 0) (j := 1) rfl rfl ?_
  refine w_is (j := 2) rfl rfl rfl ?_
  refine px_forI (fun c ls h1 => ls = [.ref 64, .int (nI c)] ∧ px_fr [65, 66, 67] h h1 ∧ ∀ d, d < c → h1 65 d = (if d < N then h 7 d else nI 0) ∧ h1 66 d = nI 0 ∧ h1 67 d = -1) 8 ?_ ?_ ⟨rfl, px_fr.rf, fun d hd => by omega⟩
  · rintro c _ h1 hc ⟨rfl, f1, f2⟩ H
    have hN1 : h1 3 7 = nI N := by rw [f1 3 (by decide)]; exact hN
    have tail : ∀ v, v = (if c < N then h 7 c else nI 0) → px_R px_E 0 mo_73 [] 20 [.ref 64, .int (nI c)] [.int v, .int (nI c), .ref 65] h1 0 (fun r => ∃ h1, r = (.inl none, h1, 0) ∧ px_fr [64, 65, 66, 67] h h1 ∧ (∀ c, c < 8 → h1 65 c = (if c < N then h 7 c else nI 0) ∧ h1 66 c = nI 0 ∧ h1 67 c = -1) ∧ h1 64 4 = nI 0 ∧ h1 64 5 = h 3 9 ∧ h1 64 6 = nI 0) := by
      intro v hv
      subst hv
      refine w_ias (j := 21) rfl rfl (by first | assumption | rfl) rfl (by omega) rfl ?_
      refine w_al (j := 22) rfl rfl rfl ?_
      first | refine w_gr (j := 23) rfl rfl (by first | assumption | rfl) (by first | assumption | rfl) rfl ?_ | refine w_gi (j := 23) rfl rfl (by first | assumption | rfl) (by first | assumption | rfl) rfl rfl ?_
      refine w_il (j := 24) rfl rfl rfl ?_
      refine w_ic (n := 0) (j := 25) rfl rfl ?_
      refine w_ias (j := 26) rfl rfl (by first | assumption | rfl) rfl (by omega) rfl ?_
      refine w_al (j := 27) rfl rfl rfl ?_
      first | refine w_gr (j := 28) rfl rfl (by first | assumption | rfl) (by first | assumption | rfl) rfl ?_ | refine w_gi (j := 28) rfl rfl (by first | assumption | rfl) (by first | assumption | rfl) rfl rfl ?_
      refine w_il (j := 29) rfl rfl rfl ?_
      refine w_im (j := 30) rfl rfl ?_
      refine w_ias (j := 31) rfl rfl (by first | assumption | rfl) rfl (by omega) rfl ?_
      first | refine w_incN (j := 32) rfl rfl rfl ?_ | refine w_inc (j := 32) rfl rfl rfl rfl ?_
      refine w_go rfl ?_
      refine H _ _ ⟨rfl, ((f1.up (by decide)).up (by decide)).up (by decide), fun d hd => ?_⟩
      by_cases e : d = c
      · subst e
        refine ⟨?_, ?_, px_up_at⟩
        · rw [px_up_na (by decide), px_up_na (by decide), px_up_at]
        · rw [px_up_na (by decide), px_up_at]
      · obtain ⟨y1, y2, y3⟩ := f2 d (by omega)
        refine ⟨?_, ?_, ?_⟩
        · rw [px_up_na (by decide), px_up_na (by decide), px_up_nk e]; exact y1
        · rw [px_up_na (by decide), px_up_nk e, px_up_na (by decide)]; exact y2
        · rw [px_up_nk e, px_up_na (by decide), px_up_na (by decide)]; exact y3
    refine w_il (j := 3) rfl rfl rfl ?_
    refine w_bi (j := 4) (a := nI 8) rfl rfl (by decide) ?_
    refine w_geN (j := 5) rfl rfl (by omega) (by omega) (fun c => absurd c (fun c => by omega)) (fun _ => ?_)
    refine w_al (j := 6) rfl rfl rfl ?_
    first | refine w_gr (j := 7) rfl rfl (by first | assumption | rfl) (by first | assumption | rfl) rfl ?_ | refine w_gi (j := 7) rfl rfl (by first | assumption | rfl) (by first | assumption | rfl) rfl rfl ?_
    refine w_il (j := 8) rfl rfl rfl ?_
    refine w_il (j := 9) rfl rfl rfl ?_
    refine w_al (j := 10) rfl rfl rfl ?_
    first | refine w_gr (j := 11) rfl rfl (by first | assumption | rfl) (by first | assumption | rfl) rfl ?_ | refine w_gi (j := 11) rfl rfl (by first | assumption | rfl) (by first | assumption | rfl) rfl rfl ?_
    first | refine w_gr (j := 12) rfl rfl (by first | assumption | rfl) (by first | assumption | rfl) rfl ?_ | refine w_gi (j := 12) rfl rfl (by first | assumption | rfl) (by first | assumption | rfl) rfl hN1 ?_
    refine w_geN (j := 13) rfl rfl (by omega) (by omega) (fun d => ?_) (fun d => ?_)
    ·
      refine w_ic (n := 0) (j := 20) rfl rfl ?_
      exact tail _ (by rw [if_neg (by omega)])
    ·
      refine w_al (j := 14) rfl rfl rfl ?_
      first | refine w_gr (j := 15) rfl rfl (by first | assumption | rfl) (by first | assumption | rfl) rfl ?_ | refine w_gi (j := 15) rfl rfl (by first | assumption | rfl) (by first | assumption | rfl) rfl rfl ?_
      first | refine w_gr (j := 16) rfl rfl (by first | assumption | rfl) (by first | assumption | rfl) rfl ?_ | refine w_gi (j := 16) rfl rfl (by first | assumption | rfl) (by first | assumption | rfl) rfl rfl ?_
      refine w_il (j := 17) rfl rfl rfl ?_
      refine w_ial (j := 18) rfl rfl (by first | assumption | rfl) rfl (by omega) rfl rfl ?_
      refine w_go rfl ?_
      exact tail _ (by rw [if_pos d, f1 7 (by decide)])
  · rintro _ h1 ⟨rfl, f1, f2⟩
    refine w_il (j := 3) rfl rfl rfl ?_
    refine w_bi (j := 4) (a := nI 8) rfl rfl (by decide) ?_
    refine w_geN (j := 5) rfl rfl (by omega) (by omega) (fun _ => ?_) (fun c => absurd c (fun c => by omega))
    refine w_al (j := 34) rfl rfl rfl ?_
    refine w_ic (n := 0) (j := 35) rfl rfl ?_
    refine w_pf (j := 36) rfl rfl (by first | assumption | rfl) (by first | assumption | rfl) rfl ?_
    refine w_al (j := 37) rfl rfl rfl ?_
    refine w_al (j := 38) rfl rfl rfl ?_
    first | refine w_gr (j := 39) rfl rfl (by first | assumption | rfl) (by first | assumption | rfl) rfl ?_ | refine w_gi (j := 39) rfl rfl (by first | assumption | rfl) (by first | assumption | rfl) rfl rfl ?_
    first | refine w_gr (j := 40) rfl rfl (by first | assumption | rfl) (by first | assumption | rfl) rfl ?_ | refine w_gi (j := 40) rfl rfl (by first | assumption | rfl) (by first | assumption | rfl) rfl rfl ?_
    refine w_pf (j := 41) rfl rfl (by first | assumption | rfl) (by first | assumption | rfl) rfl ?_
    refine w_al (j := 42) rfl rfl rfl ?_
    refine w_ic (n := 0) (j := 43) rfl rfl ?_
    refine w_pf (j := 44) rfl rfl (by first | assumption | rfl) (by first | assumption | rfl) rfl ?_
    refine w_rt rfl ?_
    refine ⟨_, rfl, ?_, fun c hc => ?_, ?_, ?_, px_up_at⟩
    · exact (((f1.sub (by decide)).up (by decide)).up (by decide)).up (by decide)
    · rw [px_up_na (by decide), px_up_na (by decide), px_up_na (by decide), px_up_na (by decide), px_up_na (by decide), px_up_na (by decide), px_up_na (by decide), px_up_na (by decide), px_up_na (by decide)]
      exact f2 c hc
    · rw [px_up_nk (by decide), px_up_nk (by decide), px_up_at]
    · rw [px_up_nk (by decide), px_up_at, px_up_na (by decide), f1 3 (by decide)]
-- the class begins anew
theorem sp_105 {N : Nat} (hN : h 3 7 = nI N) (h8 : N ≤ 8) : px_PU 3 105 [.ref 0] h (fun h1 => px_fr [41, 43, 44, 51, 72, 64, 65, 66, 67] h h1 ∧ px_lx h1 41 pf_usual ∧ h1 51 2 = nI 0 ∧ (h1 72 3 = nI 0 ∧ h1 72 4 = nI 0 ∧ h1 72 5 = nI 0) ∧ (∀ c, c < 8 → h1 65 c = (if c < N then h 7 c else nI 0) ∧ h1 66 c = nI 0 ∧ h1 67 c = -1) ∧ h1 64 4 = nI 0 ∧ h1 64 5 = h 3 9 ∧ h1 64 6 = nI 0) := by
  refine px_M (M := mt_105) (ops := mo_105) tb_105 rfl rfl rfl rfl rfl ?_
  refine w_al (j := 1) rfl rfl rfl ?_
  first | refine w_gr (j := 2) rfl rfl (by first | assumption | rfl) (by first | assumption | rfl) rfl ?_ | refine w_gi (j := 2) rfl rfl (by first | assumption | rfl) (by first | assumption | rfl) rfl rfl ?_
  refine w_cvPU (j := 3) rfl rfl rfl rfl (by first | assumption | rfl) rfl rfl (sp_37 px_Lr41) rfl ?_
  rintro h1 ⟨u1, L1⟩
  refine w_al (j := 4) rfl rfl rfl ?_
  first | refine w_gr (j := 5) rfl rfl (by first | assumption | rfl) (by first | assumption | rfl) rfl ?_ | refine w_gi (j := 5) rfl rfl (by first | assumption | rfl) (by first | assumption | rfl) rfl rfl ?_
  refine w_cvU (j := 6) rfl rfl rfl rfl (by first | assumption | rfl) rfl rfl (sp_9) rfl ?_
  refine w_al (j := 7) rfl rfl rfl ?_
  first | refine w_gr (j := 8) rfl rfl (by first | assumption | rfl) (by first | assumption | rfl) rfl ?_ | refine w_gi (j := 8) rfl rfl (by first | assumption | rfl) (by first | assumption | rfl) rfl rfl ?_
  refine w_cvU (j := 9) rfl rfl rfl rfl (by first | assumption | rfl) rfl rfl (sp_13) rfl ?_
  generalize hg : ix_up (ix_up (ix_up (ix_up h1 51 2 (nI 0)) 72 3 (nI 0)) 72 4 (nI 0)) 72 5 (nI 0) = h2
  have F2 : px_fr [51, 72] h1 h2 := by
    rw [← hg]
    repeat first | exact px_fr.rf | refine px_fr.up ?_ (by decide)
  refine w_al (j := 10) rfl rfl rfl ?_
  first | refine w_gr (j := 11) rfl rfl (by first | assumption | rfl) (by first | assumption | rfl) rfl ?_ | refine w_gi (j := 11) rfl rfl (by first | assumption | rfl) (by first | assumption | rfl) rfl rfl ?_
  refine w_cvPU (j := 12) rfl rfl rfl rfl (by first | assumption | rfl) rfl rfl (sp_73 (N := N) (by rw [F2 3 (by decide), u1 3 (by decide)]; exact hN) h8) rfl ?_
  rintro h3 ⟨w1, w2, w3, w4, w5⟩
  refine w_rt rfl ?_
  refine ⟨_, rfl, ((u1.sub (by decide)).tr (F2.sub (by decide))).tr (w1.sub (by decide)), L1.of ?_ ?_ ?_, ?_, ⟨?_, ?_, ?_⟩, fun c hc => ?_, w3, ?_, w5⟩
  · rw [w1 41 (by decide), F2 41 (by decide)]
  · rw [w1 (41 + 2) (by decide), F2 (41 + 2) (by decide)]
  · rw [w1 (41 + 3) (by decide), F2 (41 + 3) (by decide)]
  · rw [w1 51 (by decide), ← hg, px_up_na (by decide), px_up_na (by decide), px_up_na (by decide), px_up_at]
  · rw [w1 72 (by decide), ← hg, px_up_nk (by decide), px_up_nk (by decide), px_up_at]
  · rw [w1 72 (by decide), ← hg, px_up_nk (by decide), px_up_at]
  · rw [w1 72 (by decide), ← hg, px_up_at]
  · have := w2 c hc
    rw [F2 7 (by decide), u1 7 (by decide)] at this
    exact this
  · rw [w4, F2 3 (by decide), u1 3 (by decide)]
end GO
