def lm_l (h : ix_H) (cs : List (Nat × Nat)) : Prop := h 100 21 = nI cs.length ∧ ∀ (k : Nat) (c : Nat × Nat), cs[k]? = some c → h (320 + k) 0 = nI c.1 ∧ h (320 + k) 1 = nI c.2
def lF (h h' : ix_H) : Prop := (∀ a, a ≠ 100 → ¬ (320 ≤ a ∧ a ≤ 479) → h' a = h a) ∧ ∀ j, (8 < j ∧ j ≠ 21) ∨ j ≤ 3 ∨ j = 7 → h' 100 j = h 100 j
theorem lF.rf {h : ix_H} : lF h h := ⟨fun _ _ _ => rfl, fun _ _ => rfl⟩
theorem lF.tr {h h1 h2 : ix_H} (a : lF h h1) (b : lF h1 h2) : lF h h2 := ⟨fun q q1 q2 => (b.1 q q1 q2).trans (a.1 q q1 q2), fun j hj => (b.2 j hj).trans (a.2 j hj)⟩
theorem px_f1.lF {h h' : ix_H} (f : px_f1 h h') : lF h h' := ⟨fun a ha _ => f.1 a ha, fun j hj => f.2 j (by omega) (by omega) (by omega) (by omega)⟩
theorem lF.up {h h1 : ix_H} {a j : Nat} {v : Int32} (f : lF h h1) (ha : (a = 100 ∧ (j = 4 ∨ j = 5 ∨ j = 6 ∨ j = 8 ∨ j = 21)) ∨ (320 ≤ a ∧ a ≤ 479)) : lF h (ix_up h1 a j v) := by
  refine f.tr ⟨fun q q1 q2 => ix_up_ne (by omega), fun i hi => ?_⟩
  by_cases e : a = 100
  · subst e; exact px_up_nk (by omega)
  · exact px_up_na (fun z => e z.symm)
theorem lm_l.f1 {h h' : ix_H} {cs : List (Nat × Nat)} (f : px_f1 h h') (x : lm_l h cs) : lm_l h' cs := ⟨by rw [f.2 21 (by decide) (by decide) (by decide) (by decide)]; exact x.1, fun k c hk => by rw [f.1 (320 + k) (by omega)]; exact x.2 k c hk⟩
theorem px_sh320 : ∀ k, k < 160 → ix_sh (320 + k) = (1, 2, 0) := by decide
-- the model's state at the place p of the text
def lMS (h : ix_H) (tx : Nat → Nat) (n p o : Nat) (cs : List (Nat × Nat)) : Prop := n ≤ 150 ∧ cs.length ≤ p ∧ p ≤ n ∧ lm_l h cs ∧ ∃ p0, p0 ≤ n ∧ gx_sk tx n p0 = gx_sk tx n p ∧ px_mr h tx n p0 0 (-1) o
def lMF (h : ix_H) (tx : Nat → Nat) (n o K PL : Nat) : Prop := ∃ p, px_mr h tx n p K (nI PL) o
def lB (M D : Nat) (tx : Nat → Nat) (n o p K PL : Nat) : Prop := ∀ h cs, lMS h tx n p o cs → px_PU D M [.ref 100] h (fun h' => lF h h' ∧ lMF h' tx n o K PL)
def lG (M D : Nat) (tx : Nat → Nat) (n o p p' : Nat) (ds : List (Nat × Nat)) : Prop := (ds.length + p ≤ p' ∧ p' ≤ n) ∧ ∀ h cs, lMS h tx n p o cs → px_PU D M [.ref 100] h (fun h' => lF h h' ∧ lMS h' tx n p' o (cs ++ ds))
section LM
variable {h : ix_H} {tx : Nat → Nat} {n p f o : Nat} {fp : Int32}
theorem sp_182x {a b : Int32} (hf : f ≠ 0) (r : px_mr h tx n p f fp o) : px_V 1 182 [.ref 100, .int a, .int b] h none h := by
  have r5 := r.2.2.2.2.1
  have f3 := r.2.2.2.2.2.1
  refine px_M (M := mt_182) (ops := mo_182) tb_182 rfl rfl rfl rfl rfl ?_
  refine w_al (j := 1) rfl rfl rfl ?_
  first | refine w_gr (j := 2) rfl rfl (by first | assumption | rfl) (by first | assumption | rfl) rfl ?_ | refine w_gi (j := 2) rfl rfl (by first | assumption | rfl) (by first | assumption | rfl) rfl r5 ?_
  refine w_eqM (j := 3) rfl rfl (by omega) (fun c => absurd c (fun c => by omega)) (fun _ => ?_)
  refine w_rt rfl ?_
  rfl
theorem sp_182 {a b : Nat} {cs : List (Nat × Nat)} (hl : cs.length < 160) (r : px_mr h tx n p 0 fp o) (L : lm_l h cs) : px_PU 1 182 [.ref 100, .int (nI a), .int (nI b)] h (fun h1 => lF h h1 ∧ px_mr h1 tx n p 0 fp o ∧ lm_l h1 (cs ++ [(a, b)])) := by
  have r5 := r.2.2.2.2.1
  obtain ⟨l1, l2⟩ := L
  have sx := px_sh320 cs.length hl
  have l1' : ix_up h (320 + cs.length) 0 (nI a) 100 21 = nI cs.length := by rw [px_up_na (by omega)]; exact l1
  have l1'' : ix_up (ix_up h (320 + cs.length) 0 (nI a)) (320 + cs.length) 1 (nI b) 100 21 = nI cs.length := by rw [px_up_na (by omega)]; exact l1'
  refine px_M (M := mt_182) (ops := mo_182) tb_182 rfl rfl rfl rfl rfl ?_
  refine w_al (j := 1) rfl rfl rfl ?_
  first | refine w_gr (j := 2) rfl rfl (by first | assumption | rfl) (by first | assumption | rfl) rfl ?_ | refine w_gi (j := 2) rfl rfl (by first | assumption | rfl) (by first | assumption | rfl) rfl r5 ?_
  refine w_eqM (j := 3) rfl rfl (by omega) (fun _ => ?_) (fun c => absurd c (fun c => by omega))
  refine w_al (j := 5) rfl rfl rfl ?_
  first | refine w_gr (j := 6) rfl rfl (by first | assumption | rfl) (by first | assumption | rfl) rfl ?_ | refine w_gi (j := 6) rfl rfl (by first | assumption | rfl) (by first | assumption | rfl) rfl rfl ?_
  refine w_al (j := 7) rfl rfl rfl ?_
  first | refine w_gr (j := 8) rfl rfl (by first | assumption | rfl) (by first | assumption | rfl) rfl ?_ | refine w_gi (j := 8) rfl rfl (by first | assumption | rfl) (by first | assumption | rfl) rfl l1 ?_
  refine w_aal (j := 9) rfl rfl (by first | assumption | rfl) rfl (by omega) rfl ?_
  refine w_ic (n := 0) (j := 10) rfl rfl ?_
  refine w_il (j := 11) rfl rfl rfl ?_
  refine w_ias (j := 12) rfl rfl (by first | assumption | rfl) rfl (by omega) rfl ?_
  refine w_al (j := 13) rfl rfl rfl ?_
  first | refine w_gr (j := 14) rfl rfl (by first | assumption | rfl) (by first | assumption | rfl) rfl ?_ | refine w_gi (j := 14) rfl rfl (by first | assumption | rfl) (by first | assumption | rfl) rfl rfl ?_
  refine w_al (j := 15) rfl rfl rfl ?_
  first | refine w_gr (j := 16) rfl rfl (by first | assumption | rfl) (by first | assumption | rfl) rfl ?_ | refine w_gi (j := 16) rfl rfl (by first | assumption | rfl) (by first | assumption | rfl) rfl l1' ?_
  refine w_aal (j := 17) rfl rfl (by first | assumption | rfl) rfl (by omega) rfl ?_
  refine w_ic (n := 1) (j := 18) rfl rfl ?_
  refine w_il (j := 19) rfl rfl rfl ?_
  refine w_ias (j := 20) rfl rfl (by first | assumption | rfl) rfl (by omega) rfl ?_
  refine w_al (j := 21) rfl rfl rfl ?_
  first | refine w_dupr (j := 22) rfl rfl ?_ | refine w_dupi (j := 22) rfl rfl ?_
  first | refine w_gr (j := 23) rfl rfl (by first | assumption | rfl) (by first | assumption | rfl) rfl ?_ | refine w_gi (j := 23) rfl rfl (by first | assumption | rfl) (by first | assumption | rfl) rfl l1'' ?_
  refine w_ic (n := 1) (j := 24) rfl rfl ?_
  first | refine w_add0 (j := 25) rfl rfl ?_ | refine w_addN (j := 25) rfl rfl ?_ | refine w_add (j := 25) rfl rfl ?_
  refine w_pf (j := 26) rfl rfl (by first | assumption | rfl) (by first | assumption | rfl) rfl ?_
  refine w_rt rfl ?_
  refine ⟨_, rfl, ((lF.rf.up (by omega)).up (by omega)).up (by omega), r.of ?_ ?_ (fun j hj => ?_), ?_, fun k c hk => ?_⟩
  · rw [ix_up_ne (by decide), ix_up_ne (by omega), ix_up_ne (by omega)]
  · rw [ix_up_ne (by decide), ix_up_ne (by omega), ix_up_ne (by omega)]
  · rw [px_up_nk (by omega), px_up_na (by omega), px_up_na (by omega)]
  · rw [px_up_at, List.length_append, List.length_singleton]
  · rw [ix_up_ne (show 320 + k ≠ 100 by omega)]
    by_cases e : k < cs.length
    · rw [List.getElem?_append_left e] at hk
      rw [ix_up_ne (by omega), ix_up_ne (by omega)]
      exact l2 k c hk
    · rw [List.getElem?_append_right (by omega)] at hk
      have : k = cs.length := by
        have := (List.getElem?_eq_some_iff.mp hk).1
        rw [List.length_singleton] at this
        omega
      subst this
      rw [Nat.sub_self] at hk
      cases hk
      exact ⟨by rw [px_up_nk (by decide), px_up_at], px_up_at⟩
theorem sp_183 (ho : o < 6) (r : px_mr h tx n p 0 fp o) : px_PI 2 183 [.ref 100] h (fun v h1 => v = px_b true ∧ px_f1 h h1 ∧ px_mr h1 tx n p 0 fp (o + 1)) := by
  have r5 := r.2.2.2.2.1
  have r8 := r.2.2.2.2.2.2.2.1
  have u5 : ix_up h 100 8 (nI (o + 1)) 100 5 = nI 0 := by rw [px_up_nk (by decide)]; exact r5
  refine px_M (M := mt_183) (ops := mo_183) tb_183 rfl rfl rfl rfl rfl ?_
  refine w_al (j := 1) rfl rfl rfl ?_
  first | refine w_gr (j := 2) rfl rfl (by first | assumption | rfl) (by first | assumption | rfl) rfl ?_ | refine w_gi (j := 2) rfl rfl (by first | assumption | rfl) (by first | assumption | rfl) rfl r5 ?_
  refine w_neM (j := 3) rfl rfl (by omega) (fun c => absurd c (fun c => by omega)) (fun _ => ?_)
  refine w_al (j := 4) rfl rfl rfl ?_
  first | refine w_gr (j := 5) rfl rfl (by first | assumption | rfl) (by first | assumption | rfl) rfl ?_ | refine w_gi (j := 5) rfl rfl (by first | assumption | rfl) (by first | assumption | rfl) rfl r8 ?_
  refine w_bi (j := 6) (a := nI 6) rfl rfl (by decide) ?_
  refine w_neN (j := 7) rfl rfl (by omega) (by omega) (fun _ => ?_) (fun c => absurd c (fun c => by omega))
  refine w_al (j := 14) rfl rfl rfl ?_
  first | refine w_gr (j := 15) rfl rfl (by first | assumption | rfl) (by first | assumption | rfl) rfl ?_ | refine w_gi (j := 15) rfl rfl (by first | assumption | rfl) (by first | assumption | rfl) rfl r5 ?_
  refine w_neM (j := 16) rfl rfl (by omega) (fun c => absurd c (fun c => by omega)) (fun _ => ?_)
  refine w_al (j := 17) rfl rfl rfl ?_
  first | refine w_dupr (j := 18) rfl rfl ?_ | refine w_dupi (j := 18) rfl rfl ?_
  first | refine w_gr (j := 19) rfl rfl (by first | assumption | rfl) (by first | assumption | rfl) rfl ?_ | refine w_gi (j := 19) rfl rfl (by first | assumption | rfl) (by first | assumption | rfl) rfl r8 ?_
  refine w_ic (n := 1) (j := 20) rfl rfl ?_
  first | refine w_add0 (j := 21) rfl rfl ?_ | refine w_addN (j := 21) rfl rfl ?_ | refine w_add (j := 21) rfl rfl ?_
  refine w_pf (j := 22) rfl rfl (by first | assumption | rfl) (by first | assumption | rfl) rfl ?_
  refine w_al (j := 23) rfl rfl rfl ?_
  first | refine w_gr (j := 24) rfl rfl (by first | assumption | rfl) (by first | assumption | rfl) rfl ?_ | refine w_gi (j := 24) rfl rfl (by first | assumption | rfl) (by first | assumption | rfl) rfl u5 ?_
  refine w_neM (j := 25) rfl rfl (by omega) (fun c => absurd c (fun c => by omega)) (fun _ => ?_)
  refine w_ic (n := 1) (j := 26) rfl rfl ?_
  refine w_go rfl ?_
  refine w_irB rfl (by first | exact Or.inl rfl | exact Or.inr rfl | exact px_b01 _) ?_
  exact ⟨_, _, rfl, rfl, px_f1.rf.up (by omega), r.O rfl (by omega)⟩
theorem sp_183x (r : px_mr h tx n p 0 fp 6) : px_PI 2 183 [.ref 100] h (fun v h1 => v = px_b false ∧ px_f1 h h1 ∧ px_mr h1 tx n p 3 (nI p) 6) := by
  have r4 := r.2.2.1
  have r5 := r.2.2.2.2.1
  have r8 := r.2.2.2.2.2.2.2.1
  refine px_M (M := mt_183) (ops := mo_183) tb_183 rfl rfl rfl rfl rfl ?_
  refine w_al (j := 1) rfl rfl rfl ?_
  first | refine w_gr (j := 2) rfl rfl (by first | assumption | rfl) (by first | assumption | rfl) rfl ?_ | refine w_gi (j := 2) rfl rfl (by first | assumption | rfl) (by first | assumption | rfl) rfl r5 ?_
  refine w_neM (j := 3) rfl rfl (by omega) (fun c => absurd c (fun c => by omega)) (fun _ => ?_)
  refine w_al (j := 4) rfl rfl rfl ?_
  first | refine w_gr (j := 5) rfl rfl (by first | assumption | rfl) (by first | assumption | rfl) rfl ?_ | refine w_gi (j := 5) rfl rfl (by first | assumption | rfl) (by first | assumption | rfl) rfl r8 ?_
  refine w_bi (j := 6) (a := nI 6) rfl rfl (by decide) ?_
  refine w_neN (j := 7) rfl rfl (by omega) (by omega) (fun c => absurd c (fun z => z rfl)) (fun _ => ?_)
  refine w_al (j := 8) rfl rfl rfl ?_
  refine w_ic (n := 3) (j := 9) rfl rfl ?_
  refine w_al (j := 10) rfl rfl rfl ?_
  first | refine w_gr (j := 11) rfl rfl (by first | assumption | rfl) (by first | assumption | rfl) rfl ?_ | refine w_gi (j := 11) rfl rfl (by first | assumption | rfl) (by first | assumption | rfl) rfl r4 ?_
  refine w_cvPU (j := 12) rfl rfl rfl rfl (by first | assumption | rfl) rfl rfl (sp_162 (kd := 3) (by decide) r) rfl ?_
  rintro h1 ⟨u1, u2⟩
  rw [if_pos rfl, if_pos rfl] at u2
  have u5 := u2.2.2.2.2.1
  refine w_go rfl ?_
  refine w_al (j := 23) rfl rfl rfl ?_
  first | refine w_gr (j := 24) rfl rfl (by first | assumption | rfl) (by first | assumption | rfl) rfl ?_ | refine w_gi (j := 24) rfl rfl (by first | assumption | rfl) (by first | assumption | rfl) rfl u5 ?_
  refine w_neM (j := 25) rfl rfl (by omega) (fun _ => ?_) (fun c => absurd c (by decide))
  refine w_ic (n := 0) (j := 28) rfl rfl ?_
  refine w_irB rfl (by first | exact Or.inl rfl | exact Or.inr rfl | exact px_b01 _) ?_
  exact ⟨_, _, rfl, rfl, u1, u2⟩
-- the names that the law knows
def gx_N (k : Nat) : List Nat := [[102, 97, 100, 101], [109, 97, 116, 101, 115], [102, 101, 108, 116], [115, 116, 114, 101, 110, 103, 116, 104], [112, 105, 116, 99, 104], [97, 103, 101], [98, 97, 121], [121, 101, 97, 114]].getD k []
theorem gw6_n0 : gx_w6 (gx_N 0) 6 1 4 5 0 0 := by unfold gx_w6; decide
theorem gw6_n1 : gx_w6 (gx_N 1) 13 1 20 5 19 0 := by unfold gx_w6; decide
theorem gw6_n2 : gx_w6 (gx_N 2) 6 5 12 20 0 0 := by unfold gx_w6; decide
theorem gw6_n4 : gx_w6 (gx_N 4) 16 9 20 3 8 0 := by unfold gx_w6; decide
theorem gw6_n5 : gx_w6 (gx_N 5) 1 7 5 0 0 0 := by unfold gx_w6; decide
theorem gw6_n6 : gx_w6 (gx_N 6) 2 1 25 0 0 0 := by unfold gx_w6; decide
theorem gw6_n7 : gx_w6 (gx_N 7) 25 5 1 18 0 0 := by unfold gx_w6; decide
theorem sp_186 {s : Nat} (hs : gx_sk tx n s = s) (r : px_mr h tx n s 0 fp o) : px_PI 6 186 [.ref 100] h (fun v h1 => px_f1 h h1 ∧ ((∃ k, k < 8 ∧ v = nI k ∧ gx_is tx s (gx_lt tx n s) (gx_N k) ∧ px_mr h1 tx n (gx_lt tx n s) 0 fp o) ∨ (v = -1 ∧ (∀ k, k < 8 → ¬ gx_is tx s (gx_lt tx n s) (gx_N k)) ∧ px_mr h1 tx n s 0 fp o))) := by
  refine px_M (M := mt_186) (ops := mo_186) tb_186 rfl rfl rfl rfl rfl ?_
  refine w_al (j := 1) rfl rfl rfl ?_
  refine w_bi (j := 2) (a := nI 6) rfl rfl (by decide) ?_
  refine w_ic (n := 1) (j := 3) rfl rfl ?_
  refine w_ic (n := 4) (j := 4) rfl rfl ?_
  refine w_ic (n := 5) (j := 5) rfl rfl ?_
  refine w_ic (n := 0) (j := 6) rfl rfl ?_
  refine w_ic (n := 0) (j := 7) rfl rfl ?_
  refine w_cvPI (j := 8) rfl rfl rfl rfl (by first | assumption | rfl) rfl rfl (sp_170 gw6_n0 r) rfl ?_
  rintro v h1 ⟨z, z1, z2, f0, r0⟩
  rw [hs] at z2 r0
  subst z1
  refine w_eqB (j := 9) rfl rfl (fun c0 => ?_) (fun c0 => ?_)
  rotate_left
  ·
    refine w_ic (n := 0) (j := 10) rfl rfl ?_
    refine w_ir rfl ?_
    rw [if_pos c0] at r0
    exact ⟨_, _, rfl, f0, Or.inl ⟨0, by decide, rfl, z2.mp c0, r0⟩⟩
  rw [c0, if_neg (show ¬ false = true by decide)] at r0
  have n0 : ¬ gx_is tx s (gx_lt tx n s) (gx_N 0) := fun q => by rw [z2.mpr q] at c0; cases c0
  refine w_al (j := 12) rfl rfl rfl ?_
  refine w_bi (j := 13) (a := nI 13) rfl rfl (by decide) ?_
  refine w_ic (n := 1) (j := 14) rfl rfl ?_
  refine w_bi (j := 15) (a := nI 20) rfl rfl (by decide) ?_
  refine w_ic (n := 5) (j := 16) rfl rfl ?_
  refine w_bi (j := 17) (a := nI 19) rfl rfl (by decide) ?_
  refine w_ic (n := 0) (j := 18) rfl rfl ?_
  refine w_cvPI (j := 19) rfl rfl rfl rfl (by first | assumption | rfl) rfl rfl (sp_170 gw6_n1 r0) rfl ?_
  rintro v h2 ⟨z, z1, z2, f1, r1⟩
  rw [hs] at z2 r1
  subst z1
  refine w_eqB (j := 20) rfl rfl (fun c1 => ?_) (fun c1 => ?_)
  rotate_left
  ·
    refine w_ic (n := 1) (j := 21) rfl rfl ?_
    refine w_ir rfl ?_
    rw [if_pos c1] at r1
    exact ⟨_, _, rfl, (f0).tr f1, Or.inl ⟨1, by decide, rfl, z2.mp c1, r1⟩⟩
  rw [c1, if_neg (show ¬ false = true by decide)] at r1
  have n1 : ¬ gx_is tx s (gx_lt tx n s) (gx_N 1) := fun q => by rw [z2.mpr q] at c1; cases c1
  refine w_al (j := 23) rfl rfl rfl ?_
  refine w_bi (j := 24) (a := nI 6) rfl rfl (by decide) ?_
  refine w_ic (n := 5) (j := 25) rfl rfl ?_
  refine w_bi (j := 26) (a := nI 12) rfl rfl (by decide) ?_
  refine w_bi (j := 27) (a := nI 20) rfl rfl (by decide) ?_
  refine w_ic (n := 0) (j := 28) rfl rfl ?_
  refine w_ic (n := 0) (j := 29) rfl rfl ?_
  refine w_cvPI (j := 30) rfl rfl rfl rfl (by first | assumption | rfl) rfl rfl (sp_170 gw6_n2 r1) rfl ?_
  rintro v h3 ⟨z, z1, z2, f2, r2⟩
  rw [hs] at z2 r2
  subst z1
  refine w_eqB (j := 31) rfl rfl (fun c2 => ?_) (fun c2 => ?_)
  rotate_left
  ·
    refine w_ic (n := 2) (j := 32) rfl rfl ?_
    refine w_ir rfl ?_
    rw [if_pos c2] at r2
    exact ⟨_, _, rfl, ((f0).tr f1).tr f2, Or.inl ⟨2, by decide, rfl, z2.mp c2, r2⟩⟩
  rw [c2, if_neg (show ¬ false = true by decide)] at r2
  have n2 : ¬ gx_is tx s (gx_lt tx n s) (gx_N 2) := fun q => by rw [z2.mpr q] at c2; cases c2
  refine w_al (j := 34) rfl rfl rfl ?_
  refine w_cvPI (j := 35) rfl rfl rfl rfl (by first | assumption | rfl) rfl rfl (sp_187 r2) rfl ?_
  rintro v h4 ⟨z, z1, z2, f3, r3⟩
  rw [hs] at z2 r3
  subst z1
  refine w_eqB (j := 36) rfl rfl (fun c3 => ?_) (fun c3 => ?_)
  rotate_left
  ·
    refine w_ic (n := 3) (j := 37) rfl rfl ?_
    refine w_ir rfl ?_
    rw [if_pos c3] at r3
    exact ⟨_, _, rfl, (((f0).tr f1).tr f2).tr f3, Or.inl ⟨3, by decide, rfl, z2.mp c3, r3⟩⟩
  rw [c3, if_neg (show ¬ false = true by decide)] at r3
  have n3 : ¬ gx_is tx s (gx_lt tx n s) (gx_N 3) := fun q => by rw [z2.mpr q] at c3; cases c3
  refine w_al (j := 39) rfl rfl rfl ?_
  refine w_bi (j := 40) (a := nI 16) rfl rfl (by decide) ?_
  refine w_bi (j := 41) (a := nI 9) rfl rfl (by decide) ?_
  refine w_bi (j := 42) (a := nI 20) rfl rfl (by decide) ?_
  refine w_ic (n := 3) (j := 43) rfl rfl ?_
  refine w_bi (j := 44) (a := nI 8) rfl rfl (by decide) ?_
  refine w_ic (n := 0) (j := 45) rfl rfl ?_
  refine w_cvPI (j := 46) rfl rfl rfl rfl (by first | assumption | rfl) rfl rfl (sp_170 gw6_n4 r3) rfl ?_
  rintro v h5 ⟨z, z1, z2, f4, r4⟩
  rw [hs] at z2 r4
  subst z1
  refine w_eqB (j := 47) rfl rfl (fun c4 => ?_) (fun c4 => ?_)
  rotate_left
  ·
    refine w_ic (n := 4) (j := 48) rfl rfl ?_
    refine w_ir rfl ?_
    rw [if_pos c4] at r4
    exact ⟨_, _, rfl, ((((f0).tr f1).tr f2).tr f3).tr f4, Or.inl ⟨4, by decide, rfl, z2.mp c4, r4⟩⟩
  rw [c4, if_neg (show ¬ false = true by decide)] at r4
  have n4 : ¬ gx_is tx s (gx_lt tx n s) (gx_N 4) := fun q => by rw [z2.mpr q] at c4; cases c4
  refine w_al (j := 50) rfl rfl rfl ?_
  refine w_ic (n := 1) (j := 51) rfl rfl ?_
  refine w_bi (j := 52) (a := nI 7) rfl rfl (by decide) ?_
  refine w_ic (n := 5) (j := 53) rfl rfl ?_
  refine w_ic (n := 0) (j := 54) rfl rfl ?_
  refine w_ic (n := 0) (j := 55) rfl rfl ?_
  refine w_ic (n := 0) (j := 56) rfl rfl ?_
  refine w_cvPI (j := 57) rfl rfl rfl rfl (by first | assumption | rfl) rfl rfl (sp_170 gw6_n5 r4) rfl ?_
  rintro v h6 ⟨z, z1, z2, f5, r5⟩
  rw [hs] at z2 r5
  subst z1
  refine w_eqB (j := 58) rfl rfl (fun c5 => ?_) (fun c5 => ?_)
  rotate_left
  ·
    refine w_ic (n := 5) (j := 59) rfl rfl ?_
    refine w_ir rfl ?_
    rw [if_pos c5] at r5
    exact ⟨_, _, rfl, (((((f0).tr f1).tr f2).tr f3).tr f4).tr f5, Or.inl ⟨5, by decide, rfl, z2.mp c5, r5⟩⟩
  rw [c5, if_neg (show ¬ false = true by decide)] at r5
  have n5 : ¬ gx_is tx s (gx_lt tx n s) (gx_N 5) := fun q => by rw [z2.mpr q] at c5; cases c5
  refine w_al (j := 61) rfl rfl rfl ?_
  refine w_ic (n := 2) (j := 62) rfl rfl ?_
  refine w_ic (n := 1) (j := 63) rfl rfl ?_
  refine w_bi (j := 64) (a := nI 25) rfl rfl (by decide) ?_
  refine w_ic (n := 0) (j := 65) rfl rfl ?_
  refine w_ic (n := 0) (j := 66) rfl rfl ?_
  refine w_ic (n := 0) (j := 67) rfl rfl ?_
  refine w_cvPI (j := 68) rfl rfl rfl rfl (by first | assumption | rfl) rfl rfl (sp_170 gw6_n6 r5) rfl ?_
  rintro v h7 ⟨z, z1, z2, f6, r6⟩
  rw [hs] at z2 r6
  subst z1
  refine w_eqB (j := 69) rfl rfl (fun c6 => ?_) (fun c6 => ?_)
  rotate_left
  ·
    refine w_bi (j := 70) (a := nI 6) rfl rfl (by decide) ?_
    refine w_ir rfl ?_
    rw [if_pos c6] at r6
    exact ⟨_, _, rfl, ((((((f0).tr f1).tr f2).tr f3).tr f4).tr f5).tr f6, Or.inl ⟨6, by decide, rfl, z2.mp c6, r6⟩⟩
  rw [c6, if_neg (show ¬ false = true by decide)] at r6
  have n6 : ¬ gx_is tx s (gx_lt tx n s) (gx_N 6) := fun q => by rw [z2.mpr q] at c6; cases c6
  refine w_al (j := 72) rfl rfl rfl ?_
  refine w_bi (j := 73) (a := nI 25) rfl rfl (by decide) ?_
  refine w_ic (n := 5) (j := 74) rfl rfl ?_
  refine w_ic (n := 1) (j := 75) rfl rfl ?_
  refine w_bi (j := 76) (a := nI 18) rfl rfl (by decide) ?_
  refine w_ic (n := 0) (j := 77) rfl rfl ?_
  refine w_ic (n := 0) (j := 78) rfl rfl ?_
  refine w_cvPI (j := 79) rfl rfl rfl rfl (by first | assumption | rfl) rfl rfl (sp_170 gw6_n7 r6) rfl ?_
  rintro v h8 ⟨z, z1, z2, f7, r7⟩
  rw [hs] at z2 r7
  subst z1
  refine w_eqB (j := 80) rfl rfl (fun c7 => ?_) (fun c7 => ?_)
  rotate_left
  ·
    refine w_bi (j := 81) (a := nI 7) rfl rfl (by decide) ?_
    refine w_go rfl ?_
    refine w_ir rfl ?_
    rw [if_pos c7] at r7
    exact ⟨_, _, rfl, (((((((f0).tr f1).tr f2).tr f3).tr f4).tr f5).tr f6).tr f7, Or.inl ⟨7, by decide, rfl, z2.mp c7, r7⟩⟩
  rw [c7, if_neg (show ¬ false = true by decide)] at r7
  have n7 : ¬ gx_is tx s (gx_lt tx n s) (gx_N 7) := fun q => by rw [z2.mpr q] at c7; cases c7
  refine w_im (j := 83) rfl rfl ?_
  refine w_ir rfl ?_
  refine ⟨_, _, rfl, (((((((f0).tr f1).tr f2).tr f3).tr f4).tr f5).tr f6).tr f7, Or.inr ⟨rfl, fun k hk => ?_, r7⟩⟩
  rcases (show k = 0 ∨ k = 1 ∨ k = 2 ∨ k = 3 ∨ k = 4 ∨ k = 5 ∨ k = 6 ∨ k = 7 by omega) with rfl | rfl | rfl | rfl | rfl | rfl | rfl | rfl
  · exact n0
  · exact n1
  · exact n2
  · exact n3
  · exact n4
  · exact n5
  · exact n6
  · exact n7
end LM
