abbrev gw_bay : List Nat := [98, 97, 121]
abbrev gw_cry : List Nat := [99, 114, 121]
abbrev gw_term : List Nat := [116, 101, 114, 109]
abbrev gw_felt : List Nat := [102, 101, 108, 116]
abbrev gw_path : List Nat := [112, 97, 116, 104]
def gx_W (k : Nat) : List Nat := [gw_bay, gw_cry, gw_term, gw_felt, gw_path].getD k []
theorem gx_is_u {tx : Nat → Nat} {s e : Nat} {w w' : List Nat} (a : gx_is tx s e w) (b : gx_is tx s e w') : w = w' := by
  have hl : w.length = w'.length := a.1.symm.trans b.1
  refine List.ext_getElem? (fun i => ?_)
  by_cases hi : i < w.length
  · have h1 := a.2 i hi
    have h2 := b.2 i (by omega)
    rw [h1] at h2
    rw [List.getD_eq_getElem?_getD, List.getD_eq_getElem?_getD, List.getElem?_eq_getElem hi, List.getElem?_eq_getElem (show i < w'.length by omega)] at h2
    rw [List.getElem?_eq_getElem hi, List.getElem?_eq_getElem (show i < w'.length by omega)]
    exact congrArg some h2
  · rw [List.getElem?_eq_none (by omega), List.getElem?_eq_none (by omega)]
theorem gx_W_u {tx : Nat → Nat} {s e k j : Nat} (hk : k < 5) (hj : j < 5) (a : gx_is tx s e (gx_W k)) (b : gx_is tx s e (gx_W j)) : k = j := by
  have e1 := gx_is_u a b
  have : ∀ k, k < 5 → ∀ j, j < 5 → gx_W k = gx_W j → k = j := by decide
  exact this k hk j hj e1
def gx_u (st : Nat → Nat → Nat) (i j v : Nat) : Nat → Nat → Nat := fun i' j' => if i' = i ∧ j' = j then v else st i' j'
theorem gx_u_at {st : Nat → Nat → Nat} {i j v : Nat} : gx_u st i j v i j = v := if_pos ⟨rfl, rfl⟩
theorem gx_u_ne {st : Nat → Nat → Nat} {i j v i' j' : Nat} (h : i' ≠ i ∨ j' ≠ j) : gx_u st i j v i' j' = st i' j' := if_neg (by omega)
def gx_ws (st : Nat → Nat → Nat) : Prop := st 0 0 ≤ 6 ∧ st 0 1 ≤ 8 ∧ 1 ≤ st 0 2 ∧ st 0 2 ≤ 40 ∧ st 0 3 ≤ 9 ∧ (∀ k, k < st 0 0 → st 1 k ≤ 20 ∧ 1 ≤ st 2 k ∧ st 2 k ≤ 4) ∧ (∀ k, k < st 0 1 → st 3 k ≤ 60 ∧ 1 ≤ st 4 k ∧ st 4 k ≤ 99) ∧ ∀ a b, a < 6 → b < 6 → st (5 + a) b ≤ 40
def gx_ms (h : ix_H) (st : Nat → Nat → Nat) : Prop := (∀ i, i < 4 → h 103 i = nI (st 0 i)) ∧ (∀ k, k < st 0 0 → h (106 + k) 0 = nI (st 1 k) ∧ h (106 + k) 1 = nI (st 2 k)) ∧ (∀ k, k < st 0 1 → h (120 + k) 0 = nI (st 3 k) ∧ h (120 + k) 1 = nI (st 4 k)) ∧ ∀ a b, a < 6 → b < 6 → h (138 + a) b = nI (st (5 + a) b)
theorem gx_ms.of {h h' : ix_H} {st : Nat → Nat → Nat} (e : ∀ a, 103 ≤ a → a ≤ 143 → h' a = h a) (w : gx_ws st) (x : gx_ms h st) : gx_ms h' st := by
  obtain ⟨x1, x2, x3, x4⟩ := x
  have w1 := w.1
  have w2 := w.2.1
  refine ⟨fun i hi => by rw [e 103 (by omega) (by omega)]; exact x1 i hi, fun k hk => by rw [e (106 + k) (by omega) (by omega)]; exact x2 k hk, fun k hk => by rw [e (120 + k) (by omega) (by omega)]; exact x3 k hk, fun a b ha hb => by rw [e (138 + a) (by omega) (by omega)]; exact x4 a b ha hb⟩
def gx_mS (h : ix_H) (tx : Nat → Nat) (n s c : Nat) (st : Nat → Nat → Nat) : Prop := px_mr h tx n s 0 (-1) 0 ∧ h 100 7 = nI c ∧ gx_ms h st
def gF (h h' : ix_H) : Prop := (∀ a, a ≠ 100 → ¬ (a = 103 ∨ (105 ≤ a ∧ a ≤ 111) ∨ (119 ≤ a ∧ a ≤ 127) ∨ (137 ≤ a ∧ a ≤ 143)) → h' a = h a) ∧ ∀ j, 8 < j ∨ j ≤ 3 → h' 100 j = h 100 j
theorem gF.rf {h : ix_H} : gF h h := ⟨fun _ _ _ => rfl, fun _ _ => rfl⟩
theorem gF.tr {h h1 h2 : ix_H} (a : gF h h1) (b : gF h1 h2) : gF h h2 := ⟨fun q q1 q2 => (b.1 q q1 q2).trans (a.1 q q1 q2), fun j hj => (b.2 j hj).trans (a.2 j hj)⟩
theorem px_f1.gF {h h' : ix_H} (f : px_f1 h h') : gF h h' := ⟨fun a ha _ => f.1 a ha, fun j hj => f.2 j (by omega) (by omega) (by omega) (by omega)⟩
theorem gF.up {h h1 : ix_H} {a j : Nat} {v : Int32} (f : gF h h1) (ha : (a = 100 ∧ (j = 4 ∨ j = 5 ∨ j = 6 ∨ j = 7 ∨ j = 8)) ∨ a = 103 ∨ (105 ≤ a ∧ a ≤ 111) ∨ (119 ≤ a ∧ a ≤ 127) ∨ (137 ≤ a ∧ a ≤ 143)) : gF h (ix_up h1 a j v) := by
  refine f.tr ⟨fun q q1 q2 => ix_up_ne (by omega), fun i hi => ?_⟩
  by_cases e : a = 100
  · subst e; exact px_up_nk (by omega)
  · exact px_up_na (fun z => e z.symm)
section GO
variable {h : ix_H} {tx : Nat → Nat} {n p f o : Nat} {fp : Int32}
theorem gw6_bay : gx_w6 (gx_W 0) 2 1 25 0 0 0 := by unfold gx_w6; decide
theorem gw6_cry : gx_w6 (gx_W 1) 3 18 25 0 0 0 := by unfold gx_w6; decide
theorem gw6_term : gx_w6 (gx_W 2) 20 5 18 13 0 0 := by unfold gx_w6; decide
theorem gw6_felt : gx_w6 (gx_W 3) 6 5 12 20 0 0 := by unfold gx_w6; decide
theorem gw6_path : gx_w6 (gx_W 4) 16 1 20 8 0 0 := by unfold gx_w6; decide
theorem sp_175 {s : Nat} (hs : gx_sk tx n s = s) (r : px_mr h tx n s 0 fp o) : px_PI 5 175 [.ref 100] h (fun v h1 => ((∃ k, k < 5 ∧ v = nI k ∧ gx_is tx s (gx_lt tx n s) (gx_W k)) ∨ (v = -1 ∧ ∀ k, k < 5 → ¬ gx_is tx s (gx_lt tx n s) (gx_W k))) ∧ px_f1 h h1 ∧ px_mr h1 tx n s 0 fp o) := by
  refine px_M (M := mt_175) (ops := mo_175) tb_175 rfl rfl rfl rfl rfl ?_
  refine w_al (j := 1) rfl rfl rfl ?_
  refine w_ic (n := 2) (j := 2) rfl rfl ?_
  refine w_ic (n := 1) (j := 3) rfl rfl ?_
  refine w_bi (j := 4) (a := nI 25) rfl rfl (by decide) ?_
  refine w_ic (n := 0) (j := 5) rfl rfl ?_
  refine w_ic (n := 0) (j := 6) rfl rfl ?_
  refine w_ic (n := 0) (j := 7) rfl rfl ?_
  refine w_cvPI (j := 8) rfl rfl rfl rfl (by first | assumption | rfl) rfl rfl (sp_168 gw6_bay r) rfl ?_
  rintro v h1 ⟨⟨z, z1, z2⟩, f1, r1⟩
  rw [hs] at z2 r1
  subst z1
  refine w_eqB (j := 9) rfl rfl (fun c0 => ?_) (fun c0 => ?_)
  rotate_left
  ·
    refine w_ic (n := 0) (j := 10) rfl rfl ?_
    refine w_ir rfl ?_
    exact ⟨_, _, rfl, Or.inl ⟨0, by decide, rfl, z2.mp c0⟩, f1, r1⟩
  have n0 : ¬ gx_is tx s (gx_lt tx n s) (gx_W 0) := fun q => by rw [z2.mpr q] at c0; cases c0
  refine w_al (j := 12) rfl rfl rfl ?_
  refine w_ic (n := 3) (j := 13) rfl rfl ?_
  refine w_bi (j := 14) (a := nI 18) rfl rfl (by decide) ?_
  refine w_bi (j := 15) (a := nI 25) rfl rfl (by decide) ?_
  refine w_ic (n := 0) (j := 16) rfl rfl ?_
  refine w_ic (n := 0) (j := 17) rfl rfl ?_
  refine w_ic (n := 0) (j := 18) rfl rfl ?_
  refine w_cvPI (j := 19) rfl rfl rfl rfl (by first | assumption | rfl) rfl rfl (sp_168 gw6_cry r1) rfl ?_
  rintro v h2 ⟨⟨z, z1, z2⟩, f2, r2⟩
  rw [hs] at z2 r2
  subst z1
  refine w_eqB (j := 20) rfl rfl (fun c1 => ?_) (fun c1 => ?_)
  rotate_left
  ·
    refine w_ic (n := 1) (j := 21) rfl rfl ?_
    refine w_ir rfl ?_
    exact ⟨_, _, rfl, Or.inl ⟨1, by decide, rfl, z2.mp c1⟩, f1.tr f2, r2⟩
  have n1 : ¬ gx_is tx s (gx_lt tx n s) (gx_W 1) := fun q => by rw [z2.mpr q] at c1; cases c1
  refine w_al (j := 23) rfl rfl rfl ?_
  refine w_bi (j := 24) (a := nI 20) rfl rfl (by decide) ?_
  refine w_ic (n := 5) (j := 25) rfl rfl ?_
  refine w_bi (j := 26) (a := nI 18) rfl rfl (by decide) ?_
  refine w_bi (j := 27) (a := nI 13) rfl rfl (by decide) ?_
  refine w_ic (n := 0) (j := 28) rfl rfl ?_
  refine w_ic (n := 0) (j := 29) rfl rfl ?_
  refine w_cvPI (j := 30) rfl rfl rfl rfl (by first | assumption | rfl) rfl rfl (sp_168 gw6_term r2) rfl ?_
  rintro v h3 ⟨⟨z, z1, z2⟩, f3, r3⟩
  rw [hs] at z2 r3
  subst z1
  refine w_eqB (j := 31) rfl rfl (fun c2 => ?_) (fun c2 => ?_)
  rotate_left
  ·
    refine w_ic (n := 2) (j := 32) rfl rfl ?_
    refine w_ir rfl ?_
    exact ⟨_, _, rfl, Or.inl ⟨2, by decide, rfl, z2.mp c2⟩, (f1.tr f2).tr f3, r3⟩
  have n2 : ¬ gx_is tx s (gx_lt tx n s) (gx_W 2) := fun q => by rw [z2.mpr q] at c2; cases c2
  refine w_al (j := 34) rfl rfl rfl ?_
  refine w_bi (j := 35) (a := nI 6) rfl rfl (by decide) ?_
  refine w_ic (n := 5) (j := 36) rfl rfl ?_
  refine w_bi (j := 37) (a := nI 12) rfl rfl (by decide) ?_
  refine w_bi (j := 38) (a := nI 20) rfl rfl (by decide) ?_
  refine w_ic (n := 0) (j := 39) rfl rfl ?_
  refine w_ic (n := 0) (j := 40) rfl rfl ?_
  refine w_cvPI (j := 41) rfl rfl rfl rfl (by first | assumption | rfl) rfl rfl (sp_168 gw6_felt r3) rfl ?_
  rintro v h4 ⟨⟨z, z1, z2⟩, f4, r4⟩
  rw [hs] at z2 r4
  subst z1
  refine w_eqB (j := 42) rfl rfl (fun c3 => ?_) (fun c3 => ?_)
  rotate_left
  ·
    refine w_ic (n := 3) (j := 43) rfl rfl ?_
    refine w_ir rfl ?_
    exact ⟨_, _, rfl, Or.inl ⟨3, by decide, rfl, z2.mp c3⟩, ((f1.tr f2).tr f3).tr f4, r4⟩
  have n3 : ¬ gx_is tx s (gx_lt tx n s) (gx_W 3) := fun q => by rw [z2.mpr q] at c3; cases c3
  refine w_al (j := 45) rfl rfl rfl ?_
  refine w_bi (j := 46) (a := nI 16) rfl rfl (by decide) ?_
  refine w_ic (n := 1) (j := 47) rfl rfl ?_
  refine w_bi (j := 48) (a := nI 20) rfl rfl (by decide) ?_
  refine w_bi (j := 49) (a := nI 8) rfl rfl (by decide) ?_
  refine w_ic (n := 0) (j := 50) rfl rfl ?_
  refine w_ic (n := 0) (j := 51) rfl rfl ?_
  refine w_cvPI (j := 52) rfl rfl rfl rfl (by first | assumption | rfl) rfl rfl (sp_168 gw6_path r4) rfl ?_
  rintro v h5 ⟨⟨z, z1, z2⟩, f5, r5⟩
  rw [hs] at z2 r5
  subst z1
  refine w_eqB (j := 53) rfl rfl (fun c4 => ?_) (fun c4 => ?_)
  rotate_left
  ·
    refine w_ic (n := 4) (j := 54) rfl rfl ?_
    refine w_go rfl ?_
    refine w_ir rfl ?_
    exact ⟨_, _, rfl, Or.inl ⟨4, by decide, rfl, z2.mp c4⟩, (((f1.tr f2).tr f3).tr f4).tr f5, r5⟩
  have n4 : ¬ gx_is tx s (gx_lt tx n s) (gx_W 4) := fun q => by rw [z2.mpr q] at c4; cases c4
  refine w_im (j := 56) rfl rfl ?_
  refine w_ir rfl ?_
  refine ⟨_, _, rfl, Or.inr ⟨rfl, fun k hk => ?_⟩, (((f1.tr f2).tr f3).tr f4).tr f5, r5⟩
  rcases (show k = 0 ∨ k = 1 ∨ k = 2 ∨ k = 3 ∨ k = 4 by omega) with rfl | rfl | rfl | rfl | rfl
  · exact n0
  · exact n1
  · exact n2
  · exact n3
  · exact n4
-- a clause that has a fault
def gE (tx : Nat → Nat) (n c : Nat) (st : Nat → Nat → Nat) (s K PL : Nat) : Prop := ∀ h, gx_mS h tx n s c st → px_PU 6 176 [.ref 100] h (fun h' => gF h h' ∧ ∃ p, px_mr h' tx n p K (nI PL) 0)
-- a clause that is good up to its last sign
def gD (tx : Nat → Nat) (n c : Nat) (st : Nat → Nat → Nat) (s : Nat) (st1 : Nat → Nat → Nat) (p1 : Nat) : Prop := ∀ h Q, gx_mS h tx n s c st → (∀ h' g1 g2 g3 g4 g5, gF h h' → gx_mS h' tx n p1 (c + 1) st1 → px_R px_E 5 mo_176 [] 204 [.ref 100, g1, g2, g3, g4, g5] [] h' 0 Q) → px_R px_E 5 mo_176 [] 0 [.ref 100, .null, .null, .null, .null, .null] [] h 0 Q
theorem gE_open {c : Nat} {st : Nat → Nat → Nat} {s K PL : Nat} (H : ∀ h, gx_mS h tx n s c st → px_R px_E 5 mo_176 [] 0 [.ref 100, .null, .null, .null, .null, .null] [] h 0 (fun r => ∃ h', r = (.inl none, h', 0) ∧ gF h h' ∧ ∃ p, px_mr h' tx n p K (nI PL) 0)) : gE tx n c st s K PL := by
  intro h S
  refine px_M (M := mt_176) (ops := mo_176) tb_176 rfl rfl rfl rfl rfl ?_
  exact H h S
theorem gE_word {c : Nat} {st : Nat → Nat → Nat} {s : Nat} (hs : gx_sk tx n s = s) (hw : ∀ k, k < 5 → ¬ gx_is tx s (gx_lt tx n s) (gx_W k)) : gE tx n c st s 1 s := by
  refine gE_open (fun h S => ?_)
  obtain ⟨r, c7, ms⟩ := S
  refine w_al (j := 1) rfl rfl rfl ?_
  refine w_cvPI (j := 2) rfl rfl rfl rfl (by first | assumption | rfl) rfl rfl (sp_175 hs r) rfl ?_
  rintro v h1 ⟨z, f1, r1⟩
  rcases z with ⟨k, hk, -, z⟩ | ⟨z, -⟩
  · exact absurd z (hw k hk)
  subst z
  have r4 := r1.2.2.1
  refine w_is (j := 3) rfl rfl rfl ?_
  refine w_il (j := 4) rfl rfl rfl ?_
  refine w_im (j := 5) rfl rfl ?_
  refine w_ne (j := 6) rfl rfl (fun c => absurd c (fun z => z rfl)) (fun _ => ?_)
  refine w_al (j := 7) rfl rfl rfl ?_
  refine w_ic (n := 1) (j := 8) rfl rfl ?_
  refine w_al (j := 9) rfl rfl rfl ?_
  first | refine w_gr (j := 10) rfl rfl (by first | assumption | rfl) (by first | assumption | rfl) rfl ?_ | refine w_gi (j := 10) rfl rfl (by first | assumption | rfl) (by first | assumption | rfl) rfl r4 ?_
  refine w_cvPU (j := 11) rfl rfl rfl rfl (by first | assumption | rfl) rfl rfl (sp_162 (kd := 1) (by decide) r1) rfl ?_
  rintro h2 ⟨f2, r2⟩
  rw [if_pos rfl, if_pos rfl] at r2
  have r5 := r2.2.2.2.2.1
  refine w_go rfl ?_
  refine w_al (j := 39) rfl rfl rfl ?_
  first | refine w_gr (j := 40) rfl rfl (by first | assumption | rfl) (by first | assumption | rfl) rfl ?_ | refine w_gi (j := 40) rfl rfl (by first | assumption | rfl) (by first | assumption | rfl) rfl r5 ?_
  refine w_eqM (j := 41) rfl rfl (by omega) (fun c => absurd c (fun c => by omega)) (fun _ => ?_)
  refine w_rt rfl ?_
  exact ⟨_, rfl, (f1.tr f2).gF, _, r2⟩
theorem gE_many {c kd : Nat} {st : Nat → Nat → Nat} {s : Nat} (hs : gx_sk tx n s = s) (hk : kd < 5) (hw : gx_is tx s (gx_lt tx n s) (gx_W kd)) (hc : c ≤ 60) (ws : gx_ws st) (hm : c = 60 ∨ (kd = 0 ∧ st 0 0 = 6) ∨ (kd = 1 ∧ st 0 1 = 8)) : gE tx n c st s 3 s := by
  refine gE_open (fun h S => ?_)
  obtain ⟨r, c7, ms⟩ := S
  have w1 := ws.1
  have w2 := ws.2.1
  refine w_al (j := 1) rfl rfl rfl ?_
  refine w_cvPI (j := 2) rfl rfl rfl rfl (by first | assumption | rfl) rfl rfl (sp_175 hs r) rfl ?_
  rintro v h1 ⟨z, f1, r1⟩
  rcases z with ⟨k, hk', zv, z⟩ | ⟨-, z⟩
  rotate_left
  · exact absurd hw (z kd hk)
  obtain rfl := gx_W_u hk' hk z hw
  subst zv
  have r4 := r1.2.2.1
  have c7' : h1 100 7 = nI c := by rw [f1.2 7 (by decide) (by decide) (by decide) (by decide)]; exact c7
  have m0 : h1 103 0 = nI (st 0 0) := by rw [f1.1 103 (by decide)]; exact ms.1 0 (by decide)
  have m1 : h1 103 1 = nI (st 0 1) := by rw [f1.1 103 (by decide)]; exact ms.1 1 (by decide)
  have fin : px_R px_E 5 mo_176 [] 33 [.ref 100, .int (nI k), .null, .null, .null, .null] [] h1 0 (fun r => ∃ h', r = (.inl none, h', 0) ∧ gF h h' ∧ ∃ p, px_mr h' tx n p 3 (nI s) 0) := by
    refine w_al (j := 34) rfl rfl rfl ?_
    refine w_ic (n := 3) (j := 35) rfl rfl ?_
    refine w_al (j := 36) rfl rfl rfl ?_
    first | refine w_gr (j := 37) rfl rfl (by first | assumption | rfl) (by first | assumption | rfl) rfl ?_ | refine w_gi (j := 37) rfl rfl (by first | assumption | rfl) (by first | assumption | rfl) rfl r4 ?_
    refine w_cvPU (j := 38) rfl rfl rfl rfl (by first | assumption | rfl) rfl rfl (sp_162 (kd := 3) (by decide) r1) rfl ?_
    rintro h2 ⟨f2, r2⟩
    rw [if_pos rfl, if_pos rfl] at r2
    have r5 := r2.2.2.2.2.1
    refine w_al (j := 39) rfl rfl rfl ?_
    first | refine w_gr (j := 40) rfl rfl (by first | assumption | rfl) (by first | assumption | rfl) rfl ?_ | refine w_gi (j := 40) rfl rfl (by first | assumption | rfl) (by first | assumption | rfl) rfl r5 ?_
    refine w_eqM (j := 41) rfl rfl (by omega) (fun c => absurd c (fun c => by omega)) (fun _ => ?_)
    refine w_rt rfl ?_
    exact ⟨_, rfl, (f1.tr f2).gF, _, r2⟩
  refine w_is (j := 3) rfl rfl rfl ?_
  refine w_il (j := 4) rfl rfl rfl ?_
  refine w_im (j := 5) rfl rfl ?_
  refine w_ne (j := 6) rfl rfl (fun _ => ?_) (fun c => absurd c (fun z => px_nm1 (by omega) z))
  refine w_al (j := 13) rfl rfl rfl ?_
  first | refine w_gr (j := 14) rfl rfl (by first | assumption | rfl) (by first | assumption | rfl) rfl ?_ | refine w_gi (j := 14) rfl rfl (by first | assumption | rfl) (by first | assumption | rfl) rfl c7' ?_
  refine w_bi (j := 15) (a := nI 60) rfl rfl (by decide) ?_
  refine w_eqN (j := 16) rfl rfl (by omega) (by omega) (fun d => ?_) (fun d => ?_)
  · exact fin
  refine w_il (j := 17) rfl rfl rfl ?_
  refine w_neM (j := 18) rfl rfl (by omega) (fun d0 => ?_) (fun d0 => ?_)
  rotate_left
  ·
    refine w_al (j := 19) rfl rfl rfl ?_
    first | refine w_gr (j := 20) rfl rfl (by first | assumption | rfl) (by first | assumption | rfl) rfl ?_ | refine w_gi (j := 20) rfl rfl (by first | assumption | rfl) (by first | assumption | rfl) rfl rfl ?_
    refine w_ic (n := 0) (j := 21) rfl rfl ?_
    refine w_ial (j := 22) rfl rfl (by first | assumption | rfl) rfl (by omega) rfl m0 ?_
    refine w_bi (j := 23) (a := nI 6) rfl rfl (by decide) ?_
    refine w_eqN (j := 24) rfl rfl (by omega) (by omega) (fun _ => ?_) (fun c => absurd c (fun c => by omega))
    exact fin
  refine w_il (j := 25) rfl rfl rfl ?_
  refine w_ic (n := 1) (j := 26) rfl rfl ?_
  refine w_neN (j := 27) rfl rfl (by omega) (by omega) (fun c => absurd c (fun c => by omega)) (fun _ => ?_)
  refine w_al (j := 28) rfl rfl rfl ?_
  first | refine w_gr (j := 29) rfl rfl (by first | assumption | rfl) (by first | assumption | rfl) rfl ?_ | refine w_gi (j := 29) rfl rfl (by first | assumption | rfl) (by first | assumption | rfl) rfl rfl ?_
  refine w_ic (n := 1) (j := 30) rfl rfl ?_
  refine w_ial (j := 31) rfl rfl (by first | assumption | rfl) rfl (by omega) rfl m1 ?_
  refine w_bi (j := 32) (a := nI 8) rfl rfl (by decide) ?_
  refine w_neN (j := 33) rfl rfl (by omega) (by omega) (fun c => absurd c (fun c => by omega)) (fun _ => ?_)
  exact fin
end GO
