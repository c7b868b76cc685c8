section LM
variable {h : ix_H} {tx : Nat → Nat} {n p f o : Nat} {fp : Int32}
theorem lGr {h h1 : ix_H} {p' : Nat} {cs : List (Nat × Nat)} {r : ix_R} (f : lF h h1) (q : ∃ h', r = (.inl none, h', 0) ∧ lF h1 h' ∧ lMS h' tx n p' o cs) : ∃ h', r = (.inl none, h', 0) ∧ lF h h' ∧ lMS h' tx n p' o cs := by
  obtain ⟨h', e, q1, q2⟩ := q
  exact ⟨h', e, f.tr q1, q2⟩
def lPB (D : Nat) (tx : Nat → Nat) (n o p K PL : Nat) : Prop := ∀ h cs g, lMS h tx n p o cs → px_R px_E D mo_185 [] 2 [.ref 100, g] [] h 0 (fun r => ∃ h', r = (.inl none, h', 0) ∧ lF h h' ∧ lMF h' tx n o K PL)
def lPG (D : Nat) (tx : Nat → Nat) (n o p p' : Nat) (ds : List (Nat × Nat)) : Prop := (ds.length + p ≤ p' ∧ p' ≤ n) ∧ ∀ h cs g, lMS h tx n p o cs → px_R px_E D mo_185 [] 2 [.ref 100, g] [] h 0 (fun r => ∃ h', r = (.inl none, h', 0) ∧ lF h h' ∧ lMS h' tx n p' o (cs ++ ds))
theorem mP_sign {D w : Nat} {cs : List (Nat × Nat)} {g : Value} {Q : ix_R → Prop} (hD : 3 ≤ D) (S : lMS h tx n p o cs) (hs : gx_sk tx n p < n) (hw : (tx (gx_sk tx n p) = 42 ∧ w = 4) ∨ (tx (gx_sk tx n p) = 47 ∧ w = 5) ∨ (tx (gx_sk tx n p) = 37 ∧ w = 6)) (H : ∀ h1, lF h h1 → lMS h1 tx n (gx_sk tx n p + 1) o cs → px_R px_E D mo_185 [] 29 [.ref 100, .int (nI w)] [] h1 0 Q) : px_R px_E D mo_185 [] 2 [.ref 100, g] [] h 0 Q := by
  obtain ⟨n1, s1, s2, L, p0, s3, s4, r⟩ := S
  have r5 := r.2.2.2.2.1
  have ss := gx_sk_sk (tx := tx) s2
  have sl := gx_sk_le (tx := tx) s2
  have w9 : w < 9 := by omega
  have fin : ∀ h1, px_f1 h h1 → px_mr h1 tx n (gx_sk tx n p + 1) 0 (-1) o → px_R px_E D mo_185 [] 29 [.ref 100, .int (nI w)] [] h1 0 Q := fun h1 f1 r1 => H h1 f1.lF ⟨n1, by omega, by omega, L.f1 f1, _, by omega, rfl, r1⟩
  clear H
  refine w_al (j := 3) rfl rfl rfl ?_
  first | refine w_gr (j := 4) rfl rfl (by first | assumption | rfl) (by first | assumption | rfl) rfl ?_ | refine w_gi (j := 4) rfl rfl (by first | assumption | rfl) (by first | assumption | rfl) rfl r5 ?_
  refine w_neM (j := 5) rfl rfl (by omega) (fun c => absurd c (fun c => by omega)) (fun _ => ?_)
  refine w_al (j := 6) rfl rfl rfl ?_
  refine w_bi (j := 7) (a := nI 42) rfl rfl (by decide) ?_
  refine w_cvPI (j := 8) rfl rfl rfl rfl (by first | assumption | rfl) rfl rfl (sp_172 (c := 42) (by decide) r) (Nat.ble_eq.mpr (by omega)) ?_
  rintro v h1 ⟨v0, f0, r0⟩
  rw [s4] at v0 r0
  subst v0
  by_cases c0 : tx (gx_sk tx n p) = 42
  · have ew : w = 4 := by omega
    subst ew
    rw [if_pos ⟨hs, c0⟩] at r0
    rw [decide_eq_true ⟨hs, c0⟩]
    refine w_eqB (j := 9) rfl rfl (fun c => absurd c (by simp)) (fun _ => ?_)
    refine w_ic (n := 4) (j := 10) rfl rfl ?_
    refine w_go rfl ?_
    refine w_is (j := 25) rfl rfl rfl ?_
    refine w_il (j := 26) rfl rfl rfl ?_
    refine w_im (j := 27) rfl rfl ?_
    refine w_ne (j := 28) rfl rfl (fun _ => ?_) (fun c => absurd c (fun z => px_nm1 (by omega) z))
    exact fin _ (f0) r0
  rw [if_neg (fun z => c0 z.2)] at r0
  rw [decide_eq_false (fun z => c0 z.2)]
  refine w_eqB (j := 9) rfl rfl (fun _ => ?_) (fun c => absurd c (by simp))
  refine w_al (j := 12) rfl rfl rfl ?_
  refine w_bi (j := 13) (a := nI 47) rfl rfl (by decide) ?_
  refine w_cvPI (j := 14) rfl rfl rfl rfl (by first | assumption | rfl) rfl rfl (sp_172 (c := 47) (by decide) r0) (Nat.ble_eq.mpr (by omega)) ?_
  rintro v h2 ⟨v1, f1, r1⟩
  rw [ss] at v1 r1
  subst v1
  by_cases c1 : tx (gx_sk tx n p) = 47
  · have ew : w = 5 := by omega
    subst ew
    rw [if_pos ⟨hs, c1⟩] at r1
    rw [decide_eq_true ⟨hs, c1⟩]
    refine w_eqB (j := 15) rfl rfl (fun c => absurd c (by simp)) (fun _ => ?_)
    refine w_ic (n := 5) (j := 16) rfl rfl ?_
    refine w_go rfl ?_
    refine w_is (j := 25) rfl rfl rfl ?_
    refine w_il (j := 26) rfl rfl rfl ?_
    refine w_im (j := 27) rfl rfl ?_
    refine w_ne (j := 28) rfl rfl (fun _ => ?_) (fun c => absurd c (fun z => px_nm1 (by omega) z))
    exact fin _ ((f0).tr f1) r1
  rw [if_neg (fun z => c1 z.2)] at r1
  rw [decide_eq_false (fun z => c1 z.2)]
  refine w_eqB (j := 15) rfl rfl (fun _ => ?_) (fun c => absurd c (by simp))
  refine w_al (j := 18) rfl rfl rfl ?_
  refine w_bi (j := 19) (a := nI 37) rfl rfl (by decide) ?_
  refine w_cvPI (j := 20) rfl rfl rfl rfl (by first | assumption | rfl) rfl rfl (sp_172 (c := 37) (by decide) r1) (Nat.ble_eq.mpr (by omega)) ?_
  rintro v h3 ⟨v2, f2, r2⟩
  rw [ss] at v2 r2
  subst v2
  have c2 : tx (gx_sk tx n p) = 37 := by omega
  have ew : w = 6 := by omega
  subst ew
  rw [if_pos ⟨hs, c2⟩] at r2
  rw [decide_eq_true ⟨hs, c2⟩]
  refine w_eqB (j := 21) rfl rfl (fun c => absurd c (by simp)) (fun _ => ?_)
  refine w_bi (j := 22) (a := nI 6) rfl rfl (by decide) ?_
  refine w_go rfl ?_
  refine w_is (j := 25) rfl rfl rfl ?_
  refine w_il (j := 26) rfl rfl rfl ?_
  refine w_im (j := 27) rfl rfl ?_
  refine w_ne (j := 28) rfl rfl (fun _ => ?_) (fun c => absurd c (fun z => px_nm1 (by omega) z))
  exact fin _ (((f0).tr f1).tr f2) r2
theorem lPG_end {D : Nat} (hp : p ≤ n) (hD : 3 ≤ D) (hn : ¬ (gx_sk tx n p < n ∧ tx (gx_sk tx n p) = 42) ∧ ¬ (gx_sk tx n p < n ∧ tx (gx_sk tx n p) = 47) ∧ ¬ (gx_sk tx n p < n ∧ tx (gx_sk tx n p) = 37)) : lPG D tx n o p (gx_sk tx n p) [] := by
  have sl := gx_sk_le (tx := tx) hp
  refine ⟨⟨by rw [List.length_nil]; omega, sl.2⟩, fun h cs g S => ?_⟩
  obtain ⟨n1, s1, s2, L, p0, s3, s4, r⟩ := S
  have r5 := r.2.2.2.2.1
  have ss := gx_sk_sk (tx := tx) s2
  refine w_al (j := 3) rfl rfl rfl ?_
  first | refine w_gr (j := 4) rfl rfl (by first | assumption | rfl) (by first | assumption | rfl) rfl ?_ | refine w_gi (j := 4) rfl rfl (by first | assumption | rfl) (by first | assumption | rfl) rfl r5 ?_
  refine w_neM (j := 5) rfl rfl (by omega) (fun c => absurd c (fun c => by omega)) (fun _ => ?_)
  refine w_al (j := 6) rfl rfl rfl ?_
  refine w_bi (j := 7) (a := nI 42) rfl rfl (by decide) ?_
  refine w_cvPI (j := 8) rfl rfl rfl rfl (by first | assumption | rfl) rfl rfl (sp_172 (c := 42) (by decide) r) (Nat.ble_eq.mpr (by omega)) ?_
  rintro v h1 ⟨v0, f0, r0⟩
  rw [s4, if_neg hn.1] at r0
  rw [s4, decide_eq_false hn.1] at v0
  subst v0
  refine w_eqB (j := 9) rfl rfl (fun _ => ?_) (fun c => absurd c (by simp))
  refine w_al (j := 12) rfl rfl rfl ?_
  refine w_bi (j := 13) (a := nI 47) rfl rfl (by decide) ?_
  refine w_cvPI (j := 14) rfl rfl rfl rfl (by first | assumption | rfl) rfl rfl (sp_172 (c := 47) (by decide) r0) (Nat.ble_eq.mpr (by omega)) ?_
  rintro v h2 ⟨v1, f1, r1⟩
  rw [ss, if_neg hn.2.1] at r1
  rw [ss, decide_eq_false hn.2.1] at v1
  subst v1
  refine w_eqB (j := 15) rfl rfl (fun _ => ?_) (fun c => absurd c (by simp))
  refine w_al (j := 18) rfl rfl rfl ?_
  refine w_bi (j := 19) (a := nI 37) rfl rfl (by decide) ?_
  refine w_cvPI (j := 20) rfl rfl rfl rfl (by first | assumption | rfl) rfl rfl (sp_172 (c := 37) (by decide) r1) (Nat.ble_eq.mpr (by omega)) ?_
  rintro v h3 ⟨v2, f2, r2⟩
  rw [ss, if_neg hn.2.2] at r2
  rw [ss, decide_eq_false hn.2.2] at v2
  subst v2
  refine w_eqB (j := 21) rfl rfl (fun _ => ?_) (fun c => absurd c (by simp))
  refine w_im (j := 24) rfl rfl ?_
  refine w_is (j := 25) rfl rfl rfl ?_
  refine w_il (j := 26) rfl rfl rfl ?_
  refine w_im (j := 27) rfl rfl ?_
  refine w_ne (j := 28) rfl rfl (fun c => absurd c (fun z => z rfl)) (fun _ => ?_)
  refine w_rt rfl ?_
  exact ⟨_, rfl, (((f0).tr f1).tr f2).lF, n1, by rw [List.append_nil]; omega, sl.2, by rw [List.append_nil]; exact L.f1 (((f0).tr f1).tr f2), _, sl.2, rfl, r2⟩
theorem mP_2f {D K PL : Nat} {g : Value} (hK : K ≠ 0) (F : lMF h tx n o K PL) : px_R px_E D mo_185 [] 2 [.ref 100, g] [] h 0 (fun r => ∃ h', r = (.inl none, h', 0) ∧ lF h h' ∧ lMF h' tx n o K PL) := by
  obtain ⟨p, r⟩ := F
  have r5 := r.2.2.2.2.1
  have f3 := r.2.2.2.2.2.1
  refine w_al (j := 3) rfl rfl rfl ?_
  first | refine w_gr (j := 4) rfl rfl (by first | assumption | rfl) (by first | assumption | rfl) rfl ?_ | refine w_gi (j := 4) rfl rfl (by first | assumption | rfl) (by first | assumption | rfl) rfl r5 ?_
  refine w_neM (j := 5) rfl rfl (by omega) (fun _ => ?_) (fun c => absurd c (fun c => by omega))
  refine w_rt rfl ?_
  exact ⟨_, rfl, lF.rf, _, r⟩
theorem lPB_u {D w K PL : Nat} (hD : 3 ≤ D) (hs : gx_sk tx n p < n) (hw : (tx (gx_sk tx n p) = 42 ∧ w = 4) ∨ (tx (gx_sk tx n p) = 47 ∧ w = 5) ∨ (tx (gx_sk tx n p) = 37 ∧ w = 6)) (hK : K ≠ 0) (Bd : lB 188 D tx n o (gx_sk tx n p + 1) K PL) : lPB D tx n o p K PL := by
  intro h cs g S
  refine mP_sign hD S hs hw (fun h1 F1 S1 => ?_)
  have B1 := Bd h1 cs S1
  refine w_al (j := 30) rfl rfl rfl ?_
  refine w_cvPU (j := 31) rfl rfl rfl rfl (by first | assumption | rfl) rfl rfl (B1) (Nat.ble_eq.mpr (by omega)) ?_
  rintro h2 ⟨F2, p2, r2⟩
  refine w_al (j := 32) rfl rfl rfl ?_
  refine w_il (j := 33) rfl rfl rfl ?_
  refine w_ic (n := 0) (j := 34) rfl rfl ?_
  refine w_cvU (j := 35) rfl rfl rfl rfl (by first | assumption | rfl) rfl rfl (sp_182x hK r2) (Nat.ble_eq.mpr (by omega)) ?_
  refine w_go rfl ?_
  exact px_mono (mP_2f hK ⟨p2, r2⟩) (fun r q => lBr (F1.tr F2) q)
theorem mP_step {D w p1 : Nat} {cs ds : List (Nat × Nat)} {g : Value} {Q : ix_R → Prop} (hD : 3 ≤ D) (S : lMS h tx n p o cs) (hs : gx_sk tx n p < n) (hw : (tx (gx_sk tx n p) = 42 ∧ w = 4) ∨ (tx (gx_sk tx n p) = 47 ∧ w = 5) ∨ (tx (gx_sk tx n p) = 37 ∧ w = 6)) (G : lG 188 D tx n o (gx_sk tx n p + 1) p1 ds) (H : ∀ h1, lF h h1 → lMS h1 tx n p1 o (cs ++ (ds ++ [(w, 0)])) → px_R px_E D mo_185 [] 2 [.ref 100, .int (nI w)] [] h1 0 Q) : px_R px_E D mo_185 [] 2 [.ref 100, g] [] h 0 Q := by
  have sl := gx_sk_le (tx := tx) S.2.2.1
  have S2 := S.2.1
  have g1 := G.1
  refine mP_sign hD S hs hw (fun h1 F1 S1 => ?_)
  have G1 := G.2 h1 cs S1
  refine w_al (j := 30) rfl rfl rfl ?_
  refine w_cvPU (j := 31) rfl rfl rfl rfl (by first | assumption | rfl) rfl rfl (G1) (Nat.ble_eq.mpr (by omega)) ?_
  rintro h2 ⟨F2, a1, a2, a3, L2, p0, b1, b2, r2⟩
  refine w_al (j := 32) rfl rfl rfl ?_
  refine w_il (j := 33) rfl rfl rfl ?_
  refine w_ic (n := 0) (j := 34) rfl rfl ?_
  refine w_cvPU (j := 35) rfl rfl rfl rfl (by first | assumption | rfl) rfl rfl (sp_182 (by omega) r2 L2) (Nat.ble_eq.mpr (by omega)) ?_
  rintro h4 ⟨x1, x2, x3⟩
  refine w_go rfl ?_
  have lc : (cs ++ (ds ++ [(w, 0)])).length = cs.length + (ds.length + 1) := by rw [List.length_append, List.length_append, List.length_singleton]
  refine H _ ((F1.tr F2).tr x1) ⟨a1, by omega, a3, ?_, p0, b1, b2, x2⟩
  rw [← List.append_assoc]
  exact x3
theorem lPB_s {D w p1 K PL : Nat} {ds : List (Nat × Nat)} (hD : 3 ≤ D) (hs : gx_sk tx n p < n) (hw : (tx (gx_sk tx n p) = 42 ∧ w = 4) ∨ (tx (gx_sk tx n p) = 47 ∧ w = 5) ∨ (tx (gx_sk tx n p) = 37 ∧ w = 6)) (G : lG 188 D tx n o (gx_sk tx n p + 1) p1 ds) (Bd : lPB D tx n o p1 K PL) : lPB D tx n o p K PL := by
  intro h cs g S
  refine mP_step hD S hs hw G (fun h1 F1 S1 => ?_)
  exact px_mono (Bd h1 _ _ S1) (fun r q => lBr F1 q)
theorem lPG_s {D w p1 p' : Nat} {ds ds' : List (Nat × Nat)} (hp : p ≤ n) (hD : 3 ≤ D) (hs : gx_sk tx n p < n) (hw : (tx (gx_sk tx n p) = 42 ∧ w = 4) ∨ (tx (gx_sk tx n p) = 47 ∧ w = 5) ∨ (tx (gx_sk tx n p) = 37 ∧ w = 6)) (G : lG 188 D tx n o (gx_sk tx n p + 1) p1 ds) (G' : lPG D tx n o p1 p' ds') : lPG D tx n o p p' (ds ++ [(w, 0)] ++ ds') := by
  have sl := gx_sk_le (tx := tx) hp
  have g1 := G.1
  have g2 := G'.1
  have ln : (ds ++ [(w, 0)] ++ ds').length = ds.length + 1 + ds'.length := by rw [List.length_append, List.length_append, List.length_singleton]
  refine ⟨⟨by omega, g2.2⟩, fun h cs g S => ?_⟩
  refine mP_step hD S hs hw G (fun h1 F1 S1 => ?_)
  have := G'.2 h1 _ (.int (nI w)) S1
  rw [List.append_assoc] at this
  exact px_mono this (fun r q => lGr F1 q)
theorem lP_b0 {D K PL : Nat} (hK : K ≠ 0) (Bd : lB 188 D tx n o p K PL) : lB 185 (D + 1) tx n o p K PL := by
  intro h cs S
  have B1 := Bd h cs S
  refine px_M (M := mt_185) (ops := mo_185) tb_185 rfl rfl rfl rfl rfl ?_
  refine w_al (j := 1) rfl rfl rfl ?_
  refine w_cvPU (j := 2) rfl rfl rfl rfl (by first | assumption | rfl) rfl rfl (B1) (Nat.ble_eq.mpr (by omega)) ?_
  rintro h2 ⟨F2, q⟩
  exact px_mono (mP_2f hK q) (fun r q => lBr F2 q)
theorem lP_b {D K PL p1 : Nat} {ds : List (Nat × Nat)} (G : lG 188 D tx n o p p1 ds) (Bd : lPB D tx n o p1 K PL) : lB 185 (D + 1) tx n o p K PL := by
  intro h cs S
  have G1 := G.2 h cs S
  refine px_M (M := mt_185) (ops := mo_185) tb_185 rfl rfl rfl rfl rfl ?_
  refine w_al (j := 1) rfl rfl rfl ?_
  refine w_cvPU (j := 2) rfl rfl rfl rfl (by first | assumption | rfl) rfl rfl (G1) (Nat.ble_eq.mpr (by omega)) ?_
  rintro h2 ⟨F2, q⟩
  exact px_mono (Bd h2 _ _ q) (fun r q => lBr F2 q)
theorem lP_g {D p1 p' : Nat} {ds ds' : List (Nat × Nat)} (G : lG 188 D tx n o p p1 ds) (G' : lPG D tx n o p1 p' ds') : lG 185 (D + 1) tx n o p p' (ds ++ ds') := by
  have g1 := G.1
  have g2 := G'.1
  refine ⟨⟨by rw [List.length_append]; omega, g2.2⟩, fun h cs S => ?_⟩
  have G1 := G.2 h cs S
  refine px_M (M := mt_185) (ops := mo_185) tb_185 rfl rfl rfl rfl rfl ?_
  refine w_al (j := 1) rfl rfl rfl ?_
  refine w_cvPU (j := 2) rfl rfl rfl rfl (by first | assumption | rfl) rfl rfl (G1) (Nat.ble_eq.mpr (by omega)) ?_
  rintro h2 ⟨F2, q⟩
  have := G'.2 h2 _ .null q
  rw [List.append_assoc] at this
  exact px_mono this (fun r q => lGr F2 q)
def lSB (D : Nat) (tx : Nat → Nat) (n o p K PL : Nat) : Prop := ∀ h cs g, lMS h tx n p o cs → px_R px_E D mo_184 [] 2 [.ref 100, g] [] h 0 (fun r => ∃ h', r = (.inl none, h', 0) ∧ lF h h' ∧ lMF h' tx n o K PL)
def lSG (D : Nat) (tx : Nat → Nat) (n o p p' : Nat) (ds : List (Nat × Nat)) : Prop := (ds.length + p ≤ p' ∧ p' ≤ n) ∧ ∀ h cs g, lMS h tx n p o cs → px_R px_E D mo_184 [] 2 [.ref 100, g] [] h 0 (fun r => ∃ h', r = (.inl none, h', 0) ∧ lF h h' ∧ lMS h' tx n p' o (cs ++ ds))
theorem mS_sign {D w : Nat} {cs : List (Nat × Nat)} {g : Value} {Q : ix_R → Prop} (hD : 3 ≤ D) (S : lMS h tx n p o cs) (hs : gx_sk tx n p < n) (hw : (tx (gx_sk tx n p) = 43 ∧ w = 2) ∨ (tx (gx_sk tx n p) = 45 ∧ w = 3)) (H : ∀ h1, lF h h1 → lMS h1 tx n (gx_sk tx n p + 1) o cs → px_R px_E D mo_184 [] 23 [.ref 100, .int (nI w)] [] h1 0 Q) : px_R px_E D mo_184 [] 2 [.ref 100, g] [] h 0 Q := by
  obtain ⟨n1, s1, s2, L, p0, s3, s4, r⟩ := S
  have r5 := r.2.2.2.2.1
  have ss := gx_sk_sk (tx := tx) s2
  have sl := gx_sk_le (tx := tx) s2
  have w9 : w < 9 := by omega
  have fin : ∀ h1, px_f1 h h1 → px_mr h1 tx n (gx_sk tx n p + 1) 0 (-1) o → px_R px_E D mo_184 [] 23 [.ref 100, .int (nI w)] [] h1 0 Q := fun h1 f1 r1 => H h1 f1.lF ⟨n1, by omega, by omega, L.f1 f1, _, by omega, rfl, r1⟩
  clear H
  refine w_al (j := 3) rfl rfl rfl ?_
  first | refine w_gr (j := 4) rfl rfl (by first | assumption | rfl) (by first | assumption | rfl) rfl ?_ | refine w_gi (j := 4) rfl rfl (by first | assumption | rfl) (by first | assumption | rfl) rfl r5 ?_
  refine w_neM (j := 5) rfl rfl (by omega) (fun c => absurd c (fun c => by omega)) (fun _ => ?_)
  refine w_al (j := 6) rfl rfl rfl ?_
  refine w_bi (j := 7) (a := nI 43) rfl rfl (by decide) ?_
  refine w_cvPI (j := 8) rfl rfl rfl rfl (by first | assumption | rfl) rfl rfl (sp_172 (c := 43) (by decide) r) (Nat.ble_eq.mpr (by omega)) ?_
  rintro v h1 ⟨v0, f0, r0⟩
  rw [s4] at v0 r0
  subst v0
  by_cases c0 : tx (gx_sk tx n p) = 43
  · have ew : w = 2 := by omega
    subst ew
    rw [if_pos ⟨hs, c0⟩] at r0
    rw [decide_eq_true ⟨hs, c0⟩]
    refine w_eqB (j := 9) rfl rfl (fun c => absurd c (by simp)) (fun _ => ?_)
    refine w_ic (n := 2) (j := 10) rfl rfl ?_
    refine w_go rfl ?_
    refine w_is (j := 19) rfl rfl rfl ?_
    refine w_il (j := 20) rfl rfl rfl ?_
    refine w_im (j := 21) rfl rfl ?_
    refine w_ne (j := 22) rfl rfl (fun _ => ?_) (fun c => absurd c (fun z => px_nm1 (by omega) z))
    exact fin _ (f0) r0
  rw [if_neg (fun z => c0 z.2)] at r0
  rw [decide_eq_false (fun z => c0 z.2)]
  refine w_eqB (j := 9) rfl rfl (fun _ => ?_) (fun c => absurd c (by simp))
  refine w_al (j := 12) rfl rfl rfl ?_
  refine w_bi (j := 13) (a := nI 45) rfl rfl (by decide) ?_
  refine w_cvPI (j := 14) rfl rfl rfl rfl (by first | assumption | rfl) rfl rfl (sp_172 (c := 45) (by decide) r0) (Nat.ble_eq.mpr (by omega)) ?_
  rintro v h2 ⟨v1, f1, r1⟩
  rw [ss] at v1 r1
  subst v1
  have c1 : tx (gx_sk tx n p) = 45 := by omega
  have ew : w = 3 := by omega
  subst ew
  rw [if_pos ⟨hs, c1⟩] at r1
  rw [decide_eq_true ⟨hs, c1⟩]
  refine w_eqB (j := 15) rfl rfl (fun c => absurd c (by simp)) (fun _ => ?_)
  refine w_ic (n := 3) (j := 16) rfl rfl ?_
  refine w_go rfl ?_
  refine w_is (j := 19) rfl rfl rfl ?_
  refine w_il (j := 20) rfl rfl rfl ?_
  refine w_im (j := 21) rfl rfl ?_
  refine w_ne (j := 22) rfl rfl (fun _ => ?_) (fun c => absurd c (fun z => px_nm1 (by omega) z))
  exact fin _ ((f0).tr f1) r1
theorem lSG_end {D : Nat} (hp : p ≤ n) (hD : 3 ≤ D) (hn : ¬ (gx_sk tx n p < n ∧ tx (gx_sk tx n p) = 43) ∧ ¬ (gx_sk tx n p < n ∧ tx (gx_sk tx n p) = 45)) : lSG D tx n o p (gx_sk tx n p) [] := by
  have sl := gx_sk_le (tx := tx) hp
  refine ⟨⟨by rw [List.length_nil]; omega, sl.2⟩, fun h cs g S => ?_⟩
  obtain ⟨n1, s1, s2, L, p0, s3, s4, r⟩ := S
  have r5 := r.2.2.2.2.1
  have ss := gx_sk_sk (tx := tx) s2
  refine w_al (j := 3) rfl rfl rfl ?_
  first | refine w_gr (j := 4) rfl rfl (by first | assumption | rfl) (by first | assumption | rfl) rfl ?_ | refine w_gi (j := 4) rfl rfl (by first | assumption | rfl) (by first | assumption | rfl) rfl r5 ?_
  refine w_neM (j := 5) rfl rfl (by omega) (fun c => absurd c (fun c => by omega)) (fun _ => ?_)
  refine w_al (j := 6) rfl rfl rfl ?_
  refine w_bi (j := 7) (a := nI 43) rfl rfl (by decide) ?_
  refine w_cvPI (j := 8) rfl rfl rfl rfl (by first | assumption | rfl) rfl rfl (sp_172 (c := 43) (by decide) r) (Nat.ble_eq.mpr (by omega)) ?_
  rintro v h1 ⟨v0, f0, r0⟩
  rw [s4, if_neg hn.1] at r0
  rw [s4, decide_eq_false hn.1] at v0
  subst v0
  refine w_eqB (j := 9) rfl rfl (fun _ => ?_) (fun c => absurd c (by simp))
  refine w_al (j := 12) rfl rfl rfl ?_
  refine w_bi (j := 13) (a := nI 45) rfl rfl (by decide) ?_
  refine w_cvPI (j := 14) rfl rfl rfl rfl (by first | assumption | rfl) rfl rfl (sp_172 (c := 45) (by decide) r0) (Nat.ble_eq.mpr (by omega)) ?_
  rintro v h2 ⟨v1, f1, r1⟩
  rw [ss, if_neg hn.2] at r1
  rw [ss, decide_eq_false hn.2] at v1
  subst v1
  refine w_eqB (j := 15) rfl rfl (fun _ => ?_) (fun c => absurd c (by simp))
  refine w_im (j := 18) rfl rfl ?_
  refine w_is (j := 19) rfl rfl rfl ?_
  refine w_il (j := 20) rfl rfl rfl ?_
  refine w_im (j := 21) rfl rfl ?_
  refine w_ne (j := 22) rfl rfl (fun c => absurd c (fun z => z rfl)) (fun _ => ?_)
  refine w_rt rfl ?_
  exact ⟨_, rfl, ((f0).tr f1).lF, n1, by rw [List.append_nil]; omega, sl.2, by rw [List.append_nil]; exact L.f1 ((f0).tr f1), _, sl.2, rfl, r1⟩
theorem mS_2f {D K PL : Nat} {g : Value} (hK : K ≠ 0) (F : lMF h tx n o K PL) : px_R px_E D mo_184 [] 2 [.ref 100, g] [] h 0 (fun r => ∃ h', r = (.inl none, h', 0) ∧ lF h h' ∧ lMF h' tx n o K PL) := by
  obtain ⟨p, r⟩ := F
  have r5 := r.2.2.2.2.1
  have f3 := r.2.2.2.2.2.1
  refine w_al (j := 3) rfl rfl rfl ?_
  first | refine w_gr (j := 4) rfl rfl (by first | assumption | rfl) (by first | assumption | rfl) rfl ?_ | refine w_gi (j := 4) rfl rfl (by first | assumption | rfl) (by first | assumption | rfl) rfl r5 ?_
  refine w_neM (j := 5) rfl rfl (by omega) (fun _ => ?_) (fun c => absurd c (fun c => by omega))
  refine w_rt rfl ?_
  exact ⟨_, rfl, lF.rf, _, r⟩
theorem lSB_u {D w K PL : Nat} (hD : 3 ≤ D) (hs : gx_sk tx n p < n) (hw : (tx (gx_sk tx n p) = 43 ∧ w = 2) ∨ (tx (gx_sk tx n p) = 45 ∧ w = 3)) (hK : K ≠ 0) (Bd : lB 185 D tx n o (gx_sk tx n p + 1) K PL) : lSB D tx n o p K PL := by
  intro h cs g S
  refine mS_sign hD S hs hw (fun h1 F1 S1 => ?_)
  have B1 := Bd h1 cs S1
  refine w_al (j := 24) rfl rfl rfl ?_
  refine w_cvPU (j := 25) rfl rfl rfl rfl (by first | assumption | rfl) rfl rfl (B1) (Nat.ble_eq.mpr (by omega)) ?_
  rintro h2 ⟨F2, p2, r2⟩
  refine w_al (j := 26) rfl rfl rfl ?_
  refine w_il (j := 27) rfl rfl rfl ?_
  refine w_ic (n := 0) (j := 28) rfl rfl ?_
  refine w_cvU (j := 29) rfl rfl rfl rfl (by first | assumption | rfl) rfl rfl (sp_182x hK r2) (Nat.ble_eq.mpr (by omega)) ?_
  refine w_go rfl ?_
  exact px_mono (mS_2f hK ⟨p2, r2⟩) (fun r q => lBr (F1.tr F2) q)
theorem mS_step {D w p1 : Nat} {cs ds : List (Nat × Nat)} {g : Value} {Q : ix_R → Prop} (hD : 3 ≤ D) (S : lMS h tx n p o cs) (hs : gx_sk tx n p < n) (hw : (tx (gx_sk tx n p) = 43 ∧ w = 2) ∨ (tx (gx_sk tx n p) = 45 ∧ w = 3)) (G : lG 185 D tx n o (gx_sk tx n p + 1) p1 ds) (H : ∀ h1, lF h h1 → lMS h1 tx n p1 o (cs ++ (ds ++ [(w, 0)])) → px_R px_E D mo_184 [] 2 [.ref 100, .int (nI w)] [] h1 0 Q) : px_R px_E D mo_184 [] 2 [.ref 100, g] [] h 0 Q := by
  have sl := gx_sk_le (tx := tx) S.2.2.1
  have S2 := S.2.1
  have g1 := G.1
  refine mS_sign hD S hs hw (fun h1 F1 S1 => ?_)
  have G1 := G.2 h1 cs S1
  refine w_al (j := 24) rfl rfl rfl ?_
  refine w_cvPU (j := 25) rfl rfl rfl rfl (by first | assumption | rfl) rfl rfl (G1) (Nat.ble_eq.mpr (by omega)) ?_
  rintro h2 ⟨F2, a1, a2, a3, L2, p0, b1, b2, r2⟩
  refine w_al (j := 26) rfl rfl rfl ?_
  refine w_il (j := 27) rfl rfl rfl ?_
  refine w_ic (n := 0) (j := 28) rfl rfl ?_
  refine w_cvPU (j := 29) rfl rfl rfl rfl (by first | assumption | rfl) rfl rfl (sp_182 (by omega) r2 L2) (Nat.ble_eq.mpr (by omega)) ?_
  rintro h4 ⟨x1, x2, x3⟩
  refine w_go rfl ?_
  have lc : (cs ++ (ds ++ [(w, 0)])).length = cs.length + (ds.length + 1) := by rw [List.length_append, List.length_append, List.length_singleton]
  refine H _ ((F1.tr F2).tr x1) ⟨a1, by omega, a3, ?_, p0, b1, b2, x2⟩
  rw [← List.append_assoc]
  exact x3
theorem lSB_s {D w p1 K PL : Nat} {ds : List (Nat × Nat)} (hD : 3 ≤ D) (hs : gx_sk tx n p < n) (hw : (tx (gx_sk tx n p) = 43 ∧ w = 2) ∨ (tx (gx_sk tx n p) = 45 ∧ w = 3)) (G : lG 185 D tx n o (gx_sk tx n p + 1) p1 ds) (Bd : lSB D tx n o p1 K PL) : lSB D tx n o p K PL := by
  intro h cs g S
  refine mS_step hD S hs hw G (fun h1 F1 S1 => ?_)
  exact px_mono (Bd h1 _ _ S1) (fun r q => lBr F1 q)
theorem lSG_s {D w p1 p' : Nat} {ds ds' : List (Nat × Nat)} (hp : p ≤ n) (hD : 3 ≤ D) (hs : gx_sk tx n p < n) (hw : (tx (gx_sk tx n p) = 43 ∧ w = 2) ∨ (tx (gx_sk tx n p) = 45 ∧ w = 3)) (G : lG 185 D tx n o (gx_sk tx n p + 1) p1 ds) (G' : lSG D tx n o p1 p' ds') : lSG D tx n o p p' (ds ++ [(w, 0)] ++ ds') := by
  have sl := gx_sk_le (tx := tx) hp
  have g1 := G.1
  have g2 := G'.1
  have ln : (ds ++ [(w, 0)] ++ ds').length = ds.length + 1 + ds'.length := by rw [List.length_append, List.length_append, List.length_singleton]
  refine ⟨⟨by omega, g2.2⟩, fun h cs g S => ?_⟩
  refine mS_step hD S hs hw G (fun h1 F1 S1 => ?_)
  have := G'.2 h1 _ (.int (nI w)) S1
  rw [List.append_assoc] at this
  exact px_mono this (fun r q => lGr F1 q)
theorem lS_b0 {D K PL : Nat} (hK : K ≠ 0) (Bd : lB 185 D tx n o p K PL) : lB 184 (D + 1) tx n o p K PL := by
  intro h cs S
  have B1 := Bd h cs S
  refine px_M (M := mt_184) (ops := mo_184) tb_184 rfl rfl rfl rfl rfl ?_
  refine w_al (j := 1) rfl rfl rfl ?_
  refine w_cvPU (j := 2) rfl rfl rfl rfl (by first | assumption | rfl) rfl rfl (B1) (Nat.ble_eq.mpr (by omega)) ?_
  rintro h2 ⟨F2, q⟩
  exact px_mono (mS_2f hK q) (fun r q => lBr F2 q)
theorem lS_b {D K PL p1 : Nat} {ds : List (Nat × Nat)} (G : lG 185 D tx n o p p1 ds) (Bd : lSB D tx n o p1 K PL) : lB 184 (D + 1) tx n o p K PL := by
  intro h cs S
  have G1 := G.2 h cs S
  refine px_M (M := mt_184) (ops := mo_184) tb_184 rfl rfl rfl rfl rfl ?_
  refine w_al (j := 1) rfl rfl rfl ?_
  refine w_cvPU (j := 2) rfl rfl rfl rfl (by first | assumption | rfl) rfl rfl (G1) (Nat.ble_eq.mpr (by omega)) ?_
  rintro h2 ⟨F2, q⟩
  exact px_mono (Bd h2 _ _ q) (fun r q => lBr F2 q)
theorem lS_g {D p1 p' : Nat} {ds ds' : List (Nat × Nat)} (G : lG 185 D tx n o p p1 ds) (G' : lSG D tx n o p1 p' ds') : lG 184 (D + 1) tx n o p p' (ds ++ ds') := by
  have g1 := G.1
  have g2 := G'.1
  refine ⟨⟨by rw [List.length_append]; omega, g2.2⟩, fun h cs S => ?_⟩
  have G1 := G.2 h cs S
  refine px_M (M := mt_184) (ops := mo_184) tb_184 rfl rfl rfl rfl rfl ?_
  refine w_al (j := 1) rfl rfl rfl ?_
  refine w_cvPU (j := 2) rfl rfl rfl rfl (by first | assumption | rfl) rfl rfl (G1) (Nat.ble_eq.mpr (by omega)) ?_
  rintro h2 ⟨F2, q⟩
  have := G'.2 h2 _ .null q
  rw [List.append_assoc] at this
  exact px_mono this (fun r q => lGr F2 q)
end LM
