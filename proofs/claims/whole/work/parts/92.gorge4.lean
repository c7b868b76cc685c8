def gcF (h h' : ix_H) : Prop := ∀ a, ¬ (a = 2 ∨ (22 ≤ a ∧ a ≤ 40)) → h' a = h a
theorem gcF.rf {h : ix_H} : gcF h h := fun _ _ => rfl
theorem gcF.tr {h h1 h2 : ix_H} (a : gcF h h1) (b : gcF h1 h2) : gcF h h2 := fun q hq => (b q hq).trans (a q hq)
theorem px_fr.gc {h h' : ix_H} (f : px_fr [2] h h') : gcF h h' := fun a ha => f a (by simp; omega)
theorem gcF.up {h h1 : ix_H} {a j : Nat} {v : Int32} (f : gcF h h1) (ha : a = 2 ∨ (22 ≤ a ∧ a ≤ 40)) : gcF h (ix_up h1 a j v) := f.tr (fun q hq => ix_up_ne (by omega))
def gx_cs (h : ix_H) (st : Nat → Nat → Nat) : Prop := (h 22 6 = nI (st 0 0) ∧ h 22 7 = nI (st 0 1) ∧ h 22 8 = nI (st 0 2) ∧ h 22 9 = nI (st 0 3)) ∧ (∀ k, k < st 0 0 → h 23 k = nI (st 1 k) ∧ h 24 k = nI (st 2 k)) ∧ (∀ k, k < st 0 1 → h 25 k = nI (st 3 k) ∧ h 26 k = nI (st 4 k)) ∧ ∀ a b, a < 6 → b < 6 → h (28 + a) b = nI (st (5 + a) b)
theorem gx_cs.of {h h' : ix_H} {st : Nat → Nat → Nat} (e : ∀ a, 22 ≤ a → a ≤ 33 → h' a = h a) (x : gx_cs h st) : gx_cs h' st := by
  obtain ⟨x1, x2, x3, x4⟩ := x
  unfold gx_cs
  rw [e 22 (by decide) (by decide), e 23 (by decide) (by decide), e 24 (by decide) (by decide), e 25 (by decide) (by decide), e 26 (by decide) (by decide)]
  exact ⟨x1, x2, x3, fun a b ha hb => by rw [e (28 + a) (by omega) (by omega)]; exact x4 a b ha hb⟩
def gx_gp (h : ix_H) : Prop := ∀ a b, a < 6 → b < 6 → ∃ q, q ≤ 40 ∧ h (28 + a) b = nI q
theorem gx_gp.of {h h' : ix_H} (e : ∀ a, 28 ≤ a → a ≤ 33 → h' a = h a) (x : gx_gp h) : gx_gp h' := fun a b ha hb => by rw [e (28 + a) (by omega) (by omega)]; exact x a b ha hb
theorem gx_cs.gp {h : ix_H} {st : Nat → Nat → Nat} (w : gx_ws st) (x : gx_cs h st) : gx_gp h := fun a b ha hb => ⟨_, w.2.2.2.2.2.2.2 a b ha hb, x.2.2.2 a b ha hb⟩
def gcB (tx : Nat → Nat) (n c : Nat) (st : Nat → Nat → Nat) (s : Nat) (h h' : ix_H) : Prop := gcF h h' ∧ ((∃ K PL, gE tx n c st s K PL ∧ px_rf h' tx n 0 K (nI PL) ∧ gx_gp h') ∨ ∃ st1 p1 pc1, c < 60 ∧ gx_ws st1 ∧ gD tx n c st s st1 p1 ∧ px_rd h' tx n p1 pc1 0 0 (-1) ∧ gx_cs h' st1)
theorem gcB.fr {tx : Nat → Nat} {n c : Nat} {st : Nat → Nat → Nat} {s : Nat} {h h1 h' : ix_H} (f : gcF h h1) (q : gcB tx n c st s h1 h') : gcB tx n c st s h h' := ⟨f.tr q.1, q.2⟩
theorem gcB.frR {tx : Nat → Nat} {n c : Nat} {st : Nat → Nat → Nat} {s : Nat} {h h1 : ix_H} {r : ix_R} (f : gcF h h1) (q : ∃ h', r = (.inl none, h', 0) ∧ gcB tx n c st s h1 h') : ∃ h', r = (.inl none, h', 0) ∧ gcB tx n c st s h h' := by
  obtain ⟨h', e, q⟩ := q
  exact ⟨h', e, q.fr f⟩
section GO
variable {h : ix_H} {tx : Nat → Nat} {n p pc o k : Nat} {pl : Int32}
theorem sp_21t : px_V 2 21 [.ref 2, .int (px_b true)] h none h := by
  refine px_M (M := mt_21) (ops := mo_21) tb_21 rfl rfl rfl rfl rfl ?_
  refine w_il (j := 1) rfl rfl rfl ?_
  refine w_neB (j := 2) rfl rfl (fun _ => ?_) (fun c => absurd c (by simp))
  refine w_rt rfl ?_
  rfl
theorem sp_21f (r : px_rd h tx n p pc o 0 (-1)) : px_PU 2 21 [.ref 2, .int (px_b false)] h (fun h1 => px_fr [2] h h1 ∧ px_rf h1 tx n o 3 (nI pc)) := by
  refine px_M (M := mt_21) (ops := mo_21) tb_21 rfl rfl rfl rfl rfl ?_
  refine w_il (j := 1) rfl rfl rfl ?_
  refine w_neB (j := 2) rfl rfl (fun c => absurd c (by simp)) (fun _ => ?_)
  refine w_al (j := 3) rfl rfl rfl ?_
  refine w_ic (n := 3) (j := 4) rfl rfl ?_
  refine w_cvPU (j := 5) rfl rfl rfl rfl (by first | assumption | rfl) rfl rfl (sp_59 (kd := 3) (by decide) r) rfl ?_
  rintro h1 ⟨u1, u2⟩
  refine w_rt rfl ?_
  exact ⟨_, rfl, u1, by decide, _, _, by simpa [gx_fk, gx_fp] using u2⟩
theorem sp_56z (r : px_rd h tx n p pc o 0 pl) : px_V 1 56 [.ref 2] h (some (.int (px_b false))) h := by
  have := sp_56 r
  rw [decide_eq_false (fun z => z rfl)] at this
  exact this
-- a number, good or not
theorem sp_64d {lo H : Nat} {hi : Int32} (hlo : lo ≤ 1000) (hh : ∀ v, v ≤ 1000000 → (nI v ≤ hi ↔ v < H)) (hH : H ≤ 2000) (r : px_rd h tx n p pc o 0 pl) : px_PI 3 64 [.ref 2, .int (nI lo), .int hi] h (fun v h1 => px_fr [2] h h1 ∧ ((gx_nk tx n lo H p = 0 ∧ v = nI (gx_nv tx n p) ∧ lo ≤ gx_nv tx n p ∧ gx_nv tx n p < H ∧ px_rd h1 tx n (gx_ne tx n p) (gx_sk tx n p) o 0 pl) ∨ (gx_nk tx n lo H p ≠ 0 ∧ (∃ q, q ≤ 1000000 ∧ v = nI q) ∧ px_rf h1 tx n o (gx_nk tx n lo H p) (nI (gx_sk tx n p))))) := by
  refine px_PIi (sp_64 hlo hh hH r) (fun v h1 q => ⟨q.2.1, ?_⟩)
  obtain ⟨q1, q2, q3⟩ := q
  by_cases hk : gx_nk tx n lo H p = 0
  · have nv := gx_nv41 hk
    rw [if_pos hk, if_pos hk] at q3
    exact Or.inl ⟨hk, by rw [q1, Nat.min_eq_left (by omega)], nv.1, nv.2, q3⟩
  · rw [if_neg hk, if_neg hk] at q3
    exact Or.inr ⟨hk, ⟨_, Nat.min_le_right _ _, q1⟩, hk, _, _, by simpa [gx_fk, gx_fp] using q3⟩
theorem gx_ws_b {st : Nat → Nat → Nat} {A V : Nat} (ws : gx_ws st) (nf : st 0 0 < 6) (hA : A ≤ 20) (hV : 1 ≤ V) (hV2 : V ≤ 4) : gx_ws (gx_u (gx_u (gx_u st 1 (st 0 0) A) 2 (st 0 0) V) 0 0 (st 0 0 + 1)) := by
  obtain ⟨w1, w2, w3, w4, w5, w6, w7, w8⟩ := ws
  have U0 : ∀ i, gx_u (gx_u (gx_u st 1 (st 0 0) A) 2 (st 0 0) V) 0 0 (st 0 0 + 1) 0 i = if i = 0 then st 0 0 + 1 else st 0 i := fun i => by
    by_cases e : i = 0
    · rw [if_pos e, e, gx_u_at]
    · rw [if_neg e, gx_u_ne (by omega), gx_u_ne (by omega), gx_u_ne (by omega)]
  have U1 : ∀ i k, 1 ≤ i → (i ≠ 1 ∧ i ≠ 2) ∨ k ≠ st 0 0 → gx_u (gx_u (gx_u st 1 (st 0 0) A) 2 (st 0 0) V) 0 0 (st 0 0 + 1) i k = st i k := fun i k hi hik => by
    rw [gx_u_ne (by omega), gx_u_ne (by omega), gx_u_ne (by omega)]
  have Ua : gx_u (gx_u (gx_u st 1 (st 0 0) A) 2 (st 0 0) V) 0 0 (st 0 0 + 1) 1 (st 0 0) = A := by rw [gx_u_ne (by omega), gx_u_ne (by omega), gx_u_at]
  have Uv : gx_u (gx_u (gx_u st 1 (st 0 0) A) 2 (st 0 0) V) 0 0 (st 0 0 + 1) 2 (st 0 0) = V := by rw [gx_u_ne (by omega), gx_u_at]
  unfold gx_ws
  generalize gx_u (gx_u (gx_u st 1 (st 0 0) A) 2 (st 0 0) V) 0 0 (st 0 0 + 1) = st1 at *
  rw [U0, U0, U0, U0]
  refine ⟨?_, ?_, ?_, ?_, ?_, fun k hk => ?_, fun k hk => ?_, fun a b ha hb => ?_⟩
  · rw [if_pos rfl]; omega
  · rw [if_neg (by decide)]; exact w2
  · rw [if_neg (by decide)]; exact w3
  · rw [if_neg (by decide)]; exact w4
  · rw [if_neg (by decide)]; exact w5
  · rw [if_pos rfl] at hk
    by_cases e : k = st 0 0
    · rw [e, Ua, Uv]; exact ⟨hA, hV, hV2⟩
    · rw [U1 1 k (by omega) (by omega), U1 2 k (by omega) (by omega)]; exact w6 k (by omega)
  · rw [if_neg (by decide)] at hk
    rw [U1 3 k (by omega) (by omega), U1 4 k (by omega) (by omega)]; exact w7 k hk
  · rw [U1 _ _ (by omega) (by omega)]; exact w8 a b ha hb
theorem gx_cs_b {h h1 : ix_H} {st : Nat → Nat → Nat} {A V : Nat} (cs : gx_cs h1 st) (e : h = ix_up (ix_up (ix_up h1 23 (st 0 0) (nI A)) 24 (st 0 0) (nI V)) 22 6 (nI (st 0 0 + 1))) : gx_cs h (gx_u (gx_u (gx_u st 1 (st 0 0) A) 2 (st 0 0) V) 0 0 (st 0 0 + 1)) := by
  obtain ⟨x1, x2, x3, x4⟩ := cs
  have U0 : ∀ i, gx_u (gx_u (gx_u st 1 (st 0 0) A) 2 (st 0 0) V) 0 0 (st 0 0 + 1) 0 i = if i = 0 then st 0 0 + 1 else st 0 i := fun i => by
    by_cases e : i = 0
    · rw [if_pos e, e, gx_u_at]
    · rw [if_neg e, gx_u_ne (by omega), gx_u_ne (by omega), gx_u_ne (by omega)]
  have U1 : ∀ i k, 1 ≤ i → (i ≠ 1 ∧ i ≠ 2) ∨ k ≠ st 0 0 → gx_u (gx_u (gx_u st 1 (st 0 0) A) 2 (st 0 0) V) 0 0 (st 0 0 + 1) i k = st i k := fun i k hi hik => by
    rw [gx_u_ne (by omega), gx_u_ne (by omega), gx_u_ne (by omega)]
  have Ua : gx_u (gx_u (gx_u st 1 (st 0 0) A) 2 (st 0 0) V) 0 0 (st 0 0 + 1) 1 (st 0 0) = A := by rw [gx_u_ne (by omega), gx_u_ne (by omega), gx_u_at]
  have Uv : gx_u (gx_u (gx_u st 1 (st 0 0) A) 2 (st 0 0) V) 0 0 (st 0 0 + 1) 2 (st 0 0) = V := by rw [gx_u_ne (by omega), gx_u_at]
  unfold gx_cs
  generalize gx_u (gx_u (gx_u st 1 (st 0 0) A) 2 (st 0 0) V) 0 0 (st 0 0 + 1) = st1 at *
  rw [U0, U0, U0, U0]
  have G22 : ∀ j, j ≠ 6 → h 22 j = h1 22 j := fun j hj => by rw [e, px_up_nk hj, px_up_na (by decide), px_up_na (by decide)]
  have Ga : ∀ a, a ≠ 22 → a ≠ 23 → a ≠ 24 → h a = h1 a := fun a z1 z2 z3 => by rw [e, ix_up_ne z1, ix_up_ne z3, ix_up_ne z2]
  have Gf : h 22 6 = nI (st 0 0 + 1) := by rw [e, px_up_at]
  have G1 : ∀ k, h 23 k = if k = st 0 0 then nI A else h1 23 k := fun k => by
    rw [e, px_up_na (by decide), px_up_na (by decide)]
    by_cases z : k = st 0 0
    · rw [if_pos z, z, px_up_at]
    · rw [if_neg z, px_up_nk z]
  have G2 : ∀ k, h 24 k = if k = st 0 0 then nI V else h1 24 k := fun k => by
    rw [e, px_up_na (by decide)]
    by_cases z : k = st 0 0
    · rw [if_pos z, z, px_up_at]
    · rw [if_neg z, px_up_nk z, px_up_na (by decide)]
  refine ⟨⟨?_, ?_, ?_, ?_⟩, fun k hk => ?_, fun k hk => ?_, fun a b ha hb => ?_⟩
  · rw [if_pos rfl]; exact Gf
  · rw [if_neg (by decide), G22 7 (by decide)]; exact x1.2.1
  · rw [if_neg (by decide), G22 8 (by decide)]; exact x1.2.2.1
  · rw [if_neg (by decide), G22 9 (by decide)]; exact x1.2.2.2
  · rw [if_pos rfl] at hk
    rw [G1, G2]
    by_cases e : k = st 0 0
    · rw [if_pos e, if_pos e, e, Ua, Uv]; exact ⟨rfl, rfl⟩
    · rw [if_neg e, if_neg e, U1 1 k (by omega) (by omega), U1 2 k (by omega) (by omega)]; exact x2 k (by omega)
  · rw [if_neg (by decide)] at hk
    rw [Ga 25 (by decide) (by decide) (by decide), Ga 26 (by decide) (by decide) (by decide), U1 3 k (by omega) (by omega), U1 4 k (by omega) (by omega)]; exact x3 k hk
  · rw [Ga _ (by omega) (by omega) (by omega), U1 _ _ (by omega) (by omega)]; exact x4 a b ha hb
theorem cb_22f {c s PL : Nat} {st : Nat → Nat → Nat} {g2 g3 g4 : Value} (r : px_rf h tx n 0 k (nI PL)) (gp : gx_gp h) (E : gE tx n c st s k PL) : px_R px_E 3 mo_22 [] 11 [.ref 22, .ref 2, g2, g3, g4] [] h 0 (fun r => ∃ h', r = (.inl none, h', 0) ∧ gcB tx n c st s h h') := by
  refine w_al (j := 12) rfl rfl rfl ?_
  refine w_ic (n := 0) (j := 13) rfl rfl ?_
  refine w_bi (j := 14) (a := nI 20) rfl rfl (by decide) ?_
  refine w_cvPI (j := 15) rfl rfl rfl rfl (by first | assumption | rfl) rfl rfl (sp_64f (lo := 0) (H := 21) (by decide) (px_hiN (a := 20) (by decide)) (by decide) r) rfl ?_
  rintro v h1 ⟨u1, u2, v', u3, u4⟩
  subst u4
  refine w_is (j := 16) rfl rfl rfl ?_
  refine w_al (j := 17) rfl rfl rfl ?_
  refine w_ic (n := 1) (j := 18) rfl rfl ?_
  refine w_ic (n := 4) (j := 19) rfl rfl ?_
  refine w_cvPI (j := 20) rfl rfl rfl rfl (by first | assumption | rfl) rfl rfl (sp_64f (lo := 1) (H := 5) (by decide) (px_hiN (a := 4) (by decide)) (by decide) u2) rfl ?_
  rintro v h2 ⟨y1, y2, v'', y3, y4⟩
  subst y4
  refine w_iS (j := 21) rfl rfl rfl ?_
  refine w_al (j := 22) rfl rfl rfl ?_
  refine w_cvI (j := 23) rfl rfl rfl rfl (by first | assumption | rfl) rfl rfl (sp_56f y2) rfl ?_
  refine w_neB (j := 24) rfl rfl (fun _ => ?_) (fun c => absurd c (by simp))
  refine w_rt rfl ?_
  exact ⟨_, rfl, u1.gc.tr y1.gc, Or.inl ⟨_, _, E, y2, gp.of (fun a a1 a2 => by rw [y1 a (by simp; omega), u1 a (by simp; omega)])⟩⟩
theorem sp_22 {c e s : Nat} {st : Nat → Nat → Nat} (ee : gx_lt tx n s = e) (hs : gx_sk tx n s = s) (hw : gx_is tx s (gx_lt tx n s) (gx_W 0)) (hc : c ≤ 60) (ws : gx_ws st) (r : px_rd h tx n e s 0 0 (-1)) (cs : gx_cs h st) : px_PU 4 22 [.ref 22, .ref 2, .int (px_b (decide (c = 60)))] h (gcB tx n c st s h) := by
  have w1 := ws.1
  have w2 := ws.2.1
  have x1 := cs.1
  have E3 : (c = 60 ∨ st 0 0 = 6) → gE tx n c st s 3 s := fun z => gE_many hs (kd := 0) (by decide) hw hc ws (by omega)
  have E1 : ∀ z : gx_nk tx n 0 21 e ≠ 0, c < 60 → st 0 0 < 6 → gE tx n c st s (gx_nk tx n 0 21 e) (gx_sk tx n e) := by rw [← ee]; exact fun z z1 z2 => gE_b1 hs hw z1 ws z2 z
  have E2 : gx_nk tx n 0 21 e = 0 → ∀ z : gx_nk tx n 1 5 (gx_ne tx n e) ≠ 0, c < 60 → st 0 0 < 6 → gE tx n c st s (gx_nk tx n 1 5 (gx_ne tx n e)) (gx_sk tx n (gx_ne tx n e)) := by rw [← ee]; exact fun z0 z z1 z2 => gE_b2 hs hw z1 ws z2 z0 z
  have D0 : gx_nk tx n 0 21 e = 0 → gx_nk tx n 1 5 (gx_ne tx n e) = 0 → c < 60 → st 0 0 < 6 → gD tx n c st s (gx_b tx n st e) (gx_ne tx n (gx_ne tx n e)) := by rw [← ee]; exact fun z0 z z1 z2 => gD_b hs hw z1 ws z2 z0 z
  clear hs hw ee
  have x11 := x1.1
  have full : c = 60 ∨ st 0 0 = 6 → ∀ g2 g3 g4 : Value, px_R px_E 3 mo_22 [] 9 [.ref 22, .ref 2, g2, g3, g4] [.ref 2] h 0 (fun r => ∃ h', r = (.inl none, h', 0) ∧ gcB tx n c st s h h') := fun z g2 g3 g4 => by
    refine w_ic (n := 0) (j := 10) rfl rfl ?_
    refine w_csPU (j := 11) rfl rfl rfl rfl rfl (sp_21f r) rfl ?_
    rintro h1 ⟨u1, u2⟩
    exact px_mono (cb_22f u2 ((cs.gp ws).of (fun a a1 a2 => u1 a (by simp; omega))) (E3 z)) (fun r q => gcB.frR u1.gc q)
  refine px_M (M := mt_22) (ops := mo_22) tb_22 rfl rfl rfl rfl rfl ?_
  refine w_al (j := 1) rfl rfl rfl ?_
  refine w_il (j := 2) rfl rfl rfl ?_
  refine w_neB (j := 3) rfl rfl (fun c0 => ?_) (fun c0 => ?_)
  · exact full (Or.inl (of_decide_eq_true c0)) _ _ _
  have c0 := of_decide_eq_false c0
  have c1 : c < 60 := by omega
  refine w_al (j := 4) rfl rfl rfl ?_
  first | refine w_gr (j := 5) rfl rfl (by first | assumption | rfl) (by first | assumption | rfl) rfl ?_ | refine w_gi (j := 5) rfl rfl (by first | assumption | rfl) (by first | assumption | rfl) rfl x11 ?_
  refine w_bi (j := 6) (a := nI 6) rfl rfl (by decide) ?_
  refine w_geN (j := 7) rfl rfl (by omega) (by omega) (fun c2 => ?_) (fun c2 => ?_)
  · exact full (Or.inr (by omega)) _ _ _
  refine w_ic (n := 1) (j := 8) rfl rfl ?_
  refine w_go rfl ?_
  refine w_csU (j := 11) rfl rfl rfl rfl rfl (sp_21t) rfl ?_
  refine w_al (j := 12) rfl rfl rfl ?_
  refine w_ic (n := 0) (j := 13) rfl rfl ?_
  refine w_bi (j := 14) (a := nI 20) rfl rfl (by decide) ?_
  refine w_cvPI (j := 15) rfl rfl rfl rfl (by first | assumption | rfl) rfl rfl (sp_64d (lo := 0) (H := 21) (by decide) (px_hiN (a := 20) (by decide)) (by decide) r) rfl ?_
  rintro v h1 ⟨u1, u2⟩
  have cs1 : gx_cs h1 st := cs.of (fun a a1 a2 => u1 a (by simp; omega))
  rcases u2 with ⟨k1, y1, l1, l2, r1⟩ | ⟨k1, ⟨q, -, y1⟩, r1⟩
  rotate_left
  · subst y1
    have E1 := E1 k1 c1 c2
    generalize gx_nk tx n 0 21 e = K at *
    generalize gx_sk tx n e = PL at *
    refine w_is (j := 16) rfl rfl rfl ?_
    refine w_al (j := 17) rfl rfl rfl ?_
    refine w_ic (n := 1) (j := 18) rfl rfl ?_
    refine w_ic (n := 4) (j := 19) rfl rfl ?_
    refine w_cvPI (j := 20) rfl rfl rfl rfl (by first | assumption | rfl) rfl rfl (sp_64f (lo := 1) (H := 5) (by decide) (px_hiN (a := 4) (by decide)) (by decide) r1) rfl ?_
    rintro v h2 ⟨z1, z2, v'', z3, z4⟩
    subst z4
    refine w_iS (j := 21) rfl rfl rfl ?_
    refine w_al (j := 22) rfl rfl rfl ?_
    refine w_cvI (j := 23) rfl rfl rfl rfl (by first | assumption | rfl) rfl rfl (sp_56f z2) rfl ?_
    refine w_neB (j := 24) rfl rfl (fun _ => ?_) (fun c => absurd c (by simp))
    refine w_rt rfl ?_
    exact ⟨_, rfl, u1.gc.tr z1.gc, Or.inl ⟨_, _, E1, z2, (cs1.gp ws).of (fun a a1 a2 => z1 a (by simp; omega))⟩⟩
  subst y1
  have E2 := E2 k1
  have D0 := D0 k1
  clear E1 k1
  unfold gx_b at D0
  generalize gx_nv tx n e = A at *
  generalize gx_ne tx n e = P1 at *
  refine w_is (j := 16) rfl rfl rfl ?_
  refine w_al (j := 17) rfl rfl rfl ?_
  refine w_ic (n := 1) (j := 18) rfl rfl ?_
  refine w_ic (n := 4) (j := 19) rfl rfl ?_
  refine w_cvPI (j := 20) rfl rfl rfl rfl (by first | assumption | rfl) rfl rfl (sp_64d (lo := 1) (H := 5) (by decide) (px_hiN (a := 4) (by decide)) (by decide) r1) rfl ?_
  rintro v h2 ⟨u2, u3⟩
  have cs2 : gx_cs h2 st := cs1.of (fun a a1 a2 => u2 a (by simp; omega))
  rcases u3 with ⟨k1, y1, l3, l4, r2⟩ | ⟨k1, ⟨q, -, y1⟩, r2⟩
  rotate_left
  · subst y1
    refine w_iS (j := 21) rfl rfl rfl ?_
    refine w_al (j := 22) rfl rfl rfl ?_
    refine w_cvI (j := 23) rfl rfl rfl rfl (by first | assumption | rfl) rfl rfl (sp_56f r2) rfl ?_
    refine w_neB (j := 24) rfl rfl (fun _ => ?_) (fun c => absurd c (by simp))
    refine w_rt rfl ?_
    exact ⟨_, rfl, u1.gc.tr u2.gc, Or.inl ⟨_, _, E2 k1 c1 c2, r2, cs2.gp ws⟩⟩
  subst y1
  have D0 := D0 k1 c1 c2
  clear E2 k1
  generalize gx_nv tx n P1 = V at *
  have x2 : h2 22 6 = nI (st 0 0) := cs2.1.1
  refine w_iS (j := 21) rfl rfl rfl ?_
  refine w_al (j := 22) rfl rfl rfl ?_
  refine w_cvI (j := 23) rfl rfl rfl rfl (by first | assumption | rfl) rfl rfl (sp_56z r2) rfl ?_
  refine w_neB (j := 24) rfl rfl (fun c => absurd c (by simp)) (fun _ => ?_)
  refine w_al (j := 25) rfl rfl rfl ?_
  first | refine w_gr (j := 26) rfl rfl (by first | assumption | rfl) (by first | assumption | rfl) rfl ?_ | refine w_gi (j := 26) rfl rfl (by first | assumption | rfl) (by first | assumption | rfl) rfl x2 ?_
  refine w_bi (j := 27) (a := nI 6) rfl rfl (by decide) ?_
  refine w_geN (j := 28) rfl rfl (by omega) (by omega) (fun c => absurd c (fun c => by omega)) (fun _ => ?_)
  refine w_al (j := 29) rfl rfl rfl ?_
  first | refine w_gr (j := 30) rfl rfl (by first | assumption | rfl) (by first | assumption | rfl) rfl ?_ | refine w_gi (j := 30) rfl rfl (by first | assumption | rfl) (by first | assumption | rfl) rfl rfl ?_
  refine w_al (j := 31) rfl rfl rfl ?_
  first | refine w_gr (j := 32) rfl rfl (by first | assumption | rfl) (by first | assumption | rfl) rfl ?_ | refine w_gi (j := 32) rfl rfl (by first | assumption | rfl) (by first | assumption | rfl) rfl x2 ?_
  refine w_il (j := 33) rfl rfl rfl ?_
  refine w_ias (j := 34) rfl rfl (by first | assumption | rfl) rfl (by omega) rfl ?_
  have x3 : ix_up h2 23 (st 0 0) (nI A) 22 6 = nI (st 0 0) := by rw [px_up_na (by decide)]; exact x2
  refine w_al (j := 35) rfl rfl rfl ?_
  first | refine w_gr (j := 36) rfl rfl (by first | assumption | rfl) (by first | assumption | rfl) rfl ?_ | refine w_gi (j := 36) rfl rfl (by first | assumption | rfl) (by first | assumption | rfl) rfl rfl ?_
  refine w_al (j := 37) rfl rfl rfl ?_
  first | refine w_gr (j := 38) rfl rfl (by first | assumption | rfl) (by first | assumption | rfl) rfl ?_ | refine w_gi (j := 38) rfl rfl (by first | assumption | rfl) (by first | assumption | rfl) rfl x3 ?_
  refine w_iL (j := 39) rfl rfl rfl ?_
  refine w_ias (j := 40) rfl rfl (by first | assumption | rfl) rfl (by omega) rfl ?_
  have x4 : ix_up (ix_up h2 23 (st 0 0) (nI A)) 24 (st 0 0) (nI V) 22 6 = nI (st 0 0) := by rw [px_up_na (by decide)]; exact x3
  refine w_al (j := 41) rfl rfl rfl ?_
  first | refine w_dupr (j := 42) rfl rfl ?_ | refine w_dupi (j := 42) rfl rfl ?_
  first | refine w_gr (j := 43) rfl rfl (by first | assumption | rfl) (by first | assumption | rfl) rfl ?_ | refine w_gi (j := 43) rfl rfl (by first | assumption | rfl) (by first | assumption | rfl) rfl x4 ?_
  refine w_ic (n := 1) (j := 44) rfl rfl ?_
  first | refine w_add0 (j := 45) rfl rfl ?_ | refine w_addN (j := 45) rfl rfl ?_ | refine w_add (j := 45) rfl rfl ?_
  refine w_pf (j := 46) rfl rfl (by first | assumption | rfl) (by first | assumption | rfl) rfl ?_
  refine w_rt rfl ?_
  refine ⟨_, rfl, (((u1.gc.tr u2.gc).up (by omega)).up (by omega)).up (by omega), Or.inr ⟨_, _, _, c1, gx_ws_b ws c2 (A := A) (V := V) (by omega) (by omega) (by omega), D0, r2.fr (S := [23, 24, 22]) ?_ (by decide) (by decide) (by decide), gx_cs_b cs2 rfl⟩⟩
  repeat first | exact px_fr.rf | refine px_fr.up ?_ (by decide)
theorem gx_ws_y {st : Nat → Nat → Nat} {A V : Nat} (ws : gx_ws st) (nf : st 0 1 < 8) (hA : A ≤ 60) (hV : 1 ≤ V) (hV2 : V ≤ 99) : gx_ws (gx_u (gx_u (gx_u st 3 (st 0 1) A) 4 (st 0 1) V) 0 1 (st 0 1 + 1)) := by
  obtain ⟨w1, w2, w3, w4, w5, w6, w7, w8⟩ := ws
  have U0 : ∀ i, gx_u (gx_u (gx_u st 3 (st 0 1) A) 4 (st 0 1) V) 0 1 (st 0 1 + 1) 0 i = if i = 1 then st 0 1 + 1 else st 0 i := fun i => by
    by_cases e : i = 1
    · rw [if_pos e, e, gx_u_at]
    · rw [if_neg e, gx_u_ne (by omega), gx_u_ne (by omega), gx_u_ne (by omega)]
  have U1 : ∀ i k, 1 ≤ i → (i ≠ 3 ∧ i ≠ 4) ∨ k ≠ st 0 1 → gx_u (gx_u (gx_u st 3 (st 0 1) A) 4 (st 0 1) V) 0 1 (st 0 1 + 1) i k = st i k := fun i k hi hik => by
    rw [gx_u_ne (by omega), gx_u_ne (by omega), gx_u_ne (by omega)]
  have Ua : gx_u (gx_u (gx_u st 3 (st 0 1) A) 4 (st 0 1) V) 0 1 (st 0 1 + 1) 3 (st 0 1) = A := by rw [gx_u_ne (by omega), gx_u_ne (by omega), gx_u_at]
  have Uv : gx_u (gx_u (gx_u st 3 (st 0 1) A) 4 (st 0 1) V) 0 1 (st 0 1 + 1) 4 (st 0 1) = V := by rw [gx_u_ne (by omega), gx_u_at]
  unfold gx_ws
  generalize gx_u (gx_u (gx_u st 3 (st 0 1) A) 4 (st 0 1) V) 0 1 (st 0 1 + 1) = st1 at *
  rw [U0, U0, U0, U0]
  refine ⟨?_, ?_, ?_, ?_, ?_, fun k hk => ?_, fun k hk => ?_, fun a b ha hb => ?_⟩
  · rw [if_neg (by decide)]; exact w1
  · rw [if_pos rfl]; omega
  · rw [if_neg (by decide)]; exact w3
  · rw [if_neg (by decide)]; exact w4
  · rw [if_neg (by decide)]; exact w5
  · rw [if_neg (by decide)] at hk
    rw [U1 1 k (by omega) (by omega), U1 2 k (by omega) (by omega)]; exact w6 k hk
  · rw [if_pos rfl] at hk
    by_cases e : k = st 0 1
    · rw [e, Ua, Uv]; exact ⟨hA, hV, hV2⟩
    · rw [U1 3 k (by omega) (by omega), U1 4 k (by omega) (by omega)]; exact w7 k (by omega)
  · rw [U1 _ _ (by omega) (by omega)]; exact w8 a b ha hb
theorem gx_cs_y {h h1 : ix_H} {st : Nat → Nat → Nat} {A V : Nat} (cs : gx_cs h1 st) (e : h = ix_up (ix_up (ix_up h1 25 (st 0 1) (nI A)) 26 (st 0 1) (nI V)) 22 7 (nI (st 0 1 + 1))) : gx_cs h (gx_u (gx_u (gx_u st 3 (st 0 1) A) 4 (st 0 1) V) 0 1 (st 0 1 + 1)) := by
  obtain ⟨x1, x2, x3, x4⟩ := cs
  have U0 : ∀ i, gx_u (gx_u (gx_u st 3 (st 0 1) A) 4 (st 0 1) V) 0 1 (st 0 1 + 1) 0 i = if i = 1 then st 0 1 + 1 else st 0 i := fun i => by
    by_cases e : i = 1
    · rw [if_pos e, e, gx_u_at]
    · rw [if_neg e, gx_u_ne (by omega), gx_u_ne (by omega), gx_u_ne (by omega)]
  have U1 : ∀ i k, 1 ≤ i → (i ≠ 3 ∧ i ≠ 4) ∨ k ≠ st 0 1 → gx_u (gx_u (gx_u st 3 (st 0 1) A) 4 (st 0 1) V) 0 1 (st 0 1 + 1) i k = st i k := fun i k hi hik => by
    rw [gx_u_ne (by omega), gx_u_ne (by omega), gx_u_ne (by omega)]
  have Ua : gx_u (gx_u (gx_u st 3 (st 0 1) A) 4 (st 0 1) V) 0 1 (st 0 1 + 1) 3 (st 0 1) = A := by rw [gx_u_ne (by omega), gx_u_ne (by omega), gx_u_at]
  have Uv : gx_u (gx_u (gx_u st 3 (st 0 1) A) 4 (st 0 1) V) 0 1 (st 0 1 + 1) 4 (st 0 1) = V := by rw [gx_u_ne (by omega), gx_u_at]
  unfold gx_cs
  generalize gx_u (gx_u (gx_u st 3 (st 0 1) A) 4 (st 0 1) V) 0 1 (st 0 1 + 1) = st1 at *
  rw [U0, U0, U0, U0]
  have G22 : ∀ j, j ≠ 7 → h 22 j = h1 22 j := fun j hj => by rw [e, px_up_nk hj, px_up_na (by decide), px_up_na (by decide)]
  have Ga : ∀ a, a ≠ 22 → a ≠ 25 → a ≠ 26 → h a = h1 a := fun a z1 z2 z3 => by rw [e, ix_up_ne z1, ix_up_ne z3, ix_up_ne z2]
  have Gf : h 22 7 = nI (st 0 1 + 1) := by rw [e, px_up_at]
  have G1 : ∀ k, h 25 k = if k = st 0 1 then nI A else h1 25 k := fun k => by
    rw [e, px_up_na (by decide), px_up_na (by decide)]
    by_cases z : k = st 0 1
    · rw [if_pos z, z, px_up_at]
    · rw [if_neg z, px_up_nk z]
  have G2 : ∀ k, h 26 k = if k = st 0 1 then nI V else h1 26 k := fun k => by
    rw [e, px_up_na (by decide)]
    by_cases z : k = st 0 1
    · rw [if_pos z, z, px_up_at]
    · rw [if_neg z, px_up_nk z, px_up_na (by decide)]
  refine ⟨⟨?_, ?_, ?_, ?_⟩, fun k hk => ?_, fun k hk => ?_, fun a b ha hb => ?_⟩
  · rw [if_neg (by decide), G22 6 (by decide)]; exact x1.1
  · rw [if_pos rfl]; exact Gf
  · rw [if_neg (by decide), G22 8 (by decide)]; exact x1.2.2.1
  · rw [if_neg (by decide), G22 9 (by decide)]; exact x1.2.2.2
  · rw [if_neg (by decide)] at hk
    rw [Ga 23 (by decide) (by decide) (by decide), Ga 24 (by decide) (by decide) (by decide), U1 1 k (by omega) (by omega), U1 2 k (by omega) (by omega)]; exact x2 k hk
  · rw [if_pos rfl] at hk
    rw [G1, G2]
    by_cases e : k = st 0 1
    · rw [if_pos e, if_pos e, e, Ua, Uv]; exact ⟨rfl, rfl⟩
    · rw [if_neg e, if_neg e, U1 3 k (by omega) (by omega), U1 4 k (by omega) (by omega)]; exact x3 k (by omega)
  · rw [Ga _ (by omega) (by omega) (by omega), U1 _ _ (by omega) (by omega)]; exact x4 a b ha hb
theorem cb_23f {c s PL : Nat} {st : Nat → Nat → Nat} {g2 g3 g4 : Value} (r : px_rf h tx n 0 k (nI PL)) (gp : gx_gp h) (E : gE tx n c st s k PL) : px_R px_E 3 mo_23 [] 11 [.ref 22, .ref 2, g2, g3, g4] [] h 0 (fun r => ∃ h', r = (.inl none, h', 0) ∧ gcB tx n c st s h h') := by
  refine w_al (j := 12) rfl rfl rfl ?_
  refine w_ic (n := 0) (j := 13) rfl rfl ?_
  refine w_bi (j := 14) (a := nI 60) rfl rfl (by decide) ?_
  refine w_cvPI (j := 15) rfl rfl rfl rfl (by first | assumption | rfl) rfl rfl (sp_64f (lo := 0) (H := 61) (by decide) (px_hiN (a := 60) (by decide)) (by decide) r) rfl ?_
  rintro v h1 ⟨u1, u2, v', u3, u4⟩
  subst u4
  refine w_is (j := 16) rfl rfl rfl ?_
  refine w_al (j := 17) rfl rfl rfl ?_
  refine w_ic (n := 1) (j := 18) rfl rfl ?_
  refine w_bi (j := 19) (a := nI 99) rfl rfl (by decide) ?_
  refine w_cvPI (j := 20) rfl rfl rfl rfl (by first | assumption | rfl) rfl rfl (sp_64f (lo := 1) (H := 100) (by decide) (px_hiN (a := 99) (by decide)) (by decide) u2) rfl ?_
  rintro v h2 ⟨y1, y2, v'', y3, y4⟩
  subst y4
  refine w_iS (j := 21) rfl rfl rfl ?_
  refine w_al (j := 22) rfl rfl rfl ?_
  refine w_cvI (j := 23) rfl rfl rfl rfl (by first | assumption | rfl) rfl rfl (sp_56f y2) rfl ?_
  refine w_neB (j := 24) rfl rfl (fun _ => ?_) (fun c => absurd c (by simp))
  refine w_rt rfl ?_
  exact ⟨_, rfl, u1.gc.tr y1.gc, Or.inl ⟨_, _, E, y2, gp.of (fun a a1 a2 => by rw [y1 a (by simp; omega), u1 a (by simp; omega)])⟩⟩
theorem sp_23 {c e s : Nat} {st : Nat → Nat → Nat} (ee : gx_lt tx n s = e) (hs : gx_sk tx n s = s) (hw : gx_is tx s (gx_lt tx n s) (gx_W 1)) (hc : c ≤ 60) (ws : gx_ws st) (r : px_rd h tx n e s 0 0 (-1)) (cs : gx_cs h st) : px_PU 4 23 [.ref 22, .ref 2, .int (px_b (decide (c = 60)))] h (gcB tx n c st s h) := by
  have w1 := ws.1
  have w2 := ws.2.1
  have x1 := cs.1
  have E3 : (c = 60 ∨ st 0 1 = 8) → gE tx n c st s 3 s := fun z => gE_many hs (kd := 1) (by decide) hw hc ws (by omega)
  have E1 : ∀ z : gx_nk tx n 0 61 e ≠ 0, c < 60 → st 0 1 < 8 → gE tx n c st s (gx_nk tx n 0 61 e) (gx_sk tx n e) := by rw [← ee]; exact fun z z1 z2 => gE_y1 hs hw z1 ws z2 z
  have E2 : gx_nk tx n 0 61 e = 0 → ∀ z : gx_nk tx n 1 100 (gx_ne tx n e) ≠ 0, c < 60 → st 0 1 < 8 → gE tx n c st s (gx_nk tx n 1 100 (gx_ne tx n e)) (gx_sk tx n (gx_ne tx n e)) := by rw [← ee]; exact fun z0 z z1 z2 => gE_y2 hs hw z1 ws z2 z0 z
  have D0 : gx_nk tx n 0 61 e = 0 → gx_nk tx n 1 100 (gx_ne tx n e) = 0 → c < 60 → st 0 1 < 8 → gD tx n c st s (gx_y tx n st e) (gx_ne tx n (gx_ne tx n e)) := by rw [← ee]; exact fun z0 z z1 z2 => gD_y hs hw z1 ws z2 z0 z
  clear hs hw ee
  have x11 := x1.2.1
  have full : c = 60 ∨ st 0 1 = 8 → ∀ g2 g3 g4 : Value, px_R px_E 3 mo_23 [] 9 [.ref 22, .ref 2, g2, g3, g4] [.ref 2] h 0 (fun r => ∃ h', r = (.inl none, h', 0) ∧ gcB tx n c st s h h') := fun z g2 g3 g4 => by
    refine w_ic (n := 0) (j := 10) rfl rfl ?_
    refine w_csPU (j := 11) rfl rfl rfl rfl rfl (sp_21f r) rfl ?_
    rintro h1 ⟨u1, u2⟩
    exact px_mono (cb_23f u2 ((cs.gp ws).of (fun a a1 a2 => u1 a (by simp; omega))) (E3 z)) (fun r q => gcB.frR u1.gc q)
  refine px_M (M := mt_23) (ops := mo_23) tb_23 rfl rfl rfl rfl rfl ?_
  refine w_al (j := 1) rfl rfl rfl ?_
  refine w_il (j := 2) rfl rfl rfl ?_
  refine w_neB (j := 3) rfl rfl (fun c0 => ?_) (fun c0 => ?_)
  · exact full (Or.inl (of_decide_eq_true c0)) _ _ _
  have c0 := of_decide_eq_false c0
  have c1 : c < 60 := by omega
  refine w_al (j := 4) rfl rfl rfl ?_
  first | refine w_gr (j := 5) rfl rfl (by first | assumption | rfl) (by first | assumption | rfl) rfl ?_ | refine w_gi (j := 5) rfl rfl (by first | assumption | rfl) (by first | assumption | rfl) rfl x11 ?_
  refine w_bi (j := 6) (a := nI 8) rfl rfl (by decide) ?_
  refine w_geN (j := 7) rfl rfl (by omega) (by omega) (fun c2 => ?_) (fun c2 => ?_)
  · exact full (Or.inr (by omega)) _ _ _
  refine w_ic (n := 1) (j := 8) rfl rfl ?_
  refine w_go rfl ?_
  refine w_csU (j := 11) rfl rfl rfl rfl rfl (sp_21t) rfl ?_
  refine w_al (j := 12) rfl rfl rfl ?_
  refine w_ic (n := 0) (j := 13) rfl rfl ?_
  refine w_bi (j := 14) (a := nI 60) rfl rfl (by decide) ?_
  refine w_cvPI (j := 15) rfl rfl rfl rfl (by first | assumption | rfl) rfl rfl (sp_64d (lo := 0) (H := 61) (by decide) (px_hiN (a := 60) (by decide)) (by decide) r) rfl ?_
  rintro v h1 ⟨u1, u2⟩
  have cs1 : gx_cs h1 st := cs.of (fun a a1 a2 => u1 a (by simp; omega))
  rcases u2 with ⟨k1, y1, l1, l2, r1⟩ | ⟨k1, ⟨q, -, y1⟩, r1⟩
  rotate_left
  · subst y1
    have E1 := E1 k1 c1 c2
    generalize gx_nk tx n 0 61 e = K at *
    generalize gx_sk tx n e = PL at *
    refine w_is (j := 16) rfl rfl rfl ?_
    refine w_al (j := 17) rfl rfl rfl ?_
    refine w_ic (n := 1) (j := 18) rfl rfl ?_
    refine w_bi (j := 19) (a := nI 99) rfl rfl (by decide) ?_
    refine w_cvPI (j := 20) rfl rfl rfl rfl (by first | assumption | rfl) rfl rfl (sp_64f (lo := 1) (H := 100) (by decide) (px_hiN (a := 99) (by decide)) (by decide) r1) rfl ?_
    rintro v h2 ⟨z1, z2, v'', z3, z4⟩
    subst z4
    refine w_iS (j := 21) rfl rfl rfl ?_
    refine w_al (j := 22) rfl rfl rfl ?_
    refine w_cvI (j := 23) rfl rfl rfl rfl (by first | assumption | rfl) rfl rfl (sp_56f z2) rfl ?_
    refine w_neB (j := 24) rfl rfl (fun _ => ?_) (fun c => absurd c (by simp))
    refine w_rt rfl ?_
    exact ⟨_, rfl, u1.gc.tr z1.gc, Or.inl ⟨_, _, E1, z2, (cs1.gp ws).of (fun a a1 a2 => z1 a (by simp; omega))⟩⟩
  subst y1
  have E2 := E2 k1
  have D0 := D0 k1
  clear E1 k1
  unfold gx_y at D0
  generalize gx_nv tx n e = A at *
  generalize gx_ne tx n e = P1 at *
  refine w_is (j := 16) rfl rfl rfl ?_
  refine w_al (j := 17) rfl rfl rfl ?_
  refine w_ic (n := 1) (j := 18) rfl rfl ?_
  refine w_bi (j := 19) (a := nI 99) rfl rfl (by decide) ?_
  refine w_cvPI (j := 20) rfl rfl rfl rfl (by first | assumption | rfl) rfl rfl (sp_64d (lo := 1) (H := 100) (by decide) (px_hiN (a := 99) (by decide)) (by decide) r1) rfl ?_
  rintro v h2 ⟨u2, u3⟩
  have cs2 : gx_cs h2 st := cs1.of (fun a a1 a2 => u2 a (by simp; omega))
  rcases u3 with ⟨k1, y1, l3, l4, r2⟩ | ⟨k1, ⟨q, -, y1⟩, r2⟩
  rotate_left
  · subst y1
    refine w_iS (j := 21) rfl rfl rfl ?_
    refine w_al (j := 22) rfl rfl rfl ?_
    refine w_cvI (j := 23) rfl rfl rfl rfl (by first | assumption | rfl) rfl rfl (sp_56f r2) rfl ?_
    refine w_neB (j := 24) rfl rfl (fun _ => ?_) (fun c => absurd c (by simp))
    refine w_rt rfl ?_
    exact ⟨_, rfl, u1.gc.tr u2.gc, Or.inl ⟨_, _, E2 k1 c1 c2, r2, cs2.gp ws⟩⟩
  subst y1
  have D0 := D0 k1 c1 c2
  clear E2 k1
  generalize gx_nv tx n P1 = V at *
  have x2 : h2 22 7 = nI (st 0 1) := cs2.1.2.1
  refine w_iS (j := 21) rfl rfl rfl ?_
  refine w_al (j := 22) rfl rfl rfl ?_
  refine w_cvI (j := 23) rfl rfl rfl rfl (by first | assumption | rfl) rfl rfl (sp_56z r2) rfl ?_
  refine w_neB (j := 24) rfl rfl (fun c => absurd c (by simp)) (fun _ => ?_)
  refine w_al (j := 25) rfl rfl rfl ?_
  first | refine w_gr (j := 26) rfl rfl (by first | assumption | rfl) (by first | assumption | rfl) rfl ?_ | refine w_gi (j := 26) rfl rfl (by first | assumption | rfl) (by first | assumption | rfl) rfl x2 ?_
  refine w_bi (j := 27) (a := nI 8) rfl rfl (by decide) ?_
  refine w_geN (j := 28) rfl rfl (by omega) (by omega) (fun c => absurd c (fun c => by omega)) (fun _ => ?_)
  refine w_al (j := 29) rfl rfl rfl ?_
  first | refine w_gr (j := 30) rfl rfl (by first | assumption | rfl) (by first | assumption | rfl) rfl ?_ | refine w_gi (j := 30) rfl rfl (by first | assumption | rfl) (by first | assumption | rfl) rfl rfl ?_
  refine w_al (j := 31) rfl rfl rfl ?_
  first | refine w_gr (j := 32) rfl rfl (by first | assumption | rfl) (by first | assumption | rfl) rfl ?_ | refine w_gi (j := 32) rfl rfl (by first | assumption | rfl) (by first | assumption | rfl) rfl x2 ?_
  refine w_il (j := 33) rfl rfl rfl ?_
  refine w_ias (j := 34) rfl rfl (by first | assumption | rfl) rfl (by omega) rfl ?_
  have x3 : ix_up h2 25 (st 0 1) (nI A) 22 7 = nI (st 0 1) := by rw [px_up_na (by decide)]; exact x2
  refine w_al (j := 35) rfl rfl rfl ?_
  first | refine w_gr (j := 36) rfl rfl (by first | assumption | rfl) (by first | assumption | rfl) rfl ?_ | refine w_gi (j := 36) rfl rfl (by first | assumption | rfl) (by first | assumption | rfl) rfl rfl ?_
  refine w_al (j := 37) rfl rfl rfl ?_
  first | refine w_gr (j := 38) rfl rfl (by first | assumption | rfl) (by first | assumption | rfl) rfl ?_ | refine w_gi (j := 38) rfl rfl (by first | assumption | rfl) (by first | assumption | rfl) rfl x3 ?_
  refine w_iL (j := 39) rfl rfl rfl ?_
  refine w_ias (j := 40) rfl rfl (by first | assumption | rfl) rfl (by omega) rfl ?_
  have x4 : ix_up (ix_up h2 25 (st 0 1) (nI A)) 26 (st 0 1) (nI V) 22 7 = nI (st 0 1) := by rw [px_up_na (by decide)]; exact x3
  refine w_al (j := 41) rfl rfl rfl ?_
  first | refine w_dupr (j := 42) rfl rfl ?_ | refine w_dupi (j := 42) rfl rfl ?_
  first | refine w_gr (j := 43) rfl rfl (by first | assumption | rfl) (by first | assumption | rfl) rfl ?_ | refine w_gi (j := 43) rfl rfl (by first | assumption | rfl) (by first | assumption | rfl) rfl x4 ?_
  refine w_ic (n := 1) (j := 44) rfl rfl ?_
  first | refine w_add0 (j := 45) rfl rfl ?_ | refine w_addN (j := 45) rfl rfl ?_ | refine w_add (j := 45) rfl rfl ?_
  refine w_pf (j := 46) rfl rfl (by first | assumption | rfl) (by first | assumption | rfl) rfl ?_
  refine w_rt rfl ?_
  refine ⟨_, rfl, (((u1.gc.tr u2.gc).up (by omega)).up (by omega)).up (by omega), Or.inr ⟨_, _, _, c1, gx_ws_y ws c2 (A := A) (V := V) (by omega) (by omega) (by omega), D0, r2.fr (S := [25, 26, 22]) ?_ (by decide) (by decide) (by decide), gx_cs_y cs2 rfl⟩⟩
  repeat first | exact px_fr.rf | refine px_fr.up ?_ (by decide)
end GO
