def gx_D0 (P : Nat → Nat → Nat) : Nat → Nat → Nat := fun a b => if a = b then 0 else if 0 < P a b then P a b else 100000
def gx_st (m a b : Nat) (E : Nat → Nat → Nat) : Nat → Nat → Nat := fun x y => if x = a ∧ y = b then min (E a b) (E a m + E m b) else E x y
def gx_D3 (m a : Nat) (E : Nat → Nat → Nat) : Nat → Nat → Nat → Nat
  | 0 => E
  | b + 1 => gx_st m a b (gx_D3 m a E b)
def gx_D2 (m : Nat) (E : Nat → Nat → Nat) : Nat → Nat → Nat → Nat
  | 0 => E
  | a + 1 => gx_D3 m a (gx_D2 m E a) 6
def gx_D1 (E : Nat → Nat → Nat) : Nat → Nat → Nat → Nat
  | 0 => E
  | m + 1 => gx_D2 m (gx_D1 E m) 6
def gx_BI (K : Nat) (S : Nat → Nat → Nat) : Prop := ∀ x y, x < 6 → y < 6 → (S x y = 100000 ∨ S x y ≤ K) ∧ (S x y = 0 ↔ x = y)
def gx_SI (m K : Nat) (S E : Nat → Nat → Nat) : Prop := (∀ x, x < 6 → E x m = S x m ∧ E m x = S m x) ∧ ∀ x y, x < 6 → y < 6 → (E x y = 100000 ∨ E x y ≤ 2 * K) ∧ (E x y = 0 ↔ x = y)
theorem gx_SI_0 {m K : Nat} {S : Nat → Nat → Nat} (B : gx_BI K S) : gx_SI m K S S := ⟨fun _ _ => ⟨rfl, rfl⟩, fun x y hx hy => ⟨by have := (B x y hx hy).1; omega, (B x y hx hy).2⟩⟩
theorem gx_SI_step {m K a b : Nat} {S E : Nat → Nat → Nat} (hm : m < 6) (B : gx_BI K S) (ha : a < 6) (hb : b < 6) (I : gx_SI m K S E) : gx_SI m K S (gx_st m a b E) := by
  obtain ⟨i1, i2⟩ := I
  have mm : E m m = 0 := (i2 m m hm hm).2.mpr rfl
  have am := (i1 a ha).1
  have mb := (i1 b hb).2
  have B1 := B a m ha hm
  have B2 := B m b hm hb
  refine ⟨fun x hx => ⟨?_, ?_⟩, fun x y hx hy => ?_⟩
  · unfold gx_st
    by_cases e : x = a ∧ m = b
    · rw [if_pos e]
      obtain ⟨e1, e2⟩ := e
      subst e1 e2
      rw [mm]
      have := (i1 x hx).1
      omega
    · rw [if_neg e]; exact (i1 x hx).1
  · unfold gx_st
    by_cases e : m = a ∧ x = b
    · rw [if_pos e]
      obtain ⟨e1, e2⟩ := e
      subst e1 e2
      rw [mm]
      have := (i1 x hx).2
      omega
    · rw [if_neg e]; exact (i1 x hx).2
  · unfold gx_st
    by_cases e : x = a ∧ y = b
    · rw [if_pos e]
      obtain ⟨e1, e2⟩ := e
      subst e1 e2
      obtain ⟨c1, c2⟩ := i2 x y hx hy
      rw [am, mb]
      refine ⟨?_, ?_⟩
      · rcases c1 with c1 | c1
        · rcases B1.1 with b1 | b1
          · left; omega
          · rcases B2.1 with b2 | b2
            · left; omega
            · by_cases h5 : S x m + S m y < 100000
              · right; omega
              · left; omega
        · right; omega
      · refine ⟨fun z => ?_, fun z => ?_⟩
        · by_cases h5 : E x y = 0
          · exact c2.mp h5
          · exact (B1.2.mp (by omega)).trans (B2.2.mp (by omega))
        · have := c2.mpr z; omega
    · rw [if_neg e]; exact i2 x y hx hy
theorem gx_SI_3 {m K a : Nat} {S E : Nat → Nat → Nat} (hm : m < 6) (B : gx_BI K S) (ha : a < 6) (I : gx_SI m K S E) : ∀ b, b ≤ 6 → gx_SI m K S (gx_D3 m a E b)
  | 0, _ => I
  | b + 1, hb => gx_SI_step hm B ha (by omega) (gx_SI_3 hm B ha I b (by omega))
theorem gx_SI_2 {m K : Nat} {S : Nat → Nat → Nat} (hm : m < 6) (B : gx_BI K S) : ∀ a, a ≤ 6 → gx_SI m K S (gx_D2 m S a)
  | 0, _ => gx_SI_0 B
  | a + 1, ha => gx_SI_3 hm B (by omega) (gx_SI_2 hm B a (by omega)) 6 (by decide)
theorem gx_BI_1 {E : Nat → Nat → Nat} (B : gx_BI 40 E) (m : Nat) : m ≤ 6 → gx_BI (40 * 2 ^ m) (gx_D1 E m) := by
  induction m with
  | zero =>
    intro _
    rw [gx_D1, Nat.pow_zero]
    exact B
  | succ m ih =>
    intro hm
    rw [gx_D1]
    have st := gx_SI_2 (m := m) (by omega) (ih (by omega)) 6 (by decide)
    generalize gx_D2 m (gx_D1 E m) 6 = G at st ⊢
    intro x y hx hy
    have := st.2 x y hx hy
    rw [Nat.pow_succ]
    refine ⟨?_, this.2⟩
    rcases this.1 with z | z
    · exact Or.inl z
    · exact Or.inr (by omega)
theorem gx_BI_0 {P : Nat → Nat → Nat} (hP : ∀ a b, a < 6 → b < 6 → P a b ≤ 40) : gx_BI 40 (gx_D0 P) := fun x y hx hy => by
  have := hP x y hx hy
  unfold gx_D0
  by_cases e : x = y
  · rw [if_pos e]; exact ⟨Or.inr (by decide), fun _ => e, fun _ => rfl⟩
  · rw [if_neg e]
    by_cases z : 0 < P x y
    · rw [if_pos z]; exact ⟨Or.inr this, fun q => by omega, fun q => absurd q e⟩
    · rw [if_neg z]; exact ⟨Or.inl rfl, fun q => by omega, fun q => absurd q e⟩
def gx_en (q : Nat) : Int32 := if q = 100000 then -1 else nI q
theorem gx_pw : ∀ m, m < 6 → 2 * (40 * 2 ^ m) ≤ 2560 := by decide
-- one step of each side
theorem gx_en_step {u x y K : Nat} (hK : 2 * K ≤ 2560) (hu : u = 100000 ∨ u ≤ 2 * K) (hx : x = 100000 ∨ x ≤ K) (hy : y = 100000 ∨ y ≤ K) : pf_less (gx_en u) (pf_added (gx_en x) (gx_en y)) = gx_en (min u (x + y)) := by
  have en0 : gx_en 100000 = -1 := if_pos rfl
  have en1 : ∀ q, q ≤ 2560 → gx_en q = nI q := fun q hq => if_neg (by omega)
  have ad : pf_added (gx_en x) (gx_en y) = if x = 100000 ∨ y = 100000 then -1 else nI (x + y) := by
    unfold pf_added
    rcases hx with hx | hx
    · rw [hx, en0, if_pos (Or.inl rfl), if_pos (Or.inl rfl)]
    · rcases hy with hy | hy
      · rw [hy, en0, if_pos (Or.inr rfl), if_pos (Or.inr rfl)]
      · rw [en1 x (by omega), en1 y (by omega), if_neg (fun z => by
          rcases z with z | z
          · exact px_nm1 (by omega) z
          · exact px_nm1 (by omega) z), if_neg (by omega), px_nadd]
  rw [ad]
  unfold pf_less
  by_cases c : x = 100000 ∨ y = 100000
  · rw [if_pos c, if_pos (Or.inr rfl)]
    rcases hu with hu | hu
    · rw [hu, en0, if_neg (by decide), show min 100000 (x + y) = 100000 by omega, en0]
    · rw [en1 u (by omega), show min u (x + y) = u by omega, en1 u (by omega), if_neg (px_not_lt.mpr (Int32.le_trans (show (-1 : Int32) ≤ nI 0 by decide) (nI_le (Nat.zero_le u) (by omega))))]
  · rw [if_neg c]
    rcases hu with hu | hu
    · rw [hu, en0, if_pos (Or.inl rfl), if_pos (Int32.lt_of_lt_of_le (show (-1 : Int32) < nI 0 by decide) (nI_le (Nat.zero_le _) (by omega))), show min 100000 (x + y) = x + y by omega, en1 _ (by omega)]
    · rw [en1 u (by omega), if_neg (fun z => by
          rcases z with z | z
          · exact px_nm1 (by omega) z
          · exact px_nm1 (by omega) z)]
      by_cases d : x + y < u
      · rw [if_pos ((px_nlt (by omega) (by omega)).mpr d), show min u (x + y) = x + y by omega, en1 _ (by omega)]
      · rw [if_neg (fun z => d ((px_nlt (by omega) (by omega)).mp z)), show min u (x + y) = u by omega, en1 _ (by omega)]
theorem px_sh35 : ∀ k, k < 6 → ix_sh (35 + k) = (1, 6, 0) := by decide
theorem px_sh145 : ∀ k, k < 6 → ix_sh (145 + k) = (1, 6, 0) := by decide
theorem px_sh152 : ∀ k, k < 6 → ix_sh (152 + k) = (1, 6, 0) := by decide
section DI
variable {h : ix_H}
theorem sp_28 {P : Nat → Nat → Nat} (hP : ∀ a b, a < 6 → b < 6 → h (28 + a) b = nI (P a b) ∧ P a b ≤ 40) : px_PU 2 28 [.ref 22] h (fun h' => (∀ a, ¬ (35 ≤ a ∧ a ≤ 40) → h' a = h a) ∧ ∀ a b, a < 6 → b < 6 → h' (35 + a) b = gx_en (gx_D1 (gx_D0 P) 6 a b)) := by
  have B0 := gx_BI_0 (P := P) (fun a b ha hb => (hP a b ha hb).2)
  refine px_M (M := mt_28) (ops := mo_28) tb_28 rfl rfl rfl rfl rfl ?_
  refine w_ic (n := 0) (j := 1) rfl rfl ?_
  refine w_is (j := 2) rfl rfl rfl ?_
  refine px_forI (fun a ls h1 => (∃ g2 g3 g4, ls = [.ref 22, .int (nI a), g2, g3, g4]) ∧ (∀ x, ¬ (35 ≤ x ∧ x ≤ 40) → h1 x = h x) ∧ ∀ x y, x < a → y < 6 → h1 (35 + x) y = gx_en (gx_D0 P x y)) 6 ?_ ?_ ⟨⟨_, _, _, rfl⟩, fun _ _ => rfl, fun x y hx => by omega⟩
  · rintro a _ h1 ha ⟨⟨g2, g3, g4, rfl⟩, f1, f2⟩ H
    have sa := px_sh28 a ha
    have sd := px_sh35 a ha
    refine w_il (j := 3) rfl rfl rfl ?_
    refine w_bi (j := 4) (a := nI 6) rfl rfl (by decide) ?_
    refine w_geN (j := 5) rfl rfl (by omega) (by omega) (fun c => absurd c (fun c => by omega)) (fun _ => ?_)
    refine w_ic (n := 0) (j := 6) rfl rfl ?_
    refine w_is (j := 7) rfl rfl rfl ?_
    refine px_forI (fun b ls h2 => (∃ g3, ls = [.ref 22, .int (nI a), .int (nI b), g3, g4]) ∧ (∀ x, x ≠ 35 + a → h2 x = h1 x) ∧ ∀ y, y < b → h2 (35 + a) y = gx_en (gx_D0 P a y)) 6 ?_ ?_ ⟨⟨_, rfl⟩, fun _ _ => rfl, fun y hy => by omega⟩
    · rintro b _ h2 hb ⟨⟨g3, rfl⟩, e1, e2⟩ H2
      obtain ⟨p1, p2⟩ := hP a b ha hb
      have p3 : h2 (28 + a) b = nI (P a b) := by rw [e1 _ (by omega), f1 _ (by omega)]; exact p1
      have tail : ∀ w, (a ≠ b → w = if 0 < P a b then nI (P a b) else -1) → px_R px_E 1 mo_28 [] 25 [.ref 22, .int (nI a), .int (nI b), g3, g4] [.int w] h2 0 (fun r => ∃ h', r = (.inl none, h', 0) ∧ (∀ a, ¬ (35 ≤ a ∧ a ≤ 40) → h' a = h a) ∧ ∀ a b, a < 6 → b < 6 → h' (35 + a) b = gx_en (gx_D1 (gx_D0 P) 6 a b)) := by
        intro w hw
        have fin : ∀ v, v = gx_en (gx_D0 P a b) → px_R px_E 1 mo_28 [] 37 [.ref 22, .int (nI a), .int (nI b), .int w, g4] [.int v, .int (nI b), .ref (35 + a)] h2 0 (fun r => ∃ h', r = (.inl none, h', 0) ∧ (∀ a, ¬ (35 ≤ a ∧ a ≤ 40) → h' a = h a) ∧ ∀ a b, a < 6 → b < 6 → h' (35 + a) b = gx_en (gx_D1 (gx_D0 P) 6 a b)) := by
          intro v hv
          subst hv
          refine w_ias (j := 38) rfl rfl (by first | assumption | rfl) rfl (by omega) rfl ?_
          first | refine w_incN (j := 39) rfl rfl rfl ?_ | refine w_inc (j := 39) rfl rfl rfl rfl ?_
          refine w_go rfl ?_
          refine H2 _ _ ⟨⟨_, rfl⟩, fun x hx => ?_, fun y hy => ?_⟩
          · rw [ix_up_ne hx]; exact e1 x hx
          · by_cases e : y = b
            · rw [e, px_up_at]
            · rw [px_up_nk e]; exact e2 y (by omega)
        refine w_is (j := 26) rfl rfl rfl ?_
        refine w_al (j := 27) rfl rfl rfl ?_
        first | refine w_gr (j := 28) rfl rfl (by first | assumption | rfl) (by first | assumption | rfl) rfl ?_ | refine w_gi (j := 28) rfl rfl (by first | assumption | rfl) (by first | assumption | rfl) rfl rfl ?_
        refine w_il (j := 29) rfl rfl rfl ?_
        refine w_aal (j := 30) rfl rfl (by first | assumption | rfl) rfl (by omega) rfl ?_
        refine w_il (j := 31) rfl rfl rfl ?_
        refine w_il (j := 32) rfl rfl rfl ?_
        refine w_il (j := 33) rfl rfl rfl ?_
        refine w_neN (j := 34) rfl rfl (by omega) (by omega) (fun c => ?_) (fun c => ?_)
        ·
          refine w_il (j := 37) rfl rfl rfl ?_
          refine fin _ ?_
          rw [hw c]
          unfold gx_D0 gx_en
          rw [if_neg c]
          by_cases z : 0 < P a b
          · rw [if_pos z, if_pos z, if_neg (by omega)]
          · rw [if_neg z, if_neg z, if_pos rfl]
        ·
          refine w_ic (n := 0) (j := 35) rfl rfl ?_
          refine w_go rfl ?_
          refine fin _ ?_
          unfold gx_D0
          rw [if_pos c]
          rfl
      refine w_il (j := 8) rfl rfl rfl ?_
      refine w_bi (j := 9) (a := nI 6) rfl rfl (by decide) ?_
      refine w_geN (j := 10) rfl rfl (by omega) (by omega) (fun c => absurd c (fun c => by omega)) (fun _ => ?_)
      refine w_al (j := 11) rfl rfl rfl ?_
      first | refine w_gr (j := 12) rfl rfl (by first | assumption | rfl) (by first | assumption | rfl) rfl ?_ | refine w_gi (j := 12) rfl rfl (by first | assumption | rfl) (by first | assumption | rfl) rfl rfl ?_
      refine w_il (j := 13) rfl rfl rfl ?_
      refine w_aal (j := 14) rfl rfl (by first | assumption | rfl) rfl (by omega) rfl ?_
      refine w_il (j := 15) rfl rfl rfl ?_
      refine w_ial (j := 16) rfl rfl (by first | assumption | rfl) rfl (by omega) rfl p3 ?_
      refine w_leM (j := 17) rfl rfl (by omega) (fun c => ?_) (fun c => ?_)
      ·
        refine w_im (j := 25) rfl rfl ?_
        exact tail _ (fun _ => by rw [if_neg (by omega)])
      ·
        refine w_al (j := 18) rfl rfl rfl ?_
        first | refine w_gr (j := 19) rfl rfl (by first | assumption | rfl) (by first | assumption | rfl) rfl ?_ | refine w_gi (j := 19) rfl rfl (by first | assumption | rfl) (by first | assumption | rfl) rfl rfl ?_
        refine w_il (j := 20) rfl rfl rfl ?_
        refine w_aal (j := 21) rfl rfl (by first | assumption | rfl) rfl (by omega) rfl ?_
        refine w_il (j := 22) rfl rfl rfl ?_
        refine w_ial (j := 23) rfl rfl (by first | assumption | rfl) rfl (by omega) rfl p3 ?_
        refine w_go rfl ?_
        exact tail _ (fun _ => by rw [if_pos c])
    · rintro _ h2 ⟨⟨g3, rfl⟩, e1, e2⟩
      refine w_il (j := 8) rfl rfl rfl ?_
      refine w_bi (j := 9) (a := nI 6) rfl rfl (by decide) ?_
      refine w_geN (j := 10) rfl rfl (by omega) (by omega) (fun _ => ?_) (fun c => absurd c (fun c => by omega))
      first | refine w_incN (j := 41) rfl rfl rfl ?_ | refine w_inc (j := 41) rfl rfl rfl rfl ?_
      refine w_go rfl ?_
      refine H _ _ ⟨⟨_, _, _, rfl⟩, fun x hx => ?_, fun x y hx hy => ?_⟩
      · rw [e1 x (by omega)]; exact f1 x hx
      · by_cases e : x = a
        · rw [e]; exact e2 y hy
        · rw [e1 _ (by omega)]; exact f2 x y (by omega) hy
  rintro _ h1 ⟨⟨g2, g3, g4, rfl⟩, f1, f2⟩
  refine w_il (j := 3) rfl rfl rfl ?_
  refine w_bi (j := 4) (a := nI 6) rfl rfl (by decide) ?_
  refine w_geN (j := 5) rfl rfl (by omega) (by omega) (fun _ => ?_) (fun c => absurd c (fun c => by omega))
  refine w_ic (n := 0) (j := 43) rfl rfl ?_
  refine w_is (j := 44) rfl rfl rfl ?_
  refine px_forI (fun m ls h2 => (∃ g2 g3 g4, ls = [.ref 22, .int (nI m), g2, g3, g4]) ∧ (∀ x, ¬ (35 ≤ x ∧ x ≤ 40) → h2 x = h x) ∧ ∀ x y, x < 6 → y < 6 → h2 (35 + x) y = gx_en (gx_D1 (gx_D0 P) m x y)) 6 ?_ ?_ ⟨⟨_, _, _, rfl⟩, f1, f2⟩
  · rintro m _ h2 hm ⟨⟨g2, g3, g4, rfl⟩, f1, f2⟩ H
    have BS := gx_BI_1 B0 m (by omega)
    have pw := gx_pw m hm
    have sm := px_sh35 m hm
    rw [gx_D1] at H
    generalize gx_D1 (gx_D0 P) m = S at BS f2 H
    generalize 40 * 2 ^ m = K at BS pw
    refine w_il (j := 45) rfl rfl rfl ?_
    refine w_bi (j := 46) (a := nI 6) rfl rfl (by decide) ?_
    refine w_geN (j := 47) rfl rfl (by omega) (by omega) (fun c => absurd c (fun c => by omega)) (fun _ => ?_)
    refine w_ic (n := 0) (j := 48) rfl rfl ?_
    refine w_is (j := 49) rfl rfl rfl ?_
    refine px_forI (fun a ls h3 => (∃ g3 g4, ls = [.ref 22, .int (nI m), .int (nI a), g3, g4]) ∧ (∀ x, ¬ (35 ≤ x ∧ x ≤ 40) → h3 x = h x) ∧ ∀ x y, x < 6 → y < 6 → h3 (35 + x) y = gx_en (gx_D2 m S a x y)) 6 ?_ ?_ ⟨⟨_, _, rfl⟩, f1, f2⟩
    · rintro a _ h3 ha ⟨⟨g3, g4, rfl⟩, e1, e2⟩ H2
      have sa := px_sh35 a ha
      have IA := gx_SI_2 hm BS a (by omega)
      rw [gx_D2] at H2
      generalize gx_D2 m S a = E at e2 H2 IA
      refine w_il (j := 50) rfl rfl rfl ?_
      refine w_bi (j := 51) (a := nI 6) rfl rfl (by decide) ?_
      refine w_geN (j := 52) rfl rfl (by omega) (by omega) (fun c => absurd c (fun c => by omega)) (fun _ => ?_)
      refine w_ic (n := 0) (j := 53) rfl rfl ?_
      refine w_is (j := 54) rfl rfl rfl ?_
      refine px_forI (fun b ls h4 => (∃ g4, ls = [.ref 22, .int (nI m), .int (nI a), .int (nI b), g4]) ∧ (∀ x, ¬ (35 ≤ x ∧ x ≤ 40) → h4 x = h x) ∧ ∀ x y, x < 6 → y < 6 → h4 (35 + x) y = gx_en (gx_D3 m a E b x y)) 6 ?_ ?_ ⟨⟨_, rfl⟩, e1, e2⟩
      · rintro b _ h4 hb ⟨⟨g4, rfl⟩, d1, d2⟩ H3
        have IB := gx_SI_3 hm BS ha IA b (by omega)
        rw [gx_D3] at H3
        generalize gx_D3 m a E b = G at d2 H3 IB
        have l1 := d2 a m ha hm
        have l2 := d2 m b hm hb
        have l3 := d2 a b ha hb
        have st := gx_en_step (x := G a m) (y := G m b) pw (IB.2 a b ha hb).1 (by rw [(IB.1 a ha).1]; exact (BS a m ha hm).1) (by rw [(IB.1 b hb).2]; exact (BS m b hm hb).1)
        refine w_il (j := 55) rfl rfl rfl ?_
        refine w_bi (j := 56) (a := nI 6) rfl rfl (by decide) ?_
        refine w_geN (j := 57) rfl rfl (by omega) (by omega) (fun c => absurd c (fun c => by omega)) (fun _ => ?_)
        refine w_al (j := 58) rfl rfl rfl ?_
        first | refine w_gr (j := 59) rfl rfl (by first | assumption | rfl) (by first | assumption | rfl) rfl ?_ | refine w_gi (j := 59) rfl rfl (by first | assumption | rfl) (by first | assumption | rfl) rfl rfl ?_
        refine w_il (j := 60) rfl rfl rfl ?_
        refine w_aal (j := 61) rfl rfl (by first | assumption | rfl) rfl (by omega) rfl ?_
        refine w_il (j := 62) rfl rfl rfl ?_
        refine w_ial (j := 63) rfl rfl (by first | assumption | rfl) rfl (by omega) rfl l1 ?_
        refine w_al (j := 64) rfl rfl rfl ?_
        first | refine w_gr (j := 65) rfl rfl (by first | assumption | rfl) (by first | assumption | rfl) rfl ?_ | refine w_gi (j := 65) rfl rfl (by first | assumption | rfl) (by first | assumption | rfl) rfl rfl ?_
        refine w_il (j := 66) rfl rfl rfl ?_
        refine w_aal (j := 67) rfl rfl (by first | assumption | rfl) rfl (by omega) rfl ?_
        refine w_il (j := 68) rfl rfl rfl ?_
        refine w_ial (j := 69) rfl rfl (by first | assumption | rfl) rfl (by omega) rfl l2 ?_
        refine w_csI (j := 70) rfl rfl rfl rfl rfl (sp_29) rfl ?_
        refine w_iS (j := 71) rfl rfl rfl ?_
        refine w_al (j := 72) rfl rfl rfl ?_
        first | refine w_gr (j := 73) rfl rfl (by first | assumption | rfl) (by first | assumption | rfl) rfl ?_ | refine w_gi (j := 73) rfl rfl (by first | assumption | rfl) (by first | assumption | rfl) rfl rfl ?_
        refine w_il (j := 74) rfl rfl rfl ?_
        refine w_aal (j := 75) rfl rfl (by first | assumption | rfl) rfl (by omega) rfl ?_
        refine w_il (j := 76) rfl rfl rfl ?_
        refine w_al (j := 77) rfl rfl rfl ?_
        first | refine w_gr (j := 78) rfl rfl (by first | assumption | rfl) (by first | assumption | rfl) rfl ?_ | refine w_gi (j := 78) rfl rfl (by first | assumption | rfl) (by first | assumption | rfl) rfl rfl ?_
        refine w_il (j := 79) rfl rfl rfl ?_
        refine w_aal (j := 80) rfl rfl (by first | assumption | rfl) rfl (by omega) rfl ?_
        refine w_il (j := 81) rfl rfl rfl ?_
        refine w_ial (j := 82) rfl rfl (by first | assumption | rfl) rfl (by omega) rfl l3 ?_
        refine w_iL (j := 83) rfl rfl rfl ?_
        refine w_csI (j := 84) rfl rfl rfl rfl rfl (sp_30) rfl ?_
        rw [st]
        refine w_ias (j := 85) rfl rfl (by first | assumption | rfl) rfl (by omega) rfl ?_
        first | refine w_incN (j := 86) rfl rfl rfl ?_ | refine w_inc (j := 86) rfl rfl rfl rfl ?_
        refine w_go rfl ?_
        refine H3 _ _ ⟨⟨_, rfl⟩, fun x hx => ?_, fun x y hx hy => ?_⟩
        · rw [ix_up_ne (by omega)]; exact d1 x hx
        · unfold gx_st
          by_cases e : x = a ∧ y = b
          · rw [if_pos e, e.1, e.2, px_up_at]
          · rw [if_neg e]
            by_cases e2 : x = a
            · rw [e2, px_up_nk (by omega), ← e2]; exact d2 x y hx hy
            · rw [px_up_na (by omega)]; exact d2 x y hx hy
      · rintro _ h4 ⟨⟨g4, rfl⟩, d1, d2⟩
        refine w_il (j := 55) rfl rfl rfl ?_
        refine w_bi (j := 56) (a := nI 6) rfl rfl (by decide) ?_
        refine w_geN (j := 57) rfl rfl (by omega) (by omega) (fun _ => ?_) (fun c => absurd c (fun c => by omega))
        first | refine w_incN (j := 88) rfl rfl rfl ?_ | refine w_inc (j := 88) rfl rfl rfl rfl ?_
        refine w_go rfl ?_
        exact H2 _ _ ⟨⟨_, _, rfl⟩, d1, d2⟩
    · rintro _ h3 ⟨⟨g3, g4, rfl⟩, e1, e2⟩
      refine w_il (j := 50) rfl rfl rfl ?_
      refine w_bi (j := 51) (a := nI 6) rfl rfl (by decide) ?_
      refine w_geN (j := 52) rfl rfl (by omega) (by omega) (fun _ => ?_) (fun c => absurd c (fun c => by omega))
      first | refine w_incN (j := 90) rfl rfl rfl ?_ | refine w_inc (j := 90) rfl rfl rfl rfl ?_
      refine w_go rfl ?_
      exact H _ _ ⟨⟨_, _, _, rfl⟩, e1, e2⟩
  · rintro _ h2 ⟨⟨g2, g3, g4, rfl⟩, f1, f2⟩
    refine w_il (j := 45) rfl rfl rfl ?_
    refine w_bi (j := 46) (a := nI 6) rfl rfl (by decide) ?_
    refine w_geN (j := 47) rfl rfl (by omega) (by omega) (fun _ => ?_) (fun c => absurd c (fun c => by omega))
    refine w_rt rfl ?_
    exact ⟨_, rfl, f1, f2⟩
theorem gx_ls_step {u v : Nat} (hu : u ≤ 1000000) (hv : v ≤ 1000000) : pf_ls2 (nI u) (nI v) = nI (min u v) := by
  unfold pf_ls2
  by_cases d : u < v
  · rw [if_pos ((px_nlt (by omega) (by omega)).mpr d), show min u v = u by omega]
  · rw [if_neg (fun z => d ((px_nlt (by omega) (by omega)).mp z)), show min u v = v by omega]
theorem sp_181 {P : Nat → Nat → Nat} (hP : ∀ a b, a < 6 → b < 6 → h (145 + a) b = nI (P a b) ∧ P a b ≤ 40) : px_PU 2 181 [.ref 100] h (fun h' => (∀ a, ¬ (152 ≤ a ∧ a ≤ 157) → h' a = h a) ∧ ∀ a b, a < 6 → b < 6 → h' (152 + a) b = nI (gx_D1 (gx_D0 P) 6 a b)) := by
  have B0 := gx_BI_0 (P := P) (fun a b ha hb => (hP a b ha hb).2)
  refine px_M (M := mt_181) (ops := mo_181) tb_181 rfl rfl rfl rfl rfl ?_
  refine w_ic (n := 0) (j := 1) rfl rfl ?_
  refine w_is (j := 2) rfl rfl rfl ?_
  refine px_forI (fun a ls h1 => (∃ g2 g3, ls = [.ref 100, .int (nI a), g2, g3]) ∧ (∀ x, ¬ (152 ≤ x ∧ x ≤ 157) → h1 x = h x) ∧ ∀ x y, x < a → y < 6 → h1 (152 + x) y = nI (gx_D0 P x y)) 6 ?_ ?_ ⟨⟨_, _, rfl⟩, fun _ _ => rfl, fun x y hx => by omega⟩
  · rintro a _ h1 ha ⟨⟨g2, g3, rfl⟩, f1, f2⟩ H
    have sa := px_sh145 a ha
    have sd := px_sh152 a ha
    refine w_il (j := 3) rfl rfl rfl ?_
    refine w_bi (j := 4) (a := nI 6) rfl rfl (by decide) ?_
    refine w_geN (j := 5) rfl rfl (by omega) (by omega) (fun c => absurd c (fun c => by omega)) (fun _ => ?_)
    refine w_ic (n := 0) (j := 6) rfl rfl ?_
    refine w_is (j := 7) rfl rfl rfl ?_
    refine px_forI (fun b ls h2 => (∃ g3, ls = [.ref 100, .int (nI a), .int (nI b), g3]) ∧ (∀ x, x ≠ 152 + a → h2 x = h1 x) ∧ ∀ y, y < b → h2 (152 + a) y = nI (gx_D0 P a y)) 6 ?_ ?_ ⟨⟨_, rfl⟩, fun _ _ => rfl, fun y hy => by omega⟩
    · rintro b _ h2 hb ⟨⟨g3, rfl⟩, e1, e2⟩ H2
      obtain ⟨p1, p2⟩ := hP a b ha hb
      have p3 : h2 (145 + a) b = nI (P a b) := by rw [e1 _ (by omega), f1 _ (by omega)]; exact p1
      have fin : ∀ v, v = nI (gx_D0 P a b) → px_R px_E 1 mo_181 [] 35 [.ref 100, .int (nI a), .int (nI b), g3] [.int v, .int (nI b), .ref (152 + a)] h2 0 (fun r => ∃ h', r = (.inl none, h', 0) ∧ (∀ a, ¬ (152 ≤ a ∧ a ≤ 157) → h' a = h a) ∧ ∀ a b, a < 6 → b < 6 → h' (152 + a) b = nI (gx_D1 (gx_D0 P) 6 a b)) := by
        intro v hv
        subst hv
        refine w_ias (j := 36) rfl rfl (by first | assumption | rfl) rfl (by omega) rfl ?_
        first | refine w_incN (j := 37) rfl rfl rfl ?_ | refine w_inc (j := 37) rfl rfl rfl rfl ?_
        refine w_go rfl ?_
        refine H2 _ _ ⟨⟨_, rfl⟩, fun x hx => ?_, fun y hy => ?_⟩
        · rw [ix_up_ne hx]; exact e1 x hx
        · by_cases e : y = b
          · rw [e, px_up_at]
          · rw [px_up_nk e]; exact e2 y (by omega)
      refine w_il (j := 8) rfl rfl rfl ?_
      refine w_bi (j := 9) (a := nI 6) rfl rfl (by decide) ?_
      refine w_geN (j := 10) rfl rfl (by omega) (by omega) (fun c => absurd c (fun c => by omega)) (fun _ => ?_)
      refine w_al (j := 11) rfl rfl rfl ?_
      first | refine w_gr (j := 12) rfl rfl (by first | assumption | rfl) (by first | assumption | rfl) rfl ?_ | refine w_gi (j := 12) rfl rfl (by first | assumption | rfl) (by first | assumption | rfl) rfl rfl ?_
      refine w_il (j := 13) rfl rfl rfl ?_
      refine w_aal (j := 14) rfl rfl (by first | assumption | rfl) rfl (by omega) rfl ?_
      refine w_il (j := 15) rfl rfl rfl ?_
      refine w_il (j := 16) rfl rfl rfl ?_
      refine w_il (j := 17) rfl rfl rfl ?_
      refine w_neN (j := 18) rfl rfl (by omega) (by omega) (fun c => ?_) (fun c => ?_)
      rotate_left
      ·
        refine w_ic (n := 0) (j := 19) rfl rfl ?_
        refine w_go rfl ?_
        refine fin _ ?_
        unfold gx_D0
        rw [if_pos c]
      refine w_al (j := 21) rfl rfl rfl ?_
      first | refine w_gr (j := 22) rfl rfl (by first | assumption | rfl) (by first | assumption | rfl) rfl ?_ | refine w_gi (j := 22) rfl rfl (by first | assumption | rfl) (by first | assumption | rfl) rfl rfl ?_
      refine w_il (j := 23) rfl rfl rfl ?_
      refine w_aal (j := 24) rfl rfl (by first | assumption | rfl) rfl (by omega) rfl ?_
      refine w_il (j := 25) rfl rfl rfl ?_
      refine w_ial (j := 26) rfl rfl (by first | assumption | rfl) rfl (by omega) rfl p3 ?_
      refine w_leM (j := 27) rfl rfl (by omega) (fun c2 => ?_) (fun c2 => ?_)
      ·
        refine w_lc (j := 35) (a := nI 100000) rfl rfl (by decide) ?_
        refine fin _ ?_
        unfold gx_D0
        rw [if_neg c, if_neg (by omega)]
      ·
        refine w_al (j := 28) rfl rfl rfl ?_
        first | refine w_gr (j := 29) rfl rfl (by first | assumption | rfl) (by first | assumption | rfl) rfl ?_ | refine w_gi (j := 29) rfl rfl (by first | assumption | rfl) (by first | assumption | rfl) rfl rfl ?_
        refine w_il (j := 30) rfl rfl rfl ?_
        refine w_aal (j := 31) rfl rfl (by first | assumption | rfl) rfl (by omega) rfl ?_
        refine w_il (j := 32) rfl rfl rfl ?_
        refine w_ial (j := 33) rfl rfl (by first | assumption | rfl) rfl (by omega) rfl p3 ?_
        refine w_go rfl ?_
        refine fin _ ?_
        unfold gx_D0
        rw [if_neg c, if_pos c2]
    · rintro _ h2 ⟨⟨g3, rfl⟩, e1, e2⟩
      refine w_il (j := 8) rfl rfl rfl ?_
      refine w_bi (j := 9) (a := nI 6) rfl rfl (by decide) ?_
      refine w_geN (j := 10) rfl rfl (by omega) (by omega) (fun _ => ?_) (fun c => absurd c (fun c => by omega))
      first | refine w_incN (j := 39) rfl rfl rfl ?_ | refine w_inc (j := 39) rfl rfl rfl rfl ?_
      refine w_go rfl ?_
      refine H _ _ ⟨⟨_, _, rfl⟩, fun x hx => ?_, fun x y hx hy => ?_⟩
      · rw [e1 x (by omega)]; exact f1 x hx
      · by_cases e : x = a
        · rw [e]; exact e2 y hy
        · rw [e1 _ (by omega)]; exact f2 x y (by omega) hy
  rintro _ h1 ⟨⟨g2, g3, rfl⟩, f1, f2⟩
  refine w_il (j := 3) rfl rfl rfl ?_
  refine w_bi (j := 4) (a := nI 6) rfl rfl (by decide) ?_
  refine w_geN (j := 5) rfl rfl (by omega) (by omega) (fun _ => ?_) (fun c => absurd c (fun c => by omega))
  refine w_ic (n := 0) (j := 41) rfl rfl ?_
  refine w_is (j := 42) rfl rfl rfl ?_
  refine px_forI (fun m ls h2 => (∃ g2 g3, ls = [.ref 100, .int (nI m), g2, g3]) ∧ (∀ x, ¬ (152 ≤ x ∧ x ≤ 157) → h2 x = h x) ∧ ∀ x y, x < 6 → y < 6 → h2 (152 + x) y = nI (gx_D1 (gx_D0 P) m x y)) 6 ?_ ?_ ⟨⟨_, _, rfl⟩, f1, f2⟩
  · rintro m _ h2 hm ⟨⟨g2, g3, rfl⟩, f1, f2⟩ H
    have BS := gx_BI_1 B0 m (by omega)
    have pw := gx_pw m hm
    have sm := px_sh152 m hm
    rw [gx_D1] at H
    generalize gx_D1 (gx_D0 P) m = S at BS f2 H
    generalize 40 * 2 ^ m = K at BS pw
    refine w_il (j := 43) rfl rfl rfl ?_
    refine w_bi (j := 44) (a := nI 6) rfl rfl (by decide) ?_
    refine w_geN (j := 45) rfl rfl (by omega) (by omega) (fun c => absurd c (fun c => by omega)) (fun _ => ?_)
    refine w_ic (n := 0) (j := 46) rfl rfl ?_
    refine w_is (j := 47) rfl rfl rfl ?_
    refine px_forI (fun a ls h3 => (∃ g3, ls = [.ref 100, .int (nI m), .int (nI a), g3]) ∧ (∀ x, ¬ (152 ≤ x ∧ x ≤ 157) → h3 x = h x) ∧ ∀ x y, x < 6 → y < 6 → h3 (152 + x) y = nI (gx_D2 m S a x y)) 6 ?_ ?_ ⟨⟨_, rfl⟩, f1, f2⟩
    · rintro a _ h3 ha ⟨⟨g3, rfl⟩, e1, e2⟩ H2
      have sa := px_sh152 a ha
      have IA := gx_SI_2 hm BS a (by omega)
      rw [gx_D2] at H2
      generalize gx_D2 m S a = E at e2 H2 IA
      refine w_il (j := 48) rfl rfl rfl ?_
      refine w_bi (j := 49) (a := nI 6) rfl rfl (by decide) ?_
      refine w_geN (j := 50) rfl rfl (by omega) (by omega) (fun c => absurd c (fun c => by omega)) (fun _ => ?_)
      refine w_ic (n := 0) (j := 51) rfl rfl ?_
      refine w_is (j := 52) rfl rfl rfl ?_
      refine px_forI (fun b ls h4 => ls = [.ref 100, .int (nI m), .int (nI a), .int (nI b)] ∧ (∀ x, ¬ (152 ≤ x ∧ x ≤ 157) → h4 x = h x) ∧ ∀ x y, x < 6 → y < 6 → h4 (152 + x) y = nI (gx_D3 m a E b x y)) 6 ?_ ?_ ⟨rfl, e1, e2⟩
      · rintro b _ h4 hb ⟨rfl, d1, d2⟩ H3
        have IB := gx_SI_3 hm BS ha IA b (by omega)
        rw [gx_D3] at H3
        generalize gx_D3 m a E b = G at d2 H3 IB
        have l1 := d2 a m ha hm
        have l2 := d2 m b hm hb
        have l3 := d2 a b ha hb
        have i1 := (IB.2 a b ha hb).1
        have i2 := (IB.2 a m ha hm).1
        have i3 := (IB.2 m b hm hb).1
        have st := gx_ls_step (u := G a b) (v := G a m + G m b) (by omega) (by omega)
        refine w_il (j := 53) rfl rfl rfl ?_
        refine w_bi (j := 54) (a := nI 6) rfl rfl (by decide) ?_
        refine w_geN (j := 55) rfl rfl (by omega) (by omega) (fun c => absurd c (fun c => by omega)) (fun _ => ?_)
        refine w_al (j := 56) rfl rfl rfl ?_
        first | refine w_gr (j := 57) rfl rfl (by first | assumption | rfl) (by first | assumption | rfl) rfl ?_ | refine w_gi (j := 57) rfl rfl (by first | assumption | rfl) (by first | assumption | rfl) rfl rfl ?_
        refine w_il (j := 58) rfl rfl rfl ?_
        refine w_aal (j := 59) rfl rfl (by first | assumption | rfl) rfl (by omega) rfl ?_
        refine w_il (j := 60) rfl rfl rfl ?_
        refine w_al (j := 61) rfl rfl rfl ?_
        first | refine w_gr (j := 62) rfl rfl (by first | assumption | rfl) (by first | assumption | rfl) rfl ?_ | refine w_gi (j := 62) rfl rfl (by first | assumption | rfl) (by first | assumption | rfl) rfl rfl ?_
        refine w_il (j := 63) rfl rfl rfl ?_
        refine w_aal (j := 64) rfl rfl (by first | assumption | rfl) rfl (by omega) rfl ?_
        refine w_il (j := 65) rfl rfl rfl ?_
        refine w_ial (j := 66) rfl rfl (by first | assumption | rfl) rfl (by omega) rfl l3 ?_
        refine w_al (j := 67) rfl rfl rfl ?_
        first | refine w_gr (j := 68) rfl rfl (by first | assumption | rfl) (by first | assumption | rfl) rfl ?_ | refine w_gi (j := 68) rfl rfl (by first | assumption | rfl) (by first | assumption | rfl) rfl rfl ?_
        refine w_il (j := 69) rfl rfl rfl ?_
        refine w_aal (j := 70) rfl rfl (by first | assumption | rfl) rfl (by omega) rfl ?_
        refine w_il (j := 71) rfl rfl rfl ?_
        refine w_ial (j := 72) rfl rfl (by first | assumption | rfl) rfl (by omega) rfl l1 ?_
        refine w_al (j := 73) rfl rfl rfl ?_
        first | refine w_gr (j := 74) rfl rfl (by first | assumption | rfl) (by first | assumption | rfl) rfl ?_ | refine w_gi (j := 74) rfl rfl (by first | assumption | rfl) (by first | assumption | rfl) rfl rfl ?_
        refine w_il (j := 75) rfl rfl rfl ?_
        refine w_aal (j := 76) rfl rfl (by first | assumption | rfl) rfl (by omega) rfl ?_
        refine w_il (j := 77) rfl rfl rfl ?_
        refine w_ial (j := 78) rfl rfl (by first | assumption | rfl) rfl (by omega) rfl l2 ?_
        refine w_addN (j := 79) rfl rfl ?_
        refine w_csI (j := 80) rfl rfl rfl rfl rfl (sp_156) rfl ?_
        rw [st]
        refine w_ias (j := 81) rfl rfl (by first | assumption | rfl) rfl (by omega) rfl ?_
        first | refine w_incN (j := 82) rfl rfl rfl ?_ | refine w_inc (j := 82) rfl rfl rfl rfl ?_
        refine w_go rfl ?_
        refine H3 _ _ ⟨rfl, fun x hx => ?_, fun x y hx hy => ?_⟩
        · rw [ix_up_ne (by omega)]; exact d1 x hx
        · unfold gx_st
          by_cases e : x = a ∧ y = b
          · rw [if_pos e, e.1, e.2, px_up_at]
          · rw [if_neg e]
            by_cases e2 : x = a
            · rw [e2, px_up_nk (by omega), ← e2]; exact d2 x y hx hy
            · rw [px_up_na (by omega)]; exact d2 x y hx hy
      · rintro _ h4 ⟨rfl, d1, d2⟩
        refine w_il (j := 53) rfl rfl rfl ?_
        refine w_bi (j := 54) (a := nI 6) rfl rfl (by decide) ?_
        refine w_geN (j := 55) rfl rfl (by omega) (by omega) (fun _ => ?_) (fun c => absurd c (fun c => by omega))
        first | refine w_incN (j := 84) rfl rfl rfl ?_ | refine w_inc (j := 84) rfl rfl rfl rfl ?_
        refine w_go rfl ?_
        exact H2 _ _ ⟨⟨_, rfl⟩, d1, d2⟩
    · rintro _ h3 ⟨⟨g3, rfl⟩, e1, e2⟩
      refine w_il (j := 48) rfl rfl rfl ?_
      refine w_bi (j := 49) (a := nI 6) rfl rfl (by decide) ?_
      refine w_geN (j := 50) rfl rfl (by omega) (by omega) (fun _ => ?_) (fun c => absurd c (fun c => by omega))
      first | refine w_incN (j := 86) rfl rfl rfl ?_ | refine w_inc (j := 86) rfl rfl rfl rfl ?_
      refine w_go rfl ?_
      exact H _ _ ⟨⟨_, _, rfl⟩, e1, e2⟩
  · rintro _ h2 ⟨⟨g2, g3, rfl⟩, f1, f2⟩
    refine w_il (j := 43) rfl rfl rfl ?_
    refine w_bi (j := 44) (a := nI 6) rfl rfl (by decide) ?_
    refine w_geN (j := 45) rfl rfl (by omega) (by omega) (fun _ => ?_) (fun c => absurd c (fun c => by omega))
    refine w_rt rfl ?_
    exact ⟨_, rfl, f1, f2⟩
end DI
