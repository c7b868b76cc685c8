theorem px_fold_congr {α : Type} {f g : Nat → α → α} : ∀ (N : Nat) (s : α), (∀ c s, c < N → f c s = g c s) → px_fold f N s = px_fold g N s
  | 0, s, _ => rfl
  | N + 1, s, h => by rw [px_fold, px_fold, px_fold_congr N s (fun c s hc => h c s (by omega)), h N _ (by omega)]
theorem px_fold_inv {α : Type} {f : Nat → α → α} {P : Nat → α → Prop} : ∀ (N : Nat) (s : α), P 0 s → (∀ c s, c < N → P c s → P (c + 1) (f c s)) → P N (px_fold f N s)
  | 0, s, h, _ => h
  | N + 1, s, h, hs => hs N _ (by omega) (px_fold_inv N s h (fun c s hc => hs c s (by omega)))
theorem px_fold_rel {α β : Type} {f : Nat → α → α} {g : Nat → β → β} {P : Nat → α → β → Prop} : ∀ (N : Nat) (s : α) (t : β), P 0 s t → (∀ c s t, c < N → P c s t → P (c + 1) (f c s) (g c t)) → P N (px_fold f N s) (px_fold g N t)
  | 0, s, t, h, _ => h
  | N + 1, s, t, h, hs => hs N _ _ (by omega) (px_fold_rel N s t h (fun c s t hc => hs c s t (by omega)))
theorem px_bitx {x y : Int32} (h : ∀ i, i < 32 → x.toBitVec.getLsbD i = y.toBitVec.getLsbD i) : x = y := Int32.toBitVec_inj.mp (BitVec.eq_of_getLsbD_eq (fun i hi => h i hi))
def pf_g (x : Int32) (i : Nat) : Bool := x.toBitVec.getLsbD i
theorem pf_g_or (x y : Int32) (i : Nat) : pf_g (x ||| y) i = (pf_g x i || pf_g y i) := by unfold pf_g; rw [Int32.toBitVec_or, BitVec.getLsbD_or]
theorem pf_g_and (x y : Int32) (i : Nat) : pf_g (x &&& y) i = (pf_g x i && pf_g y i) := by unfold pf_g; rw [Int32.toBitVec_and, BitVec.getLsbD_and]
theorem pf_g_xor (x y : Int32) (i : Nat) : pf_g (x ^^^ y) i = (pf_g x i ^^ pf_g y i) := by unfold pf_g; rw [Int32.toBitVec_xor, BitVec.getLsbD_xor]
theorem pf_g_bit : ∀ c, c < 8 → ∀ i, i < 32 → pf_g (pf_bit c) i = decide (i = c) := by decide +kernel
theorem pf_g_all : ∀ N, N ≤ 8 → ∀ i, i < 32 → pf_g (nI 1 <<< (nI N &&& 31) - nI 1) i = decide (i < N) := by decide +kernel
theorem pf_g_m1 : ∀ i, i < 32 → pf_g (-1) i = true := by decide +kernel
theorem pf_g_0 : ∀ i, pf_g (nI 0) i = false := fun i => BitVec.getLsbD_zero
def pf_fb (P : Nat → Prop) [∀ c, Decidable (P c)] (c : Nat) (w : Int32) : Int32 := if P c then w ||| pf_bit c else w
theorem pf_g_fb (P : Nat → Prop) [∀ c, Decidable (P c)] (w : Int32) (i : Nat) (hi : i < 32) : ∀ N, N ≤ 8 → pf_g (px_fold (pf_fb P) N w) i = (pf_g w i || decide (i < N ∧ P i))
  | 0, _ => by simp [px_fold]
  | N + 1, h => by
    rw [px_fold, pf_fb]
    have ih := pf_g_fb P w i hi N (by omega)
    by_cases hp : P N
    · rw [if_pos hp, pf_g_or, ih, pf_g_bit N (by omega) i hi, Bool.or_assoc]
      congr 1
      by_cases hiN : i = N
      · subst hiN; simp [hp]
      · have : (i < N + 1) = (i < N) := by apply propext; omega
        simp [hiN, this]
    · rw [if_neg hp, ih]
      congr 1
      by_cases hiN : i = N
      · subst hiN; simp [hp]
      · have : (i < N + 1) = (i < N) := by apply propext; omega
        simp [this]
theorem px_or0 (x : Int32) : x ||| nI 0 = x := Int32.or_zero
theorem pf_has_all : ∀ N, N ≤ 8 → ∀ c, c < N → (nI 1 <<< (nI N &&& 31) - nI 1) >>> (nI c &&& 31) &&& nI 1 = nI 1 := by decide +kernel
theorem px_bnd {b : Int32} {B : Nat} (hB : B < 2147483648) (h : 0 ≤ b ∧ b < nI B) : ∃ m, m < B ∧ b = nI m := by
  obtain ⟨e1, e2⟩ := px_nof h.1
  refine ⟨b.toNatClampNeg, ?_, e1⟩
  have := h.2
  rw [e1] at this
  exact (px_nlt e2 hB).mp this
theorem px_bnd2 {b : Int32} {B : Nat} (hB : B < 2147483648) (h : nI 0 ≤ b ∧ b ≤ nI B) : ∃ m, m ≤ B ∧ b = nI m := by
  obtain ⟨e1, e2⟩ := px_nof (show (0 : Int32) ≤ b from h.1)
  refine ⟨b.toNatClampNeg, ?_, e1⟩
  have := h.2
  rw [e1] at this
  exact (px_nle e2 hB).mp this
theorem px_bndl {b : Int32} {A B : Nat} (hA : A < 2147483648) (hB : B < 2147483648) (h : nI A ≤ b ∧ b ≤ nI B) : ∃ m, A ≤ m ∧ m ≤ B ∧ b = nI m := by
  have h0 : nI 0 ≤ b := by
    rw [Int32.le_iff_toInt_le, nI_toInt (by decide)]
    have := h.1
    rw [Int32.le_iff_toInt_le, nI_toInt hA] at this
    omega
  obtain ⟨m, h1, rfl⟩ := px_bnd2 hB ⟨h0, h.2⟩
  exact ⟨m, (px_nle hA (by omega)).mp h.1, h1, rfl⟩
theorem px_Bm1 {B : Nat} (hB : B ≤ 600) : (nI B - nI 1).toInt = (B : Int) - 1 := by
  rw [Int32.toInt_sub, nI_toInt (by omega), nI_toInt (by omega)]
  rw [Int.bmod_eq_of_le (by omega) (by omega)]
  rfl
theorem px_ltle {b : Int32} {B : Nat} (hB : B ≤ 600) : b < nI B ↔ b ≤ nI B - nI 1 := by
  rw [Int32.lt_iff_toInt_lt, Int32.le_iff_toInt_le, px_Bm1 hB, nI_toInt (by omega)]
  omega
theorem px_dec_congr {p q : Prop} [Decidable p] [Decidable q] (h : p ↔ q) : decide p = decide q := by
  by_cases hp : p
  · rw [decide_eq_true hp, decide_eq_true (h.mp hp)]
  · rw [decide_eq_false hp, decide_eq_false (fun r => hp (h.mpr r))]
theorem px_nle0 {m : Nat} (h : m < 2147483648) : (0 : Int32) ≤ nI m := nI_pos' h
theorem px_nn {m : Nat} (h : m < 2147483648) : nI 0 ≤ nI m := nI_pos' h
theorem px_okN {m K : Nat} (h : m ≤ K) (hK : K < 2147483648) : nI 0 ≤ nI m ∧ nI m ≤ nI K := ⟨px_nn (by omega), nI_le h hK⟩
