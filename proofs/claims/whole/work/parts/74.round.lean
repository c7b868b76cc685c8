def pf_V (F : Nat → Nat → Nat) (B : Nat) : Nat → Nat → Nat → Nat
  | 0, _, left => if left = 0 then 0 else 100000
  | n + 1, b, left => if left = 0 then 0 else px_fold (fun c m => if left / 2 ^ c % 2 = 1 then min m (F b c + pf_V F B n c (left - 2 ^ c)) else m) B 100000
theorem pf_tb1 : ∀ s, s < 64 → ∀ c, c < 6 → s / 2 ^ c % 2 = 1 → (nI s &&& (nI 1 <<< (nI c &&& 31) ^^^ (-1)) = nI (s - 2 ^ c)) ∧ pf_on (s - 2 ^ c) 8 + 1 = pf_on s 8 ∧ 2 ^ c ≤ s := by decide +kernel
theorem pf_tb0 : ∀ s, s < 64 → ∀ c, c < 6 → (nI s &&& (nI 1 <<< (nI c &&& 31) ^^^ (-1)) = nI (s - s / 2 ^ c % 2 * 2 ^ c)) ∧ (nI s &&& (nI 1 <<< (nI c &&& 31)) = nI (s / 2 ^ c % 2 * 2 ^ c)) ∧ s / 2 ^ c % 2 * 2 ^ c < 64 ∧ ∀ j, j < 6 → s / 2 ^ c % 2 * 2 ^ c / 2 ^ j % 2 ≤ s / 2 ^ j % 2 := by decide +kernel
theorem pf_tb2 : ∀ s, s < 64 → ∀ c, c < 6 → s / 2 ^ c % 2 = 0 → (nI s ||| (nI 1 <<< (nI c &&& 31)) = nI (s + 2 ^ c)) ∧ s + 2 ^ c < 64 ∧ ∀ j, j < 6 → (s + 2 ^ c) / 2 ^ j % 2 = if j = c then 1 else s / 2 ^ j % 2 := by decide +kernel
theorem pf_tb3 : ∀ t, t < 64 → ∀ s, s < 64 → (∀ j, j < 6 → s / 2 ^ j % 2 ≤ t / 2 ^ j % 2) → s ≤ t ∧ ∀ j, j < 6 → (t - s) / 2 ^ j % 2 = t / 2 ^ j % 2 - s / 2 ^ j % 2 := by decide +kernel
theorem pf_tb4 : ∀ s, s < 64 → pf_on s 8 ≤ 6 ∧ (pf_on s 8 = 0 → s = 0) := by decide +kernel
theorem pf_mfold (P : Nat → Prop) [∀ c, Decidable (P c)] (G : Nat → Nat) (X : Nat) : ∀ n, px_fold (fun c m => if P c then min m (G c) else m) n X ≤ X ∧ (∀ c, c < n → P c → px_fold (fun c m => if P c then min m (G c) else m) n X ≤ G c) ∧ (px_fold (fun c m => if P c then min m (G c) else m) n X = X ∨ ∃ c, c < n ∧ P c ∧ px_fold (fun c m => if P c then min m (G c) else m) n X = G c)
  | 0 => ⟨Nat.le_refl _, fun c hc => by omega, Or.inl rfl⟩
  | n + 1 => by
    obtain ⟨h1, h2, h3⟩ := pf_mfold P G X n
    rw [px_fold]
    generalize px_fold (fun c m => if P c then min m (G c) else m) n X = M at h1 h2 h3 ⊢
    by_cases hp : P n
    · rw [if_pos hp]
      refine ⟨by omega, fun c hc hpc => ?_, ?_⟩
      · by_cases hcn : c = n
        · rw [hcn]; omega
        · have := h2 c (by omega) hpc; omega
      · rcases Nat.le_total M (G n) with z | z
        · rw [Nat.min_eq_left z]
          rcases h3 with q | ⟨c, q1, q2, q3⟩
          · exact Or.inl q
          · exact Or.inr ⟨c, by omega, q2, q3⟩
        · rw [Nat.min_eq_right z]
          exact Or.inr ⟨n, by omega, hp, rfl⟩
    · rw [if_neg hp]
      refine ⟨h1, fun c hc hpc => ?_, ?_⟩
      · by_cases hcn : c = n
        · rw [hcn] at hpc; exact absurd hpc hp
        · exact h2 c (by omega) hpc
      · rcases h3 with q | ⟨c, q1, q2, q3⟩
        · exact Or.inl q
        · exact Or.inr ⟨c, by omega, q2, q3⟩
section RO
variable {F : Nat → Nat → Nat} {B : Nat}
theorem pf_Vf (hB : B ≤ 6) : ∀ n left b, left < 64 → pf_on left 8 ≤ n → pf_V F B (n + 1) b left = pf_V F B n b left
  | 0, left, b, hl, ho => by
    have := (pf_tb4 left hl).2 (by omega)
    subst this
    rfl
  | n + 1, left, b, hl, ho => by
    rw [pf_V]
    conv => rhs; rw [pf_V]
    by_cases h0 : left = 0
    · rw [if_pos h0, if_pos h0]
    · rw [if_neg h0, if_neg h0]
      refine px_fold_congr B _ (fun c m hc => ?_)
      by_cases hb : left / 2 ^ c % 2 = 1
      · obtain ⟨-, t2, t3⟩ := pf_tb1 left hl c (by omega) hb
        have hp := Nat.two_pow_pos c
        rw [if_pos hb, if_pos hb, pf_Vf hB n (left - 2 ^ c) c (by omega) (by omega)]
      · rw [if_neg hb, if_neg hb]
theorem pf_VV (hB : B ≤ 6) {left b : Nat} (hl : left < 64) (h0 : left ≠ 0) : pf_V F B 7 b left = px_fold (fun c m => if left / 2 ^ c % 2 = 1 then min m (F b c + pf_V F B 7 c (left - 2 ^ c)) else m) B 100000 := by
  rw [pf_V, if_neg h0]
  refine px_fold_congr B _ (fun c m hc => ?_)
  by_cases hb : left / 2 ^ c % 2 = 1
  · obtain ⟨-, t2, t3⟩ := pf_tb1 left hl c (by omega) hb
    have hp := Nat.two_pow_pos c
    have := (pf_tb4 (left - 2 ^ c) (by omega)).1
    rw [if_pos hb, if_pos hb, pf_Vf hB 6 (left - 2 ^ c) c (by omega) this]
  · rw [if_neg hb, if_neg hb]
theorem pf_V0 {b : Nat} : pf_V F B 7 b 0 = 0 := rfl
theorem pf_Vle (hF : ∀ a b, a < 6 → b < 6 → F a b = 100000 ∨ F a b ≤ 2560) (hB : B ≤ 6) : ∀ n b left, b < 6 → pf_V F B n b left ≤ 100000 ∧ (pf_V F B n b left < 100000 → pf_V F B n b left ≤ 2560 * n)
  | 0, b, left, hb => by
    rw [pf_V]
    split <;> omega
  | n + 1, b, left, hb => by
    rw [pf_V]
    by_cases h0 : left = 0
    · rw [if_pos h0]; omega
    · rw [if_neg h0]
      obtain ⟨h1, h2, h3⟩ := pf_mfold (fun c => left / 2 ^ c % 2 = 1) (fun c => F b c + pf_V F B n c (left - 2 ^ c)) 100000 B
      refine ⟨h1, fun hlt => ?_⟩
      rcases h3 with q | ⟨c, q1, q2, q3⟩
      · rw [q] at hlt; omega
      · rw [q3] at hlt ⊢
        have ih := (pf_Vle hF hB n c (left - 2 ^ c) (by omega)).2
        rcases hF b c hb (by omega) with z | z
        · omega
        · have := ih (by omega)
          omega
def pf_sub (s t : Nat) : Prop := ∀ j, j < 6 → s / 2 ^ j % 2 ≤ t / 2 ^ j % 2
def pf_dpi (F : Nat → Nat → Nat) (B bays OPT : Nat) (S b : Nat) (w : Nat → Nat → Nat) (best : Nat) : Prop := (∀ s x, s < 64 → x < 6 → w s x ≤ 100000) ∧ (∀ s x, s < 64 → x < B → w s x < 100000 → pf_sub s bays ∧ OPT ≤ w s x + pf_V F B 7 x (bays - s)) ∧ (best ≤ 100000 ∧ (best < 100000 → OPT ≤ best)) ∧ (OPT < 100000 → best = OPT ∨ ∃ s x, s < 64 ∧ x < B ∧ w s x < 100000 ∧ w s x + pf_V F B 7 x (bays - s) = OPT ∧ (S < s ∨ (s = S ∧ b ≤ x)))
def pf_wn (F : Nat → Nat → Nat) (bays S b : Nat) (w : Nat → Nat → Nat) (n : Nat) : Nat → Nat → Nat := fun s x => if w S b < 100000 ∧ bays / 2 ^ x % 2 = 1 ∧ S / 2 ^ x % 2 = 0 ∧ x < n ∧ s = S + 2 ^ x then min (w s x) (w S b + F b x) else w s x
theorem pf_wn_le {bays S b n s x : Nat} {w : Nat → Nat → Nat} : pf_wn F bays S b w n s x ≤ w s x := by
  unfold pf_wn
  split <;> omega
theorem pf_dpstep {bays OPT S b best : Nat} {w : Nat → Nat → Nat} (hB : B ≤ 6) (hb : b < B) (hbays : bays < 64) (hS : S < 64) (I : pf_dpi F B bays OPT S b w best) : pf_dpi F B bays OPT S (b + 1) (pf_wn F bays S b w B) (if S = bays then min best (w S b) else best) := by
  obtain ⟨A, A1, A2, Bi⟩ := I
  have A1' : ∀ s x, s < 64 → x < B → pf_wn F bays S b w B s x < 100000 → pf_sub s bays ∧ OPT ≤ pf_wn F bays S b w B s x + pf_V F B 7 x (bays - s) := by
    intro s x hs hx hlt
    unfold pf_wn at hlt ⊢
    by_cases hc : w S b < 100000 ∧ bays / 2 ^ x % 2 = 1 ∧ S / 2 ^ x % 2 = 0 ∧ x < B ∧ s = S + 2 ^ x
    · rw [if_pos hc] at hlt ⊢
      obtain ⟨c1, c2, c3, c4, c5⟩ := hc
      obtain ⟨p1, p2⟩ := A1 S b hS hb c1
      obtain ⟨u1, u2, u3⟩ := pf_tb2 S hS x (by omega) c3
      obtain ⟨v1, v2⟩ := pf_tb3 bays hbays S hS p1
      have ss : pf_sub s bays := by
        intro j hj
        rw [c5, u3 j hj]
        by_cases hjx : j = x
        · rw [if_pos hjx, hjx, c2]; exact Nat.le_refl _
        · rw [if_neg hjx]; exact p1 j hj
      refine ⟨ss, ?_⟩
      have bx : (bays - S) / 2 ^ x % 2 = 1 := by rw [v2 x (by omega), c2, c3]
      have hne : bays - S ≠ 0 := by intro z; rw [z] at bx; simp at bx
      have fold := (pf_mfold (fun c => (bays - S) / 2 ^ c % 2 = 1) (fun c => F b c + pf_V F B 7 c (bays - S - 2 ^ c)) 100000 B).2.1 x hx bx
      rw [← pf_VV hB (by omega) hne, Nat.sub_sub, ← c5] at fold
      by_cases hw : w s x < 100000
      · have := (A1 s x hs hx hw).2
        omega
      · have := A s x hs (by omega)
        omega
    · rw [if_neg hc] at hlt ⊢
      exact A1 s x hs hx hlt
  have keep : ∀ s x, s < 64 → x < B → w s x < 100000 → w s x + pf_V F B 7 x (bays - s) = OPT → pf_wn F bays S b w B s x < 100000 ∧ pf_wn F bays S b w B s x + pf_V F B 7 x (bays - s) = OPT := by
    intro s x hs hx hw e
    have le := pf_wn_le (F := F) (bays := bays) (S := S) (b := b) (n := B) (s := s) (x := x) (w := w)
    have := (A1' s x hs hx (by omega)).2
    omega
  have b1 : (if S = bays then min best (w S b) else best) ≤ 100000 ∧ ((if S = bays then min best (w S b) else best) < 100000 → OPT ≤ (if S = bays then min best (w S b) else best)) := by
    by_cases hSb : S = bays
    · rw [if_pos hSb]
      refine ⟨by omega, fun hl => ?_⟩
      by_cases hw : w S b < 100000
      · have := (A1 S b hS hb hw).2
        have eV : pf_V F B 7 b (bays - S) = 0 := by rw [hSb, Nat.sub_self]; rfl
        by_cases hbst : best < 100000
        · have := A2.2 hbst; omega
        · omega
      · have := A2.2 (by omega)
        omega
    · rw [if_neg hSb]; exact A2
  refine ⟨fun s x hs hx => Nat.le_trans pf_wn_le (A s x hs hx), A1', b1, fun hO => ?_⟩
  rcases Bi hO with e | ⟨s, x, hs, hx, hw, e, hp⟩
  · left
    by_cases hSb : S = bays
    · rw [if_pos hSb] at b1 ⊢
      have := b1.2 (by omega)
      omega
    · rw [if_neg hSb]; exact e
  · by_cases hsx : s = S ∧ x = b
    · obtain ⟨rfl, rfl⟩ := hsx
      by_cases hSb : s = bays
      · left
        have eV : pf_V F B 7 x (bays - s) = 0 := by rw [hSb, Nat.sub_self]; rfl
        rw [if_pos hSb] at b1 ⊢
        have := b1.2 (by omega)
        omega
      · right
        have p1 := (A1 s x hs hx hw).1
        obtain ⟨v1, v2⟩ := pf_tb3 bays hbays s hs p1
        have hne : bays - s ≠ 0 := by omega
        have fold := pf_mfold (fun c => (bays - s) / 2 ^ c % 2 = 1) (fun c => F x c + pf_V F B 7 c (bays - s - 2 ^ c)) 100000 B
        rw [← pf_VV hB (by omega) hne] at fold
        rcases fold.2.2 with q | ⟨c, q1, q2, q3⟩
        · omega
        · have q2 : (bays - s) / 2 ^ c % 2 = 1 := q2
          rw [v2 c (by omega)] at q2
          have c2 : bays / 2 ^ c % 2 = 1 := by omega
          have c3 : s / 2 ^ c % 2 = 0 := by omega
          obtain ⟨u1, u2, u3⟩ := pf_tb2 s hs c (by omega) c3
          have hpos := Nat.two_pow_pos c
          have le : pf_wn F bays s x w B (s + 2 ^ c) c ≤ w s x + F x c := by
            unfold pf_wn
            rw [if_pos ⟨hw, c2, c3, q1, rfl⟩]
            omega
          have low := (A1' (s + 2 ^ c) c u2 q1 (by omega)).2
          rw [show bays - (s + 2 ^ c) = bays - s - 2 ^ c by omega] at low
          refine ⟨s + 2 ^ c, c, u2, q1, by omega, ?_, Or.inl (by omega)⟩
          rw [show bays - (s + 2 ^ c) = bays - s - 2 ^ c by omega]
          omega
    · right
      obtain ⟨k1, k2⟩ := keep s x hs hx hw e
      exact ⟨s, x, hs, hx, k1, k2, by omega⟩
end RO
def pf_x (v : Nat) : Int32 := if v < 100000 then nI v else -1
theorem pf_xl {m q v : Nat} (hm : m ≤ 20480 ∨ m = 100000) (hq : q ≤ 2560) (hv : v ≤ 17920 ∨ v = 100000) : pf_less (pf_x m) (pf_added (nI q) (pf_x v)) = pf_x (min m (q + v)) := by
  have n1 : ∀ a, a < 100000 → nI a ≠ -1 := fun a ha => px_nm1 (by omega)
  have n2 : ∀ a, a < 100000 → ¬ nI a < -1 := fun a ha z => by
    rw [Int32.lt_iff_toInt_lt, nI_toInt (by omega), show (-1 : Int32).toInt = -1 from by decide] at z
    omega
  have n3 : ∀ a, a < 100000 → -1 < nI a := fun a ha => by
    rw [Int32.lt_iff_toInt_lt, nI_toInt (by omega), show (-1 : Int32).toInt = -1 from by decide]
    omega
  rcases hv with hv | hv
  · have e1 : pf_added (nI q) (pf_x v) = nI (q + v) := by
      unfold pf_added pf_x
      rw [if_pos (by omega : v < 100000), if_neg (fun z => z.elim (n1 q (by omega)) (n1 v (by omega))), px_nadd]
    rw [e1]
    rcases hm with hm | hm
    · unfold pf_less pf_x
      rw [if_pos (by omega : m < 100000), if_pos (by omega : min m (q + v) < 100000), if_neg (fun z => z.elim (n1 m (by omega)) (n1 (q + v) (by omega))), px_nmin (by omega) (by omega)]
    · subst hm
      unfold pf_less pf_x
      rw [if_neg (by omega : ¬ 100000 < 100000), if_pos (by omega : min 100000 (q + v) < 100000), if_pos (Or.inl rfl), if_pos (n3 _ (by omega)), Nat.min_eq_right (by omega)]
  · subst hv
    have e1 : pf_added (nI q) (pf_x 100000) = -1 := by
      unfold pf_added
      rw [if_pos (Or.inr (by unfold pf_x; rw [if_neg (by omega)]))]
    rw [e1]
    rcases hm with hm | hm
    · unfold pf_less pf_x
      rw [if_pos (by omega : m < 100000), if_pos (by omega : min m (q + 100000) < 100000), if_pos (Or.inr rfl), if_neg (n2 _ (by omega)), Nat.min_eq_left (by omega)]
    · subst hm
      unfold pf_less pf_x
      rw [if_neg (by omega : ¬ 100000 < 100000), if_neg (by omega : ¬ min 100000 (q + 100000) < 100000), if_pos (Or.inr rfl), if_neg (by decide)]
section RO
variable {h : ix_H} {B N T L W I t : Nat} {cs : List (Nat × Nat)}
def pf_far (h : ix_H) (a b : Nat) : Nat := (h (152 + a) b).toNatClampNeg
theorem pf_far_eq (hB0 : 0 < B) (ld : px_land h B N T) {a b : Nat} (ha : a < 6) (hb : b < 6) : h (152 + a) b = nI (pf_far h a b) ∧ ((pf_far h a b = 100000 ∧ h (16 + a) b = -1) ∨ (pf_far h a b ≤ 2560 ∧ h (16 + a) b = nI (pf_far h a b))) := by
  obtain ⟨l1, l2, l3, l4, l5, l6, l7, l8, l9, l10, l11, l12, l13, l14, l15⟩ := ld
  unfold pf_far
  rcases l15 hB0 a b ha hb with ⟨-, e1, e2⟩ | ⟨q, hq, e1, e2, -⟩
  · rw [e2, nI_clamp (by omega)]; exact ⟨rfl, Or.inl ⟨rfl, e1⟩⟩
  · rw [e2, nI_clamp (by omega)]; exact ⟨rfl, Or.inr ⟨hq, e1⟩⟩
theorem pf_farB (hB0 : 0 < B) (ld : px_land h B N T) : ∀ a b, a < 6 → b < 6 → pf_far h a b = 100000 ∨ pf_far h a b ≤ 2560 := fun a b ha hb => (pf_far_eq hB0 ld ha hb).2.elim (fun z => Or.inl z.1) (fun z => Or.inr z.1)
theorem sp_33 (hB0 : 0 < B) (ld : px_land h B N T) : ∀ n left b, left < 64 → b < 6 → pf_on left 8 ≤ n → px_V (n + 2) 33 [.ref 3, .int (nI b), .int (nI left)] h (some (.int (pf_x (pf_V (pf_far h) B 7 b left)))) h := by
  have l1 := ld.1
  have l3 := ld.2.2.1
  have hF := pf_farB hB0 ld
  obtain ⟨x1, x2, x3, x4, x5, x6, x7, x8, x9⟩ := px_Ld3
  intro n
  induction n with
  | zero =>
    intro left b hl hb ho
    have := (pf_tb4 left hl).2 (by omega)
    subst this
    refine px_M (M := mt_33) (ops := mo_33) tb_33 rfl rfl rfl rfl rfl ?_
    refine w_il (j := 1) rfl rfl rfl ?_
    refine w_neM (j := 2) rfl rfl (by omega) (fun c => absurd c (fun c => by omega)) (fun _ => ?_)
    refine w_ic (n := 0) (j := 3) rfl rfl ?_
    refine w_ir rfl ?_
    rfl
  | succ n ih =>
    intro left b hl hb ho
    by_cases h0 : left = 0
    · subst h0
      refine px_M (M := mt_33) (ops := mo_33) tb_33 rfl rfl rfl rfl rfl ?_
      refine w_il (j := 1) rfl rfl rfl ?_
      refine w_neM (j := 2) rfl rfl (by omega) (fun c => absurd c (fun c => by omega)) (fun _ => ?_)
      refine w_ic (n := 0) (j := 3) rfl rfl ?_
      refine w_ir rfl ?_
      rfl
    · rw [pf_VV l3 hl h0]
      have s16 : ix_sh (16 + b) = (1, 6, 0) := (x9 b hb).2
      refine px_M (M := mt_33) (ops := mo_33) tb_33 rfl rfl rfl rfl rfl ?_
      refine w_il (j := 1) rfl rfl rfl ?_
      refine w_neM (j := 2) rfl rfl (by omega) (fun _ => ?_) (fun c => absurd c (fun c => by omega))
      refine w_im (j := 5) rfl rfl ?_
      refine w_is (j := 6) rfl rfl rfl ?_
      refine w_ic (n := 0) (j := 7) rfl rfl ?_
      refine w_iS (j := 8) rfl rfl rfl ?_
      refine px_forI (fun c ls h1 => h1 = h ∧ (∃ m g, ls = [.ref 3, .int (nI b), .int (nI left), .int (pf_x m), .int (nI c), g] ∧ (m ≤ 20480 ∨ m = 100000) ∧ m = px_fold (fun c m => if left / 2 ^ c % 2 = 1 then min m (pf_far h b c + pf_V (pf_far h) B 7 c (left - 2 ^ c)) else m) c 100000)) B ?_ ?_ ⟨rfl, 100000, _, rfl, Or.inr rfl, rfl⟩
      · rintro c _ h1 hc ⟨rfl, m, g, rfl, hm, em⟩ H
        have st : px_fold (fun c m => if left / 2 ^ c % 2 = 1 then min m (pf_far h1 b c + pf_V (pf_far h1) B 7 c (left - 2 ^ c)) else m) (c + 1) 100000 = if left / 2 ^ c % 2 = 1 then min m (pf_far h1 b c + pf_V (pf_far h1) B 7 c (left - 2 ^ c)) else m := by rw [em]; rfl
        obtain ⟨-, ef⟩ := pf_far_eq hB0 ld hb (show c < 6 by omega)
        refine w_iL (j := 9) rfl rfl rfl ?_
        refine w_al (j := 10) rfl rfl rfl ?_
        first | refine w_gr (j := 11) rfl rfl (by first | assumption | rfl) (by first | assumption | rfl) rfl ?_ | refine w_gi (j := 11) rfl rfl (by first | assumption | rfl) (by first | assumption | rfl) rfl l1 ?_
        refine w_geN (j := 12) rfl rfl (by omega) (by omega) (fun c => absurd c (fun c => by omega)) (fun _ => ?_)
        refine w_il (j := 13) rfl rfl rfl ?_
        refine w_iL (j := 14) rfl rfl rfl ?_
        refine w_shr (j := 15) rfl rfl ?_
        refine w_ic (n := 1) (j := 16) rfl rfl ?_
        refine w_and (j := 17) rfl rfl ?_
        refine w_ic (n := 1) (j := 18) rfl rfl ?_
        rw [px_has (a := left) (k := c) (by omega) (by omega)]
        refine w_neN (j := 19) rfl rfl (by omega) (by omega) (fun d1 => ?_) (fun d1 => ?_)
        ·
          first | refine w_incN (j := 50) rfl rfl rfl ?_ | refine w_inc (j := 50) rfl rfl rfl rfl ?_
          refine w_go rfl ?_
          exact H _ _ ⟨rfl, m, _, rfl, hm, by rw [st, if_neg d1]⟩
        rw [if_pos d1] at st
        obtain ⟨t1, t2, t3⟩ := pf_tb1 left hl c (by omega) d1
        have hp := Nat.two_pow_pos c
        have vle := pf_Vle hF l3 7 c (left - 2 ^ c) (by omega)
        rcases ef with ⟨e1, e2⟩ | ⟨e1, e2⟩
        ·
          refine w_al (j := 20) rfl rfl rfl ?_
          first | refine w_gr (j := 21) rfl rfl (by first | assumption | rfl) (by first | assumption | rfl) rfl ?_ | refine w_gi (j := 21) rfl rfl (by first | assumption | rfl) (by first | assumption | rfl) rfl rfl ?_
          refine w_il (j := 22) rfl rfl rfl ?_
          refine w_aal (j := 23) rfl rfl (by first | assumption | rfl) rfl (by omega) rfl ?_
          refine w_iL (j := 24) rfl rfl rfl ?_
          refine w_ial (j := 25) rfl rfl (by first | assumption | rfl) rfl (by omega) rfl e2 ?_
          refine w_im (j := 26) rfl rfl ?_
          refine w_eq (j := 27) rfl rfl (fun _ => ?_) (fun c => absurd c (fun q => q rfl))
          first | refine w_incN (j := 50) rfl rfl rfl ?_ | refine w_inc (j := 50) rfl rfl rfl rfl ?_
          refine w_go rfl ?_
          refine H _ _ ⟨rfl, m, _, rfl, hm, ?_⟩
          rw [st, e1]
          omega
        ·
          refine w_al (j := 20) rfl rfl rfl ?_
          first | refine w_gr (j := 21) rfl rfl (by first | assumption | rfl) (by first | assumption | rfl) rfl ?_ | refine w_gi (j := 21) rfl rfl (by first | assumption | rfl) (by first | assumption | rfl) rfl rfl ?_
          refine w_il (j := 22) rfl rfl rfl ?_
          refine w_aal (j := 23) rfl rfl (by first | assumption | rfl) rfl (by omega) rfl ?_
          refine w_iL (j := 24) rfl rfl rfl ?_
          refine w_ial (j := 25) rfl rfl (by first | assumption | rfl) rfl (by omega) rfl e2 ?_
          refine w_im (j := 26) rfl rfl ?_
          refine w_eq (j := 27) rfl rfl (fun c => absurd c (px_nm1 (by omega))) (fun _ => ?_)
          refine w_al (j := 28) rfl rfl rfl ?_
          refine w_iL (j := 29) rfl rfl rfl ?_
          refine w_il (j := 30) rfl rfl rfl ?_
          refine w_ic (n := 1) (j := 31) rfl rfl ?_
          refine w_iL (j := 32) rfl rfl rfl ?_
          refine w_shl (j := 33) rfl rfl ?_
          refine w_im (j := 34) rfl rfl ?_
          refine w_xor (j := 35) rfl rfl ?_
          refine w_and (j := 36) rfl rfl ?_
          rw [t1]
          refine w_cvI (j := 37) rfl rfl rfl rfl (by first | assumption | rfl) rfl rfl (ih (left - 2 ^ c) c (by omega) (by omega) (by omega)) (Nat.ble_eq.mpr (by omega)) ?_
          refine w_iS (j := 38) rfl rfl rfl ?_
          refine w_il (j := 39) rfl rfl rfl ?_
          refine w_al (j := 40) rfl rfl rfl ?_
          first | refine w_gr (j := 41) rfl rfl (by first | assumption | rfl) (by first | assumption | rfl) rfl ?_ | refine w_gi (j := 41) rfl rfl (by first | assumption | rfl) (by first | assumption | rfl) rfl rfl ?_
          refine w_il (j := 42) rfl rfl rfl ?_
          refine w_aal (j := 43) rfl rfl (by first | assumption | rfl) rfl (by omega) rfl ?_
          refine w_iL (j := 44) rfl rfl rfl ?_
          refine w_ial (j := 45) rfl rfl (by first | assumption | rfl) rfl (by omega) rfl e2 ?_
          refine w_iL (j := 46) rfl rfl rfl ?_
          refine w_csI (j := 47) rfl rfl rfl rfl rfl (sp_29) rfl ?_
          refine w_csI (j := 48) rfl rfl rfl rfl rfl (sp_30) rfl ?_
          have vb : pf_V (pf_far h1) B 7 c (left - 2 ^ c) ≤ 17920 ∨ pf_V (pf_far h1) B 7 c (left - 2 ^ c) = 100000 := by
            by_cases z : pf_V (pf_far h1) B 7 c (left - 2 ^ c) < 100000
            · exact Or.inl (vle.2 z)
            · exact Or.inr (by omega)
          rw [pf_xl hm e1 vb]
          refine w_is (j := 49) rfl rfl rfl ?_
          first | refine w_incN (j := 50) rfl rfl rfl ?_ | refine w_inc (j := 50) rfl rfl rfl rfl ?_
          refine w_go rfl ?_
          exact H _ _ ⟨rfl, _, _, rfl, by omega, st.symm⟩
      · rintro _ h1 ⟨rfl, m, g, rfl, hm, em⟩
        refine w_iL (j := 9) rfl rfl rfl ?_
        refine w_al (j := 10) rfl rfl rfl ?_
        first | refine w_gr (j := 11) rfl rfl (by first | assumption | rfl) (by first | assumption | rfl) rfl ?_ | refine w_gi (j := 11) rfl rfl (by first | assumption | rfl) (by first | assumption | rfl) rfl l1 ?_
        refine w_geN (j := 12) rfl rfl (by omega) (by omega) (fun _ => ?_) (fun c => absurd c (fun c => by omega))
        refine w_il (j := 52) rfl rfl rfl ?_
        refine w_ir rfl ?_
        rw [em]
def pf_rnd (h : ix_H) (B a q : Nat) : Int32 := pf_x (pf_V (pf_far h) B 7 a (q - q / 2 ^ a % 2 * 2 ^ a))
theorem pf_V_congr {F G : Nat → Nat → Nat} (hB : B ≤ 6) (e : ∀ a b, a < 6 → b < 6 → F a b = G a b) : ∀ n b left, b < 6 → pf_V F B n b left = pf_V G B n b left
  | 0, b, left, _ => rfl
  | n + 1, b, left, hb => by
    rw [pf_V, pf_V]
    by_cases h0 : left = 0
    · rw [if_pos h0, if_pos h0]
    · rw [if_neg h0, if_neg h0]
      exact px_fold_congr B _ (fun c m hc => by rw [e b c hb (by omega), pf_V_congr hB e n c (left - 2 ^ c) (by omega)])
theorem pf_rnd_kp {h h' : ix_H} {a q : Nat} (hB : B ≤ 6) (ha : a < 6) (k : px_kp h h') : pf_rnd h' B a q = pf_rnd h B a q := by
  unfold pf_rnd
  rw [pf_V_congr hB (G := pf_far h) (fun a b ha hb => by unfold pf_far; rw [k.1 (152 + a) (pf_pers_i (by omega))]) 7 a _ ha]
theorem C_round {a b : Int32} (hI : px_I h B N T cs L W I t) : px_CO 12 129 [.ref 0, .int a, .int b] h (fun v h1 => ∃ x q, x < B ∧ q < 2 ^ B ∧ a = nI x ∧ b = nI q ∧ v = pf_rnd h B x q ∧ px_kp h h1) (fun x h1 => (x = 1 ∧ ¬ (0 ≤ a ∧ a < nI B) ∧ h1 = px_hX 1 h) ∨ (x = 0 ∧ (0 ≤ a ∧ a < nI B) ∧ ¬ (∃ q, q < 2 ^ B ∧ b = nI q) ∧ h1 = px_hX 0 h)) := by
  obtain ⟨ld, lw, -, nw, -⟩ := hI
  have ld' := ld
  obtain ⟨l1, l2, l3, l4, l5, l6, l7, l8, l9⟩ := ld
  have hp : 2 ^ B ≤ 64 := Nat.pow_le_pow_right (n := 2) (j := 6) (by decide) l3
  refine px_M (M := mt_129) (ops := mo_129) tb_129 rfl rfl rfl rfl rfl ?_
  refine w_al (j := 1) rfl rfl rfl ?_
  refine w_il (j := 2) rfl rfl rfl ?_
  refine w_chk (j := 3) rfl rfl rfl rfl (by first | assumption | rfl) rfl rfl (sp_149) rfl (fun c1 => ?_) (fun c1 => ?_)
  · rw [l1] at c1
    exact Or.inr ⟨_, _, rfl, Or.inl ⟨rfl, c1, rfl⟩⟩
  rw [l1] at c1
  refine w_al (j := 4) rfl rfl rfl ?_
  refine w_il (j := 5) rfl rfl rfl ?_
  refine w_al (j := 6) rfl rfl rfl ?_
  first | refine w_gr (j := 7) rfl rfl (by first | assumption | rfl) (by first | assumption | rfl) rfl ?_ | refine w_gi (j := 7) rfl rfl (by first | assumption | rfl) (by first | assumption | rfl) rfl rfl ?_
  first | refine w_gr (j := 8) rfl rfl (by first | assumption | rfl) (by first | assumption | rfl) rfl ?_ | refine w_gi (j := 8) rfl rfl (by first | assumption | rfl) (by first | assumption | rfl) rfl l1 ?_
  refine w_chk (j := 9) rfl rfl rfl rfl (by first | assumption | rfl) rfl rfl (px_CKc sp_148 (px_bits (by omega))) rfl (fun c2 => ?_) (fun c2 => ?_)
  · exact Or.inr ⟨_, _, rfl, Or.inr ⟨rfl, c1, c2, rfl⟩⟩
  obtain ⟨x, hx, rfl⟩ := px_bnd (by omega) c1
  obtain ⟨q, hq, rfl⟩ := c2
  obtain ⟨t1, t2, t3, t4⟩ := pf_tb0 q (by omega) x (by omega)
  have o6 := (pf_tb4 (q - q / 2 ^ x % 2 * 2 ^ x) (by omega)).1
  refine w_al (j := 10) rfl rfl rfl ?_
  first | refine w_gr (j := 11) rfl rfl (by first | assumption | rfl) (by first | assumption | rfl) rfl ?_ | refine w_gi (j := 11) rfl rfl (by first | assumption | rfl) (by first | assumption | rfl) rfl rfl ?_
  refine w_il (j := 12) rfl rfl rfl ?_
  refine w_il (j := 13) rfl rfl rfl ?_
  refine w_ic (n := 1) (j := 14) rfl rfl ?_
  refine w_il (j := 15) rfl rfl rfl ?_
  refine w_shl (j := 16) rfl rfl ?_
  refine w_im (j := 17) rfl rfl ?_
  refine w_xor (j := 18) rfl rfl ?_
  refine w_and (j := 19) rfl rfl ?_
  rw [t1]
  refine w_cvI (j := 20) rfl rfl rfl rfl (by first | assumption | rfl) rfl rfl (sp_33 (by omega) ld' 6 _ x (by omega) (by omega) o6) rfl ?_
  refine w_ir rfl ?_
  exact Or.inl ⟨_, _, rfl, x, q, hx, hq, rfl, rfl, rfl, px_kp.rf⟩
end RO
