abbrev px_C : Type := Nat → Nat → Nat → List Value → ix_H → Option ix_R
def ix_D : Nat → Bool := fun _ => true
def px_E : px_C := fun d f => ix_exec ix_tabP ix_pr ix_D d f
def px_T (C : px_C) (D mi : Nat) (vs : List Value) (h : ix_H) (Q : ix_R → Prop) : Prop := ∃ r, Q r ∧ ∃ F, ∀ d f, D ≤ d → F ≤ f → C d f mi vs h = some r
def px_R (C : px_C) (D : Nat) (ops : List ix_Op) (hs : List ix_Hd) (i : Nat) (ls st : List Value) (h : ix_H) (k : Nat) (Q : ix_R → Prop) : Prop := ∃ r, Q r ∧ ∃ F, ∀ d f g, D ≤ d → F ≤ f → F ≤ g → ix_run ix_D (C d f) ops hs g i ls st h k = some r
def px_V (D mi : Nat) (vs : List Value) (h : ix_H) (v : Option Value) (h' : ix_H) : Prop := px_T px_E D mi vs h (fun r => r = (.inl v, h', 0))
def px_P (D mi : Nat) (vs : List Value) (h : ix_H) (P : Option Value → ix_H → Prop) : Prop := px_T px_E D mi vs h (fun r => ∃ v h', r = (.inl v, h', 0) ∧ P v h')
def px_b (b : Bool) : Int32 := bif b then nI 1 else nI 0
theorem px_nadd (a b : Nat) : nI a + nI b = nI (a + b) := (Int32.ofNat_add a b).symm
theorem px_nmul (a b : Nat) : nI a * nI b = nI (a * b) := (Int32.ofNat_mul a b).symm
theorem px_nsub {a b : Nat} (hb : b ≤ a) : nI a - nI b = nI (a - b) := by
  have h1 : nI a = nI (a - b) + nI b := by rw [px_nadd]; congr 1; omega
  rw [h1, Int32.add_sub_cancel]
theorem px_n0 : (0 : Int32) = nI 0 := rfl
theorem px_n1 : (1 : Int32) = nI 1 := rfl
theorem px_nlt {a b : Nat} (ha : a < 2 ^ 31) (hb : b < 2 ^ 31) : nI a < nI b ↔ a < b := by
  rw [Int32.lt_iff_toInt_lt, nI_toInt ha, nI_toInt hb]; omega
theorem px_nle {a b : Nat} (ha : a < 2 ^ 31) (hb : b < 2 ^ 31) : nI a ≤ nI b ↔ a ≤ b := by
  rw [Int32.le_iff_toInt_le, nI_toInt ha, nI_toInt hb]; omega
theorem px_neq {a b : Nat} (ha : a < 2 ^ 31) (hb : b < 2 ^ 31) : nI a = nI b ↔ a = b := by
  constructor
  · intro e
    have := congrArg Int32.toInt e
    rw [nI_toInt ha, nI_toInt hb] at this
    omega
  · intro e; rw [e]
theorem px_nof {x : Int32} (h : 0 ≤ x) : x = nI x.toNatClampNeg ∧ x.toNatClampNeg < 2 ^ 31 := by
  have h2 := x.toInt_lt
  rw [Int32.le_iff_toInt_le, Int32.toInt_zero] at h
  have h3 : x.toNatClampNeg < 2 ^ 31 := by
    show x.toInt.toNat < _
    omega
  refine ⟨?_, h3⟩
  apply Int32.toInt_inj.mp
  rw [nI_toInt h3]
  show _ = ((x.toInt.toNat : Nat) : Int)
  omega
theorem px_not_lt {a b : Int32} : ¬ a < b ↔ b ≤ a := Int32.not_lt
theorem px_not_le {a b : Int32} : ¬ a ≤ b ↔ b < a := Int32.not_le
section PX
variable {C : px_C} {D : Nat} {ops : List ix_Op} {hs : List ix_Hd} {i j : Nat} {ls st ls' st' : List Value} {h h' : ix_H} {k k' : Nat} {Q : ix_R → Prop} {o : ix_Op}
theorem px_s {i' : Nat} (e : ∀ d f g, ix_run ix_D (C d f) ops hs (g + 1) i ls st h k = ix_run ix_D (C d f) ops hs g i' ls' st' h' k') (H : px_R C D ops hs i' ls' st' h' k' Q) : px_R C D ops hs i ls st h k Q := by
  obtain ⟨r, hq, F, hF⟩ := H
  refine ⟨r, hq, F + 1, fun d f g h1 h2 h3 => ?_⟩
  obtain ⟨g', rfl⟩ : ∃ g', g = g' + 1 := ⟨g - 1, by omega⟩
  rw [e]
  exact hF d f g' h1 (by omega) (by omega)
theorem px_w1 (ho : ops[i]? = some o) (hj : i + 1 = j) (hg : ix_g1 o ls st = some (ls', st')) (H : px_R C D ops hs j ls' st' h k Q) : px_R C D ops hs i ls st h k Q := by
  subst hj
  exact px_s (fun d f g => by rw [ix_run, ho]; simp only [hg]) H
theorem px_w2 (ho : ops[i]? = some o) (hj : i + 1 = j) (h1 : ix_g1 o ls st = none) (hg : ix_g2 o ls st = some (ls', st')) (H : px_R C D ops hs j ls' st' h k Q) : px_R C D ops hs i ls st h k Q := by
  subst hj
  exact px_s (fun d f g => by rw [ix_run, ho]; simp only [h1, hg]) H
theorem px_w3 (ho : ops[i]? = some o) (hj : i + 1 = j) (h1 : ix_g1 o ls st = none) (h2 : ix_g2 o ls st = none) (hg : ix_g3 o ls st = some (ls', st')) (H : px_R C D ops hs j ls' st' h k Q) : px_R C D ops hs i ls st h k Q := by
  subst hj
  exact px_s (fun d f g => by rw [ix_run, ho]; simp only [h1, h2, hg]) H
theorem px_wb (ho : ops[i]? = some o) (h1 : ix_g1 o ls st = none) (h2 : ix_g2 o ls st = none) (h3 : ix_g3 o ls st = none) (hg : ix_gb o i st = some (j, st')) (H : px_R C D ops hs j ls st' h k Q) : px_R C D ops hs i ls st h k Q :=
  px_s (fun d f g => by rw [ix_run, ho]; simp only [h1, h2, h3, hg]) H
theorem px_wh (ho : ops[i]? = some o) (hj : i + 1 = j) (h1 : ix_g1 o ls st = none) (h2 : ix_g2 o ls st = none) (h3 : ix_g3 o ls st = none) (h4 : ix_gb o i st = none) (hg : ix_gh ix_D o st h = some (st', h')) (H : px_R C D ops hs j ls st' h' k Q) : px_R C D ops hs i ls st h k Q := by
  subst hj
  exact px_s (fun d f g => by rw [ix_run, ho]; simp only [h1, h2, h3, h4, hg]) H
theorem px_g3n (ho : ∀ x y, ix_bop (ix_ins o) x y = none) (hb : ix_g3b o ls st = none) : ix_g3 o ls st = none := by
  unfold ix_g3 ix_g3a
  split
  · rename_i q hq
    split at hq
    · rw [ho] at hq; cases hq
    · cases hq
  · exact hb
theorem px_mono (H : px_R C D ops hs i ls st h k Q) {Q' : ix_R → Prop} (hQ : ∀ r, Q r → Q' r) : px_R C D ops hs i ls st h k Q' := by
  obtain ⟨r, hq, F, hF⟩ := H
  exact ⟨r, hQ r hq, F, hF⟩
-- pure instructions
variable {pc len x y z : Nat} {tl : List Nat} {v : Int32} {a b : Int32} {n m p q : Nat}
theorem w_ic (ho : ops[i]? = some (pc, len, .iconst (Int.ofNat n), x, y, z, tl, v)) (hj : i + 1 = j) (H : px_R C D ops hs j ls (.int (nI n) :: st) h k Q) : px_R C D ops hs i ls st h k Q :=
  px_w1 ho hj rfl H
theorem w_im (ho : ops[i]? = some (pc, len, .iconst (-1), x, y, z, tl, v)) (hj : i + 1 = j) (H : px_R C D ops hs j ls (.int (-1) :: st) h k Q) : px_R C D ops hs i ls st h k Q :=
  px_w1 ho hj rfl H
theorem w_bi {c : Int} (ho : ops[i]? = some (pc, len, .bipush c, x, y, z, tl, v)) (hj : i + 1 = j) (hc : (Int8.ofInt c).toInt32 = a) (H : px_R C D ops hs j ls (.int a :: st) h k Q) : px_R C D ops hs i ls st h k Q :=
  px_w1 ho hj (by subst hc; rfl) H
theorem w_si {c : Int} (ho : ops[i]? = some (pc, len, .sipush c, x, y, z, tl, v)) (hj : i + 1 = j) (hc : (Int16.ofInt c).toInt32 = a) (H : px_R C D ops hs j ls (.int a :: st) h k Q) : px_R C D ops hs i ls st h k Q :=
  px_w1 ho hj (by subst hc; rfl) H
theorem w_lc {c} (ho : ops[i]? = some (pc, len, .ldc c, x, y, 0, tl, v)) (hj : i + 1 = j) (hc : v = a) (H : px_R C D ops hs j ls (.int a :: st) h k Q) : px_R C D ops hs i ls st h k Q :=
  px_w1 ho hj (by subst hc; rfl) H
theorem w_ls {c} (ho : ops[i]? = some (pc, len, .ldc c, x, y, 1, tl, v)) (hj : i + 1 = j) (H : px_R C D ops hs j ls (.ref x :: st) h k Q) : px_R C D ops hs i ls st h k Q :=
  px_w1 ho hj rfl H
theorem w_lw {c} (ho : ops[i]? = some (pc, len, .ldc_w c, x, y, 0, tl, v)) (hj : i + 1 = j) (hc : v = a) (H : px_R C D ops hs j ls (.int a :: st) h k Q) : px_R C D ops hs i ls st h k Q :=
  px_w1 ho hj (by subst hc; rfl) H
theorem w_il {u : Fin 4} (ho : ops[i]? = some (pc, len, .iload_n u, x, y, z, tl, v)) (hj : i + 1 = j) (hl : ls[(u : Nat)]? = some (.int a)) (H : px_R C D ops hs j ls (.int a :: st) h k Q) : px_R C D ops hs i ls st h k Q :=
  px_w1 ho hj (by show (match ls[(u : Nat)]? with | some (.int x) => some (ls, Value.int x :: st) | _ => none) = _; rw [hl]) H
theorem w_iL {u : Nat} (ho : ops[i]? = some (pc, len, .iload u, x, y, z, tl, v)) (hj : i + 1 = j) (hl : ls[u]? = some (.int a)) (H : px_R C D ops hs j ls (.int a :: st) h k Q) : px_R C D ops hs i ls st h k Q :=
  px_w1 ho hj (by show (match ls[u]? with | some (.int x) => some (ls, Value.int x :: st) | _ => none) = _; rw [hl]) H
theorem w_al {u : Fin 4} (ho : ops[i]? = some (pc, len, .aload_n u, x, y, z, tl, v)) (hj : i + 1 = j) (hl : ls[(u : Nat)]? = some (.ref n)) (H : px_R C D ops hs j ls (.ref n :: st) h k Q) : px_R C D ops hs i ls st h k Q :=
  px_w1 ho hj (by show (match ls[(u : Nat)]? with | some (.ref x) => some (ls, Value.ref x :: st) | _ => none) = _; rw [hl]) H
theorem w_aL {u : Nat} (ho : ops[i]? = some (pc, len, .aload u, x, y, z, tl, v)) (hj : i + 1 = j) (hl : ls[u]? = some (.ref n)) (H : px_R C D ops hs j ls (.ref n :: st) h k Q) : px_R C D ops hs i ls st h k Q :=
  px_w1 ho hj (by show (match ls[u]? with | some (.ref x) => some (ls, Value.ref x :: st) | _ => none) = _; rw [hl]) H
theorem w_inc {u : Nat} {c : Int} (ho : ops[i]? = some (pc, len, .iinc u c, x, y, z, tl, v)) (hj : i + 1 = j) (hl : ls[u]? = some (.int a)) (hb : a + Int32.ofInt c = b) (H : px_R C D ops hs j (ls.set u (.int b)) st h k Q) : px_R C D ops hs i ls st h k Q :=
  px_w1 ho hj (by show (match ls[u]? with | some (.int x) => some (ls.set u (.int (x + Int32.ofInt c)), st) | _ => none) = _; rw [hl]; subst hb; rfl) H
theorem w_incN {u : Nat} (ho : ops[i]? = some (pc, len, .iinc u 1, x, y, z, tl, v)) (hj : i + 1 = j) (hl : ls[u]? = some (.int (nI n))) (H : px_R C D ops hs j (ls.set u (.int (nI (n + 1)))) st h k Q) : px_R C D ops hs i ls st h k Q :=
  w_inc ho hj hl (nI_succ n).symm H
theorem w_is {u : Fin 4} (ho : ops[i]? = some (pc, len, .istore_n u, x, y, z, tl, v)) (hj : i + 1 = j) (hl : Nat.blt u ls.length = true) (H : px_R C D ops hs j (ls.set u (.int a)) st h k Q) : px_R C D ops hs i ls (.int a :: st) h k Q :=
  px_w2 ho hj rfl (by show (if (u : Nat) < ls.length then some (ls.set u (.int a), st) else none) = _; rw [if_pos (Nat.blt_eq.mp hl)]) H
theorem w_iS {u : Nat} (ho : ops[i]? = some (pc, len, .istore u, x, y, z, tl, v)) (hj : i + 1 = j) (hl : Nat.blt u ls.length = true) (H : px_R C D ops hs j (ls.set u (.int a)) st h k Q) : px_R C D ops hs i ls (.int a :: st) h k Q :=
  px_w2 ho hj rfl (by show (if u < ls.length then some (ls.set u (.int a), st) else none) = _; rw [if_pos (Nat.blt_eq.mp hl)]) H
theorem w_as {u : Fin 4} (ho : ops[i]? = some (pc, len, .astore_n u, x, y, z, tl, v)) (hj : i + 1 = j) (hl : Nat.blt u ls.length = true) (H : px_R C D ops hs j (ls.set u (.ref n)) st h k Q) : px_R C D ops hs i ls (.ref n :: st) h k Q :=
  px_w2 ho hj rfl (by show (if (u : Nat) < ls.length then some (ls.set u (.ref n), st) else none) = _; rw [if_pos (Nat.blt_eq.mp hl)]) H
theorem w_aS {u : Nat} (ho : ops[i]? = some (pc, len, .astore u, x, y, z, tl, v)) (hj : i + 1 = j) (hl : Nat.blt u ls.length = true) (H : px_R C D ops hs j (ls.set u (.ref n)) st h k Q) : px_R C D ops hs i ls (.ref n :: st) h k Q :=
  px_w2 ho hj rfl (by show (if u < ls.length then some (ls.set u (.ref n), st) else none) = _; rw [if_pos (Nat.blt_eq.mp hl)]) H
theorem w_neg (ho : ops[i]? = some (pc, len, .ineg, x, y, z, tl, v)) (hj : i + 1 = j) (H : px_R C D ops hs j ls (.int (-a) :: st) h k Q) : px_R C D ops hs i ls (.int a :: st) h k Q := px_w2 ho hj rfl rfl H
theorem w_i2b (ho : ops[i]? = some (pc, len, .i2b, x, y, z, tl, v)) (hj : i + 1 = j) (H : px_R C D ops hs j ls (.int a.toInt8.toInt32 :: st) h k Q) : px_R C D ops hs i ls (.int a :: st) h k Q := px_w2 ho hj rfl rfl H
theorem w_i2l (ho : ops[i]? = some (pc, len, .i2l, x, y, z, tl, v)) (hj : i + 1 = j) (H : px_R C D ops hs j ls (.long a.toInt64 :: st) h k Q) : px_R C D ops hs i ls (.int a :: st) h k Q := px_w2 ho hj rfl rfl H
theorem w_dupi (ho : ops[i]? = some (pc, len, .dup, x, y, z, tl, v)) (hj : i + 1 = j) (H : px_R C D ops hs j ls (.int a :: .int a :: st) h k Q) : px_R C D ops hs i ls (.int a :: st) h k Q := px_w2 ho hj rfl rfl H
theorem w_dupr (ho : ops[i]? = some (pc, len, .dup, x, y, z, tl, v)) (hj : i + 1 = j) (H : px_R C D ops hs j ls (.ref n :: .ref n :: st) h k Q) : px_R C D ops hs i ls (.ref n :: st) h k Q := px_w2 ho hj rfl rfl H
theorem w_dup2 (ho : ops[i]? = some (pc, len, .dup2, x, y, z, tl, v)) (hj : i + 1 = j) (H : px_R C D ops hs j ls (.int a :: .ref n :: .int a :: .ref n :: st) h k Q) : px_R C D ops hs i ls (.int a :: .ref n :: st) h k Q := px_w2 ho hj rfl rfl H
theorem w_popi (ho : ops[i]? = some (pc, len, .pop, x, y, z, tl, v)) (hj : i + 1 = j) (H : px_R C D ops hs j ls st h k Q) : px_R C D ops hs i ls (.int a :: st) h k Q := px_w2 ho hj rfl rfl H
theorem w_lcmp {A B : Int64} (ho : ops[i]? = some (pc, len, .lcmp, x, y, z, tl, v)) (hj : i + 1 = j) (H : px_R C D ops hs j ls (.int (lg_cmp A B) :: st) h k Q) : px_R C D ops hs i ls (.long B :: .long A :: st) h k Q := px_w2 ho hj rfl rfl H
theorem w_add (ho : ops[i]? = some (pc, len, .iadd, x, y, z, tl, v)) (hj : i + 1 = j) (H : px_R C D ops hs j ls (.int (a + b) :: st) h k Q) : px_R C D ops hs i ls (.int b :: .int a :: st) h k Q := px_w3 ho hj rfl rfl rfl H
theorem w_sub (ho : ops[i]? = some (pc, len, .isub, x, y, z, tl, v)) (hj : i + 1 = j) (H : px_R C D ops hs j ls (.int (a - b) :: st) h k Q) : px_R C D ops hs i ls (.int b :: .int a :: st) h k Q := px_w3 ho hj rfl rfl rfl H
theorem w_mul (ho : ops[i]? = some (pc, len, .imul, x, y, z, tl, v)) (hj : i + 1 = j) (H : px_R C D ops hs j ls (.int (a * b) :: st) h k Q) : px_R C D ops hs i ls (.int b :: .int a :: st) h k Q := px_w3 ho hj rfl rfl rfl H
theorem w_addN (ho : ops[i]? = some (pc, len, .iadd, x, y, z, tl, v)) (hj : i + 1 = j) (H : px_R C D ops hs j ls (.int (nI (m + n)) :: st) h k Q) : px_R C D ops hs i ls (.int (nI n) :: .int (nI m) :: st) h k Q := w_add ho hj (by rw [px_nadd]; exact H)
theorem w_mulN (ho : ops[i]? = some (pc, len, .imul, x, y, z, tl, v)) (hj : i + 1 = j) (H : px_R C D ops hs j ls (.int (nI (m * n)) :: st) h k Q) : px_R C D ops hs i ls (.int (nI n) :: .int (nI m) :: st) h k Q := w_mul ho hj (by rw [px_nmul]; exact H)
theorem w_subN (ho : ops[i]? = some (pc, len, .isub, x, y, z, tl, v)) (hj : i + 1 = j) (hn : n ≤ m) (H : px_R C D ops hs j ls (.int (nI (m - n)) :: st) h k Q) : px_R C D ops hs i ls (.int (nI n) :: .int (nI m) :: st) h k Q := w_sub ho hj (by rw [px_nsub hn]; exact H)
theorem w_and (ho : ops[i]? = some (pc, len, .iand, x, y, z, tl, v)) (hj : i + 1 = j) (H : px_R C D ops hs j ls (.int (a &&& b) :: st) h k Q) : px_R C D ops hs i ls (.int b :: .int a :: st) h k Q := px_w3 ho hj rfl rfl rfl H
theorem w_or (ho : ops[i]? = some (pc, len, .ior, x, y, z, tl, v)) (hj : i + 1 = j) (H : px_R C D ops hs j ls (.int (a ||| b) :: st) h k Q) : px_R C D ops hs i ls (.int b :: .int a :: st) h k Q := px_w3 ho hj rfl rfl rfl H
theorem w_xor (ho : ops[i]? = some (pc, len, .ixor, x, y, z, tl, v)) (hj : i + 1 = j) (H : px_R C D ops hs j ls (.int (a ^^^ b) :: st) h k Q) : px_R C D ops hs i ls (.int b :: .int a :: st) h k Q := px_w3 ho hj rfl rfl rfl H
theorem w_shl (ho : ops[i]? = some (pc, len, .ishl, x, y, z, tl, v)) (hj : i + 1 = j) (H : px_R C D ops hs j ls (.int (a <<< (b &&& 31)) :: st) h k Q) : px_R C D ops hs i ls (.int b :: .int a :: st) h k Q := px_w3 ho hj rfl rfl rfl H
theorem w_shr (ho : ops[i]? = some (pc, len, .ishr, x, y, z, tl, v)) (hj : i + 1 = j) (H : px_R C D ops hs j ls (.int (a >>> (b &&& 31)) :: st) h k Q) : px_R C D ops hs i ls (.int b :: .int a :: st) h k Q := px_w3 ho hj rfl rfl rfl H
theorem w_ushr (ho : ops[i]? = some (pc, len, .iushr, x, y, z, tl, v)) (hj : i + 1 = j) (H : px_R C D ops hs j ls (.int (a.toUInt32 >>> (b.toUInt32 &&& Int32.toUInt32 31)).toInt32 :: st) h k Q) : px_R C D ops hs i ls (.int b :: .int a :: st) h k Q := px_w3 ho hj rfl rfl rfl H
theorem w_div (ho : ops[i]? = some (pc, len, .idiv, x, y, z, tl, v)) (hj : i + 1 = j) (hb : ¬ b = 0) (H : px_R C D ops hs j ls (.int (a / b) :: st) h k Q) : px_R C D ops hs i ls (.int b :: .int a :: st) h k Q :=
  px_w3 ho hj rfl rfl (by unfold ix_g3 ix_g3a ix_bop; simp only [ix_ins, if_neg hb]; rfl) H
theorem w_rem (ho : ops[i]? = some (pc, len, .irem, x, y, z, tl, v)) (hj : i + 1 = j) (hb : ¬ b = 0) (H : px_R C D ops hs j ls (.int (a - a / b * b) :: st) h k Q) : px_R C D ops hs i ls (.int b :: .int a :: st) h k Q :=
  px_w3 ho hj rfl rfl (by unfold ix_g3 ix_g3a ix_bop; simp only [ix_ins, if_neg hb]; rfl) H
theorem px_s2 {b a : Value} (hb : b.category = 1) (ha : a.category = 1) (hc : Nat.ble (st.map fun v => v.category).sum 8 = true) : ((b :: a :: st).map fun v => v.category).sum ≤ 10 := by
  have := Nat.le_of_ble_eq_true hc
  rw [List.map_cons, List.map_cons, List.sum_cons, List.sum_cons, hb, ha]
  omega
theorem px_s1 {a : Value} (ha : a.category = 1) (hc : Nat.ble (st.map fun v => v.category).sum 8 = true) : ((a :: st).map fun v => v.category).sum ≤ 10 := by
  have := Nat.le_of_ble_eq_true hc
  rw [List.map_cons, List.sum_cons, ha]
  omega
theorem px_g3s {c : Nat} {st : List Value} : ix_g3 (pc, len, .invokestatic c, x, y, z, tl, v) ls st = ix_g3b (pc, len, .invokestatic c, x, y, z, tl, v) ls st := by
  unfold ix_g3
  have : ix_g3a (pc, len, .invokestatic c, x, y, z, tl, v) ls st = none := by
    unfold ix_g3a
    split <;> rfl
  rw [this]
theorem w_max {c} (ho : ops[i]? = some (pc, len, .invokestatic c, x, 4, z, tl, v)) (hj : i + 1 = j) (hc : Nat.ble (st.map fun v => v.category).sum 8 = true) (H : px_R C D ops hs j ls (.int (if a < b then b else a) :: st) h k Q) : px_R C D ops hs i ls (.int b :: .int a :: st) h k Q :=
  px_w3 ho hj rfl rfl (by
    rw [px_g3s]
    unfold ix_g3b
    simp only [ix_ins]
    rw [if_pos (px_s2 rfl rfl hc)]
    rfl) H
theorem w_min {c} (ho : ops[i]? = some (pc, len, .invokestatic c, x, 5, z, tl, v)) (hj : i + 1 = j) (hc : Nat.ble (st.map fun v => v.category).sum 8 = true) (H : px_R C D ops hs j ls (.int (if b < a then b else a) :: st) h k Q) : px_R C D ops hs i ls (.int b :: .int a :: st) h k Q :=
  px_w3 ho hj rfl rfl (by
    rw [px_g3s]
    unfold ix_g3b
    simp only [ix_ins]
    rw [if_pos (px_s2 rfl rfl hc)]
    rfl) H
theorem w_abs {c} (ho : ops[i]? = some (pc, len, .invokestatic c, x, 6, z, tl, v)) (hj : i + 1 = j) (hc : Nat.ble (st.map fun v => v.category).sum 8 = true) (H : px_R C D ops hs j ls (.int (if 0 ≤ a then a else 0 - a) :: st) h k Q) : px_R C D ops hs i ls (.int a :: st) h k Q :=
  px_w3 ho hj rfl rfl (by
    rw [px_g3s]
    unfold ix_g3b
    simp only [ix_ins]
    rw [if_pos (px_s1 rfl hc)]
    rfl) H
-- branches
theorem w_go {c} (ho : ops[i]? = some (pc, len, .goto c, x, y, z, tl, v)) (H : px_R C D ops hs x ls st h k Q) : px_R C D ops hs i ls st h k Q :=
  px_wb ho rfl (by unfold ix_g2; rfl) (px_g3n (fun _ _ => rfl) rfl) rfl H
theorem px_g3i {c : ClassFile.Cond} {e : Int} {st : List Value} : ix_g3 (pc, len, .if_icmp c e, x, y, z, tl, v) ls st = none := px_g3n (fun _ _ => rfl) rfl
theorem px_g3c {c : ClassFile.Cond} {e : Int} {st : List Value} : ix_g3 (pc, len, .ifCond c e, x, y, z, tl, v) ls st = none := px_g3n (fun _ _ => rfl) rfl
theorem px_ci {c : ClassFile.Cond} {e : Int} (ho : ops[i]? = some (pc, len, .if_icmp c e, x, y, z, tl, v)) (hj : i + 1 = j) (hT : ix_c2 c a b = true → px_R C D ops hs x ls st h k Q) (hF : ix_c2 c a b = false → px_R C D ops hs j ls st h k Q) : px_R C D ops hs i ls (.int b :: .int a :: st) h k Q := by
  subst hj
  cases hc : ix_c2 c a b with
  | true => exact px_wb ho rfl rfl px_g3i (by show some (bif ix_c2 c a b then x else i + 1, st) = _; rw [hc]; rfl) (hT hc)
  | false => exact px_wb ho rfl rfl px_g3i (by show some (bif ix_c2 c a b then x else i + 1, st) = _; rw [hc]; rfl) (hF hc)
theorem px_cz {c : ClassFile.Cond} {e : Int} (ho : ops[i]? = some (pc, len, .ifCond c e, x, y, z, tl, v)) (hj : i + 1 = j) (hT : ix_c1 c a = true → px_R C D ops hs x ls st h k Q) (hF : ix_c1 c a = false → px_R C D ops hs j ls st h k Q) : px_R C D ops hs i ls (.int a :: st) h k Q := by
  subst hj
  cases hc : ix_c1 c a with
  | true => exact px_wb ho rfl rfl px_g3c (by show some (bif ix_c1 c a then x else i + 1, st) = _; rw [hc]; rfl) (hT hc)
  | false => exact px_wb ho rfl rfl px_g3c (by show some (bif ix_c1 c a then x else i + 1, st) = _; rw [hc]; rfl) (hF hc)
theorem w_eq {e : Int} (ho : ops[i]? = some (pc, len, .if_icmp .eq e, x, y, z, tl, v)) (hj : i + 1 = j) (hT : a = b → px_R C D ops hs x ls st h k Q) (hF : a ≠ b → px_R C D ops hs j ls st h k Q) : px_R C D ops hs i ls (.int b :: .int a :: st) h k Q :=
  px_ci ho hj (fun c => hT (of_decide_eq_true c)) (fun c => hF (of_decide_eq_false c))
theorem w_ne {e : Int} (ho : ops[i]? = some (pc, len, .if_icmp .ne e, x, y, z, tl, v)) (hj : i + 1 = j) (hT : a ≠ b → px_R C D ops hs x ls st h k Q) (hF : a = b → px_R C D ops hs j ls st h k Q) : px_R C D ops hs i ls (.int b :: .int a :: st) h k Q :=
  px_ci ho hj (fun c => hT (of_decide_eq_true c)) (fun c => hF (Decidable.of_not_not (of_decide_eq_false c)))
theorem w_lt {e : Int} (ho : ops[i]? = some (pc, len, .if_icmp .lt e, x, y, z, tl, v)) (hj : i + 1 = j) (hT : a < b → px_R C D ops hs x ls st h k Q) (hF : b ≤ a → px_R C D ops hs j ls st h k Q) : px_R C D ops hs i ls (.int b :: .int a :: st) h k Q :=
  px_ci ho hj (fun c => hT (of_decide_eq_true c)) (fun c => hF (px_not_lt.mp (of_decide_eq_false c)))
theorem w_ge {e : Int} (ho : ops[i]? = some (pc, len, .if_icmp .ge e, x, y, z, tl, v)) (hj : i + 1 = j) (hT : b ≤ a → px_R C D ops hs x ls st h k Q) (hF : a < b → px_R C D ops hs j ls st h k Q) : px_R C D ops hs i ls (.int b :: .int a :: st) h k Q :=
  px_ci ho hj (fun c => hT (of_decide_eq_true c)) (fun c => hF (px_not_le.mp (of_decide_eq_false c)))
theorem w_gt {e : Int} (ho : ops[i]? = some (pc, len, .if_icmp .gt e, x, y, z, tl, v)) (hj : i + 1 = j) (hT : b < a → px_R C D ops hs x ls st h k Q) (hF : a ≤ b → px_R C D ops hs j ls st h k Q) : px_R C D ops hs i ls (.int b :: .int a :: st) h k Q :=
  px_ci ho hj (fun c => hT (of_decide_eq_true c)) (fun c => hF (px_not_lt.mp (of_decide_eq_false c)))
theorem w_le {e : Int} (ho : ops[i]? = some (pc, len, .if_icmp .le e, x, y, z, tl, v)) (hj : i + 1 = j) (hT : a ≤ b → px_R C D ops hs x ls st h k Q) (hF : b < a → px_R C D ops hs j ls st h k Q) : px_R C D ops hs i ls (.int b :: .int a :: st) h k Q :=
  px_ci ho hj (fun c => hT (of_decide_eq_true c)) (fun c => hF (px_not_le.mp (of_decide_eq_false c)))
theorem w_eqN {e : Int} (ho : ops[i]? = some (pc, len, .if_icmp .eq e, x, y, z, tl, v)) (hj : i + 1 = j) (hm : m < 2147483648) (hn : n < 2147483648) (hT : m = n → px_R C D ops hs x ls st h k Q) (hF : m ≠ n → px_R C D ops hs j ls st h k Q) : px_R C D ops hs i ls (.int (nI n) :: .int (nI m) :: st) h k Q :=
  w_eq ho hj (fun c => hT ((px_neq hm hn).mp c)) (fun c => hF (fun d => c (by rw [d])))
theorem w_neN {e : Int} (ho : ops[i]? = some (pc, len, .if_icmp .ne e, x, y, z, tl, v)) (hj : i + 1 = j) (hm : m < 2147483648) (hn : n < 2147483648) (hT : m ≠ n → px_R C D ops hs x ls st h k Q) (hF : m = n → px_R C D ops hs j ls st h k Q) : px_R C D ops hs i ls (.int (nI n) :: .int (nI m) :: st) h k Q :=
  w_ne ho hj (fun c => hT (fun d => c (by rw [d]))) (fun c => hF ((px_neq hm hn).mp c))
theorem w_ltN {e : Int} (ho : ops[i]? = some (pc, len, .if_icmp .lt e, x, y, z, tl, v)) (hj : i + 1 = j) (hm : m < 2147483648) (hn : n < 2147483648) (hT : m < n → px_R C D ops hs x ls st h k Q) (hF : n ≤ m → px_R C D ops hs j ls st h k Q) : px_R C D ops hs i ls (.int (nI n) :: .int (nI m) :: st) h k Q :=
  w_lt ho hj (fun c => hT ((px_nlt hm hn).mp c)) (fun c => hF ((px_nle hn hm).mp c))
theorem w_geN {e : Int} (ho : ops[i]? = some (pc, len, .if_icmp .ge e, x, y, z, tl, v)) (hj : i + 1 = j) (hm : m < 2147483648) (hn : n < 2147483648) (hT : n ≤ m → px_R C D ops hs x ls st h k Q) (hF : m < n → px_R C D ops hs j ls st h k Q) : px_R C D ops hs i ls (.int (nI n) :: .int (nI m) :: st) h k Q :=
  w_ge ho hj (fun c => hT ((px_nle hn hm).mp c)) (fun c => hF ((px_nlt hm hn).mp c))
theorem w_gtN {e : Int} (ho : ops[i]? = some (pc, len, .if_icmp .gt e, x, y, z, tl, v)) (hj : i + 1 = j) (hm : m < 2147483648) (hn : n < 2147483648) (hT : n < m → px_R C D ops hs x ls st h k Q) (hF : m ≤ n → px_R C D ops hs j ls st h k Q) : px_R C D ops hs i ls (.int (nI n) :: .int (nI m) :: st) h k Q :=
  w_gt ho hj (fun c => hT ((px_nlt hn hm).mp c)) (fun c => hF ((px_nle hm hn).mp c))
theorem w_leN {e : Int} (ho : ops[i]? = some (pc, len, .if_icmp .le e, x, y, z, tl, v)) (hj : i + 1 = j) (hm : m < 2147483648) (hn : n < 2147483648) (hT : m ≤ n → px_R C D ops hs x ls st h k Q) (hF : n < m → px_R C D ops hs j ls st h k Q) : px_R C D ops hs i ls (.int (nI n) :: .int (nI m) :: st) h k Q :=
  w_le ho hj (fun c => hT ((px_nle hm hn).mp c)) (fun c => hF ((px_nlt hn hm).mp c))
theorem w_eqZ {e : Int} (ho : ops[i]? = some (pc, len, .ifCond .eq e, x, y, z, tl, v)) (hj : i + 1 = j) (hT : a = 0 → px_R C D ops hs x ls st h k Q) (hF : a ≠ 0 → px_R C D ops hs j ls st h k Q) : px_R C D ops hs i ls (.int a :: st) h k Q :=
  px_cz ho hj (fun c => hT (of_decide_eq_true c)) (fun c => hF (of_decide_eq_false c))
theorem w_neZ {e : Int} (ho : ops[i]? = some (pc, len, .ifCond .ne e, x, y, z, tl, v)) (hj : i + 1 = j) (hT : a ≠ 0 → px_R C D ops hs x ls st h k Q) (hF : a = 0 → px_R C D ops hs j ls st h k Q) : px_R C D ops hs i ls (.int a :: st) h k Q :=
  px_cz ho hj (fun c => hT (of_decide_eq_true c)) (fun c => hF (Decidable.of_not_not (of_decide_eq_false c)))
theorem w_ltZ {e : Int} (ho : ops[i]? = some (pc, len, .ifCond .lt e, x, y, z, tl, v)) (hj : i + 1 = j) (hT : a < 0 → px_R C D ops hs x ls st h k Q) (hF : 0 ≤ a → px_R C D ops hs j ls st h k Q) : px_R C D ops hs i ls (.int a :: st) h k Q :=
  px_cz ho hj (fun c => hT (of_decide_eq_true c)) (fun c => hF (px_not_lt.mp (of_decide_eq_false c)))
theorem w_geZ {e : Int} (ho : ops[i]? = some (pc, len, .ifCond .ge e, x, y, z, tl, v)) (hj : i + 1 = j) (hT : 0 ≤ a → px_R C D ops hs x ls st h k Q) (hF : a < 0 → px_R C D ops hs j ls st h k Q) : px_R C D ops hs i ls (.int a :: st) h k Q :=
  px_cz ho hj (fun c => hT (of_decide_eq_true c)) (fun c => hF (px_not_le.mp (of_decide_eq_false c)))
theorem w_gtZ {e : Int} (ho : ops[i]? = some (pc, len, .ifCond .gt e, x, y, z, tl, v)) (hj : i + 1 = j) (hT : 0 < a → px_R C D ops hs x ls st h k Q) (hF : a ≤ 0 → px_R C D ops hs j ls st h k Q) : px_R C D ops hs i ls (.int a :: st) h k Q :=
  px_cz ho hj (fun c => hT (of_decide_eq_true c)) (fun c => hF (px_not_lt.mp (of_decide_eq_false c)))
theorem w_leZ {e : Int} (ho : ops[i]? = some (pc, len, .ifCond .le e, x, y, z, tl, v)) (hj : i + 1 = j) (hT : a ≤ 0 → px_R C D ops hs x ls st h k Q) (hF : 0 < a → px_R C D ops hs j ls st h k Q) : px_R C D ops hs i ls (.int a :: st) h k Q :=
  px_cz ho hj (fun c => hT (of_decide_eq_true c)) (fun c => hF (px_not_le.mp (of_decide_eq_false c)))
theorem px_b0 (c : Bool) : px_b c = 0 ↔ c = false := by cases c <;> decide
theorem w_eqB {e : Int} {c : Bool} (ho : ops[i]? = some (pc, len, .ifCond .eq e, x, y, z, tl, v)) (hj : i + 1 = j) (hT : c = false → px_R C D ops hs x ls st h k Q) (hF : c = true → px_R C D ops hs j ls st h k Q) : px_R C D ops hs i ls (.int (px_b c) :: st) h k Q :=
  w_eqZ ho hj (fun e => hT ((px_b0 c).mp e)) (fun e => hF (by cases c with | true => rfl | false => exact absurd rfl e))
theorem w_neB {e : Int} {c : Bool} (ho : ops[i]? = some (pc, len, .ifCond .ne e, x, y, z, tl, v)) (hj : i + 1 = j) (hT : c = true → px_R C D ops hs x ls st h k Q) (hF : c = false → px_R C D ops hs j ls st h k Q) : px_R C D ops hs i ls (.int (px_b c) :: st) h k Q :=
  w_neZ ho hj (fun e => hT (by cases c with | true => rfl | false => exact absurd rfl e)) (fun e => hF ((px_b0 c).mp e))
theorem w_eqM {e : Int} (ho : ops[i]? = some (pc, len, .ifCond .eq e, x, y, z, tl, v)) (hj : i + 1 = j) (hm : m < 2147483648) (hT : m = 0 → px_R C D ops hs x ls st h k Q) (hF : m ≠ 0 → px_R C D ops hs j ls st h k Q) : px_R C D ops hs i ls (.int (nI m) :: st) h k Q :=
  w_eqZ ho hj (fun c => hT ((px_neq (b := 0) hm (by decide)).mp c)) (fun c => hF (fun d => c (by rw [d]; rfl)))
theorem w_neM {e : Int} (ho : ops[i]? = some (pc, len, .ifCond .ne e, x, y, z, tl, v)) (hj : i + 1 = j) (hm : m < 2147483648) (hT : m ≠ 0 → px_R C D ops hs x ls st h k Q) (hF : m = 0 → px_R C D ops hs j ls st h k Q) : px_R C D ops hs i ls (.int (nI m) :: st) h k Q :=
  w_neZ ho hj (fun c => hT (fun d => c (by rw [d]; rfl))) (fun c => hF ((px_neq (b := 0) hm (by decide)).mp c))
theorem w_gtM {e : Int} (ho : ops[i]? = some (pc, len, .ifCond .gt e, x, y, z, tl, v)) (hj : i + 1 = j) (hm : m < 2147483648) (hT : 0 < m → px_R C D ops hs x ls st h k Q) (hF : m = 0 → px_R C D ops hs j ls st h k Q) : px_R C D ops hs i ls (.int (nI m) :: st) h k Q :=
  w_gtZ ho hj (fun c => hT ((px_nlt (a := 0) (by decide) hm).mp c)) (fun c => hF (by have := (px_nle (b := 0) hm (by decide)).mp c; omega))
theorem w_leM {e : Int} (ho : ops[i]? = some (pc, len, .ifCond .le e, x, y, z, tl, v)) (hj : i + 1 = j) (hm : m < 2147483648) (hT : m = 0 → px_R C D ops hs x ls st h k Q) (hF : 0 < m → px_R C D ops hs j ls st h k Q) : px_R C D ops hs i ls (.int (nI m) :: st) h k Q :=
  w_leZ ho hj (fun c => hT (by have := (px_nle (b := 0) hm (by decide)).mp c; omega)) (fun c => hF ((px_nlt (a := 0) (by decide) hm).mp c))
theorem w_ltM {e : Int} (ho : ops[i]? = some (pc, len, .ifCond .lt e, x, y, z, tl, v)) (hj : i + 1 = j) (hm : m < 2147483648) (H : px_R C D ops hs j ls st h k Q) : px_R C D ops hs i ls (.int (nI m) :: st) h k Q :=
  w_ltZ ho hj (fun c => absurd c (nI_pos hm)) (fun _ => H)
theorem w_geM {e : Int} (ho : ops[i]? = some (pc, len, .ifCond .ge e, x, y, z, tl, v)) (hj : i + 1 = j) (hm : m < 2147483648) (H : px_R C D ops hs x ls st h k Q) : px_R C D ops hs i ls (.int (nI m) :: st) h k Q :=
  w_geZ ho hj (fun _ => H) (fun c => absurd c (nI_pos hm))
theorem w_sw {dflt lo hi : Int} {t : Array Int} (ho : ops[i]? = some (pc, len, .tableswitch dflt lo hi t, x, y, z, tl, v)) (hT : ∀ u : Nat, a.toInt = lo + u → a.toInt ≤ hi → ∀ w, tl[u]? = some w → px_R C D ops hs w ls st h k Q) (hn : (hi - lo).toNat < tl.length) (hF : a.toInt < lo ∨ hi < a.toInt → px_R C D ops hs x ls st h k Q) : px_R C D ops hs i ls (.int a :: st) h k Q := by
  by_cases hc : a.toInt < lo ∨ hi < a.toInt
  · exact px_wb ho rfl rfl (px_g3n (fun _ _ => rfl) rfl) (by show (if a.toInt < lo ∨ hi < a.toInt then some (x, st) else _) = _; rw [if_pos hc]) (hF hc)
  · have hu : (a.toInt - lo).toNat < tl.length := by omega
    refine px_wb (j := tl[(a.toInt - lo).toNat]) ho rfl rfl (px_g3n (fun _ _ => rfl) rfl) ?_ (hT (a.toInt - lo).toNat (by omega) (by omega) _ (List.getElem?_eq_getElem hu))
    show (if a.toInt < lo ∨ hi < a.toInt then some (x, st) else ((tl[(a.toInt - lo).toNat]?).map (fun t => (t, st)))) = _
    rw [if_neg hc, List.getElem?_eq_getElem hu]
    rfl
end PX
