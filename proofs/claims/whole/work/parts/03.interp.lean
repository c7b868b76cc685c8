abbrev ix_H : Type := Nat → Nat → Int32
abbrev ix_Op : Type := Nat × Nat × Instr × Nat × Nat × Nat × List Nat × Int32
abbrev ix_pc (o : ix_Op) : Nat := o.1
abbrev ix_len (o : ix_Op) : Nat := o.2.1
abbrev ix_ins (o : ix_Op) : Instr := o.2.2.1
abbrev ix_x (o : ix_Op) : Nat := o.2.2.2.1
abbrev ix_y (o : ix_Op) : Nat := o.2.2.2.2.1
abbrev ix_z (o : ix_Op) : Nat := o.2.2.2.2.2.1
abbrev ix_tl (o : ix_Op) : List Nat := o.2.2.2.2.2.2.1
abbrev ix_v (o : ix_Op) : Int32 := o.2.2.2.2.2.2.2
abbrev ix_R : Type := (Option Value ⊕ Nat) × ix_H × Nat
def ix_up (h : ix_H) (a k : Nat) (v : Int32) : ix_H := fun i j => if i = a then (if j = k then v else h i j) else h i j
def ix_row (h : ix_H) (a : Nat) (f : Nat → Int32) : ix_H := fun i => if i = a then f else h i
def ix_bop : Instr → Int32 → Int32 → Option Int32
  | .iadd, x, y => some (x + y)
  | .isub, x, y => some (x - y)
  | .imul, x, y => some (x * y)
  | .iand, x, y => some (x &&& y)
  | .ior, x, y => some (x ||| y)
  | .ixor, x, y => some (x ^^^ y)
  | .ishl, x, y => some (x <<< (y &&& 31))
  | .ishr, x, y => some (x >>> (y &&& 31))
  | .iushr, x, y => some (x.toUInt32 >>> (y.toUInt32 &&& Int32.toUInt32 31)).toInt32
  | .idiv, x, y => if y = 0 then none else some (x / y)
  | .irem, x, y => if y = 0 then none else some (x - x / y * y)
  | _, _, _ => none
def ix_g1 (o : ix_Op) (ls st : List Value) : Option (List Value × List Value) :=
  match ix_ins o with
  | .iconst n => some (ls, .int (Int32.ofInt n) :: st)
  | .bipush n => some (ls, .int (Int8.ofInt n).toInt32 :: st)
  | .sipush n => some (ls, .int (Int16.ofInt n).toInt32 :: st)
  | .ldc _ => if ix_z o = 0 then some (ls, .int (ix_v o) :: st) else if ix_z o = 1 then some (ls, .ref (ix_x o) :: st) else none
  | .ldc_w _ => if ix_z o = 0 then some (ls, .int (ix_v o) :: st) else none
  | .iload_n k => match ls[(k : Nat)]? with
    | some (.int x) => some (ls, .int x :: st)
    | _ => none
  | .iload k => match ls[k]? with
    | some (.int x) => some (ls, .int x :: st)
    | _ => none
  | .aload_n k => match ls[(k : Nat)]? with
    | some (.ref x) => some (ls, .ref x :: st)
    | _ => none
  | .aload k => match ls[k]? with
    | some (.ref x) => some (ls, .ref x :: st)
    | _ => none
  | .iinc k n => match ls[k]? with
    | some (.int x) => some (ls.set k (.int (x + Int32.ofInt n)), st)
    | _ => none
  | _ => none
def ix_g2 (o : ix_Op) (ls st : List Value) : Option (List Value × List Value) :=
  match ix_ins o, st with
  | .istore_n k, .int x :: r => if (k : Nat) < ls.length then some (ls.set k (.int x), r) else none
  | .istore k, .int x :: r => if k < ls.length then some (ls.set k (.int x), r) else none
  | .astore_n k, .ref x :: r => if (k : Nat) < ls.length then some (ls.set k (.ref x), r) else none
  | .astore k, .ref x :: r => if k < ls.length then some (ls.set k (.ref x), r) else none
  | .ineg, .int x :: r => some (ls, .int (-x) :: r)
  | .i2b, .int x :: r => some (ls, .int x.toInt8.toInt32 :: r)
  | .i2c, .int x :: r => some (ls, .int (x.toUInt32 % 65536).toInt32 :: r)
  | .i2l, .int x :: r => some (ls, .long x.toInt64 :: r)
  | .dup, a :: r => if a.category = 1 then some (ls, a :: a :: r) else none
  | .pop, a :: r => if a.category = 1 then some (ls, r) else none
  | .dup2, a :: b :: r => if a.category = 1 ∧ b.category = 1 then some (ls, a :: b :: a :: b :: r) else none
  | .lcmp, .long y :: .long x :: r => some (ls, .int (lg_cmp x y) :: r)
  | _, _ => none
def ix_g3a (o : ix_Op) (ls st : List Value) : Option (List Value × List Value) :=
  match st with
  | .int y :: .int x :: r => (ix_bop (ix_ins o) x y).map (fun v => (ls, .int v :: r))
  | _ => none
def ix_g3b (o : ix_Op) (ls st : List Value) : Option (List Value × List Value) :=
  match ix_ins o with
  | .invokestatic _ => if (st.map fun v => v.category).sum ≤ 10 then (if ix_y o = 4 then (match st with
      | .int y :: .int x :: r => some (ls, .int (if x < y then y else x) :: r)
      | _ => none) else if ix_y o = 5 then (match st with
      | .int y :: .int x :: r => some (ls, .int (if y < x then y else x) :: r)
      | _ => none) else if ix_y o = 6 then (match st with
      | .int x :: r => some (ls, .int (if 0 ≤ x then x else 0 - x) :: r)
      | _ => none) else none) else none
  | _ => none
def ix_g3 (o : ix_Op) (ls st : List Value) : Option (List Value × List Value) := match ix_g3a o ls st with
  | some q => some q
  | none => ix_g3b o ls st
def ix_c1 : ClassFile.Cond → Int32 → Bool
  | .eq, x => decide (x = 0)
  | .ne, x => decide (¬ x = 0)
  | .lt, x => decide (x < 0)
  | .ge, x => decide (0 ≤ x)
  | .gt, x => decide (0 < x)
  | .le, x => decide (x ≤ 0)
def ix_c2 : ClassFile.Cond → Int32 → Int32 → Bool
  | .eq, x, y => decide (x = y)
  | .ne, x, y => decide (¬ x = y)
  | .lt, x, y => decide (x < y)
  | .ge, x, y => decide (y ≤ x)
  | .gt, x, y => decide (y < x)
  | .le, x, y => decide (x ≤ y)
def ix_gb (o : ix_Op) (i : Nat) (st : List Value) : Option (Nat × List Value) :=
  match ix_ins o, st with
  | .goto _, r => some (ix_x o, r)
  | .ifCond c _, .int x :: r => some (bif ix_c1 c x then ix_x o else i + 1, r)
  | .if_icmp c _, .int y :: .int x :: r => some (bif ix_c2 c x y then ix_x o else i + 1, r)
  | .tableswitch _ lo hi _, .int x :: r => if x.toInt < lo ∨ hi < x.toInt then some (ix_x o, r) else ((ix_tl o)[(x.toInt - lo).toNat]?).map (fun t => (t, r))
  | _, _ => none
-- SHAPES
def ix_sh (a : Nat) : Nat × Nat × Nat := if 3001 ≤ a then (0, 0, 0) else (if a < 90 then (if a < 52 then (if a < 25 then (if a < 8 then (if a < 3 then (if a < 1 then (5, 11, 0) else (if a < 2 then (2, 600, 0) else (5, 7, 0))) else (if a < 4 then (5, 4, 0) else (if a < 6 then (1, 6, 0) else (1, 8, 0)))) else (if a < 16 then (if a < 9 then (3, 6, 9) else (if a < 15 then (1, 6, 0) else (3, 6, 16))) else (if a < 22 then (1, 6, 0) else (if a < 23 then (5, 4, 0) else (1, 6, 0))))) else (if a < 42 then (if a < 34 then (if a < 27 then (1, 8, 0) else (if a < 28 then (3, 6, 28) else (1, 6, 0))) else (if a < 35 then (3, 6, 35) else (if a < 41 then (1, 6, 0) else (5, 5, 0)))) else (if a < 47 then (if a < 43 then (1, 8, 0) else (if a < 46 then (1, 150, 0) else (5, 5, 0))) else (if a < 48 then (1, 8, 0) else (if a < 51 then (1, 150, 0) else (5, 2, 0)))))) else (if a < 73 then (if a < 63 then (if a < 57 then (if a < 54 then (1, 6, 0) else (if a < 55 then (5, 2, 0) else (1, 6, 0))) else (if a < 58 then (5, 10, 0) else (if a < 62 then (1, 150, 0) else (5, 8, 0)))) else (if a < 68 then (if a < 64 then (1, 8, 0) else (if a < 65 then (5, 9, 0) else (1, 8, 0))) else (if a < 69 then (5, 9, 0) else (if a < 72 then (1, 8, 0) else (5, 3, 0))))) else (if a < 80 then (if a < 76 then (if a < 74 then (1, 432, 0) else (if a < 75 then (1, 1377, 0) else (1, 3, 0))) else (if a < 77 then (5, 6, 0) else (if a < 78 then (1, 120, 0) else (1, 5, 0)))) else (if a < 85 then (if a < 81 then (1, 6, 0) else (if a < 82 then (5, 1, 0) else (1, 48, 0))) else (if a < 86 then (1, 100, 0) else (if a < 87 then (5, 9, 0) else (1, 8, 0))))))) else (if a < 320 then (if a < 120 then (if a < 103 then (if a < 100 then (if a < 91 then (5, 0, 0) else (if a < 99 then (0, 0, 0) else (4, 1, 0))) else (if a < 101 then (5, 12, 0) else (if a < 102 then (1, 600, 0) else (1, 2, 0)))) else (if a < 112 then (if a < 105 then (1, 4, 0) else (if a < 106 then (3, 6, 106) else (1, 2, 0))) else (if a < 113 then (3, 6, 113) else (if a < 119 then (1, 2, 0) else (3, 8, 120))))) else (if a < 145 then (if a < 137 then (if a < 128 then (1, 2, 0) else (if a < 129 then (3, 8, 129) else (1, 2, 0))) else (if a < 138 then (3, 6, 138) else (if a < 144 then (1, 6, 0) else (3, 6, 145)))) else (if a < 158 then (if a < 151 then (1, 6, 0) else (if a < 152 then (3, 6, 152) else (1, 6, 0))) else (if a < 159 then (3, 160, 159) else (if a < 319 then (1, 2, 0) else (3, 160, 320)))))) else (if a < 581 then (if a < 495 then (if a < 487 then (if a < 480 then (1, 2, 0) else (if a < 481 then (3, 6, 481) else (1, 2, 0))) else (if a < 488 then (3, 6, 488) else (if a < 494 then (1, 2, 0) else (1, 160, 0)))) else (if a < 577 then (if a < 496 then (1, 8, 0) else (if a < 497 then (3, 80, 497) else (1, 4, 0))) else (if a < 579 then (1, 32, 0) else (if a < 580 then (1, 8, 0) else (3, 16, 581))))) else (if a < 604 then (if a < 601 then (if a < 597 then (1, 32, 0) else (if a < 598 then (3, 3, 598) else (1, 545, 0))) else (if a < 602 then (1, 8, 0) else (if a < 603 then (1, 100, 0) else (3, 48, 604)))) else (if a < 717 then (if a < 652 then (1, 41, 0) else (if a < 653 then (3, 64, 653) else (1, 6, 0))) else (if a < 2021 then (if a < 2000 then (0, 0, 0) else (6, 0, 0)) else (if a < 3000 then (0, 0, 0) else (7, 0, 0))))))))
abbrev ix_k (a : Nat) : Nat := (ix_sh a).1
abbrev ix_n (a : Nat) : Nat := (ix_sh a).2.1
abbrev ix_b (a : Nat) : Nat := (ix_sh a).2.2
def ix_rf (a : Nat) : List (Option Nat) := if ix_k a = 5 then (if a < 62 then (if a < 41 then (if a < 3 then (if a < 2 then [some 1, some 2, some 3, some 22, some 41, some 46, some 51, some 54, some 57, some 62, some 64, some 68, some 72, some 76, some 81, some 90, none, none, none, none] else [some 1, none, none, none, none, none, none]) else (if a < 22 then [some 4, some 5, some 6, some 7, some 8, some 15, none, none, none, none] else [some 23, some 24, some 25, some 26, some 27, some 34, none, none, none, none])) else (if a < 51 then (if a < 46 then [some 42, some 43, some 44, some 45, none] else [some 47, some 48, some 49, some 50, none]) else (if a < 54 then [some 52, some 53, none] else (if a < 57 then [some 55, some 56, none] else [some 58, some 59, some 60, some 61, none, none, none])))) else (if a < 76 then (if a < 68 then (if a < 64 then [some 3, some 41, some 63] else [some 3, some 65, some 66, some 67, none, none, none]) else (if a < 72 then [some 3, some 69, some 70, some 71, none, none, none] else [some 73, some 74, some 75, none, none, none])) else (if a < 86 then (if a < 81 then [some 3, some 62, some 77, some 78, some 79, some 80, none, none] else [some 3, some 62, some 86, some 82, some 83, some 84, some 85, none, none, none]) else (if a < 90 then [some 3, some 87, some 88, some 89, none, none, none] else (if a < 100 then [some 3, some 62, none, none, none] else [none, none, none, none, none, none, none, none, none, some 101, some 102, some 103, some 104, some 105, some 112, some 119, some 128, some 137, some 144, some 151, none, none, some 158, some 319, some 480, some 487, some 494, some 495, some 496, none, some 577, some 578, some 579, some 580, some 597, none, none, none, none, none, none, none, some 601, none, some 602, some 603, some 652, none, none, none]))))) else []
def ix_ids : List Nat := List.range 91 ++ (99 :: (List.range 617).map (fun i => i + 100))
def ix_cpy (h : ix_H) (b sp a dp n : Nat) : ix_H := ix_row h a (va_cpy (h b) (h a) sp dp n)
def ix_gh (dm : Nat → Bool) (o : ix_Op) (st : List Value) (h : ix_H) : Option (List Value × ix_H) :=
  match ix_ins o, st with
  | .getfield _, .ref a :: r => if dm a = true ∧ ix_k a = 5 ∧ ix_n a = ix_x o then (match (ix_rf a)[ix_y o]? with
      | some (some t) => if dm (10000 + 100 * a + ix_y o) = true then some (.ref t :: r, h) else none
      | some none => some (.int (h a (ix_y o)) :: r, h)
      | none => none) else none
  | .putfield _, .int v :: .ref a :: r => if dm a = true ∧ ix_k a = 5 ∧ ix_n a = ix_x o ∧ (ix_rf a)[ix_y o]? = some none then some (r, ix_up h a (ix_y o) v) else none
  | .iaload, .int j :: .ref a :: r => if dm a = true ∧ ix_k a = 1 ∧ ¬ (j < 0 ∨ ix_n a ≤ j.toNatClampNeg) then some (.int (h a j.toNatClampNeg) :: r, h)
      else if ix_k a = 7 ∧ ¬ (j < 0 ∨ (h 3001 0).toNatClampNeg ≤ j.toNatClampNeg) then some (.int (h a j.toNatClampNeg) :: r, h) else none
  | .iastore, .int v :: .int j :: .ref a :: r => if dm a = true ∧ ix_k a = 1 ∧ ¬ (j < 0 ∨ ix_n a ≤ j.toNatClampNeg) then some (r, ix_up h a j.toNatClampNeg v) else none
  | .baload, .int j :: .ref a :: r => if dm a = true ∧ ix_k a = 2 ∧ ¬ (j < 0 ∨ ix_n a ≤ j.toNatClampNeg) then some (.int (h a j.toNatClampNeg) :: r, h) else none
  | .bastore, .int v :: .int j :: .ref a :: r => if dm a = true ∧ ix_k a = 2 ∧ ¬ (j < 0 ∨ ix_n a ≤ j.toNatClampNeg) then some (r, ix_up h a j.toNatClampNeg (vp_nar .byte v)) else none
  | .aaload, .int j :: .ref a :: r => if dm a = true ∧ ix_k a = 3 ∧ ¬ (j < 0 ∨ ix_n a ≤ j.toNatClampNeg) then some (.ref (ix_b a + j.toNatClampNeg) :: r, h) else none
  | .laload, .int j :: .ref a :: r => if dm a = true ∧ ix_k a = 4 ∧ ¬ (j < 0 ∨ ix_n a ≤ j.toNatClampNeg) then some (.long (h a j.toNatClampNeg).toInt64 :: r, h) else none
  | .lastore, .long v :: .int j :: .ref a :: r => if dm a = true ∧ ix_k a = 4 ∧ ¬ (j < 0 ∨ ix_n a ≤ j.toNatClampNeg) ∧ v.toInt32.toInt64 = v then some (r, ix_up h a j.toNatClampNeg v.toInt32) else none
  | .arraylength, .ref a :: r => if dm a = true ∧ (ix_k a = 1 ∨ ix_k a = 2 ∨ ix_k a = 3) then some (.int (Int32.ofNat (ix_n a)) :: r, h)
      else if ix_k a = 7 then some (.int (h 3001 0) :: r, h) else none
  | .invokestatic _, .int n :: .int dp :: .ref a :: .int sp :: .ref b :: r => if ix_y o = 7 ∧ dm a = true ∧ dm b = true ∧ ix_k a = 1 ∧ ix_k b = 1 ∧ ¬ sp < 0 ∧ ¬ dp < 0 ∧ ¬ n < 0 ∧ sp.toNatClampNeg + n.toNatClampNeg ≤ ix_n b ∧ dp.toNatClampNeg + n.toNatClampNeg ≤ ix_n a ∧ (r.map fun v => v.category).sum ≤ 8 then some (r, ix_cpy h b sp.toNatClampNeg a dp.toNatClampNeg n.toNatClampNeg) else none
  | _, _ => none
abbrev ix_Hd : Type := Nat × Nat × Nat × Nat × Nat
def ix_find (hs : List ix_Hd) (pc x : Nat) : Option ix_Hd := hs.find? (fun e => decide (e.1 ≤ pc) && decide (pc < e.2.1) && decide (e.2.2.1 = x))
def ix_iscall : Instr → Bool
  | .invokevirtual _ => true
  | .invokestatic _ => true
  | _ => false
def ix_iscv : Instr → Bool
  | .invokevirtual _ => true
  | _ => false
def ix_rcv (dm : Nat → Bool) (o : ix_Op) : List Value → Bool
  | .ref a :: _ => !(ix_iscv (ix_ins o)) || (dm a && decide (ix_k a = 5) && decide (ix_tl o = [ix_n a])) || (decide (ix_k a = 6) && decide (ix_tl o = [99]))
  | _ => !(ix_iscv (ix_ins o))
def ix_run (dm : Nat → Bool) (call : Nat → List Value → ix_H → Option ix_R) (ops : List ix_Op) (hs : List ix_Hd) : Nat → Nat → List Value → List Value → ix_H → Nat → Option ix_R
  | 0, _, _, _, _, _ => none
  | g + 1, i, ls, st, h, k => match ops[i]? with
    | none => none
    | some o => match ix_g1 o ls st with
      | some q => ix_run dm call ops hs g (i + 1) q.1 q.2 h k
      | none => match ix_g2 o ls st with
        | some q => ix_run dm call ops hs g (i + 1) q.1 q.2 h k
        | none => match ix_g3 o ls st with
          | some q => ix_run dm call ops hs g (i + 1) q.1 q.2 h k
          | none => match ix_gb o i st with
            | some q => ix_run dm call ops hs g q.1 ls q.2 h k
            | none => match ix_gh dm o st h with
              | some q => ix_run dm call ops hs g (i + 1) ls q.1 q.2 k
              | none => if ix_iscall (ix_ins o) = true then
                  (if ix_y o < 4 ∧ ix_z o ≤ st.length ∧ ((st.drop (ix_z o)).map fun v => v.category).sum ≤ 8 ∧ ix_rcv dm o (st.take (ix_z o)).reverse = true then
                    (match call (ix_x o) (st.take (ix_z o)).reverse h with
                    | none => none
                    | some (.inl v, h', k') => ix_run dm call ops hs g (i + 1) ls (v.toList ++ st.drop (ix_z o)) h' (k + k')
                    | some (.inr x, h', k') => if ix_y o ≠ 0 then none else match ix_find hs (ix_pc o) x with
                      | none => if hs.isEmpty = true then some (.inr x, h', k + k') else none
                      | some e => if e.2.2.2.2 < ls.length then ix_run dm call ops hs g e.2.2.2.1 (ls.set e.2.2.2.2 .null) [] h' (k + k') else none)
                  else none)
                else match ix_ins o, st with
                  | .ireturn, [.int v] => if ix_x o = 0 ∨ v = 0 ∨ v = 1 then some (.inl (some (.int v)), h, k) else none
                  | .return_, [] => some (.inl none, h, k)
                  | .new _, [] => if ix_y o = 1 then some (.inr (ix_x o), h, k + 1) else none
                  | _, _ => none
abbrev ix_M : Type := MethodName × ByteArray × Nat × Option FieldType × Nat × Nat × List ix_Op × List ix_Hd
abbrev ix_my (M : ix_M) : MethodName := M.1
abbrev ix_mb (M : ix_M) : ByteArray := M.2.1
abbrev ix_ml (M : ix_M) : Nat := M.2.2.1
abbrev ix_mr (M : ix_M) : Option FieldType := M.2.2.2.1
abbrev ix_ma (M : ix_M) : Nat := M.2.2.2.2.1
abbrev ix_mc (M : ix_M) : Nat := M.2.2.2.2.2.1
abbrev ix_mo (M : ix_M) : List ix_Op := M.2.2.2.2.2.2.1
abbrev ix_mh (M : ix_M) : List ix_Hd := M.2.2.2.2.2.2.2
def ix_exec (tab : List ix_M) (pr : Nat → List Value → ix_H → Option ix_R) (dm : Nat → Bool) : Nat → Nat → Nat → List Value → ix_H → Option ix_R
  | 0, _, _, _, _ => none
  | d + 1, f, mi, args, h => match tab[mi]? with
    | none => pr mi args h
    | some M => if args.length = ix_ma M ∧ args.all (fun v => v.category == 1) = true then ix_run dm (ix_exec tab pr dm d f) (ix_mo M) (ix_mh M) f 0 (args ++ List.replicate (ix_ml M - ix_ma M) .null) [] h 0 else none
