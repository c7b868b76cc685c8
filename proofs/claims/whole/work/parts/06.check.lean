def ix_T (ci : Nat) : u_T := (vwCl.getD ci ("", fun _ => ("", "", "", false), 0)).2.1
def ix_N (ci : Nat) : Nat := (vwCl.getD ci ("", fun _ => ("", "", "", false), 0)).2.2
def ix_fw (e : Nat × Nat × Nat × Nat × Nat) : Cond :=
  if e.2.2.2.2 = 0 then .fieldLink (ix_cn e.1) e.2.1 (ix_T e.2.2.1 e.2.2.2.1).1 (ix_T e.2.2.1 e.2.2.2.1).2.1 (ix_T e.2.2.1 e.2.2.2.1).2.2.1
  else .fieldLinkNest (ix_cn e.1) e.2.1 (ix_T e.2.2.1 e.2.2.2.1).1 (ix_T e.2.2.1 e.2.2.2.1).2.1 (ix_T e.2.2.1 e.2.2.2.1).2.2.1 "CryGorge"
def ix_lenof : Instr → Nat
  | .iload _ => 2
  | .aload _ => 2
  | .istore _ => 2
  | .astore _ => 2
  | .bipush _ => 2
  | .ldc _ => 2
  | .sipush _ => 3
  | .ldc_w _ => 3
  | .iinc _ _ => 3
  | .goto _ => 3
  | .ifCond _ _ => 3
  | .if_icmp _ _ => 3
  | .getfield _ => 3
  | .putfield _ => 3
  | .invokevirtual _ => 3
  | .invokestatic _ => 3
  | .new _ => 3
  | .tableswitch _ _ _ _ => 0
  | .invokespecial _ => 3
  | .newarray _ => 2
  | .multianewarray _ _ => 4
  | _ => 1
def ix_jmp (ops : List ix_Op) (pc t : Nat) (off : Int) : Bool := match ops[t]? with
  | some o' => decide ((pc : Int) + off = (ix_pc o' : Int))
  | none => false
def ix_res (own : Nat) (bytes : ByteArray) (ops : List ix_Op) (o : ix_Op) : Bool := match ix_ins o with
  | .getfield idx => decide ((own, idx, ix_x o, ix_y o, ix_z o) ∈ ix_flk)
  | .putfield idx => decide ((own, idx, ix_x o, ix_y o, ix_z o) ∈ ix_flk)
  | .goto off => ix_jmp ops (ix_pc o) (ix_x o) off
  | .ifCond _ off => ix_jmp ops (ix_pc o) (ix_x o) off
  | .if_icmp _ off => ix_jmp ops (ix_pc o) (ix_x o) off
  | .tableswitch d lo hi offs => ix_jmp ops (ix_pc o) (ix_x o) d && decide ((offs.size : Int) = hi - lo + 1) && decide ((ix_tl o).length = offs.size) && (List.range offs.size).all (fun j => ix_jmp ops (ix_pc o) ((ix_tl o).getD j 0) (offs.getD j 0))
  | .invokevirtual idx => decide (ix_tl o = [(ix_tab[ix_x o]?.map ix_mc).getD 99]) && decide (ix_y o = 0 ∨ ix_y o = 2) && decide ((own, idx, ix_x o, ix_y o, ix_z o) ∈ ix_mlk)
  | .invokestatic idx => decide (ix_y o = 1 ∨ (3 ≤ ix_y o ∧ ix_y o ≤ 7)) && decide ((own, idx, ix_x o, ix_y o, ix_z o) ∈ ix_mlk)
  | .ldc idx => if ix_z o = 0 then decide ((own, idx, ix_v o) ∈ ix_cks) else if ix_z o = 1 then decide ((own, idx, ix_x o) ∈ ix_sks) else true
  | .ldc_w idx => if ix_z o = 0 then decide ((own, idx, ix_v o) ∈ ix_cks) else true
  | .new ik => if ix_y o = 1 then decide (own = 11) && decide (decode bytes (ix_pc o + 3) = .ok (.dup, 1)) && decide (decode bytes (ix_pc o + 10) = .ok (.athrow, 1)) &&
      ((decide (ix_x o = 0) && decide (ik = 400) && decide (decode bytes (ix_pc o + 4) = .ok (.ldc_w 402, 3)) && decide (decode bytes (ix_pc o + 7) = .ok (.invokespecial 404, 3))) ||
       (decide (ix_x o = 1) && decide (ik = 413) && decide (decode bytes (ix_pc o + 4) = .ok (.ldc_w 415, 3)) && decide (decode bytes (ix_pc o + 7) = .ok (.invokespecial 417, 3)))) else true
  | _ => true
def ix_ok1 (own : Nat) (bytes : ByteArray) (ops : List ix_Op) (o : ix_Op) : Bool :=
  decide (decode bytes (ix_pc o) = .ok (ix_ins o, ix_len o)) && (decide (ix_lenof (ix_ins o) = ix_len o) || decide (ix_lenof (ix_ins o) = 0)) && ix_res own bytes ops o
def ix_chain : List ix_Op → Bool
  | o :: o' :: l => decide (ix_pc o' = ix_pc o + ix_len o) && ix_chain (o' :: l)
  | _ => true
def ix_okm (M : ix_M) : Bool := (ix_mo M).all (ix_ok1 (ix_mc M) (ix_mb M) (ix_mo M)) && ix_chain (ix_mo M) && decide (((ix_mo M).head?.map ix_pc) = some 0) && decide (ix_ma M ≤ ix_ml M) && decide (ix_ml M ≤ 22) && decide (ix_cn (ix_mc M) = (ix_my M).cls)
def ix_cal (mi : Nat) : Option (MethodName × ByteArray × Nat × Option FieldType) := match ix_tab[mi]? with
  | some M => some (ix_my M, ix_mb M, ix_ml M, ix_mr M)
  | none => if mi = 900 then some (⟨"java/lang/String", "length", "()I"⟩, prog_23_method_54_code, 1, some .int) else if mi = 901 then some (⟨"java/lang/String", "charAt", "(I)C"⟩, prog_23_method_56_code, 2, some .char) else none
def ix_ar (e : Nat × Nat × Nat × Nat × Nat) : Bool := decide (4 ≤ e.2.2.2.1) || (match ix_cal e.2.2.1 with
  | none => false
  | some q => decide ((parseMethodDescriptor q.1.desc).map (fun d => d.parameters.length) = some (if e.2.2.2.1 = 0 ∨ e.2.2.2.1 = 2 then e.2.2.2.2 - 1 else e.2.2.2.2)) && decide (q.1.cls ≠ "java/lang/invoke/MethodHandle" ∧ q.1.cls ≠ "java/lang/invoke/VarHandle") && decide (q.2.2.1 ≤ 22) && (decide (e.2.2.2.1 = 1 ∨ e.2.2.2.1 = 3) || decide (1 ≤ e.2.2.2.2)))
def ix_okr (M : ix_M) : Bool := match ix_mr M with
  | none => (ix_mo M).all (fun o => decide (ix_ins o ≠ .ireturn))
  | some ty => (ix_mo M).all (fun o => decide (ix_ins o ≠ .return_)) && (decide (ty = .int) || (decide (ty = .boolean) && (ix_mo M).all (fun o => decide (ix_ins o ≠ .ireturn) || decide (ix_x o = 1))))
