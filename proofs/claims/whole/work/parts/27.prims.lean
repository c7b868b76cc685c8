def ix_yPC : MethodName := ⟨"jdk/internal/util/Preconditions", "checkIndex", "(IILjava/util/function/BiFunction;)I"⟩
def ix_ySC : MethodName := ⟨"java/lang/String", "checkIndex", "(II)V"⟩
def ix_yLC : MethodName := ⟨"java/lang/StringLatin1", "charAt", "([BI)C"⟩
def ix_yIL : MethodName := ⟨"java/lang/String", "isLatin1", "()Z"⟩
def ix_yCO : MethodName := ⟨"java/lang/String", "coder", "()B"⟩
def ix_yLE : MethodName := ⟨"java/lang/String", "length", "()I"⟩
def ix_yCA : MethodName := ⟨"java/lang/String", "charAt", "(I)C"⟩
theorem jw_9 : Cond.fieldLink "java/lang/String" 9 "java/lang/String" "value" "[B" ∈ ix_gw := ix_gwm (ix_tbl (List.mem_append_right _ (List.mem_append_right _ (List.mem_append_right _ (List.mem_append_right _ (List.mem_append_right _ (List.mem_append_right _ (List.mem_append_right _ (List.mem_append_right _ (List.mem_of_getElem? (i := 38) rfl)))))))))) rfl
theorem jw_15 : Cond.fieldLink "java/lang/String" 15 "java/lang/String" "coder" "B" ∈ ix_gw := ix_gwm (ix_tbl (List.mem_append_right _ (List.mem_append_right _ (List.mem_append_right _ (List.mem_append_right _ (List.mem_append_right _ (List.mem_append_right _ (List.mem_append_right _ (List.mem_append_right _ (List.mem_of_getElem? (i := 39) rfl)))))))))) rfl
theorem jw_38 : Cond.fieldLink "java/lang/String" 38 "java/lang/String" "COMPACT_STRINGS" "Z" ∈ ix_gw := ix_gwm (ix_tbl (List.mem_append_right _ (List.mem_append_right _ (List.mem_append_left _ (List.mem_of_getElem? (i := 205) rfl))))) rfl
theorem jw_1053 : Cond.fieldLink "java/lang/String" 1053 "jdk/internal/util/Preconditions" "SIOOBE_FORMATTER" "Ljava/util/function/BiFunction;" ∈ ix_gw := ix_gwm (ix_tbl (List.mem_append_right _ (List.mem_append_right _ (List.mem_append_left _ (List.mem_of_getElem? (i := 221) rfl))))) rfl
theorem jm_CO : Cond.methodLink "java/lang/String" 335 ix_yCO ∈ ix_gw := ix_gwm (ix_tbl (List.mem_append_right _ (List.mem_append_right _ (List.mem_append_left _ (List.mem_of_getElem? (i := 201) rfl))))) rfl
theorem jm_IL : Cond.methodLink "java/lang/String" 492 ix_yIL ∈ ix_gw := ix_gwm (ix_tbl (List.mem_append_right _ (List.mem_append_right _ (List.mem_append_left _ (List.mem_of_getElem? (i := 211) rfl))))) rfl
theorem jm_LC : Cond.methodLink "java/lang/String" 495 ix_yLC ∈ ix_gw := ix_gwm (ix_tbl (List.mem_append_right _ (List.mem_append_right _ (List.mem_append_left _ (List.mem_of_getElem? (i := 215) rfl))))) rfl
theorem jm_SC : Cond.methodLink "java/lang/StringLatin1" 9 ix_ySC ∈ ix_gw := ix_gwm (ix_tbl (List.mem_append_right _ (List.mem_append_right _ (List.mem_append_left _ (List.mem_of_getElem? (i := 218) rfl))))) rfl
theorem jm_PC : Cond.methodLink "java/lang/String" 1059 ix_yPC ∈ ix_gw := ix_gwm (ix_tbl (List.mem_append_right _ (List.mem_append_right _ (List.mem_append_left _ (List.mem_of_getElem? (i := 223) rfl))))) rfl
theorem ji_CO : Cond.instanceMethod ix_yCO ∈ ix_gw := ix_gwm (ix_tbl (List.mem_append_right _ (List.mem_append_right _ (List.mem_append_left _ (List.mem_of_getElem? (i := 202) rfl))))) rfl
theorem js_CO : Cond.selects "java/lang/String" ix_yCO ix_yCO ∈ ix_gw := ix_gwm (ix_tbl (List.mem_append_right _ (List.mem_append_right _ (List.mem_append_left _ (List.mem_of_getElem? (i := 203) rfl))))) rfl
theorem ji_IL : Cond.instanceMethod ix_yIL ∈ ix_gw := ix_gwm (ix_tbl (List.mem_append_right _ (List.mem_append_right _ (List.mem_append_left _ (List.mem_of_getElem? (i := 212) rfl))))) rfl
theorem js_IL : Cond.selects "java/lang/String" ix_yIL ix_yIL ∈ ix_gw := ix_gwm (ix_tbl (List.mem_append_right _ (List.mem_append_right _ (List.mem_append_left _ (List.mem_of_getElem? (i := 213) rfl))))) rfl
theorem jt_LC : Cond.static ix_yLC ∈ ix_gw := ix_gwm (ix_tbl (List.mem_append_right _ (List.mem_append_right _ (List.mem_append_left _ (List.mem_of_getElem? (i := 216) rfl))))) rfl
theorem jt_SC : Cond.static ix_ySC ∈ ix_gw := ix_gwm (ix_tbl (List.mem_append_right _ (List.mem_append_right _ (List.mem_append_left _ (List.mem_of_getElem? (i := 219) rfl))))) rfl
theorem jt_PC : Cond.static ix_yPC ∈ ix_gw := ix_gwm (ix_tbl (List.mem_append_right _ (List.mem_append_right _ (List.mem_append_left _ (List.mem_of_getElem? (i := 224) rfl))))) rfl
theorem jn_S : Cond.initialized "java/lang/String" ∈ ix_gw := ix_gwm (ix_tbl (List.mem_append_left _ (List.mem_of_getElem? (i := 19) rfl))) rfl
theorem jn_L : Cond.initialized "java/lang/StringLatin1" ∈ ix_gw := ix_gwm (ix_tbl (List.mem_append_left _ (List.mem_of_getElem? (i := 20) rfl))) rfl
theorem jn_P : Cond.initialized "jdk/internal/util/Preconditions" ∈ ix_gw := ix_gwm (ix_tbl (List.mem_append_left _ (List.mem_of_getElem? (i := 21) rfl))) rfl
theorem jc_PC : Cond.code ix_yPC prog_31_method_11_code 3 (Option.some FieldType.int) ∈ ix_gw := ix_gwm (ix_tbl (List.mem_append_right _ (List.mem_append_right _ (List.mem_append_left _ (List.mem_of_getElem? (i := 225) rfl))))) rfl
theorem jc_SC : Cond.code ix_ySC prog_23_method_155_code 2 (Option.none : Option FieldType) ∈ ix_gw := ix_gwm (ix_tbl (List.mem_append_right _ (List.mem_append_right _ (List.mem_append_left _ (List.mem_of_getElem? (i := 220) rfl))))) rfl
theorem jc_LC : Cond.code ix_yLC prog_24_method_2_code 2 (Option.some FieldType.char) ∈ ix_gw := ix_gwm (ix_tbl (List.mem_append_right _ (List.mem_append_right _ (List.mem_append_left _ (List.mem_of_getElem? (i := 217) rfl))))) rfl
theorem jc_IL : Cond.code ix_yIL prog_23_method_154_code 1 (Option.some FieldType.boolean) ∈ ix_gw := ix_gwm (ix_tbl (List.mem_append_right _ (List.mem_append_right _ (List.mem_append_left _ (List.mem_of_getElem? (i := 214) rfl))))) rfl
theorem jc_CO : Cond.code ix_yCO prog_23_method_152_code 1 (Option.some FieldType.byte) ∈ ix_gw := ix_gwm (ix_tbl (List.mem_append_right _ (List.mem_append_right _ (List.mem_append_left _ (List.mem_of_getElem? (i := 204) rfl))))) rfl
def ix_r0 (n : Nat) : Room := { frames := n, cells := 0, slots := 0, locals := 41 * n }
section IXP
variable {l : Launch} {D : va_G} {G : ix_G} {ad : Nat → Nat} {ids : List Nat} {lo : Nat} {h : ix_H}
abbrev ix_Cp (l : Launch) (D : va_G) (G : ix_G) (ad : Nat → Nat) (ids : List Nat) (lo : Nat) (rm : Room) (h : ix_H) (y : MethodName) (b : ByteArray) (ml : Nat) (ret : Option FieldType) (vs : List Value) (v : Option Value) : Prop :=
  Met l y (.code y b ml ret :: ix_gw) rm (va_Pc vs (ix_St D G ad ids lo h)) (ix_Qc D G ad ids lo (.inl v, h, 0)) 0 0 (ix_A lo)
theorem ix_ent {y : MethodName} {b : ByteArray} {ml : Nat} {ret : Option FieldType} {vs : List Value} {v : Option Value} {rm : Room} (hy : plainName y.cls = true) (hvs : (lg_sl vs).length ≤ ml)
    (body : ∀ (p : Program) (e : Env) (s : State) (m : MethodId) (below : List Frame) (meth : Method) (c : Code), p.tables.exec = Jvm.exec → c.code = b → c.maxLocals = ml → meth.sig.returnType = ret → meth.locks = false → s.vm.findClass y.cls = some m.cls → (∀ w ∈ ix_gw, w.before vs.toArray s = true) → ix_St D G ad ids lo h s →
      ∀ ls : Array Slot, lv_has ls ml (lv_args 0 vs) → W p l e rm s m vs.toArray below meth c s.heap [] 0 0 (MQ below (ix_Qc D G ad ids lo (.inl v, h, 0)) vs.toArray s 0 0 (ix_A lo)) (F0 m 0 ls [])) : ix_Cp l D G ad ids lo rm h y b ml ret vs v := by
  refine Met.ofW (cc := b) (maxL := ml) (ret := ret) hy rfl ?_
  intro p e s m args below meth c s₁ B hml hv
  obtain ⟨rfl, hSt⟩ := hv
  have hts := atoms_spec (ws := .code y b ml ret :: ix_gw) B.pre
  rw [lg_entry_eq]
  exact body p e s m below meth c B.exec B.bytes hml B.returns B.notSynchronized (findClass_of_methodNamed B.named) (fun w hw => hts w (List.mem_cons_of_mem _ hw)) hSt _ (lv_entry vs hvs)
theorem ix_blind2 {vs : List Value} : FrameBlind (va_Pc vs (ix_St D G ad ids lo h)) := by
  intro a U g mk hp
  obtain ⟨h1, h2, h3, h4, h5⟩ := hp
  refine ⟨h1, h2, va_K.moved (u := U) (U := U.calling g mk a) (Vm.Alike.refl U.vm) h3, ?_, ?_⟩
  · exact ix_Es.moved (s := U) (U := U.calling g mk a) (State.WarmedH.refl U) h4
  · exact ix_SX.moved (s := U) (U := U.calling g mk a) (Vm.Alike.refl U.vm) h5
theorem ix_gj {w : Cond} (h : w ∈ ix_gw) : GoodIn ix_gw (w :: ix_gw) := by
  intro z hz
  rcases List.mem_cons.mp hz with rfl | hz
  · exact ⟨h, good_of_word (ix_gw_good h)⟩
  · exact ⟨hz, good_of_word (ix_gw_good hz)⟩
theorem ix_gjS {w : Cond} {own : String} {i : Nat} {y : MethodName} (h : w ∈ ix_gw) (h1 : Cond.methodLink own i y ∈ ix_gw) (h2 : Cond.static y ∈ ix_gw) (h3 : Cond.initialized y.cls ∈ ix_gw) : GoodIn ix_gw (va_wsS own i y (w :: ix_gw)) := by
  intro z hz
  unfold va_wsS at hz
  rcases List.mem_append.mp hz with hz | hz
  · simp only [List.mem_cons, List.not_mem_nil, or_false] at hz
    rcases hz with rfl | rfl | rfl
    · exact ⟨h1, good_of_word (ix_gw_good h1)⟩
    · exact ⟨h2, good_of_word (ix_gw_good h2)⟩
    · exact ⟨h3, good_of_word (ix_gw_good h3)⟩
  · exact ix_gj h z hz
theorem ix_gjV {w : Cond} {own C : String} {i : Nat} {y : MethodName} (h : w ∈ ix_gw) (h1 : Cond.methodLink own i y ∈ ix_gw) (h2 : Cond.instanceMethod y ∈ ix_gw) (h4 : Cond.selects C y y ∈ ix_gw) (h3 : Cond.initialized C ∈ ix_gw) : GoodIn ix_gw (wsV own i C y (w :: ix_gw)) := by
  intro z hz
  unfold wsV at hz
  rcases List.mem_append.mp hz with hz | hz
  · simp only [List.mem_cons, List.not_mem_nil, or_false] at hz
    rcases hz with rfl | rfl | rfl | rfl
    · exact ⟨h1, good_of_word (ix_gw_good h1)⟩
    · exact ⟨h2, good_of_word (ix_gw_good h2)⟩
    · exact ⟨h4, good_of_word (ix_gw_good h4)⟩
    · exact ⟨h3, good_of_word (ix_gw_good h3)⟩
  · exact ix_gj h z hz
theorem ix_cPC {i n : Int32} {x : Value} (hx0 : x.category = 1) (h1 : ¬ i < 0) (h2 : i < n) : ix_Cp l D G ad ids lo (ix_r0 0) h ix_yPC prog_31_method_11_code 3 (some .int) [.int i, .int n, x] (some (.int i)) := by
  refine ix_ent (by decide +kernel) ?_ ?_
  · rw [ix_lgsl _ (by intro v hv; simp only [List.mem_cons, List.not_mem_nil, or_false] at hv; rcases hv with rfl | rfl | rfl <;> first | rfl | exact hx0)]
    exact Nat.le_refl _
  · intro p e s m below meth c hx hb hml hr hlk hown hts hSt ls hl
    obtain ⟨hP, hK, hE, hX⟩ := hSt
    have hl : lv_has ls 3 [(0, .int i), (1, .int n), (2, x)] := hl
    refine lv_iload_n hx hb (show decode prog_31_method_11_code 0 = .ok (.iload_n 0, 1) by decide +kernel) rfl (lv_at hl 0 rfl) ?_
    refine lv_if_lt (tgt := 9) hx hb (show decode prog_31_method_11_code 1 = .ok (.ifCond .lt 8, 3) by decide +kernel) (by decide) (fun hc => absurd hc h1) (fun _ => ?_)
    refine lv_iload_n hx hb (show decode prog_31_method_11_code 4 = .ok (.iload_n 0, 1) by decide +kernel) rfl (lv_at hl 0 rfl) ?_
    refine lv_iload_n hx hb (show decode prog_31_method_11_code 5 = .ok (.iload_n 1, 1) by decide +kernel) rfl (lv_at hl 1 rfl) ?_
    refine lv_icmp_lt (tgt := 16) hx hb (show decode prog_31_method_11_code 6 = .ok (.if_icmp .lt 10, 3) by decide +kernel) (by decide) (fun _ => ?_) (fun hc => absurd h2 hc)
    refine lv_iload_n hx hb (show decode prog_31_method_11_code 16 = .ok (.iload_n 0, 1) by decide +kernel) rfl (lv_at hl 0 rfl) ?_
    exact W.zret hx hb hr rfl (fun t ht hW => ⟨some (.int i), rfl, rfl, ix_lend hP hE hX va_S.rf ht hW.alike⟩) (va_S.rf (A := ix_A lo) (H0 := s.heap)).2.2 (show decode prog_31_method_11_code 17 = .ok (.ireturn, 1) by decide +kernel) hlk
theorem ix_cSC {i n : Int32} (h1 : ¬ i < 0) (h2 : i < n) : ix_Cp l D G ad ids lo (ix_r0 1) h ix_ySC prog_23_method_155_code 2 none [.int i, .int n] none := by
  refine ix_ent (by decide +kernel) (Nat.le_of_ble_eq_true rfl) ?_
  · intro p e s m below meth c hx hb hml hr hlk hown hts hSt ls hl
    obtain ⟨hP, hK, hE, hX⟩ := hSt
    have hl : lv_has ls 2 [(0, .int i), (1, .int n)] := hl
    have key : ∀ x : Value, x.category = 1 → va_Z "jdk/internal/util/Preconditions" "SIOOBE_FORMATTER" "Ljava/util/function/BiFunction;" x (ix_A lo) s s.heap → W p l e (ix_r0 1) s m ([.int i, .int n] : List Value).toArray below meth c s.heap [] 0 0 (MQ below (ix_Qc D G ad ids lo (.inl none, h, 0)) ([.int i, .int n] : List Value).toArray s 0 0 (ix_A lo)) (F0 m 0 ls []) := by
      intro x hx0 hZ
      refine lv_iload_n hx hb (show decode prog_23_method_155_code 0 = .ok (.iload_n 0, 1) by decide +kernel) rfl (lv_at hl 0 rfl) ?_
      refine lv_iload_n hx hb (show decode prog_23_method_155_code 1 = .ok (.iload_n 1, 1) by decide +kernel) rfl (lv_at hl 1 rfl) ?_
      refine va_gets (A := ix_A lo) hx hb hZ va_S.rf hown (hts _ jw_1053) (fun _ h9 => h9) (show decode prog_23_method_155_code 2 = .ok (.getstatic 1053, 3) by decide +kernel) ?_
      have hrun := va_runS (e := e) (below := below) (meth := meth) (As := [.int i, .int n, x]) (rest := []) (H := s.heap) (locs := []) (cells := 0) (slots := 0) (R := ix_r0 1) (g := F0 m 5 ls [x, .int n, .int i]) ⟨hx, hb, hml, hown, hts⟩ (ix_cPC (l := l) (D := D) (G := G) (ad := ad) (ids := ids) (lo := lo) (h := h) hx0 h1 h2) (va_cwS 3 hts (ix_gjS jc_PC jm_PC jt_PC jn_P) rfl rfl rfl ⟨by decide +kernel, by decide +kernel, by decide +kernel⟩ ⟨Nat.le_of_ble_eq_true rfl, Nat.le_of_ble_eq_true rfl⟩) ⟨ix_blind2, fun U hU hW => ⟨rfl, ix_St.of hP hK hE hX va_S.rf hU hW⟩⟩ rfl rfl hl.1 rfl (lv_room (Nat.le_of_ble_eq_true rfl)) (show decode prog_23_method_155_code 5 = .ok (.invokestatic 1059, 3) by decide +kernel) ⟨Nat.le_of_ble_eq_true rfl, Nat.le_of_ble_eq_true rfl⟩
      refine ix_aft hE (ix_vaRun hrun) va_S.rf (fun v1 H1 locs1 e1 q1 q2 q3 => ?_) (fun x1 q9 ce H1 locs1 e1 => by cases e1)
      cases e1
      refine lv_pop hx hb (show decode prog_23_method_155_code 8 = .ok (.pop, 1) by decide +kernel) rfl ?_
      exact W.vret hx hb hr (fun t ht hW => ⟨none, rfl, rfl, ix_lend q1 hE q2 q3 ht hW.alike⟩) q3.2.2 (show decode prog_23_method_155_code 9 = .ok (.return_, 1) by decide +kernel) hlk
    obtain ⟨-, -, -, -, -, -, -, -, -, -, hz, -⟩ := id hE
    rcases hz with hz | ⟨t, hz⟩
    · exact key _ rfl hz
    · exact key _ rfl hz
theorem ix_cCO {i : Nat} (hi : i < 21) : ix_Cp l D G ad ids lo (ix_r0 0) h ix_yCO prog_23_method_152_code 1 (some .byte) [.ref (ad (2000 + i))] (some (.int 0)) := by
  refine ix_ent (by decide +kernel) (Nat.le_of_ble_eq_true rfl) ?_
  · intro p e s m below meth c hx hb hml hr hlk hown hts hSt ls hl
    obtain ⟨hP, hK, hE, hX⟩ := hSt
    have hl : lv_has ls 1 [(0, .ref (ad (2000 + i)))] := hl
    obtain ⟨-, -, -, -, -, -, -, -, ⟨adV, hvk⟩, hz, -⟩ := id hE
    refine va_gets (A := ix_A lo) hx hb hz va_S.rf hown (hts _ jw_38) (fun _ h9 => h9) (show decode prog_23_method_152_code 0 = .ok (.getstatic 38, 3) by decide +kernel) ?_
    refine lv_if_eq (tgt := 13) hx hb (show decode prog_23_method_152_code 3 = .ok (.ifCond .eq 10, 3) by decide +kernel) (by decide) (fun hc => absurd hc (by decide)) (fun _ => ?_)
    refine lv_aload_n hx hb (show decode prog_23_method_152_code 6 = .ok (.aload_n 0, 1) by decide +kernel) rfl (lv_at hl 0 rfl) ?_
    refine vk_getf (A := ix_A lo) hx hb (hvk.1 i hi).2.1 va_S.rf hown (hts _ jw_15) (fun _ h9 => h9) (show decode prog_23_method_152_code 7 = .ok (.getfield 15, 3) by decide +kernel) ?_
    refine lv_goto (tgt := 14) hx hb (show decode prog_23_method_152_code 10 = .ok (.goto 4, 3) by decide +kernel) (by decide) ?_
    exact W.zret hx hb hr rfl (fun t ht hW => ⟨some (.int 0), rfl, rfl, ix_lend hP hE hX va_S.rf ht hW.alike⟩) (va_S.rf (A := ix_A lo) (H0 := s.heap)).2.2 (show decode prog_23_method_152_code 14 = .ok (.ireturn, 1) by decide +kernel) hlk
theorem ix_cIL {i : Nat} (hi : i < 21) : ix_Cp l D G ad ids lo (ix_r0 0) h ix_yIL prog_23_method_154_code 1 (some .boolean) [.ref (ad (2000 + i))] (some (.int 1)) := by
  refine ix_ent (by decide +kernel) (Nat.le_of_ble_eq_true rfl) ?_
  · intro p e s m below meth c hx hb hml hr hlk hown hts hSt ls hl
    obtain ⟨hP, hK, hE, hX⟩ := hSt
    have hl : lv_has ls 1 [(0, .ref (ad (2000 + i)))] := hl
    obtain ⟨-, -, -, -, -, -, -, -, ⟨adV, hvk⟩, hz, -⟩ := id hE
    refine va_gets (A := ix_A lo) hx hb hz va_S.rf hown (hts _ jw_38) (fun _ h9 => h9) (show decode prog_23_method_154_code 0 = .ok (.getstatic 38, 3) by decide +kernel) ?_
    refine lv_if_eq (tgt := 17) hx hb (show decode prog_23_method_154_code 3 = .ok (.ifCond .eq 14, 3) by decide +kernel) (by decide) (fun hc => absurd hc (by decide)) (fun _ => ?_)
    refine lv_aload_n hx hb (show decode prog_23_method_154_code 6 = .ok (.aload_n 0, 1) by decide +kernel) rfl (lv_at hl 0 rfl) ?_
    refine vk_getf (A := ix_A lo) hx hb (hvk.1 i hi).2.1 va_S.rf hown (hts _ jw_15) (fun _ h9 => h9) (show decode prog_23_method_154_code 7 = .ok (.getfield 15, 3) by decide +kernel) ?_
    refine lv_if_ne (tgt := 17) hx hb (show decode prog_23_method_154_code 10 = .ok (.ifCond .ne 7, 3) by decide +kernel) (by decide) (fun hc => absurd rfl hc) (fun _ => ?_)
    refine lv_iconst (v := 1) hx hb (show decode prog_23_method_154_code 13 = .ok (.iconst 1, 1) by decide +kernel) (by decide) ?_
    refine lv_goto (tgt := 18) hx hb (show decode prog_23_method_154_code 14 = .ok (.goto 4, 3) by decide +kernel) (by decide) ?_
    exact W.zret hx hb hr rfl (fun t ht hW => ⟨some (.int 1), rfl, rfl, ix_lend hP hE hX va_S.rf ht hW.alike⟩) (va_S.rf (A := ix_A lo) (H0 := s.heap)).2.2 (show decode prog_23_method_154_code 18 = .ok (.ireturn, 1) by decide +kernel) hlk
def ix_chr (b : Int32) : Int32 := ((b &&& 255).toUInt32 % 65536).toInt32
abbrev ix_Bt (D : va_G) (G : ix_G) (ad : Nat → Nat) (ids : List Nat) (lo : Nat) (h : ix_H) (t N : Nat) (f : Nat → Int32) (U : State) : Prop := ix_St D G ad ids lo h U ∧ va_T .byte t N (fun k => .int (f k)) (ix_A lo) U U.heap
theorem ix_cLC {t N : Nat} {f : Nat → Int32} {j : Int32} (h1 : ¬ j < 0) (h2 : j < Int32.ofNat N) (h3 : vp_in j N) (h4 : narrow .char (.int (ix_chr (f j.toNatClampNeg))) = .int (ix_chr (f j.toNatClampNeg))) :
    Met l ix_yLC (.code ix_yLC prog_24_method_2_code 2 (some .char) :: ix_gw) (ix_r0 2) (va_Pc [.ref t, .int j] (ix_Bt D G ad ids lo h t N f)) (ix_Qc D G ad ids lo (.inl (some (.int (ix_chr (f j.toNatClampNeg)))), h, 0)) 0 0 (ix_A lo) := by
  refine Met.ofW (cc := prog_24_method_2_code) (maxL := 2) (ret := some .char) (by decide +kernel) rfl ?_
  intro p e s m args below meth c s₁ B hml hv
  obtain ⟨rfl, ⟨hP, hK, hE, hX⟩, hT⟩ := hv
  have hts0 := atoms_spec (ws := .code ix_yLC prog_24_method_2_code 2 (some .char) :: ix_gw) B.pre
  have hts : ∀ w ∈ ix_gw, w.before ([.ref t, .int j] : List Value).toArray s = true := fun w hw => hts0 w (List.mem_cons_of_mem _ hw)
  have hx := B.exec
  have hb := B.bytes
  have hr := B.returns
  have hlk := B.notSynchronized
  have hown : s.vm.findClass "java/lang/StringLatin1" = some m.cls := findClass_of_methodNamed B.named
  rw [lg_entry_eq]
  have hl := lv_entry ([.ref t, .int j]) (n := 2) (Nat.le_of_ble_eq_true rfl)
  generalize (lg_sl ([.ref t, .int j]) ++ List.replicate (2 - (lg_sl ([.ref t, .int j])).length) Slot.unset).toArray = ls at hl ⊢
  have hl : lv_has ls 2 [(0, .ref t), (1, .int j)] := hl
  refine lv_iload_n hx hb (show decode prog_24_method_2_code 0 = .ok (.iload_n 1, 1) by decide +kernel) rfl (lv_at hl 1 rfl) ?_
  refine lv_aload_n hx hb (show decode prog_24_method_2_code 1 = .ok (.aload_n 0, 1) by decide +kernel) rfl (lv_at hl 0 rfl) ?_
  refine va_tlen (A := ix_A lo) hx hb hT va_S.rf rfl (show decode prog_24_method_2_code 2 = .ok (.arraylength, 1) by decide +kernel) ?_
  have hrun := va_runS (e := e) (below := below) (meth := meth) (As := [.int j, .int (Int32.ofNat N)]) (rest := []) (H := s.heap) (locs := []) (cells := 0) (slots := 0) (R := ix_r0 2) (g := F0 m 3 ls [.int (Int32.ofNat N), .int j]) ⟨hx, hb, hml, hown, hts⟩ (ix_cSC (l := l) (D := D) (G := G) (ad := ad) (ids := ids) (lo := lo) (h := h) h1 h2) (va_cwS 2 hts (ix_gjS jc_SC jm_SC jt_SC jn_S) rfl rfl rfl ⟨by decide +kernel, by decide +kernel, by decide +kernel⟩ ⟨Nat.le_of_ble_eq_true rfl, Nat.le_of_ble_eq_true rfl⟩) ⟨ix_blind2, fun U hU hW => ⟨rfl, ix_St.of hP hK hE hX va_S.rf hU hW⟩⟩ rfl rfl hl.1 rfl (lv_room (Nat.le_of_ble_eq_true rfl)) (show decode prog_24_method_2_code 3 = .ok (.invokestatic 9, 3) by decide +kernel) ⟨Nat.le_of_ble_eq_true rfl, Nat.le_of_ble_eq_true rfl⟩
  refine ix_aft hE (ix_vaRun hrun) va_S.rf (fun v1 H1 locs1 e1 q1 q2 q3 => ?_) (fun x1 q9 ce H1 locs1 e1 => by cases e1)
  cases e1
  refine lv_aload_n hx hb (show decode prog_24_method_2_code 6 = .ok (.aload_n 0, 1) by decide +kernel) rfl (lv_at hl 0 rfl) ?_
  refine lv_iload_n hx hb (show decode prog_24_method_2_code 7 = .ok (.iload_n 1, 1) by decide +kernel) rfl (lv_at hl 1 rfl) ?_
  refine va_tb (A := ix_A lo) hx hb hT q3 h3 rfl (show decode prog_24_method_2_code 8 = .ok (.baload, 1) by decide +kernel) ?_
  refine lv_sipush (v := 255) hx hb (show decode prog_24_method_2_code 9 = .ok (.sipush 255, 3) by decide +kernel) (by decide) ?_
  refine lv_iand hx hb (show decode prog_24_method_2_code 12 = .ok (.iand, 1) by decide +kernel) ?_
  refine lv_i2c hx hb (show decode prog_24_method_2_code 13 = .ok (.i2c, 1) by decide +kernel) rfl ?_
  exact W.zret hx hb hr h4 (fun t ht hW => ⟨some (.int (ix_chr (f j.toNatClampNeg))), rfl, rfl, ix_lend q1 hE q2 q3 ht hW.alike⟩) q3.2.2 (show decode prog_24_method_2_code 14 = .ok (.ireturn, 1) by decide +kernel) hlk
theorem ix_blind3 {vs : List Value} {t N : Nat} {f : Nat → Int32} : FrameBlind (va_Pc vs (ix_Bt D G ad ids lo h t N f)) := by
  intro a U g mk hp
  obtain ⟨h1, h2, h3⟩ := hp
  exact ⟨h1, (ix_blind2 (vs := vs) a U g mk ⟨h1, h2⟩).2, va_T.moved (u := U) (U := U.calling g mk a) (Vm.Alike.refl U.vm) h3⟩
theorem ix_cLE {i d : Nat} (hi : i < 21) : ix_Cp l D G ad ids lo (ix_rm d 0) h ix_yLE prog_23_method_54_code 1 (some .int) [.ref (ad (2000 + i))] (some (.int (Int32.ofNat (ix_txL.getD i 0)))) := by
  refine ix_ent (by decide +kernel) (Nat.le_of_ble_eq_true rfl) ?_
  · intro p e s m below meth c hx hb hml hr hlk hown hts hSt ls hl
    obtain ⟨hP, hK, hE, hX⟩ := hSt
    have hl : lv_has ls 1 [(0, .ref (ad (2000 + i)))] := hl
    obtain ⟨-, -, -, -, -, -, -, -, ⟨adV, hvk⟩, hz, -⟩ := id hE
    refine lv_aload_n hx hb (show decode prog_23_method_54_code 0 = .ok (.aload_n 0, 1) by decide +kernel) rfl (lv_at hl 0 rfl) ?_
    refine vk_getf (A := ix_A lo) hx hb (hvk.1 i hi).2.2.1 va_S.rf hown (hts _ jw_9) (fun _ h9 => h9) (show decode prog_23_method_54_code 1 = .ok (.getfield 9, 3) by decide +kernel) ?_
    refine va_tlen (A := ix_A lo) hx hb (hvk.1 i hi).2.2.2 va_S.rf rfl (show decode prog_23_method_54_code 4 = .ok (.arraylength, 1) by decide +kernel) ?_
    refine lv_aload_n hx hb (show decode prog_23_method_54_code 5 = .ok (.aload_n 0, 1) by decide +kernel) rfl (lv_at hl 0 rfl) ?_
    have hrun := va_runV (e := e) (below := below) (meth := meth) (As := []) (rest := [.int (Int32.ofNat (ix_txL.getD i 0))]) (H := s.heap) (locs := []) (cells := 0) (slots := 0) (R := ix_rm d 0) (g := F0 m 6 ls [.ref (ad (2000 + i)), .int (Int32.ofNat (ix_txL.getD i 0))]) ⟨hx, hb, hml, hown, hts⟩ (ix_cCO (l := l) (D := D) (G := G) (ad := ad) (ids := ids) (lo := lo) (h := h) hi) (cwV 0 hts (ix_gjV jc_CO jm_CO ji_CO js_CO jn_S) rfl rfl rfl ⟨rfl, by decide +kernel, by decide +kernel, by decide +kernel⟩ ⟨by show 0 + 1 ≤ d + 12; omega, by show 8 + (1 + 11) + 41 * 0 ≤ 41 * d + 300; omega⟩) ⟨ix_blind2, vk_recv hvk hi va_S.rf, fun U hU hW => ⟨rfl, ix_St.of hP hK hE hX va_S.rf hU hW⟩⟩ rfl rfl hl.1 rfl (lv_room (Nat.le_of_ble_eq_true rfl)) (show decode prog_23_method_54_code 6 = .ok (.invokevirtual 335, 3) by decide +kernel) ⟨Nat.le_of_ble_eq_true rfl, Nat.le_of_ble_eq_true rfl⟩
    refine ix_aft hE (ix_vaRun hrun) va_S.rf (fun v1 H1 locs1 e1 q1 q2 q3 => ?_) (fun x1 q9 ce H1 locs1 e1 => by cases e1)
    cases e1
    refine lv_ishr hx hb (show decode prog_23_method_54_code 9 = .ok (.ishr, 1) by decide +kernel) ?_
    rw [sb_shr0]
    exact W.zret hx hb hr rfl (fun t ht hW => ⟨_, rfl, rfl, ix_lend q1 hE q2 q3 ht hW.alike⟩) q3.2.2 (show decode prog_23_method_54_code 10 = .ok (.ireturn, 1) by decide +kernel) hlk
theorem ix_cCA {i d : Nat} {j : Int32} (hi : i < 21) (h1 : ¬ j < 0) (h2 : j < Int32.ofNat (ix_txL.getD i 0)) (h3 : vp_in j (ix_txL.getD i 0)) (h4 : narrow .char (.int (ix_chr ((ix_txB.getD i []).getD j.toNatClampNeg 0))) = .int (ix_chr ((ix_txB.getD i []).getD j.toNatClampNeg 0))) :
    ix_Cp l D G ad ids lo (ix_rm d 0) h ix_yCA prog_23_method_56_code 2 (some .char) [.ref (ad (2000 + i)), .int j] (some (.int (ix_chr ((ix_txB.getD i []).getD j.toNatClampNeg 0)))) := by
  refine ix_ent (by decide +kernel) (Nat.le_of_ble_eq_true rfl) ?_
  · intro p e s m below meth c hx hb hml hr hlk hown hts hSt ls hl
    obtain ⟨hP, hK, hE, hX⟩ := hSt
    have hl : lv_has ls 2 [(0, .ref (ad (2000 + i))), (1, .int j)] := hl
    obtain ⟨-, -, -, -, -, -, -, -, ⟨adV, hvk⟩, hz, -⟩ := id hE
    refine lv_aload_n hx hb (show decode prog_23_method_56_code 0 = .ok (.aload_n 0, 1) by decide +kernel) rfl (lv_at hl 0 rfl) ?_
    have hrun := va_runV (e := e) (below := below) (meth := meth) (As := []) (rest := []) (H := s.heap) (locs := []) (cells := 0) (slots := 0) (R := ix_rm d 0) (g := F0 m 1 ls [.ref (ad (2000 + i))]) ⟨hx, hb, hml, hown, hts⟩ (ix_cIL (l := l) (D := D) (G := G) (ad := ad) (ids := ids) (lo := lo) (h := h) hi) (cwV 0 hts (ix_gjV jc_IL jm_IL ji_IL js_IL jn_S) rfl rfl rfl ⟨rfl, by decide +kernel, by decide +kernel, by decide +kernel⟩ ⟨by show 0 + 1 ≤ d + 12; omega, by show 8 + (1 + 11) + 41 * 0 ≤ 41 * d + 300; omega⟩) ⟨ix_blind2, vk_recv hvk hi va_S.rf, fun U hU hW => ⟨rfl, ix_St.of hP hK hE hX va_S.rf hU hW⟩⟩ rfl rfl hl.1 rfl (lv_room (Nat.le_of_ble_eq_true rfl)) (show decode prog_23_method_56_code 1 = .ok (.invokevirtual 492, 3) by decide +kernel) ⟨Nat.le_of_ble_eq_true rfl, Nat.le_of_ble_eq_true rfl⟩
    refine ix_aft hE (ix_vaRun hrun) va_S.rf (fun v1 H1 locs1 e1 q1 q2 q3 => ?_) (fun x1 q9 ce H1 locs1 e1 => by cases e1)
    cases e1
    refine lv_if_eq (tgt := 16) hx hb (show decode prog_23_method_56_code 4 = .ok (.ifCond .eq 12, 3) by decide +kernel) (by decide) (fun hc => absurd hc (by decide)) (fun _ => ?_)
    refine lv_aload_n hx hb (show decode prog_23_method_56_code 7 = .ok (.aload_n 0, 1) by decide +kernel) rfl (lv_at hl 0 rfl) ?_
    refine vk_getf (A := ix_A lo) hx hb (hvk.1 i hi).2.2.1 q3 hown (hts _ jw_9) (fun _ h9 => h9) (show decode prog_23_method_56_code 8 = .ok (.getfield 9, 3) by decide +kernel) ?_
    refine lv_iload_n hx hb (show decode prog_23_method_56_code 11 = .ok (.iload_n 1, 1) by decide +kernel) rfl (lv_at hl 1 rfl) ?_
    have hrun2 := va_runS (e := e) (below := below) (meth := meth) (As := [.ref (adV i), .int j]) (rest := []) (H := H1) (locs := locs1) (cells := 0) (slots := 0) (R := ix_rm d 0) (g := F0 m 12 ls [.int j, .ref (adV i)]) ⟨hx, hb, hml, hown, hts⟩ (ix_cLC (l := l) (D := D) (G := G) (ad := ad) (ids := ids) (lo := lo) (h := h) (t := adV i) (N := ix_txL.getD i 0) (f := fun k => (ix_txB.getD i []).getD k 0) h1 h2 h3 h4) (va_cwS 2 hts (ix_gjS jc_LC jm_LC jt_LC jn_L) rfl rfl rfl ⟨by decide +kernel, by decide +kernel, by decide +kernel⟩ ⟨by show 2 + 1 ≤ d + 12; omega, by show 8 + (2 + 11) + 41 * 2 ≤ 41 * d + 300; omega⟩) ⟨ix_blind3, fun U hU hW => ⟨rfl, ix_St.of q1 hK hE q2 q3 hU hW, by rw [hU]; exact va_T.moved hW.alike ((hvk.1 i hi).2.2.2.kept q3.2.1)⟩⟩ rfl rfl hl.1 rfl (lv_room (Nat.le_of_ble_eq_true rfl)) (show decode prog_23_method_56_code 12 = .ok (.invokestatic 495, 3) by decide +kernel) ⟨Nat.le_of_ble_eq_true rfl, Nat.le_of_ble_eq_true rfl⟩
    refine ix_aft hE (ix_vaRun hrun2) q3 (fun v1 H1 locs1 e1 q1 q2 q3 => ?_) (fun x1 q9 ce H1 locs1 e1 => by cases e1)
    cases e1
    exact W.zret hx hb hr h4 (fun t ht hW => ⟨_, rfl, rfl, ix_lend q1 hE q2 q3 ht hW.alike⟩) q3.2.2 (show decode prog_23_method_56_code 15 = .ok (.ireturn, 1) by decide +kernel) hlk
end IXP
