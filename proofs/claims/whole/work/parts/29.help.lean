def ix_ct (x : Nat) : Nat := if x = 0 then 13 else 31
def ix_hop (ops : List ix_Op) (pc i loc : Nat) : Bool := match ops[i - 1]? with
  | some oh => decide (1 ≤ i) && decide (ix_pc oh = pc) && (decide (ix_ins oh = .astore loc) || (decide (loc < 4) && decide (ix_ins oh = .astore_n ⟨loc % 4, Nat.mod_lt _ (by decide)⟩)))
  | none => false
def ix_hhok (ops : List ix_Op) : List (Nat × Nat × Nat × Nat) → List ix_Hd → Bool
  | [], [] => true
  | q :: qs, e :: es => decide (q.1 = e.1) && decide (q.2.1 = e.2.1) && decide (q.2.2.2 = ix_ct e.2.2.1) && decide (e.2.2.1 < 2) && ix_hop ops q.2.2.1 e.2.2.2.1 e.2.2.2.2 && ix_hhok ops qs es
  | _, _ => false
theorem ix_hfind {ops : List ix_Op} {pc x : Nat} {e : ix_Hd} : ∀ (hh : List (Nat × Nat × Nat × Nat)) (hs : List ix_Hd), ix_hhok ops hh hs = true → ix_find hs pc x = some e →
    ∃ (pre : List ExceptionTableEntry) (z : ExceptionTableEntry) (suf : List ExceptionTableEntry), tableOf hh = pre ++ z :: suf ∧ (∀ z' ∈ pre, covers z' pc = false ∨ ∃ y : Nat, y < 2 ∧ y ≠ x ∧ z'.catchType = ix_ct y) ∧ covers z pc = true ∧ z.catchType = ix_ct x ∧ x < 2 ∧ ix_hop ops z.handlerPc e.2.2.2.1 e.2.2.2.2 = true
  | [], [], _, h => by cases h
  | [], _ :: _, h, _ => by cases h
  | _ :: _, [], h, _ => by cases h
  | q :: qs, d :: ds, h, hf => by
    rw [ix_hhok] at h
    simp only [Bool.and_eq_true, decide_eq_true_eq] at h
    obtain ⟨⟨⟨⟨⟨h1, h2⟩, h3⟩, h4⟩, h5⟩, h6⟩ := h
    unfold ix_find at hf
    rw [List.find?_cons] at hf
    split at hf
    · rename_i hc
      cases hf
      simp only [Bool.and_eq_true, decide_eq_true_eq] at hc
      refine ⟨[], ⟨q.1, q.2.1, q.2.2.1, q.2.2.2⟩, tableOf qs, rfl, fun z hz => (by cases hz), ?_, ?_, by omega, h5⟩
      · show (decide (q.1 ≤ pc) && decide (pc < q.2.1)) = true
        rw [Bool.and_eq_true, decide_eq_true_eq, decide_eq_true_eq]
        omega
      · show q.2.2.2 = ix_ct x
        rw [h3, hc.2]
    · rename_i hc
      obtain ⟨pre, z, suf, g1, g2, g3⟩ := ix_hfind qs ds h6 hf
      refine ⟨⟨q.1, q.2.1, q.2.2.1, q.2.2.2⟩ :: pre, z, suf, ?_, fun z' hz => ?_, g3⟩
      · show _ :: tableOf qs = _
        rw [g1]
        rfl
      · rcases List.mem_cons.mp hz with rfl | hz
        · by_cases hcov : covers (⟨q.1, q.2.1, q.2.2.1, q.2.2.2⟩ : ExceptionTableEntry) pc = false
          · exact Or.inl hcov
          · refine Or.inr ⟨d.2.2.1, h4, fun e9 => ?_, h3⟩
            have hcov : (decide (q.1 ≤ pc) && decide (pc < q.2.1)) = true := by simpa using hcov
            rw [h1, h2] at hcov
            rw [hcov, e9] at hc
            simp at hc
        · exact g2 z' hz
theorem ix_lk13 : Cond.classLink "CryGorgeLaw" 13 (ix_en 0) ∈ tables_1 ∧ Cond.classLink "CryGorgeLaw" 31 (ix_en 1) ∈ tables_1 := by decide +kernel
theorem ix_cst : Cond.castable (ix_en 0) (ix_en 0) ∈ ix_thA ∧ Cond.castable (ix_en 1) (ix_en 1) ∈ ix_thA := by decide +kernel
theorem ix_cn13 : ix_cn 13 = "CryGorgeLaw" := by decide +kernel
theorem ix_hc_of {M : ix_M} {s : State} {args : Array Value} {c : Code} {ad : Nat → Nat} {lo : Nat} {H : Heap} {hh : List (Nat × Nat × Nat × Nat)} (hM : ix_mc M = 13) (hok : ix_hhok (ix_mo M) hh (ix_mh M) = true) (ht : c.exceptionTable.toList = tableOf hh) (hts : ∀ w ∈ ix_gw, w.before args s = true) (hE : ix_Es ad lo s H) : ix_Hc (ix_mc M) s args c M := by
  intro o x e ho hf
  obtain ⟨pre, z, suf, g1, g2, g3, g4, g5, g6⟩ := ix_hfind hh (ix_mh M) hok hf
  obtain ⟨-, -, -, -, -, -, -, -, -, -, -, e12, e13, e14⟩ := hE
  have hlk : ∀ y, y < 2 → (Cond.classLink (ix_cn (ix_mc M)) (ix_ct y) (ix_en y)).before args s = true := by
    intro y hy
    rw [hM, ix_cn13]
    match y, hy with
    | 0, _ => exact hts _ (ix_gwm (ix_tbl ix_lk13.1) rfl)
    | 1, _ => exact hts _ (ix_gwm (ix_tbl ix_lk13.2) rfl)
  have hcs : ∀ y, y < 2 → (Cond.castable (ix_en y) (ix_en y)).before args s = true := by
    intro y hy
    match y, hy with
    | 0, _ => exact va_Nw.use rfl (e12 _ ix_cst.1)
    | 1, _ => exact va_Nw.use rfl (e12 _ ix_cst.2)
  have hct : ∀ y, ix_ct y ≠ 0 := by
    intro y
    unfold ix_ct
    split <;> decide
  have hnc : ∀ y, y < 2 → y ≠ x → va_Nc (ix_en x) (ix_en y) s := by
    intro y hy hxy
    match x, y, g5, hy with
    | 0, 0, _, _ => exact absurd rfl hxy
    | 0, 1, _, _ => exact e13
    | 1, 0, _, _ => exact e14
    | 1, 1, _, _ => exact absurd rfl hxy
  refine ⟨ix_en x, pre, z, suf, ht.trans g1, fun z' hz => ?_, g3, by rw [g4]; exact hct x, by rw [g4]; exact hlk x g5, hcs x g5, ?_⟩
  · rcases g2 z' hz with h1 | ⟨y, h1, h2, h3⟩
    · exact Or.inl h1
    · exact Or.inr ⟨by rw [h3]; exact hct y, ix_en y, by rw [h3]; exact hlk y h1, hnc y h1 h2⟩
  · unfold ix_hop at g6
    split at g6
    · rename_i oh hoh
      simp only [Bool.and_eq_true, Bool.or_eq_true, decide_eq_true_eq] at g6
      refine ⟨oh, e.2.2.2.1 - 1, hoh, g6.1.2, ?_, by omega⟩
      rcases g6.2 with h1 | ⟨h1, h2⟩
      · exact Or.inr h1
      · exact Or.inl ⟨_, h2, Nat.mod_eq_of_lt h1⟩
    · cases g6
theorem ok_260 : ix_okm mt_260 = true := by decide +kernel
theorem ok_261 : ix_okm mt_261 = true := by decide +kernel
theorem ok_262 : ix_okm mt_262 = true := by decide +kernel
theorem ok_263 : ix_okm mt_263 = true := by decide +kernel
theorem ok_264 : ix_okm mt_264 = true := by decide +kernel
theorem ok_265 : ix_okm mt_265 = true := by decide +kernel
theorem ok_266 : ix_okm mt_266 = true := by decide +kernel
theorem ok_267 : ix_okm mt_267 = true := by decide +kernel
theorem ok_268 : ix_okm mt_268 = true := by decide +kernel
theorem ok_269 : ix_okm mt_269 = true := by decide +kernel
theorem ok_270 : ix_okm mt_270 = true := by decide +kernel
theorem ok_271 : ix_okm mt_271 = true := by decide +kernel
theorem ok_272 : ix_okm mt_272 = true := by decide +kernel
theorem ok_273 : ix_okm mt_273 = true := by decide +kernel
theorem ok_274 : ix_okm mt_274 = true := by decide +kernel
theorem ok_275 : ix_okm mt_275 = true := by decide +kernel
theorem ok_276 : ix_okm mt_276 = true := by decide +kernel
theorem ok_277 : ix_okm mt_277 = true := by decide +kernel
theorem ok_278 : ix_okm mt_278 = true := by decide +kernel
theorem ok_279 : ix_okm mt_279 = true := by decide +kernel
theorem ok_280 : ix_okm mt_280 = true := by decide +kernel
theorem ok_281 : ix_okm mt_281 = true := by decide +kernel
theorem ok_282 : ix_okm mt_282 = true := by decide +kernel
theorem ok_283 : ix_okm mt_283 = true := by decide +kernel
theorem ok_284 : ix_okm mt_284 = true := by decide +kernel
theorem ok_285 : ix_okm mt_285 = true := by decide +kernel
def ix_tabH : List ix_M := [mt_260, mt_261, mt_262, mt_263, mt_264, mt_265, mt_266, mt_267, mt_268, mt_269, mt_270, mt_271, mt_272, mt_273, mt_274, mt_275, mt_276, mt_277, mt_278, mt_279, mt_280, mt_281, mt_282, mt_283, mt_284, mt_285]
theorem ix_okH : ∀ M ∈ ix_tabH, ix_okm M = true := List.forall_mem_cons.mpr ⟨ok_260, List.forall_mem_cons.mpr ⟨ok_261, List.forall_mem_cons.mpr ⟨ok_262, List.forall_mem_cons.mpr ⟨ok_263, List.forall_mem_cons.mpr ⟨ok_264, List.forall_mem_cons.mpr ⟨ok_265, List.forall_mem_cons.mpr ⟨ok_266, List.forall_mem_cons.mpr ⟨ok_267, List.forall_mem_cons.mpr ⟨ok_268, List.forall_mem_cons.mpr ⟨ok_269, List.forall_mem_cons.mpr ⟨ok_270, List.forall_mem_cons.mpr ⟨ok_271, List.forall_mem_cons.mpr ⟨ok_272, List.forall_mem_cons.mpr ⟨ok_273, List.forall_mem_cons.mpr ⟨ok_274, List.forall_mem_cons.mpr ⟨ok_275, List.forall_mem_cons.mpr ⟨ok_276, List.forall_mem_cons.mpr ⟨ok_277, List.forall_mem_cons.mpr ⟨ok_278, List.forall_mem_cons.mpr ⟨ok_279, List.forall_mem_cons.mpr ⟨ok_280, List.forall_mem_cons.mpr ⟨ok_281, List.forall_mem_cons.mpr ⟨ok_282, List.forall_mem_cons.mpr ⟨ok_283, List.forall_mem_cons.mpr ⟨ok_284, List.forall_mem_cons.mpr ⟨ok_285, fun _ h => absurd h List.not_mem_nil⟩⟩⟩⟩⟩⟩⟩⟩⟩⟩⟩⟩⟩⟩⟩⟩⟩⟩⟩⟩⟩⟩⟩⟩⟩⟩
theorem ix_H13 : ∀ M ∈ ix_tabH, ix_mc M = 13 := by decide +kernel
def ix_hhb (mi : Nat) : Bool := match ix_tab[mi]? with
  | some M => ix_hhok (ix_mo M) (ix_hh mi) (ix_mh M)
  | none => false
theorem ix_hhA : ∀ k, k < 26 → ix_hhb (k + 260) = true := by decide +kernel
set_option maxRecDepth 100000 in
theorem ix_tabH_eq : ix_tabH = ix_tab.drop 260 := rfl
def ix_call2 (dm : Nat → Bool) (d f mi : Nat) (vs : List Value) (h : ix_H) : Option ix_R :=
  if mi < 260 ∨ 286 ≤ mi then ix_exec ix_tabP ix_pr dm (d + 1) f mi vs h else match ix_tab[mi]? with
    | none => none
    | some M => if vs.length = ix_ma M ∧ vs.all (fun v => v.category == 1) = true then ix_run dm (ix_exec ix_tabP ix_pr dm d f) (ix_mo M) (ix_mh M) f 0 (vs ++ List.replicate (ix_ml M - ix_ma M) .null) [] h 0 else none
theorem ix_call2_ok {l : Launch} {D : va_G} {G : ix_G} {ad : Nat → Nat} {ids : List Nat} {dm : Nat → Bool} {lo : Nat} (hl : l.stackTraces = false) (hF : ix_Fx G ad ids dm lo) (d f mi : Nat) (vs : List Value) (h : ix_H) (r : ix_R) (hr : ix_call2 dm d f mi vs h = some r) : ix_Ct D G ad ids lo l (d + 1) mi vs h r := by
  unfold ix_call2 at hr
  split at hr
  · exact ix_exec_ok hl hF ix_pr_ok (d + 1) f mi vs h r hr
  · rename_i hmi
    split at hr
    · cases hr
    · rename_i M hM
      split at hr
      · rename_i hc
        have hcat : ∀ v ∈ vs, v.category = 1 := fun v hv => by simpa using List.all_eq_true.mp hc.2 v hv
        have hMt := List.mem_of_getElem? hM
        have hMh : M ∈ ix_tabH := by
          rw [ix_tabH_eq]
          refine List.mem_of_getElem? (i := mi - 260) ?_
          rw [List.getElem?_drop, show 260 + (mi - 260) = mi by omega]
          exact hM
        have hok := ix_okH M hMh
        have hok' := hok
        unfold ix_okm at hok'
        simp only [Bool.and_eq_true, decide_eq_true_eq] at hok'
        obtain ⟨⟨⟨⟨⟨ok1, ok2⟩, ok3⟩, ok4⟩, ok5⟩, ok6⟩ := hok'
        have hhb : ix_hhok (ix_mo M) (ix_hh mi) (ix_mh M) = true := by
          have := ix_hhA (mi - 260) (by omega)
          rw [show mi - 260 + 260 = mi by omega] at this
          unfold ix_hhb at this
          rw [hM] at this
          exact this
        intro q hq
        unfold ix_cal at hq
        rw [hM] at hq
        cases hq
        have hwe : ix_wsM mi (ix_my M, ix_mb M, ix_ml M, ix_mr M) = Cond.codeWith (ix_my M) (ix_mb M) (ix_ml M) (ix_mr M) (ix_hh mi) :: ix_gw := by
          unfold ix_wsM ix_hw
          rw [if_neg hmi]
        refine vx_ofWH (cc := ix_mb M) (maxL := ix_ml M) (ret := ix_mr M) (hh := ix_hh mi) (by have := ix_H13 M hMh; rw [← ok6, this]; decide +kernel) hwe ?_
        intro p e s m args below meth c s₁ B hml hpc
        obtain ⟨rfl, hSt⟩ := hpc
        obtain ⟨hP, hK, hE, hX⟩ := hSt
        have hts0 := atoms_spec (ws := ix_wsM mi (ix_my M, ix_mb M, ix_ml M, ix_mr M)) B.pre
        have hts : ∀ w ∈ ix_gw, w.before (vs.map (ix_cv ad)).toArray s = true := fun w hw => hts0 w (List.mem_cons_of_mem _ hw)
        have htab := vx_table (x := ix_my M) B (bytes := ix_mb M) (maxL' := ix_ml M) (ret' := ix_mr M) (hh := ix_hh mi) (hts0 _ (by rw [hwe]; exact List.mem_cons_self))
        have hown : s.vm.findClass (ix_cn (ix_mc M)) = some m.cls := by rw [ok6]; exact findClass_of_methodNamed B.named
        obtain ⟨o, ho⟩ := ix_run_some hr
        have hpc0 : ix_pc o = 0 := by
          rw [← List.head?_eq_getElem?] at ho
          rw [ho] at ok3
          exact Option.some.inj ok3
        have hL0 := ix_Lh0 (ad := ad) (n := ix_ml M) hcat (by rw [hc.1]; exact ok4)
        rw [hc.1] at hL0
        have hne : ix_mh M = [] → ∀ x ∈ c.exceptionTable.toList, False := by
          intro h0 x hx9
          rw [htab] at hx9
          rw [h0] at hhb
          cases hz : ix_hh mi with
          | nil => rw [hz] at hx9; cases hx9
          | cons a b => rw [hz] at hhb; cases hhb
        have hrun := ix_run_ok (D := D) (G := G) (ad := ad) (ids := ids) (dm := dm) (lo := lo) (d := d) (p := p) (e := e) (R := ix_rm (d + 1) r.2.2) (c0 := 0) (s0 := 0) (s := s) (m := m) (args := (vs.map (ix_cv ad)).toArray) (below := below) (meth := meth) (c := c) (r := r) hok (ix_okr_ok M hMt) (fun h11 => by have := ix_H13 M hMh; omega) (ix_exec_ok hl hF ix_pr_ok d f) hl hF (by unfold ix_rm; dsimp only; omega) B.exec B.bytes hml hown hts B.returns B.notSynchronized hK hE hne (ix_hc_of (ix_H13 M hMh) hhb htab hts hE)
          f 0 _ [] h 0 hr o ho s.heap [] _ hL0 hP hX va_S.rf
        rw [lg_entry_eq]
        rw [hpc0] at hrun
        simp only [Nat.zero_add, Nat.mul_zero] at hrun
        exact hrun
      · cases hr
