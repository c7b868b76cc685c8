def kfb (a : Nat) : Bool := (List.range (ix_rf a).length).all (fun k => match (ix_rf a)[k]? with
  | some (some _) => kmk 105 a k
  | _ => true)
theorem kfb_ok : (kids 709).all kfb = true := by decide +kernel
theorem kx_full {g : kg4} {ad : Nat → Nat} {h : ix_H} : ix_ws (kG g 105) ad (kids 709) h = ix_ws (g.1, g.2.1, g.2.2.1, g.2.2.2, fun _ _ => true) ad (kids 709) h := by
  unfold ix_ws
  refine List.map_congr_left fun a ha => ?_
  have hf := List.all_eq_true.mp kfb_ok a ha
  have e : ix_fv (kG g 105) ad h a = ix_fv (g.1, g.2.1, g.2.2.1, g.2.2.2, fun _ _ => true) ad h a := by
    refine List.ext_getElem? fun j => ?_
    cases hr : (ix_rf a)[j]? with
    | none =>
      unfold ix_fv
      rw [List.getElem?_mapIdx, List.getElem?_mapIdx, hr]
      rfl
    | some r =>
      rw [ix_fv_at hr, ix_fv_at hr]
      cases r with
      | none => rfl
      | some t =>
        have hj := (List.getElem?_eq_some_iff.mp hr).1
        have h9 := List.all_eq_true.mp hf j (List.mem_range.mpr hj)
        rw [hr] at h9
        have h9 : kmk 105 a j = true := h9
        show some (ix_fe ad (kmk 105 a j) (h a j) (some t)) = _
        rw [h9]
  refine congrArg (fun x => (ad a, x)) ?_
  unfold ix_cell
  rw [e]
theorem kal0 : ∀ a, a < 300 → 1 ≤ ix_k (a + 0) → ix_k (a + 0) ≤ 5 → kin 709 (a + 0) = true := by decide +kernel
theorem kal1 : ∀ a, a < 300 → 1 ≤ ix_k (a + 300) → ix_k (a + 300) ≤ 5 → kin 709 (a + 300) = true := by decide +kernel
theorem kal2 : ∀ a, a < 300 → 1 ≤ ix_k (a + 600) → ix_k (a + 600) ≤ 5 → kin 709 (a + 600) = true := by decide +kernel
theorem kal3 : ∀ a, a < 300 → 1 ≤ ix_k (a + 900) → ix_k (a + 900) ≤ 5 → kin 709 (a + 900) = true := by decide +kernel
theorem kal4 : ∀ a, a < 300 → 1 ≤ ix_k (a + 1200) → ix_k (a + 1200) ≤ 5 → kin 709 (a + 1200) = true := by decide +kernel
theorem kal5 : ∀ a, a < 300 → 1 ≤ ix_k (a + 1500) → ix_k (a + 1500) ≤ 5 → kin 709 (a + 1500) = true := by decide +kernel
theorem kal6 : ∀ a, a < 300 → 1 ≤ ix_k (a + 1800) → ix_k (a + 1800) ≤ 5 → kin 709 (a + 1800) = true := by decide +kernel
theorem kal7 : ∀ a, a < 300 → 1 ≤ ix_k (a + 2100) → ix_k (a + 2100) ≤ 5 → kin 709 (a + 2100) = true := by decide +kernel
theorem kal8 : ∀ a, a < 300 → 1 ≤ ix_k (a + 2400) → ix_k (a + 2400) ≤ 5 → kin 709 (a + 2400) = true := by decide +kernel
theorem kal9 : ∀ a, a < 300 → 1 ≤ ix_k (a + 2700) → ix_k (a + 2700) ≤ 5 → kin 709 (a + 2700) = true := by decide +kernel
theorem kal_all {a : Nat} (h1 : 1 ≤ ix_k a) (h5 : ix_k a ≤ 5) : a ∈ kids 709 := by
  have ha : a < 3001 := by
    rcases Nat.lt_or_ge a 3001 with q | q
    · exact q
    · have : ix_k a = 0 := by unfold ix_k ix_sh; rw [if_pos q]
      omega
  refine kin_mem ?_
  by_cases g0 : a < 300
  · have e := kal0 (a - 0) (by omega)
    rw [show a - 0 + 0 = a by omega] at e
    exact e h1 h5
  by_cases g1 : a < 600
  · have e := kal1 (a - 300) (by omega)
    rw [show a - 300 + 300 = a by omega] at e
    exact e h1 h5
  by_cases g2 : a < 900
  · have e := kal2 (a - 600) (by omega)
    rw [show a - 600 + 600 = a by omega] at e
    exact e h1 h5
  by_cases g3 : a < 1200
  · have e := kal3 (a - 900) (by omega)
    rw [show a - 900 + 900 = a by omega] at e
    exact e h1 h5
  by_cases g4 : a < 1500
  · have e := kal4 (a - 1200) (by omega)
    rw [show a - 1200 + 1200 = a by omega] at e
    exact e h1 h5
  by_cases g5 : a < 1800
  · have e := kal5 (a - 1500) (by omega)
    rw [show a - 1500 + 1500 = a by omega] at e
    exact e h1 h5
  by_cases g6 : a < 2100
  · have e := kal6 (a - 1800) (by omega)
    rw [show a - 1800 + 1800 = a by omega] at e
    exact e h1 h5
  by_cases g7 : a < 2400
  · have e := kal7 (a - 2100) (by omega)
    rw [show a - 2100 + 2100 = a by omega] at e
    exact e h1 h5
  by_cases g8 : a < 2700
  · have e := kal8 (a - 2400) (by omega)
    rw [show a - 2400 + 2400 = a by omega] at e
    exact e h1 h5
  by_cases g9 : a < 3000
  · have e := kal9 (a - 2700) (by omega)
    rw [show a - 2700 + 2700 = a by omega] at e
    exact e h1 h5
  obtain rfl : a = 3000 := by omega
  exact absurd h5 (by decide)
theorem kx_FxD {g : kg4} {lo b : Nat} {sa : Nat → Nat} : ix_Fx (g.1, g.2.1, g.2.2.1, g.2.2.2, fun _ _ => true) (kad lo b sa) (kids 709) ix_D lo := kx_Fx (Nat.le_refl _) (fun _ _ _ _ => rfl) (fun _ _ h1 h5 => kal_all h1 h5)
theorem kN_in : ∀ w ∈ kNl, w ∈ lw_tbl ∧ w.onTables = true := by decide +kernel
theorem kN_of {s : State} {A : Array Value} (hts : ∀ w ∈ lw_tbl, w.before A s = true) : kN s := ⟨hts _ (ix_tbl ks_j.2.2.2), fun w hw => va_Nw.of (kN_in w hw).2 (hts w (kN_in w hw).1)⟩
/-! THE CLAIM OUT OF ONE WALK OF THE LAW'S BODY. Your part is whole_start (and what it stands on); all else here is the same for every law, but numbers. -/
def R_law : String := "CryGorgeLaw"
def lw_P (b : Addr) (xs : List Int32) (args : Array Value) (s : State) : Prop := args = #[.ref b] ∧ s.IntsAt b xs ∧ xs.length ≤ 4608 ∧ (Jvm.Cond.and given_1 narrow_1).before args s = true
def lw_Q (_ : Array Value) (s : State) (o : Outcome) (t : State) : Prop := o = .returned (some (.int 1)) ∧ Framed s o t [] 601024 7293033
def lw_Z (below : List Frame) (a : Array Value) (s : State) : State → Prop := fun t => ∃ o, t.status = .running ∧ Ended t below o ∧ lw_Q a s o t
/-- the law's own end, with 1 on the stack, nothing written that was there before, its room as the claim has it -/
theorem lw_ret {p : Program} {l : Launch} {e : Env} {s : State} {m : MethodId} {below : List Frame} {meth : Method} {c : Code} {b : Nat} (hx : p.tables.exec = Jvm.exec) (hb : c.code = code) (hr : meth.sig.returnType = ret) (hlocks : meth.locks = false) {pc : Nat} {H : Heap} {ls : Array Slot} (hdg : decode code pc = .ok (.ireturn, 1)) : W p l e room_1 s m #[Value.ref b] below meth c H [] 601024 7293033 (lw_Z below #[Value.ref b] s) (F0 m pc ls [.int 1]) := by
  intro T hT X
  obtain ⟨fs, hret, hrun, hended, hW, hframe⟩ := X.leave (v := some (.int 1)) (hlocks := hlocks) (fun h => by rw [hr] at h; cases h)
  have hmeth' : T.vm.method? m = some meth := X.method'
  refine ⟨T.setFrames fs, ?_, .returned (some (.int 1)), hrun, hended, rfl, ⟨_, rfl⟩, hW, hframe⟩
  jvm_step X.here [X.here.top, hx, hb, hdg, hmeth', hr, ret, narrow_b1]
  (try refine ⟨rfl, ?_⟩); (try refine ⟨rfl, ?_⟩)
  first | (intro acts; rw [hret _ acts rfl rfl rfl]) | rw [hret _ _ rfl rfl rfl]
  exact Steps.refl _
/-- what holds at the law's entry: the machine, the code, the tables' words (any of lw_tbl by 'hts w (by decide +kernel)'), the script of L ints xs at the cell b, what the Statement gives of the start (any of its parts by flat_of_before) -/
def lw_At (p : Program) (s : State) (m : MethodId) (meth : Method) (c : Code) (b L : Nat) (xs : Nat → Int32) : Prop :=
  p.tables.exec = Jvm.exec ∧ c.code = code ∧ meth.sig.returnType = ret ∧ c.maxLocals = 7 ∧ s.vm.findClass R_law = some m.cls ∧ (∀ w ∈ lw_tbl, w.before #[Value.ref b] s = true) ∧ va_X b L xs s s.heap ∧ b < s.heap.size ∧ meth.locks = false ∧ (Jvm.Cond.and given_1 narrow_1).before #[Value.ref b] s = true
theorem kw_end {s t : State} {below : List Frame} {b lo : Nat} {D : va_G} {G : ix_G} {ad : Nat → Nat} {ids : List Nat} {h' : ix_H} {k' mc ms : Nat} (hlo : lo = s.heap.size) (hk : mc ≤ 601024) (hn : ms ≤ 7293033) (h : vx_MQ below (ix_Qc D G ad ids lo (.inl (some (.int (nI 1))), h', k')) (ix_XC D G ad ids lo (.inl (some (.int (nI 1))), h', k')) #[Value.ref b] s mc ms (ix_A lo) t) : lw_Z below #[Value.ref b] s t := by
  obtain ⟨o, h1, h2, h3⟩ := h
  rcases h3 with ⟨⟨v, hv, ho, -, -⟩, L, hF, hL⟩ | ⟨q, -, E, ce, L, hE, -⟩
  · cases hv
    refine ⟨o, h1, h2, ho, ks_fr hF (fun q hq => ?_) hk hn⟩
    rw [← hlo]
    exact hL q hq
  · obtain ⟨x, hx, -⟩ := hE
    cases hx
theorem kw_run {p : Program} {e : Env} {s : State} {m : MethodId} {below : List Frame} {meth : Method} {c : Code} {l : Launch} (hl0 : l.stackTraces = false) {b L lo : Nat} {xs : Nat → Int32} (hL : L ≤ 4608) (hx : p.tables.exec = Jvm.exec) (hb : c.code = code) (hr : meth.sig.returnType = ret) (hml : c.maxLocals = 7) (hown : s.vm.findClass R_law = some m.cls) (hts : ∀ w ∈ ix_gw, w.before #[Value.ref b] s = true) (hlk : meth.locks = false) (hno : ∀ x ∈ c.exceptionTable.toList, False) {D : va_G} {g : kg4} {sa : Nat → Nat} (hlo : lo = s.heap.size) (hK : va_K D vwCl (ix_tys (g.1, g.2.1, g.2.2.1, g.2.2.2, fun _ _ => true)) s) (hE : ix_Es (kad lo b sa) lo s s.heap) (hX : ix_SX (kad lo b sa) lo (Fzz (xs, fun _ => nI L) kz_13) s s.heap)
    {H : Heap} {locs : List Loc} (hP : va_P D vwCl (ix_ws (kG g 105) (kad lo b sa) (kids 709) (Fzz (xs, fun _ => nI L) kz_13)) H) (hS : va_S (ix_A lo) s.heap H locs) {ls : Array Slot} (hl : lv_has ls 7 [(4, .int 0), (3, .ref (lo + 708)), (2, .ref (lo + 91)), (1, .ref (lo + 0)), (0, .ref b)]) : W p l e room_1 s m #[Value.ref b] below meth c H locs 709 12004 (lw_Z below #[Value.ref b] s) (F0 m 23 ls []) := by
  obtain ⟨r, ⟨h', k', rfl, hk'⟩, F, hF⟩ := L_law (g5 := .null) (g6 := .null) (f := Fzz (xs, fun _ => nI L) kz_13) (h := Fzz (xs, fun _ => nI L) kz_13) hL rfl (kz_J _)
  have hrun := hF 40 F F (Nat.le_refl _) (Nat.le_refl _) (Nat.le_refl _)
  rw [kx_full] at hP
  have hLh : ix_Lh (kad lo b sa) ls 7 (lL 0 .null .null) := by
    refine ⟨rfl, by decide, _, hl, fun i v hi hv => ?_⟩
    match i, hi with
    | 0, hi => cases hi; exact List.mem_of_getElem? (i := 4) rfl
    | 1, hi => cases hi; exact List.mem_of_getElem? (i := 3) rfl
    | 2, hi => cases hi; exact List.mem_of_getElem? (i := 2) rfl
    | 3, hi => cases hi; exact List.mem_of_getElem? (i := 1) rfl
    | 4, hi => cases hi; exact List.mem_of_getElem? (i := 0) rfl
    | 5, hi => cases hi; exact absurd rfl hv
    | 6, hi => cases hi; exact absurd rfl hv
    | i + 7, hi => cases hi
  have K := ix_run_ok (M := ix_lawM) (p := p) (l := l) (e := e) (R := room_1) (s := s) (m := m) (args := #[Value.ref b]) (below := below) (meth := meth) (c := c) (D := D) (G := (g.1, g.2.1, g.2.2.1, g.2.2.2, fun _ _ => true)) (ad := kad lo b sa) (ids := kids 709) (dm := ix_D) (lo := lo) (d := 41) (call := ix_call2 ix_D 40 F) (r := (.inl (some (.int (nI 1))), h', k')) (c0 := 709) (s0 := 12004) ix_law_ok ix_law_okr (fun h => absurd h (by decide)) (fun mi vs h r hr => ix_call2_ok hl0 kx_FxD 40 F mi vs h r hr) hl0 kx_FxD ⟨by decide, by decide, by show 709 + k' ≤ 601024; omega, by show 12004 + 6 * k' ≤ 7293033; omega⟩ hx hb hml (by rw [show ix_cn (ix_mc ix_lawM) = R_law from ix_cn13]; exact hown) hts hr hlk hK hE (fun _ => hno) (fun o x e9 _ hf => by cases hf) F 13 (lL 0 .null .null) [] (Fzz (xs, fun _ => nI L) kz_13) 0 hrun _ lq_13 H locs ls hLh hP hX hS
  intro T hT X
  obtain ⟨t, a1, b1⟩ := K T hT X
  exact ⟨t, a1, kw_end hlo (by show 709 + k' ≤ 601024; omega) (by show 12004 + 6 * k' ≤ 7293033; omega) b1⟩
/-- from the entry, for every script of at most 4608 ints, the law comes to its end with true -/
theorem whole_start {p : Program} {e : Env} {s : State} {m : MethodId} {below : List Frame} {meth : Method} {c : Code} (l : Launch) (hl0 : l.stackTraces = false) {b L : Nat} {xs : Nat → Int32} (hL : L ≤ 4608) (C0 : lw_At p s m meth c b L xs) (hno : ∀ x ∈ c.exceptionTable.toList, False) : W p l e room_1 s m #[Value.ref b] below meth c s.heap [] 0 0 (lw_Z below #[Value.ref b] s) (entryFrame m ([Value.ref b] : List Value).toArray 7) := by
  obtain ⟨hx, hb, hr, hml, hown, tw, hX0, hbl, hlk, hgv⟩ := C0
  have hown : s.vm.findClass "CryGorgeLaw" = some m.cls := hown
  have hg : ∀ w ∈ ks_fl, w.before #[Value.ref b] s = true := flat_of_before _ hgv
  have hts : ∀ w ∈ ix_gw, w.before #[Value.ref b] s = true := fun w hw => tw w (List.mem_filter.mp hw).1
  obtain ⟨sa, hEs⟩ := ks_Es tw hg
  obtain ⟨D, g, hKK⟩ := ks_K tw
  have hN : kN s := kN_of tw
  obtain ⟨lo, hlo⟩ : ∃ lo : Nat, lo = s.heap.size := ⟨_, rfl⟩
  have hE : ix_Es (kad lo b sa) lo s s.heap := by
    rw [hlo]
    refine hEs _ (fun i hi => ?_)
    unfold kad
    rw [if_neg (by omega), if_neg (by omega), if_neg (by omega), if_pos (by omega), show 2000 + i - 2000 = i by omega]
  have hnL : (nI L).toNatClampNeg = L := (px_in (jx := nI L) (m := L) (n := L + 1) rfl (by omega) (by omega)).2
  have hX : ix_SX (kad lo b sa) lo (Fzz (xs, fun _ => nI L) kz_0) s s.heap := by
    refine ⟨?_, ?_, ?_⟩
    · show va_X (kad lo b sa 3000) (nI L).toNatClampNeg xs s s.heap
      rw [hnL]
      exact hX0
    · show Int32.ofNat (nI L).toNatClampNeg = nI L
      rw [hnL]
      rfl
    · rw [hlo]
      exact hbl
  have hP : va_P D vwCl (ix_ws (kG g 0) (kad lo b sa) (kids 0) (Fzz (xs, fun _ => nI L) kz_0)) s.heap := fun k q hk => by cases hk
  have hz : s.heap.size = lo + 0 := hlo.symm
  have hS : va_S (ix_A lo) s.heap s.heap [] := va_S.rf
  have hK : va_K D vwCl (ix_tys (kG g 0)) s := hKK _
  have hl := lv_entry [.ref b] (n := 7) (Nat.le_of_ble_eq_true rfl)
  rw [lg_entry_eq]
  generalize (lg_sl [.ref b] ++ List.replicate (7 - (lg_sl [.ref b]).length) Slot.unset).toArray = ls at hl ⊢
  have hl : lv_has ls 7 [(0, .ref b)] := hl
  refine kx_new (ci := 11) (N := 20) (C := RX11) (T := TX11) (a := 0) hx hb hts tyX11 tyX11_ok hown (tw (.classLink "CryGorgeLaw" 8 "CryGorge") (by decide +kernel)) (tw (.instantiable "CryGorge" 20) (by decide +kernel)) (tw (.initialized "CryGorge") (by decide +kernel)) hK hP hz hS rfl (by decide) rfl (by decide) (by decide) (kx_fs (N := 20) ((Fzz_lo (by decide)).trans (kzf_0 0 (by decide) (by decide))) (by decide +kernel : ∀ k, k < 20 → kmk 0 0 k = false) rfl _ (fun j hj => by rcases (show j = 0 ∨ j = 1 ∨ j = 2 ∨ j = 3 ∨ j = 4 ∨ j = 5 ∨ j = 6 ∨ j = 7 ∨ j = 8 ∨ j = 9 ∨ j = 10 ∨ j = 11 ∨ j = 12 ∨ j = 13 ∨ j = 14 ∨ j = 15 ∨ j = 16 ∨ j = 17 ∨ j = 18 ∨ j = 19 by omega) with rfl | rfl | rfl | rfl | rfl | rfl | rfl | rfl | rfl | rfl | rfl | rfl | rfl | rfl | rfl | rfl | rfl | rfl | rfl | rfl <;> rfl)) (Nat.le_of_ble_eq_true rfl) (Nat.le_of_ble_eq_true rfl) (by decide +kernel) (fun H hP hz hS => ?_)
  refine W.widen (k := 1) (n := 20) (Nat.le_of_ble_eq_true rfl) (Nat.le_of_ble_eq_true rfl) ?_
  refine lv_dup hx hb (by decide +kernel) rfl ?_
  refine W.eq (g2 := F0 m 4 ls ((List.map (fun i => Value.ref (lo + i)) []).reverse ++ .ref (lo + 0) :: [.ref (lo + 0)])) rfl ?_
  refine kx_init (nL := 7) (idx := 97) (own := "CryGorgeLaw") (u := 0) (t := 1) (t' := 91) (u' := 78) (h := Fzz (xs, fun _ => nI L) kz_0) (h' := Fzz (xs, fun _ => nI L) kz_10) (lc := 702) (fr := 23) (ms := 4739) (maxL := 1) hx hb hml hl.1 hown hts (kc_0 hl0) kw11 (tw (.initialized "CryGorge") (by decide +kernel)) (tw (.methodLink "CryGorgeLaw" 97 ky11) (by decide +kernel)) (tw (.instanceMethod ky11) (by decide +kernel)) rfl (by decide +kernel) ⟨Nat.le_of_ble_eq_true rfl, Nat.le_of_ble_eq_true rfl⟩ hP hz hS hK hE hX hN (Nat.le_of_ble_eq_true rfl) (by decide +kernel) ⟨Nat.le_of_ble_eq_true rfl, Nat.le_of_ble_eq_true rfl⟩ (fun H locs hP hz hS hX => ?_)
  have hK : va_K D vwCl (ix_tys (kG g 78)) s := hK
  refine W.widen (k := 91) (n := 4759) (Nat.le_of_ble_eq_true rfl) (Nat.le_of_ble_eq_true rfl) ?_
  refine lv_astore_n (k := 1) (i := 1) hx hb (by decide +kernel) rfl hl (by decide) rfl (fun ls hl => ?_)
  have hl : lv_has ls 7 [(1, .ref (lo + 0)), (0, .ref b)] := hl
  refine kx_new (ci := 12) (N := 50) (C := RX12) (T := TX12) (a := 100) hx hb hts tyX12 tyX12_ok hown (tw (.classLink "CryGorgeLaw" 98 "CryGorgeModel") (by decide +kernel)) (tw (.instantiable "CryGorgeModel" 50) (by decide +kernel)) (tw (.initialized "CryGorgeModel") (by decide +kernel)) hK hP hz hS rfl (by decide) rfl (by decide) (by decide) (kx_fs (N := 50) ((Fzz_lo (by decide)).trans (kzf_10 100 (by decide) (by decide))) (by decide +kernel : ∀ k, k < 50 → kmk 78 100 k = false) rfl _ (fun j hj => by rcases (show j = 0 ∨ j = 1 ∨ j = 2 ∨ j = 3 ∨ j = 4 ∨ j = 5 ∨ j = 6 ∨ j = 7 ∨ j = 8 ∨ j = 9 ∨ j = 10 ∨ j = 11 ∨ j = 12 ∨ j = 13 ∨ j = 14 ∨ j = 15 ∨ j = 16 ∨ j = 17 ∨ j = 18 ∨ j = 19 ∨ j = 20 ∨ j = 21 ∨ j = 22 ∨ j = 23 ∨ j = 24 ∨ j = 25 ∨ j = 26 ∨ j = 27 ∨ j = 28 ∨ j = 29 ∨ j = 30 ∨ j = 31 ∨ j = 32 ∨ j = 33 ∨ j = 34 ∨ j = 35 ∨ j = 36 ∨ j = 37 ∨ j = 38 ∨ j = 39 ∨ j = 40 ∨ j = 41 ∨ j = 42 ∨ j = 43 ∨ j = 44 ∨ j = 45 ∨ j = 46 ∨ j = 47 ∨ j = 48 ∨ j = 49 by omega) with rfl | rfl | rfl | rfl | rfl | rfl | rfl | rfl | rfl | rfl | rfl | rfl | rfl | rfl | rfl | rfl | rfl | rfl | rfl | rfl | rfl | rfl | rfl | rfl | rfl | rfl | rfl | rfl | rfl | rfl | rfl | rfl | rfl | rfl | rfl | rfl | rfl | rfl | rfl | rfl | rfl | rfl | rfl | rfl | rfl | rfl | rfl | rfl | rfl | rfl <;> rfl)) (Nat.le_of_ble_eq_true rfl) (Nat.le_of_ble_eq_true rfl) (by decide +kernel) (fun H hP hz hS => ?_)
  refine W.widen (k := 92) (n := 4809) (Nat.le_of_ble_eq_true rfl) (Nat.le_of_ble_eq_true rfl) ?_
  refine lv_dup hx hb (by decide +kernel) rfl ?_
  refine W.eq (g2 := F0 m 12 ls ((List.map (fun i => Value.ref (lo + i)) []).reverse ++ .ref (lo + 91) :: [.ref (lo + 91)])) rfl ?_
  refine kx_init (nL := 7) (idx := 100) (own := "CryGorgeLaw") (u := 78) (t := 92) (t' := 708) (u' := 105) (h := Fzz (xs, fun _ => nI L) kz_10) (h' := Fzz (xs, fun _ => nI L) kz_13) (lc := 659) (fr := 21) (ms := 7194) (maxL := 1) hx hb hml hl.1 hown hts (kc_100 hl0) kw12 (tw (.initialized "CryGorgeModel") (by decide +kernel)) (tw (.methodLink "CryGorgeLaw" 100 ky12) (by decide +kernel)) (tw (.instanceMethod ky12) (by decide +kernel)) rfl (by decide +kernel) ⟨Nat.le_of_ble_eq_true rfl, Nat.le_of_ble_eq_true rfl⟩ hP hz hS hK hE hX hN (Nat.le_of_ble_eq_true rfl) (by decide +kernel) ⟨Nat.le_of_ble_eq_true rfl, Nat.le_of_ble_eq_true rfl⟩ (fun H locs hP hz hS hX => ?_)
  have hK : va_K D vwCl (ix_tys (kG g 105)) s := hK
  refine W.widen (k := 708) (n := 12003) (Nat.le_of_ble_eq_true rfl) (Nat.le_of_ble_eq_true rfl) ?_
  refine lv_astore_n (k := 2) (i := 2) hx hb (by decide +kernel) rfl hl (by decide) rfl (fun ls hl => ?_)
  have hl : lv_has ls 7 [(2, .ref (lo + 91)), (1, .ref (lo + 0)), (0, .ref b)] := hl
  refine lv_iconst (n := 1) (v := nI 1) hx hb (by decide +kernel) (by decide) ?_
  refine kx_nL (a := 99) hx hb (tw (.arrayClass .long) (by decide +kernel)) hK rfl (by decide) ((Fzz_lo (by decide)).trans (kzf_13 99 (by decide) (by decide))) (by decide) hP hz hS (by decide) (by decide) (by decide) (Nat.le_of_ble_eq_true rfl) (Nat.le_of_ble_eq_true rfl) (by decide +kernel) (fun H hP hz hS => ?_)
  refine W.widen (k := 709) (n := 12004) (Nat.le_of_ble_eq_true rfl) (Nat.le_of_ble_eq_true rfl) ?_
  refine lv_astore_n (k := 3) (i := 3) hx hb (by decide +kernel) rfl hl (by decide) rfl (fun ls hl => ?_)
  have hl : lv_has ls 7 [(3, .ref (lo + 708)), (2, .ref (lo + 91)), (1, .ref (lo + 0)), (0, .ref b)] := hl
  refine lv_iconst (n := 0) (v := 0) hx hb (by decide +kernel) (by decide) ?_
  refine lv_istore (i := 4) hx hb (by decide +kernel) hl (by decide) rfl (fun ls hl => ?_)
  exact kw_run hl0 hL hx hb hr hml hown hts hlk hno hlo (hKK _) hE hX hP hS hl
set_option maxHeartbeats 4000000 in
theorem lw_walk (l : Launch) (hl0 : l.stackTraces = false) (b : Addr) (xs : List Int32) : MetFree l x (headSpec (Jvm.Cond.code x code maxLocals ret :: tables_1) room_1) (lw_P b xs) (fun _ _ _ _ _ => True) lw_Q := by
  refine MetFree.of_bodyS (code := code) (maxLocals := maxLocals) (ret := ret) (by decide) ?_ ?_
  · intro args s m h hn
    obtain ⟨meth, c, h1, h2, h3, h4, h5, h6, -, -⟩ := Cond.code_spec hn (atoms_spec (ws := Jvm.Cond.code x code maxLocals ret :: tables_1) h _ List.mem_cons_self)
    exact ⟨meth, c, h1, h2, h3, h4, h5, h6⟩
  · intro p e s m args below meth c s₁ B hml0 hP _
    obtain ⟨rfl, hx, hbd, hgv⟩ := hP
    obtain ⟨scr, harrAt, hlist, hof, hsmall⟩ := hx
    obtain ⟨hcb, hkn, -, -⟩ := State.arrayAt?_spec harrAt
    have hown : s.vm.findClass R_law = some m.cls := findClass_of_methodNamed B.named
    have hts0 : ∀ c ∈ (Jvm.Cond.code x code maxLocals ret :: tables_1), c.before #[Value.ref b] s = true := atoms_spec (ws := Jvm.Cond.code x code maxLocals ret :: tables_1) B.pre
    have hts : ∀ w ∈ lw_tbl, w.before #[Value.ref b] s = true := k2_hts_sels lw_privs (fun w hw => hts0 w (List.mem_cons_of_mem _ hw)) lw_privs_ok
    have hml : c.maxLocals = 7 := B.maxLocals_eq (hts0 _ List.mem_cons_self)
    have hno : ∀ x ∈ c.exceptionTable.toList, False := by
      obtain ⟨meth9, c9, h1, h2, -, -, -, -, h7, -⟩ := Cond.code_spec B.named (hts0 _ List.mem_cons_self)
      cases Option.some.inj (h1.symm.trans B.method)
      cases Option.some.inj (h2.symm.trans (Stand.of_body B).code)
      intro x hx
      rw [Array.isEmpty_iff.mp h7] at hx
      cases hx
    have X₀ : Stand p l e room_1 s m #[Value.ref b] below meth c s₁ [] 0 0 := Stand.of_body B
    have hh0 : s₁.heap = s.heap := by rw [B.state]; rfl
    have hsz : scr.slots.size = xs.length := by rw [← Array.length_toList, hlist, List.length_map]
    have hval : ∀ j : Nat, j < xs.length → scr.slots[j]? = some (.int (xs.getD j 0)) := fun j hj => by
      rw [← Array.getElem?_toList, hlist]
      simp [hj]
    have hbl : b < s.heap.size := (Array.getElem?_eq_some_iff.mp hcb).1
    have hX : va_X b xs.length (fun j => xs.getD j 0) s s.heap := ⟨scr, hcb, hof, hkn, hsz, hval⟩
    have K : W p l e room_1 s m #[Value.ref b] below meth c s₁.heap [] 0 0 (lw_Z below #[Value.ref b] s) (entryFrame m ([Value.ref b] : List Value).toArray 7) := by
      rw [hh0]
      exact whole_start l hl0 hbd ⟨B.exec, B.bytes, B.returns, hml, hown, hts, hX, hbl, B.notSynchronized, hgv⟩ hno
    obtain ⟨t, a1, o, b1, b2, b3⟩ := K s₁ rfl X₀
    exact ⟨t, o, a1, b1, b2, b3⟩
theorem lw_pre_spec {args : Array Value} {s : State} (h : (Jvm.Cond.and given_1 narrow_1).before args s = true) (hr : rest_1_c.before args s = true) : ∃ (b : Addr) (xs : List Int32), lw_P b xs args s := by
  have hs := flat_of_before _ h
  have hq := flat_of_before _ hr
  have hc : (Cond.count 1).before args s = true := hs _ (by decide +kernel)
  have harr : (Cond.arrayOf (.arg 0) .int).before args s = true := hs _ (by decide +kernel)
  have hle : (Cond.le (.length (.arg 0)) (.int 4608)).before args s = true := hs _ (by decide +kernel)
  have hlen : (Cond.isInt (.length (.arg 0))).before args s = true := hq _ (by decide +kernel)
  have hall : (Cond.all (.arg 0) (.isInt (.elem (.arg 0) (.index 0)))).before args s = true := hq _ (by decide +kernel)
  obtain ⟨b, xs, hb, hx⟩ := State.ints_of_pre rfl harr hlen hall
  have hsm : xs.length < 2 ^ 31 := hx.choose_spec.2.2.2
  have hev : (Term.length (.arg 0)).eval args s none [] s = some (.int xs.length.toInt32) := hx.length_eval hb
  have hv := Cond.le_ints hev (show (Term.int 4608).eval args s none [] s = some (.int 4608) from rfl)
  have hd : xs.length.toInt32 ≤ 4608 := by
    simpa [Cond.before, Cond.holds, hv] using hle
  have hN : xs.length ≤ 4608 := (Int32.ofNat_le_ofNat hsm (by decide)).mp (show Int32.ofNat xs.length ≤ Int32.ofNat 4608 from hd)
  exact ⟨b, xs, Cond.one_arg hc (show args[0]? = some (.ref b) from hb), hx, hN, h⟩
theorem lw_comes (l : Launch) (hl0 : l.stackTraces = false) : Comes l x (Jvm.Cond.code x code maxLocals ret :: tables_1) room_1 (fun tb e args s => Calls_1 tb e args s ∧ rest_1 tb e args s ∧ Pre_1 tb e args s)
    (fun _ _ args s o t => lw_Q args s o t) := by
  intro p e ha hc hk s m args below hf hfit hheap happ hpre
  obtain ⟨b, xs, hP⟩ := lw_pre_spec hpre.2.2 hpre.2.1
  obtain ⟨k, o, h1, h2, h3, hQ⟩ := lw_walk l hl0 b xs p e ha hc hk s m args below hf ((Spec.applies_iff_loose hf).mp happ).1 hP trivial
  exact ⟨k, o, h1, h2, h3, hQ⟩
theorem lw_frame {s t : State} {o : Outcome} {args : Array Value} (h : Framed s o t [] 601024 7293033) :
    Framed s o t (fieldLocs frame_1_writes args s ++ arrayLocs frame_1_arrays args s ++ staticLocs frame_1_statics s) 601024 7293033 := h
theorem kfl {l : Launch} (h : l.flags = flags0) : l.stackTraces = false := by
  unfold Launch.stackTraces
  rw [h]
  decide
theorem lw_limb (L : Cond) (hL : ∀ (args : Array Value) (s t : State), L.after args s (.returned (some (.int 1))) t = true) :
    ArmFor flags0 classFile x code maxLocals ret World_1 tables_1 room_1 Calls_1 rest_1 Pre_1
      (fun tb e a s o t => postC L tb e a s o t ∧ Framed s o t (fieldLocs frame_1_writes a s ++ arrayLocs frame_1_arrays a s ++ staticLocs frame_1_statics s) 601024 7293033) := by
  intro l hfl _ _ p e ha hc hk s m args below hf hfit hheap happ hpre
  obtain ⟨k, o, h1, h2, h3, rfl, hF⟩ := lw_comes l (kfl hfl) p e ha hc hk s m args below hf hfit hheap happ hpre
  exact ⟨k, _, h1, h2, h3, hL args s _, lw_frame hF⟩
theorem i_vc : Claimed_1_1 ∧ Claimed_1_2 := ⟨lw_limb limb_1_1 (fun args s t => by simp [limb_1_1, Cond.after, Cond.holds, Cond.value]), lw_limb limb_1_2 (fun args s t => Cond.after_iff.mpr (by
  first | (rw [show limb_1_2 = Cond.eq .result (.int 1) from rfl, Cond.eq_ints (x := 1) (y := 1) rfl rfl]; simp; done) | (simp [limb_1_2, Cond.value, Term.eval]; done)))⟩
