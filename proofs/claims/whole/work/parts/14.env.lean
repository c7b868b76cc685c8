def ix_en (x : Nat) : String := if x = 0 then "java/lang/IllegalArgumentException" else "java/util/NoSuchElementException"
def ix_txL : List Nat := [5, 3, 24, 4, 3, 3, 4, 4, 4, 4, 5, 5, 5, 4, 18, 3, 4, 5, 8, 4, 4]
def ix_txB : List (List Int32) := [[97, 103, 97, 105, 110], [97, 103, 101], [97, 110, 32, 97, 114, 103, 117, 109, 101, 110, 116, 32, 105, 115, 32, 110, 111, 110, 101, 32, 115, 117, 99, 104], [98, 97, 114, 101], [98, 97, 121], [99, 114, 121], [102, 97, 100, 101], [102, 101, 108, 116], [102, 105, 108, 108], [107, 101, 101, 112], [108, 101, 97, 115, 116], [108, 111, 111, 115, 101], [109, 97, 116, 101, 115], [109, 111, 115, 116], [110, 111, 32, 115, 117, 99, 104, 32, 98, 97, 121, 32, 111, 114, 32, 99, 114, 121], [111, 117, 116], [112, 97, 116, 104], [112, 105, 116, 99, 104], [115, 116, 114, 101, 110, 103, 116, 104], [116, 101, 114, 109], [121, 101, 97, 114]]
def ix_nms : List String := ["java/lang/RuntimeException", "java/lang/Exception"]
def ix_RT : String := "java/lang/RuntimeException"
def ix_own2 (own : String) (ic : Nat) (X : String) : List Cond :=
  Bundle.throwableAtoms ++ Bundle.throwableSAtoms ++ (Bundle.passSAtoms X ix_RT 13 prog_30_method_4_code ++ Bundle.chainSAtoms ix_RT ["java/lang/Exception"]) ++
  [.methodLink own ic (Bundle.initS X), .instantiable X 6, .castable X X, .selects X Bundle.tFill0 Bundle.tFill0, .selects X Bundle.tFill Bundle.tFill,
   .lays X Bundle.tN "cause" "Ljava/lang/Throwable;", .lays X Bundle.tN "stackTrace" Bundle.steD, .lays X Bundle.tN "suppressedExceptions" Bundle.listD, .lays X Bundle.tN "detailMessage" "Ljava/lang/String;",
   .isRef (.static Bundle.tN "UNASSIGNED_STACK" Bundle.steD), .isRef (.static Bundle.tN "SUPPRESSED_SENTINEL" Bundle.listD),
   .fieldLink Bundle.tN 198 Bundle.tN "backtrace" "Ljava/lang/Object;", .lays Bundle.tN Bundle.tN "backtrace" "Ljava/lang/Object;", .lays X Bundle.tN "backtrace" "Ljava/lang/Object;"]
def ix_thw (x : Nat) : List Cond := if x = 0 then Cond.classLink "CryGorge" 400 (ix_en 0) :: Cond.initialized (ix_en 0) :: vx_atS "CryGorge" 404 (ix_en 0) ix_nms else Cond.classLink "CryGorge" 413 (ix_en 1) :: Cond.initialized (ix_en 1) :: (ix_own2 "CryGorge" 417 (ix_en 1)).filter vx_no
def ix_thA : List Cond := ix_thw 0 ++ ix_thw 1
theorem ix_thA_ok : ix_thA.all (fun w => w.keepsFace && w.onTables) = true := by decide +kernel
abbrev ix_A (lo : Nat) : Nat → Prop := fun q => lo ≤ q
def ix_Es (ad : Nat → Nat) (lo : Nat) (U : State) (H : Heap) : Prop :=
  lo ≤ H.size ∧ (∀ e ∈ ix_flS, e.2.2.2.2 ≠ 0 → va_Nw (ix_fw e) U) ∧ (∀ e ∈ ix_mkS, e.2.2.2.1 = 2 → va_Nw (ix_mkw e) U) ∧ (∀ e ∈ ix_sks, ∃ tx : String, vk_R (ix_cn e.1) e.2.1 tx (ad e.2.2) U) ∧
  vx_Zq Bundle.tN "UNASSIGNED_STACK" Bundle.steD (ix_A lo) U H ∧ vx_Zq Bundle.tN "SUPPRESSED_SENTINEL" Bundle.listD (ix_A lo) U H ∧
  (∃ sa : Nat, vk_R "CryGorge" 402 "an argument is none such" sa U) ∧ (∃ sa : Nat, vk_R "CryGorge" 415 "no such bay or cry" sa U) ∧
  (∃ adV : Nat → Nat, vk_S 21 ix_txL ix_txB (fun i => ad (2000 + i)) adV (ix_A lo) U H) ∧ va_Z "java/lang/String" "COMPACT_STRINGS" "Z" (.int 1) (ix_A lo) U H ∧ va_Zq "jdk/internal/util/Preconditions" "SIOOBE_FORMATTER" "Ljava/util/function/BiFunction;" (ix_A lo) U H ∧ (∀ w ∈ ix_thA, va_Nw w U) ∧ va_Nc (ix_en 0) (ix_en 1) U ∧ va_Nc (ix_en 1) (ix_en 0) U
theorem ix_Es.kept {ad : Nat → Nat} {lo : Nat} {U : State} {H H1 : Heap} (h : ix_Es ad lo U H) (hz : H.size ≤ H1.size) (hq : ∀ a : Nat, a < H.size → ¬ ix_A lo a → H1[a]? = H[a]?) : ix_Es ad lo U H1 := by
  obtain ⟨h1, h2, h3, h4, h5, h6, h7, h8, ⟨adV, h9⟩, h10, h11, h12, h13, h14⟩ := h
  exact ⟨Nat.le_trans h1 hz, h2, h3, h4, h5.kept hq, h6.kept hq, h7, h8, ⟨adV, h9.kept hq⟩, h10.kept hq, h11.kept hq, h12, h13, h14⟩
theorem ix_Es.moved {ad : Nat → Nat} {lo : Nat} {s U : State} {H : Heap} (hW : s.WarmedH U.vm) (h : ix_Es ad lo s H) : ix_Es ad lo U H := by
  obtain ⟨h1, h2, h3, h4, h5, h6, ⟨a7, h7⟩, ⟨a8, h8⟩, ⟨adV, h9⟩, h10, h11, h12, h13, h14⟩ := h
  refine ⟨h1, fun e he hz => ?_, fun e he hz => ?_, fun e he => ?_, vx_Zq.moved hW.alike h5, vx_Zq.moved hW.alike h6, ⟨a7, vk_R.warm hW h7⟩, ⟨a8, vk_R.warm hW h8⟩, ⟨adV, vk_S.moved hW.alike h9⟩, va_Z.moved hW.alike h10, va_Zq.moved hW.alike h11, fun w hw => ?_, va_Nc.moved hW.alike h13, va_Nc.moved hW.alike h14⟩
  · have h9 := h2 e he hz
    unfold ix_fw at h9 ⊢
    rw [if_neg hz] at h9 ⊢
    exact va_Nw.warmF hW h9
  · have h9 := h3 e he hz
    unfold ix_mkw at h9 ⊢
    rw [if_pos hz] at h9 ⊢
    exact va_Nw.warmM hW h9
  · obtain ⟨tx, h9⟩ := h4 e he
    exact ⟨tx, vk_R.warm hW h9⟩
  · have hg := List.all_eq_true.mp ix_thA_ok w hw
    simp only [Bool.and_eq_true] at hg
    exact va_tabs (u := s.setVm U.vm) hg.2 rfl (Cond.before_shiftedFace (State.Shifted.of_warmed hW) w hg.1 (h12 w hw))
theorem ix_SX.kept {ad : Nat → Nat} {lo : Nat} {h : ix_H} {U : State} {H H1 : Heap} (hh : ix_SX ad lo h U H) (hlo : lo ≤ H.size) (hq : ∀ a : Nat, a < H.size → ¬ ix_A lo a → H1[a]? = H[a]?) : ix_SX ad lo h U H1 :=
  ⟨hh.1.kept (hq _ (Nat.lt_of_lt_of_le hh.2.2 hlo) (Nat.not_le.mpr hh.2.2)), hh.2⟩
theorem ix_SX.moved {ad : Nat → Nat} {lo : Nat} {h : ix_H} {s U : State} {H : Heap} (hvm : s.vm.Alike U.vm) (hh : ix_SX ad lo h s H) : ix_SX ad lo h U H := ⟨hh.1.moved hvm, hh.2⟩
theorem ix_SX.same {ad : Nat → Nat} {lo : Nat} {h h' : ix_H} {U : State} {H : Heap} (hh : ix_SX ad lo h U H) (e1 : h' 3000 = h 3000) (e2 : h' 3001 = h 3001) : ix_SX ad lo h' U H := by
  unfold ix_SX
  rw [e1, e2]
  exact hh
def ix_St (D : va_G) (G : ix_G) (ad : Nat → Nat) (ids : List Nat) (lo : Nat) (h : ix_H) (U : State) : Prop := va_P D vwCl (ix_ws G ad ids h) U.heap ∧ va_K D vwCl (ix_tys G) U ∧ ix_Es ad lo U U.heap ∧ ix_SX ad lo h U U.heap
theorem ix_St.of {D : va_G} {G : ix_G} {ad : Nat → Nat} {ids : List Nat} {lo : Nat} {h : ix_H} {s U : State} {H : Heap} {locs : List Loc} (hP : va_P D vwCl (ix_ws G ad ids h) H) (hK : va_K D vwCl (ix_tys G) s) (hE : ix_Es ad lo s s.heap) (hX : ix_SX ad lo h s s.heap) (hS : va_S (ix_A lo) s.heap H locs) (hU : U.heap = H) (hW : s.WarmedH U.vm) : ix_St D G ad ids lo h U := by
  refine ⟨by rw [hU]; exact hP, va_K.moved hW.alike hK, ?_, ?_⟩
  · rw [hU]; exact (hE.kept hS.1 hS.2.1).moved hW
  · rw [hU]; exact (hX.kept hE.1 hS.2.1).moved hW.alike
def ix_Sp (D : va_G) (G : ix_G) (ad : Nat → Nat) (ids : List Nat) (lo : Nat) (h : ix_H) (U : State) : Prop := va_P D vwCl (ix_ws G ad ids h) U.heap ∧ ix_SX ad lo h U U.heap
abbrev ix_Q4 : Type := MethodName × ByteArray × Nat × Option FieldType
def ix_wsM (mi : Nat) (q : ix_Q4) : List Cond := ix_hw mi q :: ix_gw
def ix_rm (d k : Nat) : Room := { frames := d + 12, cells := k, slots := 6 * k, locals := 41 * d + 300 }
section IXC
variable (D : va_G) (G : ix_G) (ad : Nat → Nat) (ids : List Nat) (lo : Nat)
def ix_Pc (vs : List Value) (h : ix_H) : Array Value → State → Prop := va_Pc (vs.map (ix_cv ad)) (ix_St D G ad ids lo h)
def ix_Qc (r : ix_R) : Array Value → State → Outcome → State → Prop := fun _ st o t => ∃ v : Option Value, r.1 = .inl v ∧ o = .returned (v.map (ix_cv ad)) ∧ ix_Sp D G ad ids lo r.2.1 t ∧ va_F (ix_A lo) st t
def ix_XC (r : ix_R) : String → State → State → Prop := fun E st t => ∃ x : Nat, r.1 = .inr x ∧ E = ix_en x ∧ ix_Sp D G ad ids lo r.2.1 t ∧ va_F (ix_A lo) st t
def ix_Ct (l : Launch) (d mi : Nat) (args : List Value) (h : ix_H) (r : ix_R) : Prop := ∀ q : ix_Q4, ix_cal mi = some q → vx_Met l q.1 (ix_wsM mi q) (ix_rm d r.2.2) (ix_Pc D G ad ids lo args h) (ix_Qc D G ad ids lo r) (ix_XC D G ad ids lo r) r.2.2 (6 * r.2.2) (ix_A lo)
end IXC
theorem ix_blind {D : va_G} {G : ix_G} {ad : Nat → Nat} {ids : List Nat} {lo : Nat} {vs : List Value} {h : ix_H} : FrameBlind (ix_Pc D G ad ids lo vs h) := by
  intro a U g mk hp
  obtain ⟨h1, h2, h3, h4, h5⟩ := hp
  refine ⟨h1, h2, va_K.moved (u := U) (U := U.calling g mk a) (Vm.Alike.refl U.vm) h3, ?_, ?_⟩
  · exact ix_Es.moved (s := U) (U := U.calling g mk a) (State.WarmedH.refl U) h4
  · exact ix_SX.moved (s := U) (U := U.calling g mk a) (Vm.Alike.refl U.vm) h5
theorem ix_vxMet {l : Launch} {y : MethodName} {ws : List Cond} {rm : Room} {Pc : Array Value → State → Prop} {Qc : Array Value → State → Outcome → State → Prop} {XC : String → State → State → Prop} {mc ms : Nat} {free : Addr → Prop} (h : vx_Met l y ws rm Pc Qc XC mc ms free) (hx : ∀ E s t, ¬ XC E s t) : Met l y ws rm Pc Qc mc ms free := by
  intro p e ha hc hk s m args below hf hfit hP hK
  obtain ⟨t, o, h1, h2, h3, h4⟩ := h p e ha hc hk s m args below hf hfit hP hK
  refine ⟨t, o, h1, h2, h3, ?_⟩
  rcases h4 with h4 | ⟨q, -, E, ce, L, hE, -⟩
  · exact h4
  · exact absurd hE (hx _ _ _)
