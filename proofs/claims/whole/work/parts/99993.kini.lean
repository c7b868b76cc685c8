def kOI : MethodName := ⟨"java/lang/Object", "<init>", "()V"⟩
def ky0 : MethodName := ⟨"CryGorge$Century", "<init>", "(LCryGorge$Land;LCryGorge$Seasons;)V"⟩
theorem kw0 : Cond.code ky0 prog_2_method_1_code 3 none ∈ lw_tbl := by decide +kernel
def ky1 : MethodName := ⟨"CryGorge$Guesses", "<init>", "(LCryGorge$Land;LCryGorge$Seasons;)V"⟩
theorem kw1 : Cond.code ky1 prog_3_method_1_code 3 none ∈ lw_tbl := by decide +kernel
def ky2 : MethodName := ⟨"CryGorge$Heard", "<init>", "()V"⟩
theorem kw2 : Cond.code ky2 prog_4_method_1_code 1 none ∈ lw_tbl := by decide +kernel
def ky3 : MethodName := ⟨"CryGorge$History", "<init>", "()V"⟩
theorem kw3 : Cond.code ky3 prog_5_method_1_code 1 none ∈ lw_tbl := by decide +kernel
def ky4 : MethodName := ⟨"CryGorge$Land", "<init>", "()V"⟩
theorem kw4 : Cond.code ky4 prog_6_method_1_code 1 none ∈ lw_tbl := by decide +kernel
def ky5 : MethodName := ⟨"CryGorge$Law", "<init>", "()V"⟩
theorem kw5 : Cond.code ky5 prog_7_method_1_code 1 none ∈ lw_tbl := by decide +kernel
def ky6 : MethodName := ⟨"CryGorge$Planner", "<init>", "(LCryGorge$Land;LCryGorge$Seasons;)V"⟩
theorem kw6 : Cond.code ky6 prog_8_method_1_code 3 none ∈ lw_tbl := by decide +kernel
def ky7 : MethodName := ⟨"CryGorge$Reader", "<init>", "([B)V"⟩
theorem kw7 : Cond.code ky7 prog_9_method_1_code 2 none ∈ lw_tbl := by decide +kernel
def ky8 : MethodName := ⟨"CryGorge$Seasons", "<init>", "(LCryGorge$Land;LCryGorge$Law;)V"⟩
theorem kw8 : Cond.code ky8 prog_10_method_1_code 3 none ∈ lw_tbl := by decide +kernel
def ky9 : MethodName := ⟨"CryGorge$State", "<init>", "(LCryGorge$Land;)V"⟩
theorem kw9 : Cond.code ky9 prog_11_method_1_code 2 none ∈ lw_tbl := by decide +kernel
def ky10 : MethodName := ⟨"CryGorge$Work", "<init>", "()V"⟩
theorem kw10 : Cond.code ky10 prog_12_method_1_code 1 none ∈ lw_tbl := by decide +kernel
def ky11 : MethodName := ⟨"CryGorge", "<init>", "()V"⟩
theorem kw11 : Cond.code ky11 prog_1_method_1_code 1 none ∈ lw_tbl := by decide +kernel
def ky12 : MethodName := ⟨"CryGorgeModel", "<init>", "()V"⟩
theorem kw12 : Cond.code ky12 prog_14_method_1_code 1 none ∈ lw_tbl := by decide +kernel
theorem kc_2 {l : Launch} (hl0 : l.stackTraces = false) {D : va_G} {g : kg4} {lo b : Nat} {sa : Nat → Nat} {w : (Nat → Int32) × (Nat → Int32)} : kMet l ky7 prog_9_method_1_code 2 1 40 0 D g lo b sa [2, 1] 3 1 (Fzz w kz_0) 3 2 (Fzz w kz_0) := by
  refine Met.ofW (cc := prog_9_method_1_code) (maxL := 2) (ret := none) (by decide) rfl ?_
  intro p e s m args below meth c s₁ B hml hv
  obtain ⟨rfl, hz0, ⟨hP, hK, hE, hX⟩, hN⟩ := hv
  have hx := B.exec
  have hb := B.bytes
  have hr := B.returns
  have hts : ∀ w ∈ ix_gw, w.before (List.map (fun i => Value.ref (lo + i)) [2, 1]).toArray s = true := fun w hw => atoms_spec (ws := Cond.code ky7 prog_9_method_1_code 2 none :: ix_gw) B.pre w (List.mem_cons_of_mem _ hw)
  have tw : ∀ w, w ∈ lw_tbl → goodWord w = true → w.before (List.map (fun i => Value.ref (lo + i)) [2, 1]).toArray s = true := fun w h1 h2 => hts w (ix_gwm h1 h2)
  have hown : s.vm.findClass "CryGorge$Reader" = some m.cls := findClass_of_methodNamed B.named
  have hlocks := B.notSynchronized
  have hin : meth.name = "<init>" := (name_of_methodNamed B.named B.method).1
  have hS : va_S (ix_A lo) s.heap s.heap [] := va_S.rf
  have hz := hz0
  have hl := lv_entry (List.map (fun i => Value.ref (lo + i)) [2, 1]) (n := 2) (Nat.le_of_ble_eq_true rfl)
  rw [lg_entry_eq]
  generalize (lg_sl (List.map (fun i => Value.ref (lo + i)) [2, 1]) ++ List.replicate (2 - (lg_sl (List.map (fun i => Value.ref (lo + i)) [2, 1])).length) Slot.unset).toArray = ls at hl ⊢
  have hl : lv_has ls 2 [(0, .ref (lo + 2)), (1, .ref (lo + 1))] := hl
  refine lv_aload_n (k := 0) hx hb (by decide +kernel) rfl (lv_at hl 0 rfl) ?_
  refine W.objInit hx hb hown (tw (.methodLink "CryGorge$Reader" 3 kOI) (by decide +kernel) rfl) (tw (.instanceMethod kOI) (by decide +kernel) rfl) (tw (.code kOI ⟨#[0xb1]⟩ 1 none) (by decide +kernel) rfl) rfl (by rw [hml]; exact hl.1) rfl (show decode prog_9_method_1_code 1 = .ok (.invokespecial 3, 3) from by decide +kernel) (Nat.le_of_ble_eq_true rfl) (Nat.le_of_ble_eq_true rfl) ?_
  refine W.eq (g2 := F0 m 4 ls []) rfl ?_
  refine lv_aload_n (k := 0) hx hb (by decide +kernel) rfl (lv_at hl 0 rfl) ?_
  refine lv_aload_n (k := 1) hx hb (by decide +kernel) rfl (lv_at hl 1 rfl) ?_
  refine kx_putF (i := 2) (a := 2) (k := 0) (j := 1) (v := 1) (ci := 7) (C := RX7) (T := TX7) (N := 7) (ty := tyX7 0) hx hb hts hown hK hP hz hS (by decide) (by decide) rfl (by decide) (by decide) rfl (by decide) (tw (.fieldLink "CryGorge$Reader" 9 "CryGorge$Reader" "text" "[B") (by decide +kernel) rfl) rfl rfl hin rfl (tyX7_ok 0 (by decide)) (fun _ => rfl) (fun _ => rfl) (by decide) (by decide) rfl (by decide) (by decide +kernel) (fun H locs hP hz hS => ?_)
  have hK : va_K D vwCl (ix_tys (kG g 2)) s := hK
  exact W.vret hx hb hr (fun t ht hW => ⟨⟨(), rfl, trivial, by rw [ht]; exact hz, (ix_lend hP hE hX hS ht hW.alike).1⟩, (ix_lend hP hE hX hS ht hW.alike).2⟩) hS.2.2 (by decide +kernel)
theorem kc_3 {l : Launch} (hl0 : l.stackTraces = false) {D : va_G} {g : kg4} {lo b : Nat} {sa : Nat → Nat} {w : (Nat → Int32) × (Nat → Int32)} : kMet l ky4 prog_6_method_1_code 1 1 40 112 D g lo b sa [3] 4 3 (Fzz w kz_0) 22 9 (Fzz w kz_2) := by
  refine Met.ofW (cc := prog_6_method_1_code) (maxL := 1) (ret := none) (by decide) rfl ?_
  intro p e s m args below meth c s₁ B hml hv
  obtain ⟨rfl, hz0, ⟨hP, hK, hE, hX⟩, hN⟩ := hv
  have hx := B.exec
  have hb := B.bytes
  have hr := B.returns
  have hts : ∀ w ∈ ix_gw, w.before (List.map (fun i => Value.ref (lo + i)) [3]).toArray s = true := fun w hw => atoms_spec (ws := Cond.code ky4 prog_6_method_1_code 1 none :: ix_gw) B.pre w (List.mem_cons_of_mem _ hw)
  have tw : ∀ w, w ∈ lw_tbl → goodWord w = true → w.before (List.map (fun i => Value.ref (lo + i)) [3]).toArray s = true := fun w h1 h2 => hts w (ix_gwm h1 h2)
  have hown : s.vm.findClass "CryGorge$Land" = some m.cls := findClass_of_methodNamed B.named
  have hlocks := B.notSynchronized
  have hin : meth.name = "<init>" := (name_of_methodNamed B.named B.method).1
  have hS : va_S (ix_A lo) s.heap s.heap [] := va_S.rf
  have hz := hz0
  have hl := lv_entry (List.map (fun i => Value.ref (lo + i)) [3]) (n := 1) (Nat.le_of_ble_eq_true rfl)
  rw [lg_entry_eq]
  generalize (lg_sl (List.map (fun i => Value.ref (lo + i)) [3]) ++ List.replicate (1 - (lg_sl (List.map (fun i => Value.ref (lo + i)) [3])).length) Slot.unset).toArray = ls at hl ⊢
  have hl : lv_has ls 1 [(0, .ref (lo + 3))] := hl
  refine lv_aload_n (k := 0) hx hb (by decide +kernel) rfl (lv_at hl 0 rfl) ?_
  refine W.objInit hx hb hown (tw (.methodLink "CryGorge$Land" 3 kOI) (by decide +kernel) rfl) (tw (.instanceMethod kOI) (by decide +kernel) rfl) (tw (.code kOI ⟨#[0xb1]⟩ 1 none) (by decide +kernel) rfl) rfl (by rw [hml]; exact hl.1) rfl (show decode prog_6_method_1_code 1 = .ok (.invokespecial 3, 3) from by decide +kernel) (Nat.le_of_ble_eq_true rfl) (Nat.le_of_ble_eq_true rfl) ?_
  refine W.eq (g2 := F0 m 4 ls []) rfl ?_
  refine lv_aload_n (k := 0) hx hb (by decide +kernel) rfl (lv_at hl 0 rfl) ?_
  refine lv_bipush (n := 6) (v := nI 6) hx hb (by decide +kernel) (by decide) ?_
  refine kx_nI (a := 4) hx hb (tw (.arrayClass .int) (by decide +kernel) rfl) hK rfl (by decide) ((Fzz_lo (by decide)).trans (kzf_0 4 (by decide) (by decide))) (by decide) hP hz hS (by decide) (by decide) (by decide) (Nat.le_of_ble_eq_true rfl) (Nat.le_of_ble_eq_true rfl) (by decide +kernel) (fun H hP hz hS => ?_)
  refine W.widen (k := 1) (n := 6) (Nat.le_of_ble_eq_true rfl) (Nat.le_of_ble_eq_true rfl) ?_
  refine kx_putF (i := 3) (a := 3) (k := 0) (j := 4) (v := 4) (ci := 4) (C := RX4) (T := TX4) (N := 10) (ty := tyX4 0) hx hb hts hown hK hP hz hS (by decide) (by decide) rfl (by decide) (by decide) rfl (by decide) (tw (.fieldLink "CryGorge$Land" 9 "CryGorge$Land" "fade" "[I") (by decide +kernel) rfl) rfl rfl hin rfl (tyX4_ok 0 (by decide)) (fun _ => rfl) (fun _ => rfl) (by decide) (by decide) rfl (by decide) (by decide +kernel) (fun H locs hP hz hS => ?_)
  have hK : va_K D vwCl (ix_tys (kG g 4)) s := hK
  refine lv_aload_n (k := 0) hx hb (by decide +kernel) rfl (lv_at hl 0 rfl) ?_
  refine lv_bipush (n := 6) (v := nI 6) hx hb (by decide +kernel) (by decide) ?_
  refine kx_nI (a := 5) hx hb (tw (.arrayClass .int) (by decide +kernel) rfl) hK rfl (by decide) ((Fzz_lo (by decide)).trans (kzf_0 5 (by decide) (by decide))) (by decide) hP hz hS (by decide) (by decide) (by decide) (Nat.le_of_ble_eq_true rfl) (Nat.le_of_ble_eq_true rfl) (by decide +kernel) (fun H hP hz hS => ?_)
  refine W.widen (k := 2) (n := 12) (Nat.le_of_ble_eq_true rfl) (Nat.le_of_ble_eq_true rfl) ?_
  refine kx_putF (i := 3) (a := 3) (k := 1) (j := 5) (v := 5) (ci := 4) (C := RX4) (T := TX4) (N := 10) (ty := tyX4 1) hx hb hts hown hK hP hz hS (by decide) (by decide) rfl (by decide) (by decide) rfl (by decide) (tw (.fieldLink "CryGorge$Land" 15 "CryGorge$Land" "holds" "[I") (by decide +kernel) rfl) rfl rfl hin rfl (tyX4_ok 1 (by decide)) (fun _ => rfl) (fun _ => rfl) (by decide) (by decide) rfl (by decide) (by decide +kernel) (fun H locs hP hz hS => ?_)
  have hK : va_K D vwCl (ix_tys (kG g 5)) s := hK
  refine lv_aload_n (k := 0) hx hb (by decide +kernel) rfl (lv_at hl 0 rfl) ?_
  refine lv_bipush (n := 8) (v := nI 8) hx hb (by decide +kernel) (by decide) ?_
  refine kx_nI (a := 6) hx hb (tw (.arrayClass .int) (by decide +kernel) rfl) hK rfl (by decide) ((Fzz_lo (by decide)).trans (kzf_0 6 (by decide) (by decide))) (by decide) hP hz hS (by decide) (by decide) (by decide) (Nat.le_of_ble_eq_true rfl) (Nat.le_of_ble_eq_true rfl) (by decide +kernel) (fun H hP hz hS => ?_)
  refine W.widen (k := 3) (n := 20) (Nat.le_of_ble_eq_true rfl) (Nat.le_of_ble_eq_true rfl) ?_
  refine kx_putF (i := 3) (a := 3) (k := 2) (j := 6) (v := 6) (ci := 4) (C := RX4) (T := TX4) (N := 10) (ty := tyX4 2) hx hb hts hown hK hP hz hS (by decide) (by decide) rfl (by decide) (by decide) rfl (by decide) (tw (.fieldLink "CryGorge$Land" 18 "CryGorge$Land" "pitch" "[I") (by decide +kernel) rfl) rfl rfl hin rfl (tyX4_ok 2 (by decide)) (fun _ => rfl) (fun _ => rfl) (by decide) (by decide) rfl (by decide) (by decide +kernel) (fun H locs hP hz hS => ?_)
  have hK : va_K D vwCl (ix_tys (kG g 6)) s := hK
  refine lv_aload_n (k := 0) hx hb (by decide +kernel) rfl (lv_at hl 0 rfl) ?_
  refine lv_bipush (n := 8) (v := nI 8) hx hb (by decide +kernel) (by decide) ?_
  refine kx_nI (a := 7) hx hb (tw (.arrayClass .int) (by decide +kernel) rfl) hK rfl (by decide) ((Fzz_lo (by decide)).trans (kzf_0 7 (by decide) (by decide))) (by decide) hP hz hS (by decide) (by decide) (by decide) (Nat.le_of_ble_eq_true rfl) (Nat.le_of_ble_eq_true rfl) (by decide +kernel) (fun H hP hz hS => ?_)
  refine W.widen (k := 4) (n := 28) (Nat.le_of_ble_eq_true rfl) (Nat.le_of_ble_eq_true rfl) ?_
  refine kx_putF (i := 3) (a := 3) (k := 3) (j := 7) (v := 7) (ci := 4) (C := RX4) (T := TX4) (N := 10) (ty := tyX4 3) hx hb hts hown hK hP hz hS (by decide) (by decide) rfl (by decide) (by decide) rfl (by decide) (tw (.fieldLink "CryGorge$Land" 21 "CryGorge$Land" "strength" "[I") (by decide +kernel) rfl) rfl rfl hin rfl (tyX4_ok 3 (by decide)) (fun _ => rfl) (fun _ => rfl) (by decide) (by decide) rfl (by decide) (by decide +kernel) (fun H locs hP hz hS => ?_)
  have hK : va_K D vwCl (ix_tys (kG g 7)) s := hK
  refine lv_aload_n (k := 0) hx hb (by decide +kernel) rfl (lv_at hl 0 rfl) ?_
  refine lv_bipush (n := 6) (v := nI 6) hx hb (by decide +kernel) (by decide) ?_
  refine lv_bipush (n := 6) (v := nI 6) hx hb (by decide +kernel) (by decide) ?_
  refine kx_mna (a := 8) (N := 6) (K := 6) hx hb hown (tw (.classLink "CryGorge$Land" 24 "[[I") (by decide +kernel) rfl) hN.1 (tw (.arrayClass .int) (by decide +kernel) rfl) hK hP hz hS rfl (by decide) (by decide) (by decide) (by decide) (by decide) (by decide) (by decide) (by decide) (fun j hj => ⟨((by decide +kernel : ∀ j, j < 6 → ix_k (8 + 1 + j) = 1 ∧ ix_n (8 + 1 + j) = 6) j hj).1, ((by decide +kernel : ∀ j, j < 6 → ix_k (8 + 1 + j) = 1 ∧ ix_n (8 + 1 + j) = 6) j hj).2, (Fzz_lo (by omega)).trans (kzf_0 _ ((by decide +kernel : ∀ j, j < 6 → kin 0 (8 + 1 + j) = false) j hj) (by omega))⟩) (Nat.le_of_ble_eq_true rfl) (Nat.le_of_ble_eq_true rfl) (by decide +kernel) (fun H hP hz hS => ?_)
  refine W.widen (k := 11) (n := 70) (Nat.le_of_ble_eq_true rfl) (Nat.le_of_ble_eq_true rfl) ?_
  have hP : va_P D vwCl (ix_ws (kG g 7) (kad lo b sa) (kids 15) (Fzz w kz_0)) H := hP
  have hz : H.size = lo + 15 := hz
  refine kx_putF (i := 3) (a := 3) (k := 4) (j := 8) (v := 8) (ci := 4) (C := RX4) (T := TX4) (N := 10) (ty := tyX4 4) hx hb hts hown hK hP hz hS (by decide) (by decide) rfl (by decide) (by decide) rfl (by decide) (tw (.fieldLink "CryGorge$Land" 26 "CryGorge$Land" "path" "[[I") (by decide +kernel) rfl) rfl rfl hin rfl (tyX4_ok 4 (by decide)) (fun _ => rfl) (fun _ => rfl) (by decide) (by decide) rfl (by decide) (by decide +kernel) (fun H locs hP hz hS => ?_)
  have hK : va_K D vwCl (ix_tys (kG g 8)) s := hK
  refine lv_aload_n (k := 0) hx hb (by decide +kernel) rfl (lv_at hl 0 rfl) ?_
  refine lv_bipush (n := 6) (v := nI 6) hx hb (by decide +kernel) (by decide) ?_
  refine lv_bipush (n := 6) (v := nI 6) hx hb (by decide +kernel) (by decide) ?_
  refine kx_mna (a := 15) (N := 6) (K := 6) hx hb hown (tw (.classLink "CryGorge$Land" 24 "[[I") (by decide +kernel) rfl) hN.1 (tw (.arrayClass .int) (by decide +kernel) rfl) hK hP hz hS rfl (by decide) (by decide) (by decide) (by decide) (by decide) (by decide) (by decide) (by decide) (fun j hj => ⟨((by decide +kernel : ∀ j, j < 6 → ix_k (15 + 1 + j) = 1 ∧ ix_n (15 + 1 + j) = 6) j hj).1, ((by decide +kernel : ∀ j, j < 6 → ix_k (15 + 1 + j) = 1 ∧ ix_n (15 + 1 + j) = 6) j hj).2, (Fzz_lo (by omega)).trans (kzf_0 _ ((by decide +kernel : ∀ j, j < 6 → kin 0 (15 + 1 + j) = false) j hj) (by omega))⟩) (Nat.le_of_ble_eq_true rfl) (Nat.le_of_ble_eq_true rfl) (by decide +kernel) (fun H hP hz hS => ?_)
  refine W.widen (k := 18) (n := 112) (Nat.le_of_ble_eq_true rfl) (Nat.le_of_ble_eq_true rfl) ?_
  have hP : va_P D vwCl (ix_ws (kG g 8) (kad lo b sa) (kids 22) (Fzz w kz_0)) H := hP
  have hz : H.size = lo + 22 := hz
  refine kx_putF (i := 3) (a := 3) (k := 5) (j := 15) (v := 15) (ci := 4) (C := RX4) (T := TX4) (N := 10) (ty := tyX4 5) hx hb hts hown hK hP hz hS (by decide) (by decide) rfl (by decide) (by decide) rfl (by decide) (tw (.fieldLink "CryGorge$Land" 29 "CryGorge$Land" "distance" "[[I") (by decide +kernel) rfl) rfl rfl hin rfl (tyX4_ok 5 (by decide)) (fun _ => rfl) (fun _ => rfl) (by decide) (by decide) rfl (by decide) (by decide +kernel) (fun H locs hP hz hS => ?_)
  have hK : va_K D vwCl (ix_tys (kG g 9)) s := hK
  refine lv_aload_n (k := 0) hx hb (by decide +kernel) rfl (lv_at hl 0 rfl) ?_
  refine lv_bipush (n := 21) (v := nI 21) hx hb (by decide +kernel) (by decide) ?_
  refine kx_puti (i := 3) (a := 3) (k := 8) (v := nI 21) (ci := 4) (C := RX4) (T := TX4) (N := 10) hx hb hts hown hK hP hz hS (by decide) (by decide) rfl (by decide) (by decide) rfl (by decide) (tw (.fieldLink "CryGorge$Land" 32 "CryGorge$Land" "term" "I") (by decide +kernel) rfl) rfl rfl (tyX4_ok 8 (by decide)) (by decide) (by decide +kernel) (fun H locs hP hz hS => ?_)
  rw [Fzz_up (by decide) (by decide)] at hP
  have hP : va_P D vwCl (ix_ws (kG g 9) (kad lo b sa) (kids 22) (Fzz w kz_1)) H := hP
  have hX : ix_SX (kad lo b sa) lo (Fzz w kz_1) s s.heap := kx_SX hX
  refine lv_aload_n (k := 0) hx hb (by decide +kernel) rfl (lv_at hl 0 rfl) ?_
  refine lv_iconst (n := 3) (v := nI 3) hx hb (by decide +kernel) (by decide) ?_
  refine kx_puti (i := 3) (a := 3) (k := 9) (v := nI 3) (ci := 4) (C := RX4) (T := TX4) (N := 10) hx hb hts hown hK hP hz hS (by decide) (by decide) rfl (by decide) (by decide) rfl (by decide) (tw (.fieldLink "CryGorge$Land" 36 "CryGorge$Land" "felt" "I") (by decide +kernel) rfl) rfl rfl (tyX4_ok 9 (by decide)) (by decide) (by decide +kernel) (fun H locs hP hz hS => ?_)
  rw [Fzz_up (by decide) (by decide)] at hP
  have hP : va_P D vwCl (ix_ws (kG g 9) (kad lo b sa) (kids 22) (Fzz w kz_2)) H := hP
  have hX : ix_SX (kad lo b sa) lo (Fzz w kz_2) s s.heap := kx_SX hX
  exact W.vret hx hb hr (fun t ht hW => ⟨⟨(), rfl, trivial, by rw [ht]; exact hz, (ix_lend hP hE hX hS ht hW.alike).1⟩, (ix_lend hP hE hX hS ht hW.alike).2⟩) hS.2.2 (by decide +kernel)
theorem kc_22 {l : Launch} (hl0 : l.stackTraces = false) {D : va_G} {g : kg4} {lo b : Nat} {sa : Nat → Nat} {w : (Nat → Int32) × (Nat → Int32)} : kMet l ky4 prog_6_method_1_code 1 1 40 112 D g lo b sa [22] 23 10 (Fzz w kz_2) 41 16 (Fzz w kz_4) := by
  refine Met.ofW (cc := prog_6_method_1_code) (maxL := 1) (ret := none) (by decide) rfl ?_
  intro p e s m args below meth c s₁ B hml hv
  obtain ⟨rfl, hz0, ⟨hP, hK, hE, hX⟩, hN⟩ := hv
  have hx := B.exec
  have hb := B.bytes
  have hr := B.returns
  have hts : ∀ w ∈ ix_gw, w.before (List.map (fun i => Value.ref (lo + i)) [22]).toArray s = true := fun w hw => atoms_spec (ws := Cond.code ky4 prog_6_method_1_code 1 none :: ix_gw) B.pre w (List.mem_cons_of_mem _ hw)
  have tw : ∀ w, w ∈ lw_tbl → goodWord w = true → w.before (List.map (fun i => Value.ref (lo + i)) [22]).toArray s = true := fun w h1 h2 => hts w (ix_gwm h1 h2)
  have hown : s.vm.findClass "CryGorge$Land" = some m.cls := findClass_of_methodNamed B.named
  have hlocks := B.notSynchronized
  have hin : meth.name = "<init>" := (name_of_methodNamed B.named B.method).1
  have hS : va_S (ix_A lo) s.heap s.heap [] := va_S.rf
  have hz := hz0
  have hl := lv_entry (List.map (fun i => Value.ref (lo + i)) [22]) (n := 1) (Nat.le_of_ble_eq_true rfl)
  rw [lg_entry_eq]
  generalize (lg_sl (List.map (fun i => Value.ref (lo + i)) [22]) ++ List.replicate (1 - (lg_sl (List.map (fun i => Value.ref (lo + i)) [22])).length) Slot.unset).toArray = ls at hl ⊢
  have hl : lv_has ls 1 [(0, .ref (lo + 22))] := hl
  refine lv_aload_n (k := 0) hx hb (by decide +kernel) rfl (lv_at hl 0 rfl) ?_
  refine W.objInit hx hb hown (tw (.methodLink "CryGorge$Land" 3 kOI) (by decide +kernel) rfl) (tw (.instanceMethod kOI) (by decide +kernel) rfl) (tw (.code kOI ⟨#[0xb1]⟩ 1 none) (by decide +kernel) rfl) rfl (by rw [hml]; exact hl.1) rfl (show decode prog_6_method_1_code 1 = .ok (.invokespecial 3, 3) from by decide +kernel) (Nat.le_of_ble_eq_true rfl) (Nat.le_of_ble_eq_true rfl) ?_
  refine W.eq (g2 := F0 m 4 ls []) rfl ?_
  refine lv_aload_n (k := 0) hx hb (by decide +kernel) rfl (lv_at hl 0 rfl) ?_
  refine lv_bipush (n := 6) (v := nI 6) hx hb (by decide +kernel) (by decide) ?_
  refine kx_nI (a := 23) hx hb (tw (.arrayClass .int) (by decide +kernel) rfl) hK rfl (by decide) ((Fzz_lo (by decide)).trans (kzf_2 23 (by decide) (by decide))) (by decide) hP hz hS (by decide) (by decide) (by decide) (Nat.le_of_ble_eq_true rfl) (Nat.le_of_ble_eq_true rfl) (by decide +kernel) (fun H hP hz hS => ?_)
  refine W.widen (k := 1) (n := 6) (Nat.le_of_ble_eq_true rfl) (Nat.le_of_ble_eq_true rfl) ?_
  refine kx_putF (i := 22) (a := 22) (k := 0) (j := 23) (v := 23) (ci := 4) (C := RX4) (T := TX4) (N := 10) (ty := tyX4 0) hx hb hts hown hK hP hz hS (by decide) (by decide) rfl (by decide) (by decide) rfl (by decide) (tw (.fieldLink "CryGorge$Land" 9 "CryGorge$Land" "fade" "[I") (by decide +kernel) rfl) rfl rfl hin rfl (tyX4_ok 0 (by decide)) (fun _ => rfl) (fun _ => rfl) (by decide) (by decide) rfl (by decide) (by decide +kernel) (fun H locs hP hz hS => ?_)
  have hK : va_K D vwCl (ix_tys (kG g 11)) s := hK
  refine lv_aload_n (k := 0) hx hb (by decide +kernel) rfl (lv_at hl 0 rfl) ?_
  refine lv_bipush (n := 6) (v := nI 6) hx hb (by decide +kernel) (by decide) ?_
  refine kx_nI (a := 24) hx hb (tw (.arrayClass .int) (by decide +kernel) rfl) hK rfl (by decide) ((Fzz_lo (by decide)).trans (kzf_2 24 (by decide) (by decide))) (by decide) hP hz hS (by decide) (by decide) (by decide) (Nat.le_of_ble_eq_true rfl) (Nat.le_of_ble_eq_true rfl) (by decide +kernel) (fun H hP hz hS => ?_)
  refine W.widen (k := 2) (n := 12) (Nat.le_of_ble_eq_true rfl) (Nat.le_of_ble_eq_true rfl) ?_
  refine kx_putF (i := 22) (a := 22) (k := 1) (j := 24) (v := 24) (ci := 4) (C := RX4) (T := TX4) (N := 10) (ty := tyX4 1) hx hb hts hown hK hP hz hS (by decide) (by decide) rfl (by decide) (by decide) rfl (by decide) (tw (.fieldLink "CryGorge$Land" 15 "CryGorge$Land" "holds" "[I") (by decide +kernel) rfl) rfl rfl hin rfl (tyX4_ok 1 (by decide)) (fun _ => rfl) (fun _ => rfl) (by decide) (by decide) rfl (by decide) (by decide +kernel) (fun H locs hP hz hS => ?_)
  have hK : va_K D vwCl (ix_tys (kG g 12)) s := hK
  refine lv_aload_n (k := 0) hx hb (by decide +kernel) rfl (lv_at hl 0 rfl) ?_
  refine lv_bipush (n := 8) (v := nI 8) hx hb (by decide +kernel) (by decide) ?_
  refine kx_nI (a := 25) hx hb (tw (.arrayClass .int) (by decide +kernel) rfl) hK rfl (by decide) ((Fzz_lo (by decide)).trans (kzf_2 25 (by decide) (by decide))) (by decide) hP hz hS (by decide) (by decide) (by decide) (Nat.le_of_ble_eq_true rfl) (Nat.le_of_ble_eq_true rfl) (by decide +kernel) (fun H hP hz hS => ?_)
  refine W.widen (k := 3) (n := 20) (Nat.le_of_ble_eq_true rfl) (Nat.le_of_ble_eq_true rfl) ?_
  refine kx_putF (i := 22) (a := 22) (k := 2) (j := 25) (v := 25) (ci := 4) (C := RX4) (T := TX4) (N := 10) (ty := tyX4 2) hx hb hts hown hK hP hz hS (by decide) (by decide) rfl (by decide) (by decide) rfl (by decide) (tw (.fieldLink "CryGorge$Land" 18 "CryGorge$Land" "pitch" "[I") (by decide +kernel) rfl) rfl rfl hin rfl (tyX4_ok 2 (by decide)) (fun _ => rfl) (fun _ => rfl) (by decide) (by decide) rfl (by decide) (by decide +kernel) (fun H locs hP hz hS => ?_)
  have hK : va_K D vwCl (ix_tys (kG g 13)) s := hK
  refine lv_aload_n (k := 0) hx hb (by decide +kernel) rfl (lv_at hl 0 rfl) ?_
  refine lv_bipush (n := 8) (v := nI 8) hx hb (by decide +kernel) (by decide) ?_
  refine kx_nI (a := 26) hx hb (tw (.arrayClass .int) (by decide +kernel) rfl) hK rfl (by decide) ((Fzz_lo (by decide)).trans (kzf_2 26 (by decide) (by decide))) (by decide) hP hz hS (by decide) (by decide) (by decide) (Nat.le_of_ble_eq_true rfl) (Nat.le_of_ble_eq_true rfl) (by decide +kernel) (fun H hP hz hS => ?_)
  refine W.widen (k := 4) (n := 28) (Nat.le_of_ble_eq_true rfl) (Nat.le_of_ble_eq_true rfl) ?_
  refine kx_putF (i := 22) (a := 22) (k := 3) (j := 26) (v := 26) (ci := 4) (C := RX4) (T := TX4) (N := 10) (ty := tyX4 3) hx hb hts hown hK hP hz hS (by decide) (by decide) rfl (by decide) (by decide) rfl (by decide) (tw (.fieldLink "CryGorge$Land" 21 "CryGorge$Land" "strength" "[I") (by decide +kernel) rfl) rfl rfl hin rfl (tyX4_ok 3 (by decide)) (fun _ => rfl) (fun _ => rfl) (by decide) (by decide) rfl (by decide) (by decide +kernel) (fun H locs hP hz hS => ?_)
  have hK : va_K D vwCl (ix_tys (kG g 14)) s := hK
  refine lv_aload_n (k := 0) hx hb (by decide +kernel) rfl (lv_at hl 0 rfl) ?_
  refine lv_bipush (n := 6) (v := nI 6) hx hb (by decide +kernel) (by decide) ?_
  refine lv_bipush (n := 6) (v := nI 6) hx hb (by decide +kernel) (by decide) ?_
  refine kx_mna (a := 27) (N := 6) (K := 6) hx hb hown (tw (.classLink "CryGorge$Land" 24 "[[I") (by decide +kernel) rfl) hN.1 (tw (.arrayClass .int) (by decide +kernel) rfl) hK hP hz hS rfl (by decide) (by decide) (by decide) (by decide) (by decide) (by decide) (by decide) (by decide) (fun j hj => ⟨((by decide +kernel : ∀ j, j < 6 → ix_k (27 + 1 + j) = 1 ∧ ix_n (27 + 1 + j) = 6) j hj).1, ((by decide +kernel : ∀ j, j < 6 → ix_k (27 + 1 + j) = 1 ∧ ix_n (27 + 1 + j) = 6) j hj).2, (Fzz_lo (by omega)).trans (kzf_2 _ ((by decide +kernel : ∀ j, j < 6 → kin 22 (27 + 1 + j) = false) j hj) (by omega))⟩) (Nat.le_of_ble_eq_true rfl) (Nat.le_of_ble_eq_true rfl) (by decide +kernel) (fun H hP hz hS => ?_)
  refine W.widen (k := 11) (n := 70) (Nat.le_of_ble_eq_true rfl) (Nat.le_of_ble_eq_true rfl) ?_
  have hP : va_P D vwCl (ix_ws (kG g 14) (kad lo b sa) (kids 34) (Fzz w kz_2)) H := hP
  have hz : H.size = lo + 34 := hz
  refine kx_putF (i := 22) (a := 22) (k := 4) (j := 27) (v := 27) (ci := 4) (C := RX4) (T := TX4) (N := 10) (ty := tyX4 4) hx hb hts hown hK hP hz hS (by decide) (by decide) rfl (by decide) (by decide) rfl (by decide) (tw (.fieldLink "CryGorge$Land" 26 "CryGorge$Land" "path" "[[I") (by decide +kernel) rfl) rfl rfl hin rfl (tyX4_ok 4 (by decide)) (fun _ => rfl) (fun _ => rfl) (by decide) (by decide) rfl (by decide) (by decide +kernel) (fun H locs hP hz hS => ?_)
  have hK : va_K D vwCl (ix_tys (kG g 15)) s := hK
  refine lv_aload_n (k := 0) hx hb (by decide +kernel) rfl (lv_at hl 0 rfl) ?_
  refine lv_bipush (n := 6) (v := nI 6) hx hb (by decide +kernel) (by decide) ?_
  refine lv_bipush (n := 6) (v := nI 6) hx hb (by decide +kernel) (by decide) ?_
  refine kx_mna (a := 34) (N := 6) (K := 6) hx hb hown (tw (.classLink "CryGorge$Land" 24 "[[I") (by decide +kernel) rfl) hN.1 (tw (.arrayClass .int) (by decide +kernel) rfl) hK hP hz hS rfl (by decide) (by decide) (by decide) (by decide) (by decide) (by decide) (by decide) (by decide) (fun j hj => ⟨((by decide +kernel : ∀ j, j < 6 → ix_k (34 + 1 + j) = 1 ∧ ix_n (34 + 1 + j) = 6) j hj).1, ((by decide +kernel : ∀ j, j < 6 → ix_k (34 + 1 + j) = 1 ∧ ix_n (34 + 1 + j) = 6) j hj).2, (Fzz_lo (by omega)).trans (kzf_2 _ ((by decide +kernel : ∀ j, j < 6 → kin 22 (34 + 1 + j) = false) j hj) (by omega))⟩) (Nat.le_of_ble_eq_true rfl) (Nat.le_of_ble_eq_true rfl) (by decide +kernel) (fun H hP hz hS => ?_)
  refine W.widen (k := 18) (n := 112) (Nat.le_of_ble_eq_true rfl) (Nat.le_of_ble_eq_true rfl) ?_
  have hP : va_P D vwCl (ix_ws (kG g 15) (kad lo b sa) (kids 41) (Fzz w kz_2)) H := hP
  have hz : H.size = lo + 41 := hz
  refine kx_putF (i := 22) (a := 22) (k := 5) (j := 34) (v := 34) (ci := 4) (C := RX4) (T := TX4) (N := 10) (ty := tyX4 5) hx hb hts hown hK hP hz hS (by decide) (by decide) rfl (by decide) (by decide) rfl (by decide) (tw (.fieldLink "CryGorge$Land" 29 "CryGorge$Land" "distance" "[[I") (by decide +kernel) rfl) rfl rfl hin rfl (tyX4_ok 5 (by decide)) (fun _ => rfl) (fun _ => rfl) (by decide) (by decide) rfl (by decide) (by decide +kernel) (fun H locs hP hz hS => ?_)
  have hK : va_K D vwCl (ix_tys (kG g 16)) s := hK
  refine lv_aload_n (k := 0) hx hb (by decide +kernel) rfl (lv_at hl 0 rfl) ?_
  refine lv_bipush (n := 21) (v := nI 21) hx hb (by decide +kernel) (by decide) ?_
  refine kx_puti (i := 22) (a := 22) (k := 8) (v := nI 21) (ci := 4) (C := RX4) (T := TX4) (N := 10) hx hb hts hown hK hP hz hS (by decide) (by decide) rfl (by decide) (by decide) rfl (by decide) (tw (.fieldLink "CryGorge$Land" 32 "CryGorge$Land" "term" "I") (by decide +kernel) rfl) rfl rfl (tyX4_ok 8 (by decide)) (by decide) (by decide +kernel) (fun H locs hP hz hS => ?_)
  rw [Fzz_up (by decide) (by decide)] at hP
  have hP : va_P D vwCl (ix_ws (kG g 16) (kad lo b sa) (kids 41) (Fzz w kz_3)) H := hP
  have hX : ix_SX (kad lo b sa) lo (Fzz w kz_3) s s.heap := kx_SX hX
  refine lv_aload_n (k := 0) hx hb (by decide +kernel) rfl (lv_at hl 0 rfl) ?_
  refine lv_iconst (n := 3) (v := nI 3) hx hb (by decide +kernel) (by decide) ?_
  refine kx_puti (i := 22) (a := 22) (k := 9) (v := nI 3) (ci := 4) (C := RX4) (T := TX4) (N := 10) hx hb hts hown hK hP hz hS (by decide) (by decide) rfl (by decide) (by decide) rfl (by decide) (tw (.fieldLink "CryGorge$Land" 36 "CryGorge$Land" "felt" "I") (by decide +kernel) rfl) rfl rfl (tyX4_ok 9 (by decide)) (by decide) (by decide +kernel) (fun H locs hP hz hS => ?_)
  rw [Fzz_up (by decide) (by decide)] at hP
  have hP : va_P D vwCl (ix_ws (kG g 16) (kad lo b sa) (kids 41) (Fzz w kz_4)) H := hP
  have hX : ix_SX (kad lo b sa) lo (Fzz w kz_4) s s.heap := kx_SX hX
  exact W.vret hx hb hr (fun t ht hW => ⟨⟨(), rfl, trivial, by rw [ht]; exact hz, (ix_lend hP hE hX hS ht hW.alike).1⟩, (ix_lend hP hE hX hS ht hW.alike).2⟩) hS.2.2 (by decide +kernel)
theorem kc_41 {l : Launch} (hl0 : l.stackTraces = false) {D : va_G} {g : kg4} {lo b : Nat} {sa : Nat → Nat} {w : (Nat → Int32) × (Nat → Int32)} : kMet l ky5 prog_7_method_1_code 1 21 659 458 D g lo b sa [41] 42 17 (Fzz w kz_4) 46 21 (Fzz w kz_5) := by
  refine Met.ofW (cc := prog_7_method_1_code) (maxL := 1) (ret := none) (by decide) rfl ?_
  intro p e s m args below meth c s₁ B hml hv
  obtain ⟨rfl, hz0, ⟨hP, hK, hE, hX⟩, hN⟩ := hv
  have hx := B.exec
  have hb := B.bytes
  have hr := B.returns
  have hts : ∀ w ∈ ix_gw, w.before (List.map (fun i => Value.ref (lo + i)) [41]).toArray s = true := fun w hw => atoms_spec (ws := Cond.code ky5 prog_7_method_1_code 1 none :: ix_gw) B.pre w (List.mem_cons_of_mem _ hw)
  have tw : ∀ w, w ∈ lw_tbl → goodWord w = true → w.before (List.map (fun i => Value.ref (lo + i)) [41]).toArray s = true := fun w h1 h2 => hts w (ix_gwm h1 h2)
  have hown : s.vm.findClass "CryGorge$Law" = some m.cls := findClass_of_methodNamed B.named
  have hlocks := B.notSynchronized
  have hin : meth.name = "<init>" := (name_of_methodNamed B.named B.method).1
  have hS : va_S (ix_A lo) s.heap s.heap [] := va_S.rf
  have hz := hz0
  have hl := lv_entry (List.map (fun i => Value.ref (lo + i)) [41]) (n := 1) (Nat.le_of_ble_eq_true rfl)
  rw [lg_entry_eq]
  generalize (lg_sl (List.map (fun i => Value.ref (lo + i)) [41]) ++ List.replicate (1 - (lg_sl (List.map (fun i => Value.ref (lo + i)) [41])).length) Slot.unset).toArray = ls at hl ⊢
  have hl : lv_has ls 1 [(0, .ref (lo + 41))] := hl
  refine lv_aload_n (k := 0) hx hb (by decide +kernel) rfl (lv_at hl 0 rfl) ?_
  refine W.objInit hx hb hown (tw (.methodLink "CryGorge$Law" 3 kOI) (by decide +kernel) rfl) (tw (.instanceMethod kOI) (by decide +kernel) rfl) (tw (.code kOI ⟨#[0xb1]⟩ 1 none) (by decide +kernel) rfl) rfl (by rw [hml]; exact hl.1) rfl (show decode prog_7_method_1_code 1 = .ok (.invokespecial 3, 3) from by decide +kernel) (Nat.le_of_ble_eq_true rfl) (Nat.le_of_ble_eq_true rfl) ?_
  refine W.eq (g2 := F0 m 4 ls []) rfl ?_
  refine lv_aload_n (k := 0) hx hb (by decide +kernel) rfl (lv_at hl 0 rfl) ?_
  refine lv_bipush (n := 8) (v := nI 8) hx hb (by decide +kernel) (by decide) ?_
  refine kx_nI (a := 42) hx hb (tw (.arrayClass .int) (by decide +kernel) rfl) hK rfl (by decide) ((Fzz_lo (by decide)).trans (kzf_4 42 (by decide) (by decide))) (by decide) hP hz hS (by decide) (by decide) (by decide) (Nat.le_of_ble_eq_true rfl) (Nat.le_of_ble_eq_true rfl) (by decide +kernel) (fun H hP hz hS => ?_)
  refine W.widen (k := 1) (n := 8) (Nat.le_of_ble_eq_true rfl) (Nat.le_of_ble_eq_true rfl) ?_
  refine kx_putF (i := 41) (a := 41) (k := 0) (j := 42) (v := 42) (ci := 5) (C := RX5) (T := TX5) (N := 5) (ty := tyX5 0) hx hb hts hown hK hP hz hS (by decide) (by decide) rfl (by decide) (by decide) rfl (by decide) (tw (.fieldLink "CryGorge$Law" 11 "CryGorge$Law" "given" "[I") (by decide +kernel) rfl) rfl rfl hin rfl (tyX5_ok 0 (by decide)) (fun _ => rfl) (fun _ => rfl) (by decide) (by decide) rfl (by decide) (by decide +kernel) (fun H locs hP hz hS => ?_)
  have hK : va_K D vwCl (ix_tys (kG g 18)) s := hK
  refine lv_aload_n (k := 0) hx hb (by decide +kernel) rfl (lv_at hl 0 rfl) ?_
  refine lv_sipush (n := 150) (v := nI 150) hx hb (by decide +kernel) (by decide) ?_
  refine kx_nI (a := 43) hx hb (tw (.arrayClass .int) (by decide +kernel) rfl) hK rfl (by decide) ((Fzz_lo (by decide)).trans (kzf_4 43 (by decide) (by decide))) (by decide) hP hz hS (by decide) (by decide) (by decide) (Nat.le_of_ble_eq_true rfl) (Nat.le_of_ble_eq_true rfl) (by decide +kernel) (fun H hP hz hS => ?_)
  refine W.widen (k := 2) (n := 158) (Nat.le_of_ble_eq_true rfl) (Nat.le_of_ble_eq_true rfl) ?_
  refine kx_putF (i := 41) (a := 41) (k := 1) (j := 43) (v := 43) (ci := 5) (C := RX5) (T := TX5) (N := 5) (ty := tyX5 1) hx hb hts hown hK hP hz hS (by decide) (by decide) rfl (by decide) (by decide) rfl (by decide) (tw (.fieldLink "CryGorge$Law" 15 "CryGorge$Law" "kinds" "[I") (by decide +kernel) rfl) rfl rfl hin rfl (tyX5_ok 1 (by decide)) (fun _ => rfl) (fun _ => rfl) (by decide) (by decide) rfl (by decide) (by decide +kernel) (fun H locs hP hz hS => ?_)
  have hK : va_K D vwCl (ix_tys (kG g 19)) s := hK
  refine lv_aload_n (k := 0) hx hb (by decide +kernel) rfl (lv_at hl 0 rfl) ?_
  refine lv_sipush (n := 150) (v := nI 150) hx hb (by decide +kernel) (by decide) ?_
  refine kx_nI (a := 44) hx hb (tw (.arrayClass .int) (by decide +kernel) rfl) hK rfl (by decide) ((Fzz_lo (by decide)).trans (kzf_4 44 (by decide) (by decide))) (by decide) hP hz hS (by decide) (by decide) (by decide) (Nat.le_of_ble_eq_true rfl) (Nat.le_of_ble_eq_true rfl) (by decide +kernel) (fun H hP hz hS => ?_)
  refine W.widen (k := 3) (n := 308) (Nat.le_of_ble_eq_true rfl) (Nat.le_of_ble_eq_true rfl) ?_
  refine kx_putF (i := 41) (a := 41) (k := 2) (j := 44) (v := 44) (ci := 5) (C := RX5) (T := TX5) (N := 5) (ty := tyX5 2) hx hb hts hown hK hP hz hS (by decide) (by decide) rfl (by decide) (by decide) rfl (by decide) (tw (.fieldLink "CryGorge$Law" 18 "CryGorge$Law" "values" "[I") (by decide +kernel) rfl) rfl rfl hin rfl (tyX5_ok 2 (by decide)) (fun _ => rfl) (fun _ => rfl) (by decide) (by decide) rfl (by decide) (by decide +kernel) (fun H locs hP hz hS => ?_)
  have hK : va_K D vwCl (ix_tys (kG g 20)) s := hK
  refine lv_aload_n (k := 0) hx hb (by decide +kernel) rfl (lv_at hl 0 rfl) ?_
  refine lv_sipush (n := 150) (v := nI 150) hx hb (by decide +kernel) (by decide) ?_
  refine kx_nI (a := 45) hx hb (tw (.arrayClass .int) (by decide +kernel) rfl) hK rfl (by decide) ((Fzz_lo (by decide)).trans (kzf_4 45 (by decide) (by decide))) (by decide) hP hz hS (by decide) (by decide) (by decide) (Nat.le_of_ble_eq_true rfl) (Nat.le_of_ble_eq_true rfl) (by decide +kernel) (fun H hP hz hS => ?_)
  refine W.widen (k := 4) (n := 458) (Nat.le_of_ble_eq_true rfl) (Nat.le_of_ble_eq_true rfl) ?_
  refine kx_putF (i := 41) (a := 41) (k := 3) (j := 45) (v := 45) (ci := 5) (C := RX5) (T := TX5) (N := 5) (ty := tyX5 3) hx hb hts hown hK hP hz hS (by decide) (by decide) rfl (by decide) (by decide) rfl (by decide) (tw (.fieldLink "CryGorge$Law" 21 "CryGorge$Law" "pile" "[I") (by decide +kernel) rfl) rfl rfl hin rfl (tyX5_ok 3 (by decide)) (fun _ => rfl) (fun _ => rfl) (by decide) (by decide) rfl (by decide) (by decide +kernel) (fun H locs hP hz hS => ?_)
  have hK : va_K D vwCl (ix_tys (kG g 21)) s := hK
  refine lv_aload_n (k := 0) hx hb (by decide +kernel) rfl (lv_at hl 0 rfl) ?_
  refine kx_call (mi := 37) (i := 41) (a := 41) (nL := 1) (own := "CryGorge$Law") (u := 21) (t := 46) (h := Fzz w kz_4) (h' := Fzz w kz_5) hl.1 hx hb hml hl0 hown hts (ix_cal_of (by decide) tb_37) (by decide) (kE_s (by decide) kb_5) (ix_gwm (show Cond.methodLink "CryGorge$Law" 24 (ix_my mt_37) ∈ lw_tbl from by decide +kernel) rfl) (ix_gwm (show Cond.instanceMethod (ix_my mt_37) ∈ lw_tbl from by decide +kernel) rfl) (ix_gwm (show Cond.selects (ix_my mt_37).cls (ix_my mt_37) (ix_my mt_37) ∈ lw_tbl from by decide +kernel) rfl) (ix_gwm (show Cond.initialized (ix_my mt_37).cls ∈ lw_tbl from by decide +kernel) rfl) (by decide +kernel) ⟨Nat.le_of_ble_eq_true rfl, Nat.le_of_ble_eq_true rfl⟩ (by decide) (by decide) rfl (by decide) (by decide +kernel) (by rw [hz0]; omega) hP hS hK hE hX (Nat.le_of_ble_eq_true rfl) (Nat.le_of_ble_eq_true rfl) (Nat.le_of_ble_eq_true rfl) (by decide +kernel) (fun H locs hP hz hS hX => ?_)
  exact W.vret hx hb hr (fun t ht hW => ⟨⟨(), rfl, trivial, by rw [ht]; exact hz, (ix_lend hP hE hX hS ht hW.alike).1⟩, (ix_lend hP hE hX hS ht hW.alike).2⟩) hS.2.2 (by decide +kernel)
theorem kc_46 {l : Launch} (hl0 : l.stackTraces = false) {D : va_G} {g : kg4} {lo b : Nat} {sa : Nat → Nat} {w : (Nat → Int32) × (Nat → Int32)} : kMet l ky5 prog_7_method_1_code 1 21 659 458 D g lo b sa [46] 47 22 (Fzz w kz_5) 51 26 (Fzz w kz_6) := by
  refine Met.ofW (cc := prog_7_method_1_code) (maxL := 1) (ret := none) (by decide) rfl ?_
  intro p e s m args below meth c s₁ B hml hv
  obtain ⟨rfl, hz0, ⟨hP, hK, hE, hX⟩, hN⟩ := hv
  have hx := B.exec
  have hb := B.bytes
  have hr := B.returns
  have hts : ∀ w ∈ ix_gw, w.before (List.map (fun i => Value.ref (lo + i)) [46]).toArray s = true := fun w hw => atoms_spec (ws := Cond.code ky5 prog_7_method_1_code 1 none :: ix_gw) B.pre w (List.mem_cons_of_mem _ hw)
  have tw : ∀ w, w ∈ lw_tbl → goodWord w = true → w.before (List.map (fun i => Value.ref (lo + i)) [46]).toArray s = true := fun w h1 h2 => hts w (ix_gwm h1 h2)
  have hown : s.vm.findClass "CryGorge$Law" = some m.cls := findClass_of_methodNamed B.named
  have hlocks := B.notSynchronized
  have hin : meth.name = "<init>" := (name_of_methodNamed B.named B.method).1
  have hS : va_S (ix_A lo) s.heap s.heap [] := va_S.rf
  have hz := hz0
  have hl := lv_entry (List.map (fun i => Value.ref (lo + i)) [46]) (n := 1) (Nat.le_of_ble_eq_true rfl)
  rw [lg_entry_eq]
  generalize (lg_sl (List.map (fun i => Value.ref (lo + i)) [46]) ++ List.replicate (1 - (lg_sl (List.map (fun i => Value.ref (lo + i)) [46])).length) Slot.unset).toArray = ls at hl ⊢
  have hl : lv_has ls 1 [(0, .ref (lo + 46))] := hl
  refine lv_aload_n (k := 0) hx hb (by decide +kernel) rfl (lv_at hl 0 rfl) ?_
  refine W.objInit hx hb hown (tw (.methodLink "CryGorge$Law" 3 kOI) (by decide +kernel) rfl) (tw (.instanceMethod kOI) (by decide +kernel) rfl) (tw (.code kOI ⟨#[0xb1]⟩ 1 none) (by decide +kernel) rfl) rfl (by rw [hml]; exact hl.1) rfl (show decode prog_7_method_1_code 1 = .ok (.invokespecial 3, 3) from by decide +kernel) (Nat.le_of_ble_eq_true rfl) (Nat.le_of_ble_eq_true rfl) ?_
  refine W.eq (g2 := F0 m 4 ls []) rfl ?_
  refine lv_aload_n (k := 0) hx hb (by decide +kernel) rfl (lv_at hl 0 rfl) ?_
  refine lv_bipush (n := 8) (v := nI 8) hx hb (by decide +kernel) (by decide) ?_
  refine kx_nI (a := 47) hx hb (tw (.arrayClass .int) (by decide +kernel) rfl) hK rfl (by decide) ((Fzz_lo (by decide)).trans (kzf_5 47 (by decide) (by decide))) (by decide) hP hz hS (by decide) (by decide) (by decide) (Nat.le_of_ble_eq_true rfl) (Nat.le_of_ble_eq_true rfl) (by decide +kernel) (fun H hP hz hS => ?_)
  refine W.widen (k := 1) (n := 8) (Nat.le_of_ble_eq_true rfl) (Nat.le_of_ble_eq_true rfl) ?_
  refine kx_putF (i := 46) (a := 46) (k := 0) (j := 47) (v := 47) (ci := 5) (C := RX5) (T := TX5) (N := 5) (ty := tyX5 0) hx hb hts hown hK hP hz hS (by decide) (by decide) rfl (by decide) (by decide) rfl (by decide) (tw (.fieldLink "CryGorge$Law" 11 "CryGorge$Law" "given" "[I") (by decide +kernel) rfl) rfl rfl hin rfl (tyX5_ok 0 (by decide)) (fun _ => rfl) (fun _ => rfl) (by decide) (by decide) rfl (by decide) (by decide +kernel) (fun H locs hP hz hS => ?_)
  have hK : va_K D vwCl (ix_tys (kG g 23)) s := hK
  refine lv_aload_n (k := 0) hx hb (by decide +kernel) rfl (lv_at hl 0 rfl) ?_
  refine lv_sipush (n := 150) (v := nI 150) hx hb (by decide +kernel) (by decide) ?_
  refine kx_nI (a := 48) hx hb (tw (.arrayClass .int) (by decide +kernel) rfl) hK rfl (by decide) ((Fzz_lo (by decide)).trans (kzf_5 48 (by decide) (by decide))) (by decide) hP hz hS (by decide) (by decide) (by decide) (Nat.le_of_ble_eq_true rfl) (Nat.le_of_ble_eq_true rfl) (by decide +kernel) (fun H hP hz hS => ?_)
  refine W.widen (k := 2) (n := 158) (Nat.le_of_ble_eq_true rfl) (Nat.le_of_ble_eq_true rfl) ?_
  refine kx_putF (i := 46) (a := 46) (k := 1) (j := 48) (v := 48) (ci := 5) (C := RX5) (T := TX5) (N := 5) (ty := tyX5 1) hx hb hts hown hK hP hz hS (by decide) (by decide) rfl (by decide) (by decide) rfl (by decide) (tw (.fieldLink "CryGorge$Law" 15 "CryGorge$Law" "kinds" "[I") (by decide +kernel) rfl) rfl rfl hin rfl (tyX5_ok 1 (by decide)) (fun _ => rfl) (fun _ => rfl) (by decide) (by decide) rfl (by decide) (by decide +kernel) (fun H locs hP hz hS => ?_)
  have hK : va_K D vwCl (ix_tys (kG g 24)) s := hK
  refine lv_aload_n (k := 0) hx hb (by decide +kernel) rfl (lv_at hl 0 rfl) ?_
  refine lv_sipush (n := 150) (v := nI 150) hx hb (by decide +kernel) (by decide) ?_
  refine kx_nI (a := 49) hx hb (tw (.arrayClass .int) (by decide +kernel) rfl) hK rfl (by decide) ((Fzz_lo (by decide)).trans (kzf_5 49 (by decide) (by decide))) (by decide) hP hz hS (by decide) (by decide) (by decide) (Nat.le_of_ble_eq_true rfl) (Nat.le_of_ble_eq_true rfl) (by decide +kernel) (fun H hP hz hS => ?_)
  refine W.widen (k := 3) (n := 308) (Nat.le_of_ble_eq_true rfl) (Nat.le_of_ble_eq_true rfl) ?_
  refine kx_putF (i := 46) (a := 46) (k := 2) (j := 49) (v := 49) (ci := 5) (C := RX5) (T := TX5) (N := 5) (ty := tyX5 2) hx hb hts hown hK hP hz hS (by decide) (by decide) rfl (by decide) (by decide) rfl (by decide) (tw (.fieldLink "CryGorge$Law" 18 "CryGorge$Law" "values" "[I") (by decide +kernel) rfl) rfl rfl hin rfl (tyX5_ok 2 (by decide)) (fun _ => rfl) (fun _ => rfl) (by decide) (by decide) rfl (by decide) (by decide +kernel) (fun H locs hP hz hS => ?_)
  have hK : va_K D vwCl (ix_tys (kG g 25)) s := hK
  refine lv_aload_n (k := 0) hx hb (by decide +kernel) rfl (lv_at hl 0 rfl) ?_
  refine lv_sipush (n := 150) (v := nI 150) hx hb (by decide +kernel) (by decide) ?_
  refine kx_nI (a := 50) hx hb (tw (.arrayClass .int) (by decide +kernel) rfl) hK rfl (by decide) ((Fzz_lo (by decide)).trans (kzf_5 50 (by decide) (by decide))) (by decide) hP hz hS (by decide) (by decide) (by decide) (Nat.le_of_ble_eq_true rfl) (Nat.le_of_ble_eq_true rfl) (by decide +kernel) (fun H hP hz hS => ?_)
  refine W.widen (k := 4) (n := 458) (Nat.le_of_ble_eq_true rfl) (Nat.le_of_ble_eq_true rfl) ?_
  refine kx_putF (i := 46) (a := 46) (k := 3) (j := 50) (v := 50) (ci := 5) (C := RX5) (T := TX5) (N := 5) (ty := tyX5 3) hx hb hts hown hK hP hz hS (by decide) (by decide) rfl (by decide) (by decide) rfl (by decide) (tw (.fieldLink "CryGorge$Law" 21 "CryGorge$Law" "pile" "[I") (by decide +kernel) rfl) rfl rfl hin rfl (tyX5_ok 3 (by decide)) (fun _ => rfl) (fun _ => rfl) (by decide) (by decide) rfl (by decide) (by decide +kernel) (fun H locs hP hz hS => ?_)
  have hK : va_K D vwCl (ix_tys (kG g 26)) s := hK
  refine lv_aload_n (k := 0) hx hb (by decide +kernel) rfl (lv_at hl 0 rfl) ?_
  refine kx_call (mi := 37) (i := 46) (a := 46) (nL := 1) (own := "CryGorge$Law") (u := 26) (t := 51) (h := Fzz w kz_5) (h' := Fzz w kz_6) hl.1 hx hb hml hl0 hown hts (ix_cal_of (by decide) tb_37) (by decide) (kE_s (by decide) kb_6) (ix_gwm (show Cond.methodLink "CryGorge$Law" 24 (ix_my mt_37) ∈ lw_tbl from by decide +kernel) rfl) (ix_gwm (show Cond.instanceMethod (ix_my mt_37) ∈ lw_tbl from by decide +kernel) rfl) (ix_gwm (show Cond.selects (ix_my mt_37).cls (ix_my mt_37) (ix_my mt_37) ∈ lw_tbl from by decide +kernel) rfl) (ix_gwm (show Cond.initialized (ix_my mt_37).cls ∈ lw_tbl from by decide +kernel) rfl) (by decide +kernel) ⟨Nat.le_of_ble_eq_true rfl, Nat.le_of_ble_eq_true rfl⟩ (by decide) (by decide) rfl (by decide) (by decide +kernel) (by rw [hz0]; omega) hP hS hK hE hX (Nat.le_of_ble_eq_true rfl) (Nat.le_of_ble_eq_true rfl) (Nat.le_of_ble_eq_true rfl) (by decide +kernel) (fun H locs hP hz hS hX => ?_)
  exact W.vret hx hb hr (fun t ht hW => ⟨⟨(), rfl, trivial, by rw [ht]; exact hz, (ix_lend hP hE hX hS ht hW.alike).1⟩, (ix_lend hP hE hX hS ht hW.alike).2⟩) hS.2.2 (by decide +kernel)
theorem kc_51 {l : Launch} (hl0 : l.stackTraces = false) {D : va_G} {g : kg4} {lo b : Nat} {sa : Nat → Nat} {w : (Nat → Int32) × (Nat → Int32)} : kMet l ky2 prog_4_method_1_code 1 1 40 12 D g lo b sa [51] 52 27 (Fzz w kz_6) 54 29 (Fzz w kz_6) := by
  refine Met.ofW (cc := prog_4_method_1_code) (maxL := 1) (ret := none) (by decide) rfl ?_
  intro p e s m args below meth c s₁ B hml hv
  obtain ⟨rfl, hz0, ⟨hP, hK, hE, hX⟩, hN⟩ := hv
  have hx := B.exec
  have hb := B.bytes
  have hr := B.returns
  have hts : ∀ w ∈ ix_gw, w.before (List.map (fun i => Value.ref (lo + i)) [51]).toArray s = true := fun w hw => atoms_spec (ws := Cond.code ky2 prog_4_method_1_code 1 none :: ix_gw) B.pre w (List.mem_cons_of_mem _ hw)
  have tw : ∀ w, w ∈ lw_tbl → goodWord w = true → w.before (List.map (fun i => Value.ref (lo + i)) [51]).toArray s = true := fun w h1 h2 => hts w (ix_gwm h1 h2)
  have hown : s.vm.findClass "CryGorge$Heard" = some m.cls := findClass_of_methodNamed B.named
  have hlocks := B.notSynchronized
  have hin : meth.name = "<init>" := (name_of_methodNamed B.named B.method).1
  have hS : va_S (ix_A lo) s.heap s.heap [] := va_S.rf
  have hz := hz0
  have hl := lv_entry (List.map (fun i => Value.ref (lo + i)) [51]) (n := 1) (Nat.le_of_ble_eq_true rfl)
  rw [lg_entry_eq]
  generalize (lg_sl (List.map (fun i => Value.ref (lo + i)) [51]) ++ List.replicate (1 - (lg_sl (List.map (fun i => Value.ref (lo + i)) [51])).length) Slot.unset).toArray = ls at hl ⊢
  have hl : lv_has ls 1 [(0, .ref (lo + 51))] := hl
  refine lv_aload_n (k := 0) hx hb (by decide +kernel) rfl (lv_at hl 0 rfl) ?_
  refine W.objInit hx hb hown (tw (.methodLink "CryGorge$Heard" 3 kOI) (by decide +kernel) rfl) (tw (.instanceMethod kOI) (by decide +kernel) rfl) (tw (.code kOI ⟨#[0xb1]⟩ 1 none) (by decide +kernel) rfl) rfl (by rw [hml]; exact hl.1) rfl (show decode prog_4_method_1_code 1 = .ok (.invokespecial 3, 3) from by decide +kernel) (Nat.le_of_ble_eq_true rfl) (Nat.le_of_ble_eq_true rfl) ?_
  refine W.eq (g2 := F0 m 4 ls []) rfl ?_
  refine lv_aload_n (k := 0) hx hb (by decide +kernel) rfl (lv_at hl 0 rfl) ?_
  refine lv_bipush (n := 6) (v := nI 6) hx hb (by decide +kernel) (by decide) ?_
  refine kx_nI (a := 52) hx hb (tw (.arrayClass .int) (by decide +kernel) rfl) hK rfl (by decide) ((Fzz_lo (by decide)).trans (kzf_6 52 (by decide) (by decide))) (by decide) hP hz hS (by decide) (by decide) (by decide) (Nat.le_of_ble_eq_true rfl) (Nat.le_of_ble_eq_true rfl) (by decide +kernel) (fun H hP hz hS => ?_)
  refine W.widen (k := 1) (n := 6) (Nat.le_of_ble_eq_true rfl) (Nat.le_of_ble_eq_true rfl) ?_
  refine kx_putF (i := 51) (a := 51) (k := 0) (j := 52) (v := 52) (ci := 2) (C := RX2) (T := TX2) (N := 3) (ty := tyX2 0) hx hb hts hown hK hP hz hS (by decide) (by decide) rfl (by decide) (by decide) rfl (by decide) (tw (.fieldLink "CryGorge$Heard" 9 "CryGorge$Heard" "ages" "[I") (by decide +kernel) rfl) rfl rfl hin rfl (tyX2_ok 0 (by decide)) (fun _ => rfl) (fun _ => rfl) (by decide) (by decide) rfl (by decide) (by decide +kernel) (fun H locs hP hz hS => ?_)
  have hK : va_K D vwCl (ix_tys (kG g 28)) s := hK
  refine lv_aload_n (k := 0) hx hb (by decide +kernel) rfl (lv_at hl 0 rfl) ?_
  refine lv_bipush (n := 6) (v := nI 6) hx hb (by decide +kernel) (by decide) ?_
  refine kx_nI (a := 53) hx hb (tw (.arrayClass .int) (by decide +kernel) rfl) hK rfl (by decide) ((Fzz_lo (by decide)).trans (kzf_6 53 (by decide) (by decide))) (by decide) hP hz hS (by decide) (by decide) (by decide) (Nat.le_of_ble_eq_true rfl) (Nat.le_of_ble_eq_true rfl) (by decide +kernel) (fun H hP hz hS => ?_)
  refine W.widen (k := 2) (n := 12) (Nat.le_of_ble_eq_true rfl) (Nat.le_of_ble_eq_true rfl) ?_
  refine kx_putF (i := 51) (a := 51) (k := 1) (j := 53) (v := 53) (ci := 2) (C := RX2) (T := TX2) (N := 3) (ty := tyX2 1) hx hb hts hown hK hP hz hS (by decide) (by decide) rfl (by decide) (by decide) rfl (by decide) (tw (.fieldLink "CryGorge$Heard" 15 "CryGorge$Heard" "strengths" "[I") (by decide +kernel) rfl) rfl rfl hin rfl (tyX2_ok 1 (by decide)) (fun _ => rfl) (fun _ => rfl) (by decide) (by decide) rfl (by decide) (by decide +kernel) (fun H locs hP hz hS => ?_)
  have hK : va_K D vwCl (ix_tys (kG g 29)) s := hK
  exact W.vret hx hb hr (fun t ht hW => ⟨⟨(), rfl, trivial, by rw [ht]; exact hz, (ix_lend hP hE hX hS ht hW.alike).1⟩, (ix_lend hP hE hX hS ht hW.alike).2⟩) hS.2.2 (by decide +kernel)
theorem kc_54 {l : Launch} (hl0 : l.stackTraces = false) {D : va_G} {g : kg4} {lo b : Nat} {sa : Nat → Nat} {w : (Nat → Int32) × (Nat → Int32)} : kMet l ky2 prog_4_method_1_code 1 1 40 12 D g lo b sa [54] 55 30 (Fzz w kz_6) 57 32 (Fzz w kz_6) := by
  refine Met.ofW (cc := prog_4_method_1_code) (maxL := 1) (ret := none) (by decide) rfl ?_
  intro p e s m args below meth c s₁ B hml hv
  obtain ⟨rfl, hz0, ⟨hP, hK, hE, hX⟩, hN⟩ := hv
  have hx := B.exec
  have hb := B.bytes
  have hr := B.returns
  have hts : ∀ w ∈ ix_gw, w.before (List.map (fun i => Value.ref (lo + i)) [54]).toArray s = true := fun w hw => atoms_spec (ws := Cond.code ky2 prog_4_method_1_code 1 none :: ix_gw) B.pre w (List.mem_cons_of_mem _ hw)
  have tw : ∀ w, w ∈ lw_tbl → goodWord w = true → w.before (List.map (fun i => Value.ref (lo + i)) [54]).toArray s = true := fun w h1 h2 => hts w (ix_gwm h1 h2)
  have hown : s.vm.findClass "CryGorge$Heard" = some m.cls := findClass_of_methodNamed B.named
  have hlocks := B.notSynchronized
  have hin : meth.name = "<init>" := (name_of_methodNamed B.named B.method).1
  have hS : va_S (ix_A lo) s.heap s.heap [] := va_S.rf
  have hz := hz0
  have hl := lv_entry (List.map (fun i => Value.ref (lo + i)) [54]) (n := 1) (Nat.le_of_ble_eq_true rfl)
  rw [lg_entry_eq]
  generalize (lg_sl (List.map (fun i => Value.ref (lo + i)) [54]) ++ List.replicate (1 - (lg_sl (List.map (fun i => Value.ref (lo + i)) [54])).length) Slot.unset).toArray = ls at hl ⊢
  have hl : lv_has ls 1 [(0, .ref (lo + 54))] := hl
  refine lv_aload_n (k := 0) hx hb (by decide +kernel) rfl (lv_at hl 0 rfl) ?_
  refine W.objInit hx hb hown (tw (.methodLink "CryGorge$Heard" 3 kOI) (by decide +kernel) rfl) (tw (.instanceMethod kOI) (by decide +kernel) rfl) (tw (.code kOI ⟨#[0xb1]⟩ 1 none) (by decide +kernel) rfl) rfl (by rw [hml]; exact hl.1) rfl (show decode prog_4_method_1_code 1 = .ok (.invokespecial 3, 3) from by decide +kernel) (Nat.le_of_ble_eq_true rfl) (Nat.le_of_ble_eq_true rfl) ?_
  refine W.eq (g2 := F0 m 4 ls []) rfl ?_
  refine lv_aload_n (k := 0) hx hb (by decide +kernel) rfl (lv_at hl 0 rfl) ?_
  refine lv_bipush (n := 6) (v := nI 6) hx hb (by decide +kernel) (by decide) ?_
  refine kx_nI (a := 55) hx hb (tw (.arrayClass .int) (by decide +kernel) rfl) hK rfl (by decide) ((Fzz_lo (by decide)).trans (kzf_6 55 (by decide) (by decide))) (by decide) hP hz hS (by decide) (by decide) (by decide) (Nat.le_of_ble_eq_true rfl) (Nat.le_of_ble_eq_true rfl) (by decide +kernel) (fun H hP hz hS => ?_)
  refine W.widen (k := 1) (n := 6) (Nat.le_of_ble_eq_true rfl) (Nat.le_of_ble_eq_true rfl) ?_
  refine kx_putF (i := 54) (a := 54) (k := 0) (j := 55) (v := 55) (ci := 2) (C := RX2) (T := TX2) (N := 3) (ty := tyX2 0) hx hb hts hown hK hP hz hS (by decide) (by decide) rfl (by decide) (by decide) rfl (by decide) (tw (.fieldLink "CryGorge$Heard" 9 "CryGorge$Heard" "ages" "[I") (by decide +kernel) rfl) rfl rfl hin rfl (tyX2_ok 0 (by decide)) (fun _ => rfl) (fun _ => rfl) (by decide) (by decide) rfl (by decide) (by decide +kernel) (fun H locs hP hz hS => ?_)
  have hK : va_K D vwCl (ix_tys (kG g 31)) s := hK
  refine lv_aload_n (k := 0) hx hb (by decide +kernel) rfl (lv_at hl 0 rfl) ?_
  refine lv_bipush (n := 6) (v := nI 6) hx hb (by decide +kernel) (by decide) ?_
  refine kx_nI (a := 56) hx hb (tw (.arrayClass .int) (by decide +kernel) rfl) hK rfl (by decide) ((Fzz_lo (by decide)).trans (kzf_6 56 (by decide) (by decide))) (by decide) hP hz hS (by decide) (by decide) (by decide) (Nat.le_of_ble_eq_true rfl) (Nat.le_of_ble_eq_true rfl) (by decide +kernel) (fun H hP hz hS => ?_)
  refine W.widen (k := 2) (n := 12) (Nat.le_of_ble_eq_true rfl) (Nat.le_of_ble_eq_true rfl) ?_
  refine kx_putF (i := 54) (a := 54) (k := 1) (j := 56) (v := 56) (ci := 2) (C := RX2) (T := TX2) (N := 3) (ty := tyX2 1) hx hb hts hown hK hP hz hS (by decide) (by decide) rfl (by decide) (by decide) rfl (by decide) (tw (.fieldLink "CryGorge$Heard" 15 "CryGorge$Heard" "strengths" "[I") (by decide +kernel) rfl) rfl rfl hin rfl (tyX2_ok 1 (by decide)) (fun _ => rfl) (fun _ => rfl) (by decide) (by decide) rfl (by decide) (by decide +kernel) (fun H locs hP hz hS => ?_)
  have hK : va_K D vwCl (ix_tys (kG g 32)) s := hK
  exact W.vret hx hb hr (fun t ht hW => ⟨⟨(), rfl, trivial, by rw [ht]; exact hz, (ix_lend hP hE hX hS ht hW.alike).1⟩, (ix_lend hP hE hX hS ht hW.alike).2⟩) hS.2.2 (by decide +kernel)
theorem kc_57 {l : Launch} (hl0 : l.stackTraces = false) {D : va_G} {g : kg4} {lo b : Nat} {sa : Nat → Nat} {w : (Nat → Int32) × (Nat → Int32)} : kMet l ky10 prog_12_method_1_code 1 1 40 600 D g lo b sa [57] 58 33 (Fzz w kz_6) 62 37 (Fzz w kz_6) := by
  refine Met.ofW (cc := prog_12_method_1_code) (maxL := 1) (ret := none) (by decide) rfl ?_
  intro p e s m args below meth c s₁ B hml hv
  obtain ⟨rfl, hz0, ⟨hP, hK, hE, hX⟩, hN⟩ := hv
  have hx := B.exec
  have hb := B.bytes
  have hr := B.returns
  have hts : ∀ w ∈ ix_gw, w.before (List.map (fun i => Value.ref (lo + i)) [57]).toArray s = true := fun w hw => atoms_spec (ws := Cond.code ky10 prog_12_method_1_code 1 none :: ix_gw) B.pre w (List.mem_cons_of_mem _ hw)
  have tw : ∀ w, w ∈ lw_tbl → goodWord w = true → w.before (List.map (fun i => Value.ref (lo + i)) [57]).toArray s = true := fun w h1 h2 => hts w (ix_gwm h1 h2)
  have hown : s.vm.findClass "CryGorge$Work" = some m.cls := findClass_of_methodNamed B.named
  have hlocks := B.notSynchronized
  have hin : meth.name = "<init>" := (name_of_methodNamed B.named B.method).1
  have hS : va_S (ix_A lo) s.heap s.heap [] := va_S.rf
  have hz := hz0
  have hl := lv_entry (List.map (fun i => Value.ref (lo + i)) [57]) (n := 1) (Nat.le_of_ble_eq_true rfl)
  rw [lg_entry_eq]
  generalize (lg_sl (List.map (fun i => Value.ref (lo + i)) [57]) ++ List.replicate (1 - (lg_sl (List.map (fun i => Value.ref (lo + i)) [57])).length) Slot.unset).toArray = ls at hl ⊢
  have hl : lv_has ls 1 [(0, .ref (lo + 57))] := hl
  refine lv_aload_n (k := 0) hx hb (by decide +kernel) rfl (lv_at hl 0 rfl) ?_
  refine W.objInit hx hb hown (tw (.methodLink "CryGorge$Work" 3 kOI) (by decide +kernel) rfl) (tw (.instanceMethod kOI) (by decide +kernel) rfl) (tw (.code kOI ⟨#[0xb1]⟩ 1 none) (by decide +kernel) rfl) rfl (by rw [hml]; exact hl.1) rfl (show decode prog_12_method_1_code 1 = .ok (.invokespecial 3, 3) from by decide +kernel) (Nat.le_of_ble_eq_true rfl) (Nat.le_of_ble_eq_true rfl) ?_
  refine W.eq (g2 := F0 m 4 ls []) rfl ?_
  refine lv_aload_n (k := 0) hx hb (by decide +kernel) rfl (lv_at hl 0 rfl) ?_
  refine lv_sipush (n := 150) (v := nI 150) hx hb (by decide +kernel) (by decide) ?_
  refine kx_nI (a := 58) hx hb (tw (.arrayClass .int) (by decide +kernel) rfl) hK rfl (by decide) ((Fzz_lo (by decide)).trans (kzf_6 58 (by decide) (by decide))) (by decide) hP hz hS (by decide) (by decide) (by decide) (Nat.le_of_ble_eq_true rfl) (Nat.le_of_ble_eq_true rfl) (by decide +kernel) (fun H hP hz hS => ?_)
  refine W.widen (k := 1) (n := 150) (Nat.le_of_ble_eq_true rfl) (Nat.le_of_ble_eq_true rfl) ?_
  refine kx_putF (i := 57) (a := 57) (k := 0) (j := 58) (v := 58) (ci := 10) (C := RX10) (T := TX10) (N := 7) (ty := tyX10 0) hx hb hts hown hK hP hz hS (by decide) (by decide) rfl (by decide) (by decide) rfl (by decide) (tw (.fieldLink "CryGorge$Work" 9 "CryGorge$Work" "kinds" "[I") (by decide +kernel) rfl) rfl rfl hin rfl (tyX10_ok 0 (by decide)) (fun _ => rfl) (fun _ => rfl) (by decide) (by decide) rfl (by decide) (by decide +kernel) (fun H locs hP hz hS => ?_)
  have hK : va_K D vwCl (ix_tys (kG g 34)) s := hK
  refine lv_aload_n (k := 0) hx hb (by decide +kernel) rfl (lv_at hl 0 rfl) ?_
  refine lv_sipush (n := 150) (v := nI 150) hx hb (by decide +kernel) (by decide) ?_
  refine kx_nI (a := 59) hx hb (tw (.arrayClass .int) (by decide +kernel) rfl) hK rfl (by decide) ((Fzz_lo (by decide)).trans (kzf_6 59 (by decide) (by decide))) (by decide) hP hz hS (by decide) (by decide) (by decide) (Nat.le_of_ble_eq_true rfl) (Nat.le_of_ble_eq_true rfl) (by decide +kernel) (fun H hP hz hS => ?_)
  refine W.widen (k := 2) (n := 300) (Nat.le_of_ble_eq_true rfl) (Nat.le_of_ble_eq_true rfl) ?_
  refine kx_putF (i := 57) (a := 57) (k := 1) (j := 59) (v := 59) (ci := 10) (C := RX10) (T := TX10) (N := 7) (ty := tyX10 1) hx hb hts hown hK hP hz hS (by decide) (by decide) rfl (by decide) (by decide) rfl (by decide) (tw (.fieldLink "CryGorge$Work" 15 "CryGorge$Work" "firsts" "[I") (by decide +kernel) rfl) rfl rfl hin rfl (tyX10_ok 1 (by decide)) (fun _ => rfl) (fun _ => rfl) (by decide) (by decide) rfl (by decide) (by decide +kernel) (fun H locs hP hz hS => ?_)
  have hK : va_K D vwCl (ix_tys (kG g 35)) s := hK
  refine lv_aload_n (k := 0) hx hb (by decide +kernel) rfl (lv_at hl 0 rfl) ?_
  refine lv_sipush (n := 150) (v := nI 150) hx hb (by decide +kernel) (by decide) ?_
  refine kx_nI (a := 60) hx hb (tw (.arrayClass .int) (by decide +kernel) rfl) hK rfl (by decide) ((Fzz_lo (by decide)).trans (kzf_6 60 (by decide) (by decide))) (by decide) hP hz hS (by decide) (by decide) (by decide) (Nat.le_of_ble_eq_true rfl) (Nat.le_of_ble_eq_true rfl) (by decide +kernel) (fun H hP hz hS => ?_)
  refine W.widen (k := 3) (n := 450) (Nat.le_of_ble_eq_true rfl) (Nat.le_of_ble_eq_true rfl) ?_
  refine kx_putF (i := 57) (a := 57) (k := 2) (j := 60) (v := 60) (ci := 10) (C := RX10) (T := TX10) (N := 7) (ty := tyX10 2) hx hb hts hown hK hP hz hS (by decide) (by decide) rfl (by decide) (by decide) rfl (by decide) (tw (.fieldLink "CryGorge$Work" 18 "CryGorge$Work" "seconds" "[I") (by decide +kernel) rfl) rfl rfl hin rfl (tyX10_ok 2 (by decide)) (fun _ => rfl) (fun _ => rfl) (by decide) (by decide) rfl (by decide) (by decide +kernel) (fun H locs hP hz hS => ?_)
  have hK : va_K D vwCl (ix_tys (kG g 36)) s := hK
  refine lv_aload_n (k := 0) hx hb (by decide +kernel) rfl (lv_at hl 0 rfl) ?_
  refine lv_sipush (n := 150) (v := nI 150) hx hb (by decide +kernel) (by decide) ?_
  refine kx_nI (a := 61) hx hb (tw (.arrayClass .int) (by decide +kernel) rfl) hK rfl (by decide) ((Fzz_lo (by decide)).trans (kzf_6 61 (by decide) (by decide))) (by decide) hP hz hS (by decide) (by decide) (by decide) (Nat.le_of_ble_eq_true rfl) (Nat.le_of_ble_eq_true rfl) (by decide +kernel) (fun H hP hz hS => ?_)
  refine W.widen (k := 4) (n := 600) (Nat.le_of_ble_eq_true rfl) (Nat.le_of_ble_eq_true rfl) ?_
  refine kx_putF (i := 57) (a := 57) (k := 3) (j := 61) (v := 61) (ci := 10) (C := RX10) (T := TX10) (N := 7) (ty := tyX10 3) hx hb hts hown hK hP hz hS (by decide) (by decide) rfl (by decide) (by decide) rfl (by decide) (tw (.fieldLink "CryGorge$Work" 21 "CryGorge$Work" "left" "[I") (by decide +kernel) rfl) rfl rfl hin rfl (tyX10_ok 3 (by decide)) (fun _ => rfl) (fun _ => rfl) (by decide) (by decide) rfl (by decide) (by decide +kernel) (fun H locs hP hz hS => ?_)
  have hK : va_K D vwCl (ix_tys (kG g 37)) s := hK
  exact W.vret hx hb hr (fun t ht hW => ⟨⟨(), rfl, trivial, by rw [ht]; exact hz, (ix_lend hP hE hX hS ht hW.alike).1⟩, (ix_lend hP hE hX hS ht hW.alike).2⟩) hS.2.2 (by decide +kernel)
theorem kc_62 {l : Launch} (hl0 : l.stackTraces = false) {D : va_G} {g : kg4} {lo b : Nat} {sa : Nat → Nat} {w : (Nat → Int32) × (Nat → Int32)} : kMet l ky8 prog_10_method_1_code 3 1 40 8 D g lo b sa [62, 3, 41] 63 38 (Fzz w kz_6) 64 41 (Fzz w kz_6) := by
  refine Met.ofW (cc := prog_10_method_1_code) (maxL := 3) (ret := none) (by decide) rfl ?_
  intro p e s m args below meth c s₁ B hml hv
  obtain ⟨rfl, hz0, ⟨hP, hK, hE, hX⟩, hN⟩ := hv
  have hx := B.exec
  have hb := B.bytes
  have hr := B.returns
  have hts : ∀ w ∈ ix_gw, w.before (List.map (fun i => Value.ref (lo + i)) [62, 3, 41]).toArray s = true := fun w hw => atoms_spec (ws := Cond.code ky8 prog_10_method_1_code 3 none :: ix_gw) B.pre w (List.mem_cons_of_mem _ hw)
  have tw : ∀ w, w ∈ lw_tbl → goodWord w = true → w.before (List.map (fun i => Value.ref (lo + i)) [62, 3, 41]).toArray s = true := fun w h1 h2 => hts w (ix_gwm h1 h2)
  have hown : s.vm.findClass "CryGorge$Seasons" = some m.cls := findClass_of_methodNamed B.named
  have hlocks := B.notSynchronized
  have hin : meth.name = "<init>" := (name_of_methodNamed B.named B.method).1
  have hS : va_S (ix_A lo) s.heap s.heap [] := va_S.rf
  have hz := hz0
  have hl := lv_entry (List.map (fun i => Value.ref (lo + i)) [62, 3, 41]) (n := 3) (Nat.le_of_ble_eq_true rfl)
  rw [lg_entry_eq]
  generalize (lg_sl (List.map (fun i => Value.ref (lo + i)) [62, 3, 41]) ++ List.replicate (3 - (lg_sl (List.map (fun i => Value.ref (lo + i)) [62, 3, 41])).length) Slot.unset).toArray = ls at hl ⊢
  have hl : lv_has ls 3 [(0, .ref (lo + 62)), (1, .ref (lo + 3)), (2, .ref (lo + 41))] := hl
  refine lv_aload_n (k := 0) hx hb (by decide +kernel) rfl (lv_at hl 0 rfl) ?_
  refine W.objInit hx hb hown (tw (.methodLink "CryGorge$Seasons" 3 kOI) (by decide +kernel) rfl) (tw (.instanceMethod kOI) (by decide +kernel) rfl) (tw (.code kOI ⟨#[0xb1]⟩ 1 none) (by decide +kernel) rfl) rfl (by rw [hml]; exact hl.1) rfl (show decode prog_10_method_1_code 1 = .ok (.invokespecial 3, 3) from by decide +kernel) (Nat.le_of_ble_eq_true rfl) (Nat.le_of_ble_eq_true rfl) ?_
  refine W.eq (g2 := F0 m 4 ls []) rfl ?_
  refine lv_aload_n (k := 0) hx hb (by decide +kernel) rfl (lv_at hl 0 rfl) ?_
  refine lv_bipush (n := 8) (v := nI 8) hx hb (by decide +kernel) (by decide) ?_
  refine kx_nI (a := 63) hx hb (tw (.arrayClass .int) (by decide +kernel) rfl) hK rfl (by decide) ((Fzz_lo (by decide)).trans (kzf_6 63 (by decide) (by decide))) (by decide) hP hz hS (by decide) (by decide) (by decide) (Nat.le_of_ble_eq_true rfl) (Nat.le_of_ble_eq_true rfl) (by decide +kernel) (fun H hP hz hS => ?_)
  refine W.widen (k := 1) (n := 8) (Nat.le_of_ble_eq_true rfl) (Nat.le_of_ble_eq_true rfl) ?_
  refine kx_putF (i := 62) (a := 62) (k := 2) (j := 63) (v := 63) (ci := 8) (C := RX8) (T := TX8) (N := 3) (ty := tyX8 2) hx hb hts hown hK hP hz hS (by decide) (by decide) rfl (by decide) (by decide) rfl (by decide) (tw (.fieldLink "CryGorge$Seasons" 9 "CryGorge$Seasons" "losses" "[I") (by decide +kernel) rfl) rfl rfl hin rfl (tyX8_ok 2 (by decide)) (fun _ => rfl) (fun _ => rfl) (by decide) (by decide) rfl (by decide) (by decide +kernel) (fun H locs hP hz hS => ?_)
  have hK : va_K D vwCl (ix_tys (kG g 39)) s := hK
  refine lv_aload_n (k := 0) hx hb (by decide +kernel) rfl (lv_at hl 0 rfl) ?_
  refine lv_aload_n (k := 1) hx hb (by decide +kernel) rfl (lv_at hl 1 rfl) ?_
  refine kx_putF (i := 62) (a := 62) (k := 0) (j := 3) (v := 3) (ci := 8) (C := RX8) (T := TX8) (N := 3) (ty := tyX8 0) hx hb hts hown hK hP hz hS (by decide) (by decide) rfl (by decide) (by decide) rfl (by decide) (tw (.fieldLink "CryGorge$Seasons" 15 "CryGorge$Seasons" "land" "LCryGorge$Land;") (by decide +kernel) rfl) rfl rfl hin rfl (tyX8_ok 0 (by decide)) (fun _ => rfl) (fun _ => rfl) (by decide) (by decide) rfl (by decide) (by decide +kernel) (fun H locs hP hz hS => ?_)
  have hK : va_K D vwCl (ix_tys (kG g 40)) s := hK
  refine lv_aload_n (k := 0) hx hb (by decide +kernel) rfl (lv_at hl 0 rfl) ?_
  refine lv_aload_n (k := 2) hx hb (by decide +kernel) rfl (lv_at hl 2 rfl) ?_
  refine kx_putF (i := 62) (a := 62) (k := 1) (j := 41) (v := 41) (ci := 8) (C := RX8) (T := TX8) (N := 3) (ty := tyX8 1) hx hb hts hown hK hP hz hS (by decide) (by decide) rfl (by decide) (by decide) rfl (by decide) (tw (.fieldLink "CryGorge$Seasons" 19 "CryGorge$Seasons" "rule" "LCryGorge$Law;") (by decide +kernel) rfl) rfl rfl hin rfl (tyX8_ok 1 (by decide)) (fun _ => rfl) (fun _ => rfl) (by decide) (by decide) rfl (by decide) (by decide +kernel) (fun H locs hP hz hS => ?_)
  have hK : va_K D vwCl (ix_tys (kG g 41)) s := hK
  exact W.vret hx hb hr (fun t ht hW => ⟨⟨(), rfl, trivial, by rw [ht]; exact hz, (ix_lend hP hE hX hS ht hW.alike).1⟩, (ix_lend hP hE hX hS ht hW.alike).2⟩) hS.2.2 (by decide +kernel)
theorem kc_64 {l : Launch} (hl0 : l.stackTraces = false) {D : va_G} {g : kg4} {lo b : Nat} {sa : Nat → Nat} {w : (Nat → Int32) × (Nat → Int32)} : kMet l ky9 prog_11_method_1_code 2 21 659 24 D g lo b sa [64, 3] 65 42 (Fzz w kz_6) 68 46 (Fzz w kz_7) := by
  refine Met.ofW (cc := prog_11_method_1_code) (maxL := 2) (ret := none) (by decide) rfl ?_
  intro p e s m args below meth c s₁ B hml hv
  obtain ⟨rfl, hz0, ⟨hP, hK, hE, hX⟩, hN⟩ := hv
  have hx := B.exec
  have hb := B.bytes
  have hr := B.returns
  have hts : ∀ w ∈ ix_gw, w.before (List.map (fun i => Value.ref (lo + i)) [64, 3]).toArray s = true := fun w hw => atoms_spec (ws := Cond.code ky9 prog_11_method_1_code 2 none :: ix_gw) B.pre w (List.mem_cons_of_mem _ hw)
  have tw : ∀ w, w ∈ lw_tbl → goodWord w = true → w.before (List.map (fun i => Value.ref (lo + i)) [64, 3]).toArray s = true := fun w h1 h2 => hts w (ix_gwm h1 h2)
  have hown : s.vm.findClass "CryGorge$State" = some m.cls := findClass_of_methodNamed B.named
  have hlocks := B.notSynchronized
  have hin : meth.name = "<init>" := (name_of_methodNamed B.named B.method).1
  have hS : va_S (ix_A lo) s.heap s.heap [] := va_S.rf
  have hz := hz0
  have hl := lv_entry (List.map (fun i => Value.ref (lo + i)) [64, 3]) (n := 2) (Nat.le_of_ble_eq_true rfl)
  rw [lg_entry_eq]
  generalize (lg_sl (List.map (fun i => Value.ref (lo + i)) [64, 3]) ++ List.replicate (2 - (lg_sl (List.map (fun i => Value.ref (lo + i)) [64, 3])).length) Slot.unset).toArray = ls at hl ⊢
  have hl : lv_has ls 2 [(0, .ref (lo + 64)), (1, .ref (lo + 3))] := hl
  refine lv_aload_n (k := 0) hx hb (by decide +kernel) rfl (lv_at hl 0 rfl) ?_
  refine W.objInit hx hb hown (tw (.methodLink "CryGorge$State" 3 kOI) (by decide +kernel) rfl) (tw (.instanceMethod kOI) (by decide +kernel) rfl) (tw (.code kOI ⟨#[0xb1]⟩ 1 none) (by decide +kernel) rfl) rfl (by rw [hml]; exact hl.1) rfl (show decode prog_11_method_1_code 1 = .ok (.invokespecial 3, 3) from by decide +kernel) (Nat.le_of_ble_eq_true rfl) (Nat.le_of_ble_eq_true rfl) ?_
  refine W.eq (g2 := F0 m 4 ls []) rfl ?_
  refine lv_aload_n (k := 0) hx hb (by decide +kernel) rfl (lv_at hl 0 rfl) ?_
  refine lv_bipush (n := 8) (v := nI 8) hx hb (by decide +kernel) (by decide) ?_
  refine kx_nI (a := 65) hx hb (tw (.arrayClass .int) (by decide +kernel) rfl) hK rfl (by decide) ((Fzz_lo (by decide)).trans (kzf_6 65 (by decide) (by decide))) (by decide) hP hz hS (by decide) (by decide) (by decide) (Nat.le_of_ble_eq_true rfl) (Nat.le_of_ble_eq_true rfl) (by decide +kernel) (fun H hP hz hS => ?_)
  refine W.widen (k := 1) (n := 8) (Nat.le_of_ble_eq_true rfl) (Nat.le_of_ble_eq_true rfl) ?_
  refine kx_putF (i := 64) (a := 64) (k := 1) (j := 65) (v := 65) (ci := 9) (C := RX9) (T := TX9) (N := 7) (ty := tyX9 1) hx hb hts hown hK hP hz hS (by decide) (by decide) rfl (by decide) (by decide) rfl (by decide) (tw (.fieldLink "CryGorge$State" 9 "CryGorge$State" "strength" "[I") (by decide +kernel) rfl) rfl rfl hin rfl (tyX9_ok 1 (by decide)) (fun _ => rfl) (fun _ => rfl) (by decide) (by decide) rfl (by decide) (by decide +kernel) (fun H locs hP hz hS => ?_)
  have hK : va_K D vwCl (ix_tys (kG g 43)) s := hK
  refine lv_aload_n (k := 0) hx hb (by decide +kernel) rfl (lv_at hl 0 rfl) ?_
  refine lv_bipush (n := 8) (v := nI 8) hx hb (by decide +kernel) (by decide) ?_
  refine kx_nI (a := 66) hx hb (tw (.arrayClass .int) (by decide +kernel) rfl) hK rfl (by decide) ((Fzz_lo (by decide)).trans (kzf_6 66 (by decide) (by decide))) (by decide) hP hz hS (by decide) (by decide) (by decide) (Nat.le_of_ble_eq_true rfl) (Nat.le_of_ble_eq_true rfl) (by decide +kernel) (fun H hP hz hS => ?_)
  refine W.widen (k := 2) (n := 16) (Nat.le_of_ble_eq_true rfl) (Nat.le_of_ble_eq_true rfl) ?_
  refine kx_putF (i := 64) (a := 64) (k := 2) (j := 66) (v := 66) (ci := 9) (C := RX9) (T := TX9) (N := 7) (ty := tyX9 2) hx hb hts hown hK hP hz hS (by decide) (by decide) rfl (by decide) (by decide) rfl (by decide) (tw (.fieldLink "CryGorge$State" 15 "CryGorge$State" "age" "[I") (by decide +kernel) rfl) rfl rfl hin rfl (tyX9_ok 2 (by decide)) (fun _ => rfl) (fun _ => rfl) (by decide) (by decide) rfl (by decide) (by decide +kernel) (fun H locs hP hz hS => ?_)
  have hK : va_K D vwCl (ix_tys (kG g 44)) s := hK
  refine lv_aload_n (k := 0) hx hb (by decide +kernel) rfl (lv_at hl 0 rfl) ?_
  refine lv_bipush (n := 8) (v := nI 8) hx hb (by decide +kernel) (by decide) ?_
  refine kx_nI (a := 67) hx hb (tw (.arrayClass .int) (by decide +kernel) rfl) hK rfl (by decide) ((Fzz_lo (by decide)).trans (kzf_6 67 (by decide) (by decide))) (by decide) hP hz hS (by decide) (by decide) (by decide) (Nat.le_of_ble_eq_true rfl) (Nat.le_of_ble_eq_true rfl) (by decide +kernel) (fun H hP hz hS => ?_)
  refine W.widen (k := 3) (n := 24) (Nat.le_of_ble_eq_true rfl) (Nat.le_of_ble_eq_true rfl) ?_
  refine kx_putF (i := 64) (a := 64) (k := 3) (j := 67) (v := 67) (ci := 9) (C := RX9) (T := TX9) (N := 7) (ty := tyX9 3) hx hb hts hown hK hP hz hS (by decide) (by decide) rfl (by decide) (by decide) rfl (by decide) (tw (.fieldLink "CryGorge$State" 18 "CryGorge$State" "place" "[I") (by decide +kernel) rfl) rfl rfl hin rfl (tyX9_ok 3 (by decide)) (fun _ => rfl) (fun _ => rfl) (by decide) (by decide) rfl (by decide) (by decide +kernel) (fun H locs hP hz hS => ?_)
  have hK : va_K D vwCl (ix_tys (kG g 45)) s := hK
  refine lv_aload_n (k := 0) hx hb (by decide +kernel) rfl (lv_at hl 0 rfl) ?_
  refine lv_aload_n (k := 1) hx hb (by decide +kernel) rfl (lv_at hl 1 rfl) ?_
  refine kx_putF (i := 64) (a := 64) (k := 0) (j := 3) (v := 3) (ci := 9) (C := RX9) (T := TX9) (N := 7) (ty := tyX9 0) hx hb hts hown hK hP hz hS (by decide) (by decide) rfl (by decide) (by decide) rfl (by decide) (tw (.fieldLink "CryGorge$State" 21 "CryGorge$State" "land" "LCryGorge$Land;") (by decide +kernel) rfl) rfl rfl hin rfl (tyX9_ok 0 (by decide)) (fun _ => rfl) (fun _ => rfl) (by decide) (by decide) rfl (by decide) (by decide +kernel) (fun H locs hP hz hS => ?_)
  have hK : va_K D vwCl (ix_tys (kG g 46)) s := hK
  refine lv_aload_n (k := 0) hx hb (by decide +kernel) rfl (lv_at hl 0 rfl) ?_
  refine kx_call (mi := 73) (i := 64) (a := 64) (nL := 2) (own := "CryGorge$State") (u := 46) (t := 68) (h := Fzz w kz_6) (h' := Fzz w kz_7) hl.1 hx hb hml hl0 hown hts (ix_cal_of (by decide) tb_73) (by decide) (kE_s (by decide) kb_7) (ix_gwm (show Cond.methodLink "CryGorge$State" 25 (ix_my mt_73) ∈ lw_tbl from by decide +kernel) rfl) (ix_gwm (show Cond.instanceMethod (ix_my mt_73) ∈ lw_tbl from by decide +kernel) rfl) (ix_gwm (show Cond.selects (ix_my mt_73).cls (ix_my mt_73) (ix_my mt_73) ∈ lw_tbl from by decide +kernel) rfl) (ix_gwm (show Cond.initialized (ix_my mt_73).cls ∈ lw_tbl from by decide +kernel) rfl) (by decide +kernel) ⟨Nat.le_of_ble_eq_true rfl, Nat.le_of_ble_eq_true rfl⟩ (by decide) (by decide) rfl (by decide) (by decide +kernel) (by rw [hz0]; omega) hP hS hK hE hX (Nat.le_of_ble_eq_true rfl) (Nat.le_of_ble_eq_true rfl) (Nat.le_of_ble_eq_true rfl) (by decide +kernel) (fun H locs hP hz hS hX => ?_)
  exact W.vret hx hb hr (fun t ht hW => ⟨⟨(), rfl, trivial, by rw [ht]; exact hz, (ix_lend hP hE hX hS ht hW.alike).1⟩, (ix_lend hP hE hX hS ht hW.alike).2⟩) hS.2.2 (by decide +kernel)
theorem kc_68 {l : Launch} (hl0 : l.stackTraces = false) {D : va_G} {g : kg4} {lo b : Nat} {sa : Nat → Nat} {w : (Nat → Int32) × (Nat → Int32)} : kMet l ky9 prog_11_method_1_code 2 21 659 24 D g lo b sa [68, 3] 69 47 (Fzz w kz_7) 72 51 (Fzz w kz_8) := by
  refine Met.ofW (cc := prog_11_method_1_code) (maxL := 2) (ret := none) (by decide) rfl ?_
  intro p e s m args below meth c s₁ B hml hv
  obtain ⟨rfl, hz0, ⟨hP, hK, hE, hX⟩, hN⟩ := hv
  have hx := B.exec
  have hb := B.bytes
  have hr := B.returns
  have hts : ∀ w ∈ ix_gw, w.before (List.map (fun i => Value.ref (lo + i)) [68, 3]).toArray s = true := fun w hw => atoms_spec (ws := Cond.code ky9 prog_11_method_1_code 2 none :: ix_gw) B.pre w (List.mem_cons_of_mem _ hw)
  have tw : ∀ w, w ∈ lw_tbl → goodWord w = true → w.before (List.map (fun i => Value.ref (lo + i)) [68, 3]).toArray s = true := fun w h1 h2 => hts w (ix_gwm h1 h2)
  have hown : s.vm.findClass "CryGorge$State" = some m.cls := findClass_of_methodNamed B.named
  have hlocks := B.notSynchronized
  have hin : meth.name = "<init>" := (name_of_methodNamed B.named B.method).1
  have hS : va_S (ix_A lo) s.heap s.heap [] := va_S.rf
  have hz := hz0
  have hl := lv_entry (List.map (fun i => Value.ref (lo + i)) [68, 3]) (n := 2) (Nat.le_of_ble_eq_true rfl)
  rw [lg_entry_eq]
  generalize (lg_sl (List.map (fun i => Value.ref (lo + i)) [68, 3]) ++ List.replicate (2 - (lg_sl (List.map (fun i => Value.ref (lo + i)) [68, 3])).length) Slot.unset).toArray = ls at hl ⊢
  have hl : lv_has ls 2 [(0, .ref (lo + 68)), (1, .ref (lo + 3))] := hl
  refine lv_aload_n (k := 0) hx hb (by decide +kernel) rfl (lv_at hl 0 rfl) ?_
  refine W.objInit hx hb hown (tw (.methodLink "CryGorge$State" 3 kOI) (by decide +kernel) rfl) (tw (.instanceMethod kOI) (by decide +kernel) rfl) (tw (.code kOI ⟨#[0xb1]⟩ 1 none) (by decide +kernel) rfl) rfl (by rw [hml]; exact hl.1) rfl (show decode prog_11_method_1_code 1 = .ok (.invokespecial 3, 3) from by decide +kernel) (Nat.le_of_ble_eq_true rfl) (Nat.le_of_ble_eq_true rfl) ?_
  refine W.eq (g2 := F0 m 4 ls []) rfl ?_
  refine lv_aload_n (k := 0) hx hb (by decide +kernel) rfl (lv_at hl 0 rfl) ?_
  refine lv_bipush (n := 8) (v := nI 8) hx hb (by decide +kernel) (by decide) ?_
  refine kx_nI (a := 69) hx hb (tw (.arrayClass .int) (by decide +kernel) rfl) hK rfl (by decide) ((Fzz_lo (by decide)).trans (kzf_7 69 (by decide) (by decide))) (by decide) hP hz hS (by decide) (by decide) (by decide) (Nat.le_of_ble_eq_true rfl) (Nat.le_of_ble_eq_true rfl) (by decide +kernel) (fun H hP hz hS => ?_)
  refine W.widen (k := 1) (n := 8) (Nat.le_of_ble_eq_true rfl) (Nat.le_of_ble_eq_true rfl) ?_
  refine kx_putF (i := 68) (a := 68) (k := 1) (j := 69) (v := 69) (ci := 9) (C := RX9) (T := TX9) (N := 7) (ty := tyX9 1) hx hb hts hown hK hP hz hS (by decide) (by decide) rfl (by decide) (by decide) rfl (by decide) (tw (.fieldLink "CryGorge$State" 9 "CryGorge$State" "strength" "[I") (by decide +kernel) rfl) rfl rfl hin rfl (tyX9_ok 1 (by decide)) (fun _ => rfl) (fun _ => rfl) (by decide) (by decide) rfl (by decide) (by decide +kernel) (fun H locs hP hz hS => ?_)
  have hK : va_K D vwCl (ix_tys (kG g 48)) s := hK
  refine lv_aload_n (k := 0) hx hb (by decide +kernel) rfl (lv_at hl 0 rfl) ?_
  refine lv_bipush (n := 8) (v := nI 8) hx hb (by decide +kernel) (by decide) ?_
  refine kx_nI (a := 70) hx hb (tw (.arrayClass .int) (by decide +kernel) rfl) hK rfl (by decide) ((Fzz_lo (by decide)).trans (kzf_7 70 (by decide) (by decide))) (by decide) hP hz hS (by decide) (by decide) (by decide) (Nat.le_of_ble_eq_true rfl) (Nat.le_of_ble_eq_true rfl) (by decide +kernel) (fun H hP hz hS => ?_)
  refine W.widen (k := 2) (n := 16) (Nat.le_of_ble_eq_true rfl) (Nat.le_of_ble_eq_true rfl) ?_
  refine kx_putF (i := 68) (a := 68) (k := 2) (j := 70) (v := 70) (ci := 9) (C := RX9) (T := TX9) (N := 7) (ty := tyX9 2) hx hb hts hown hK hP hz hS (by decide) (by decide) rfl (by decide) (by decide) rfl (by decide) (tw (.fieldLink "CryGorge$State" 15 "CryGorge$State" "age" "[I") (by decide +kernel) rfl) rfl rfl hin rfl (tyX9_ok 2 (by decide)) (fun _ => rfl) (fun _ => rfl) (by decide) (by decide) rfl (by decide) (by decide +kernel) (fun H locs hP hz hS => ?_)
  have hK : va_K D vwCl (ix_tys (kG g 49)) s := hK
  refine lv_aload_n (k := 0) hx hb (by decide +kernel) rfl (lv_at hl 0 rfl) ?_
  refine lv_bipush (n := 8) (v := nI 8) hx hb (by decide +kernel) (by decide) ?_
  refine kx_nI (a := 71) hx hb (tw (.arrayClass .int) (by decide +kernel) rfl) hK rfl (by decide) ((Fzz_lo (by decide)).trans (kzf_7 71 (by decide) (by decide))) (by decide) hP hz hS (by decide) (by decide) (by decide) (Nat.le_of_ble_eq_true rfl) (Nat.le_of_ble_eq_true rfl) (by decide +kernel) (fun H hP hz hS => ?_)
  refine W.widen (k := 3) (n := 24) (Nat.le_of_ble_eq_true rfl) (Nat.le_of_ble_eq_true rfl) ?_
  refine kx_putF (i := 68) (a := 68) (k := 3) (j := 71) (v := 71) (ci := 9) (C := RX9) (T := TX9) (N := 7) (ty := tyX9 3) hx hb hts hown hK hP hz hS (by decide) (by decide) rfl (by decide) (by decide) rfl (by decide) (tw (.fieldLink "CryGorge$State" 18 "CryGorge$State" "place" "[I") (by decide +kernel) rfl) rfl rfl hin rfl (tyX9_ok 3 (by decide)) (fun _ => rfl) (fun _ => rfl) (by decide) (by decide) rfl (by decide) (by decide +kernel) (fun H locs hP hz hS => ?_)
  have hK : va_K D vwCl (ix_tys (kG g 50)) s := hK
  refine lv_aload_n (k := 0) hx hb (by decide +kernel) rfl (lv_at hl 0 rfl) ?_
  refine lv_aload_n (k := 1) hx hb (by decide +kernel) rfl (lv_at hl 1 rfl) ?_
  refine kx_putF (i := 68) (a := 68) (k := 0) (j := 3) (v := 3) (ci := 9) (C := RX9) (T := TX9) (N := 7) (ty := tyX9 0) hx hb hts hown hK hP hz hS (by decide) (by decide) rfl (by decide) (by decide) rfl (by decide) (tw (.fieldLink "CryGorge$State" 21 "CryGorge$State" "land" "LCryGorge$Land;") (by decide +kernel) rfl) rfl rfl hin rfl (tyX9_ok 0 (by decide)) (fun _ => rfl) (fun _ => rfl) (by decide) (by decide) rfl (by decide) (by decide +kernel) (fun H locs hP hz hS => ?_)
  have hK : va_K D vwCl (ix_tys (kG g 51)) s := hK
  refine lv_aload_n (k := 0) hx hb (by decide +kernel) rfl (lv_at hl 0 rfl) ?_
  refine kx_call (mi := 73) (i := 68) (a := 68) (nL := 2) (own := "CryGorge$State") (u := 51) (t := 72) (h := Fzz w kz_7) (h' := Fzz w kz_8) hl.1 hx hb hml hl0 hown hts (ix_cal_of (by decide) tb_73) (by decide) (kE_s (by decide) kb_8) (ix_gwm (show Cond.methodLink "CryGorge$State" 25 (ix_my mt_73) ∈ lw_tbl from by decide +kernel) rfl) (ix_gwm (show Cond.instanceMethod (ix_my mt_73) ∈ lw_tbl from by decide +kernel) rfl) (ix_gwm (show Cond.selects (ix_my mt_73).cls (ix_my mt_73) (ix_my mt_73) ∈ lw_tbl from by decide +kernel) rfl) (ix_gwm (show Cond.initialized (ix_my mt_73).cls ∈ lw_tbl from by decide +kernel) rfl) (by decide +kernel) ⟨Nat.le_of_ble_eq_true rfl, Nat.le_of_ble_eq_true rfl⟩ (by decide) (by decide) rfl (by decide) (by decide +kernel) (by rw [hz0]; omega) hP hS hK hE hX (Nat.le_of_ble_eq_true rfl) (Nat.le_of_ble_eq_true rfl) (Nat.le_of_ble_eq_true rfl) (by decide +kernel) (fun H locs hP hz hS hX => ?_)
  exact W.vret hx hb hr (fun t ht hW => ⟨⟨(), rfl, trivial, by rw [ht]; exact hz, (ix_lend hP hE hX hS ht hW.alike).1⟩, (ix_lend hP hE hX hS ht hW.alike).2⟩) hS.2.2 (by decide +kernel)
theorem kc_72 {l : Launch} (hl0 : l.stackTraces = false) {D : va_G} {g : kg4} {lo b : Nat} {sa : Nat → Nat} {w : (Nat → Int32) × (Nat → Int32)} : kMet l ky3 prog_5_method_1_code 1 1 40 1812 D g lo b sa [72] 73 52 (Fzz w kz_8) 76 55 (Fzz w kz_8) := by
  refine Met.ofW (cc := prog_5_method_1_code) (maxL := 1) (ret := none) (by decide) rfl ?_
  intro p e s m args below meth c s₁ B hml hv
  obtain ⟨rfl, hz0, ⟨hP, hK, hE, hX⟩, hN⟩ := hv
  have hx := B.exec
  have hb := B.bytes
  have hr := B.returns
  have hts : ∀ w ∈ ix_gw, w.before (List.map (fun i => Value.ref (lo + i)) [72]).toArray s = true := fun w hw => atoms_spec (ws := Cond.code ky3 prog_5_method_1_code 1 none :: ix_gw) B.pre w (List.mem_cons_of_mem _ hw)
  have tw : ∀ w, w ∈ lw_tbl → goodWord w = true → w.before (List.map (fun i => Value.ref (lo + i)) [72]).toArray s = true := fun w h1 h2 => hts w (ix_gwm h1 h2)
  have hown : s.vm.findClass "CryGorge$History" = some m.cls := findClass_of_methodNamed B.named
  have hlocks := B.notSynchronized
  have hin : meth.name = "<init>" := (name_of_methodNamed B.named B.method).1
  have hS : va_S (ix_A lo) s.heap s.heap [] := va_S.rf
  have hz := hz0
  have hl := lv_entry (List.map (fun i => Value.ref (lo + i)) [72]) (n := 1) (Nat.le_of_ble_eq_true rfl)
  rw [lg_entry_eq]
  generalize (lg_sl (List.map (fun i => Value.ref (lo + i)) [72]) ++ List.replicate (1 - (lg_sl (List.map (fun i => Value.ref (lo + i)) [72])).length) Slot.unset).toArray = ls at hl ⊢
  have hl : lv_has ls 1 [(0, .ref (lo + 72))] := hl
  refine lv_aload_n (k := 0) hx hb (by decide +kernel) rfl (lv_at hl 0 rfl) ?_
  refine W.objInit hx hb hown (tw (.methodLink "CryGorge$History" 7 kOI) (by decide +kernel) rfl) (tw (.instanceMethod kOI) (by decide +kernel) rfl) (tw (.code kOI ⟨#[0xb1]⟩ 1 none) (by decide +kernel) rfl) rfl (by rw [hml]; exact hl.1) rfl (show decode prog_5_method_1_code 1 = .ok (.invokespecial 7, 3) from by decide +kernel) (Nat.le_of_ble_eq_true rfl) (Nat.le_of_ble_eq_true rfl) ?_
  refine W.eq (g2 := F0 m 4 ls []) rfl ?_
  refine lv_aload_n (k := 0) hx hb (by decide +kernel) rfl (lv_at hl 0 rfl) ?_
  refine lv_sipush (n := 432) (v := nI 432) hx hb (by decide +kernel) (by decide) ?_
  refine kx_nI (a := 73) hx hb (tw (.arrayClass .int) (by decide +kernel) rfl) hK rfl (by decide) ((Fzz_lo (by decide)).trans (kzf_8 73 (by decide) (by decide))) (by decide) hP hz hS (by decide) (by decide) (by decide) (Nat.le_of_ble_eq_true rfl) (Nat.le_of_ble_eq_true rfl) (by decide +kernel) (fun H hP hz hS => ?_)
  refine W.widen (k := 1) (n := 432) (Nat.le_of_ble_eq_true rfl) (Nat.le_of_ble_eq_true rfl) ?_
  refine kx_putF (i := 72) (a := 72) (k := 0) (j := 73) (v := 73) (ci := 3) (C := RX3) (T := TX3) (N := 6) (ty := tyX3 0) hx hb hts hown hK hP hz hS (by decide) (by decide) rfl (by decide) (by decide) rfl (by decide) (tw (.fieldLink "CryGorge$History" 13 "CryGorge$History" "before" "[I") (by decide +kernel) rfl) rfl rfl hin rfl (tyX3_ok 0 (by decide)) (fun _ => rfl) (fun _ => rfl) (by decide) (by decide) rfl (by decide) (by decide +kernel) (fun H locs hP hz hS => ?_)
  have hK : va_K D vwCl (ix_tys (kG g 53)) s := hK
  refine lv_aload_n (k := 0) hx hb (by decide +kernel) rfl (lv_at hl 0 rfl) ?_
  refine lv_sipush (n := 1377) (v := nI 1377) hx hb (by decide +kernel) (by decide) ?_
  refine kx_nI (a := 74) hx hb (tw (.arrayClass .int) (by decide +kernel) rfl) hK rfl (by decide) ((Fzz_lo (by decide)).trans (kzf_8 74 (by decide) (by decide))) (by decide) hP hz hS (by decide) (by decide) (by decide) (Nat.le_of_ble_eq_true rfl) (Nat.le_of_ble_eq_true rfl) (by decide +kernel) (fun H hP hz hS => ?_)
  refine W.widen (k := 2) (n := 1809) (Nat.le_of_ble_eq_true rfl) (Nat.le_of_ble_eq_true rfl) ?_
  refine kx_putF (i := 72) (a := 72) (k := 1) (j := 74) (v := 74) (ci := 3) (C := RX3) (T := TX3) (N := 6) (ty := tyX3 1) hx hb hts hown hK hP hz hS (by decide) (by decide) rfl (by decide) (by decide) rfl (by decide) (tw (.fieldLink "CryGorge$History" 17 "CryGorge$History" "saved" "[I") (by decide +kernel) rfl) rfl rfl hin rfl (tyX3_ok 1 (by decide)) (fun _ => rfl) (fun _ => rfl) (by decide) (by decide) rfl (by decide) (by decide +kernel) (fun H locs hP hz hS => ?_)
  have hK : va_K D vwCl (ix_tys (kG g 54)) s := hK
  refine lv_aload_n (k := 0) hx hb (by decide +kernel) rfl (lv_at hl 0 rfl) ?_
  refine lv_iconst (n := 3) (v := nI 3) hx hb (by decide +kernel) (by decide) ?_
  refine kx_nI (a := 75) hx hb (tw (.arrayClass .int) (by decide +kernel) rfl) hK rfl (by decide) ((Fzz_lo (by decide)).trans (kzf_8 75 (by decide) (by decide))) (by decide) hP hz hS (by decide) (by decide) (by decide) (Nat.le_of_ble_eq_true rfl) (Nat.le_of_ble_eq_true rfl) (by decide +kernel) (fun H hP hz hS => ?_)
  refine W.widen (k := 3) (n := 1812) (Nat.le_of_ble_eq_true rfl) (Nat.le_of_ble_eq_true rfl) ?_
  refine kx_putF (i := 72) (a := 72) (k := 2) (j := 75) (v := 75) (ci := 3) (C := RX3) (T := TX3) (N := 6) (ty := tyX3 2) hx hb hts hown hK hP hz hS (by decide) (by decide) rfl (by decide) (by decide) rfl (by decide) (tw (.fieldLink "CryGorge$History" 20 "CryGorge$History" "savedWorks" "[I") (by decide +kernel) rfl) rfl rfl hin rfl (tyX3_ok 2 (by decide)) (fun _ => rfl) (fun _ => rfl) (by decide) (by decide) rfl (by decide) (by decide +kernel) (fun H locs hP hz hS => ?_)
  have hK : va_K D vwCl (ix_tys (kG g 55)) s := hK
  exact W.vret hx hb hr (fun t ht hW => ⟨⟨(), rfl, trivial, by rw [ht]; exact hz, (ix_lend hP hE hX hS ht hW.alike).1⟩, (ix_lend hP hE hX hS ht hW.alike).2⟩) hS.2.2 (by decide +kernel)
theorem kc_76 {l : Launch} (hl0 : l.stackTraces = false) {D : va_G} {g : kg4} {lo b : Nat} {sa : Nat → Nat} {w : (Nat → Int32) × (Nat → Int32)} : kMet l ky6 prog_8_method_1_code 3 1 40 136 D g lo b sa [76, 3, 62] 77 56 (Fzz w kz_8) 81 62 (Fzz w kz_8) := by
  refine Met.ofW (cc := prog_8_method_1_code) (maxL := 3) (ret := none) (by decide) rfl ?_
  intro p e s m args below meth c s₁ B hml hv
  obtain ⟨rfl, hz0, ⟨hP, hK, hE, hX⟩, hN⟩ := hv
  have hx := B.exec
  have hb := B.bytes
  have hr := B.returns
  have hts : ∀ w ∈ ix_gw, w.before (List.map (fun i => Value.ref (lo + i)) [76, 3, 62]).toArray s = true := fun w hw => atoms_spec (ws := Cond.code ky6 prog_8_method_1_code 3 none :: ix_gw) B.pre w (List.mem_cons_of_mem _ hw)
  have tw : ∀ w, w ∈ lw_tbl → goodWord w = true → w.before (List.map (fun i => Value.ref (lo + i)) [76, 3, 62]).toArray s = true := fun w h1 h2 => hts w (ix_gwm h1 h2)
  have hown : s.vm.findClass "CryGorge$Planner" = some m.cls := findClass_of_methodNamed B.named
  have hlocks := B.notSynchronized
  have hin : meth.name = "<init>" := (name_of_methodNamed B.named B.method).1
  have hS : va_S (ix_A lo) s.heap s.heap [] := va_S.rf
  have hz := hz0
  have hl := lv_entry (List.map (fun i => Value.ref (lo + i)) [76, 3, 62]) (n := 3) (Nat.le_of_ble_eq_true rfl)
  rw [lg_entry_eq]
  generalize (lg_sl (List.map (fun i => Value.ref (lo + i)) [76, 3, 62]) ++ List.replicate (3 - (lg_sl (List.map (fun i => Value.ref (lo + i)) [76, 3, 62])).length) Slot.unset).toArray = ls at hl ⊢
  have hl : lv_has ls 3 [(0, .ref (lo + 76)), (1, .ref (lo + 3)), (2, .ref (lo + 62))] := hl
  refine lv_aload_n (k := 0) hx hb (by decide +kernel) rfl (lv_at hl 0 rfl) ?_
  refine W.objInit hx hb hown (tw (.methodLink "CryGorge$Planner" 3 kOI) (by decide +kernel) rfl) (tw (.instanceMethod kOI) (by decide +kernel) rfl) (tw (.code kOI ⟨#[0xb1]⟩ 1 none) (by decide +kernel) rfl) rfl (by rw [hml]; exact hl.1) rfl (show decode prog_8_method_1_code 1 = .ok (.invokespecial 3, 3) from by decide +kernel) (Nat.le_of_ble_eq_true rfl) (Nat.le_of_ble_eq_true rfl) ?_
  refine W.eq (g2 := F0 m 4 ls []) rfl ?_
  refine lv_aload_n (k := 0) hx hb (by decide +kernel) rfl (lv_at hl 0 rfl) ?_
  refine lv_bipush (n := 120) (v := nI 120) hx hb (by decide +kernel) (by decide) ?_
  refine kx_nI (a := 77) hx hb (tw (.arrayClass .int) (by decide +kernel) rfl) hK rfl (by decide) ((Fzz_lo (by decide)).trans (kzf_8 77 (by decide) (by decide))) (by decide) hP hz hS (by decide) (by decide) (by decide) (Nat.le_of_ble_eq_true rfl) (Nat.le_of_ble_eq_true rfl) (by decide +kernel) (fun H hP hz hS => ?_)
  refine W.widen (k := 1) (n := 120) (Nat.le_of_ble_eq_true rfl) (Nat.le_of_ble_eq_true rfl) ?_
  refine kx_putF (i := 76) (a := 76) (k := 2) (j := 77) (v := 77) (ci := 6) (C := RX6) (T := TX6) (N := 8) (ty := tyX6 2) hx hb hts hown hK hP hz hS (by decide) (by decide) rfl (by decide) (by decide) rfl (by decide) (tw (.fieldLink "CryGorge$Planner" 9 "CryGorge$Planner" "loss" "[I") (by decide +kernel) rfl) rfl rfl hin rfl (tyX6_ok 2 (by decide)) (fun _ => rfl) (fun _ => rfl) (by decide) (by decide) rfl (by decide) (by decide +kernel) (fun H locs hP hz hS => ?_)
  have hK : va_K D vwCl (ix_tys (kG g 57)) s := hK
  refine lv_aload_n (k := 0) hx hb (by decide +kernel) rfl (lv_at hl 0 rfl) ?_
  refine lv_iconst (n := 5) (v := nI 5) hx hb (by decide +kernel) (by decide) ?_
  refine kx_nI (a := 78) hx hb (tw (.arrayClass .int) (by decide +kernel) rfl) hK rfl (by decide) ((Fzz_lo (by decide)).trans (kzf_8 78 (by decide) (by decide))) (by decide) hP hz hS (by decide) (by decide) (by decide) (Nat.le_of_ble_eq_true rfl) (Nat.le_of_ble_eq_true rfl) (by decide +kernel) (fun H hP hz hS => ?_)
  refine W.widen (k := 2) (n := 125) (Nat.le_of_ble_eq_true rfl) (Nat.le_of_ble_eq_true rfl) ?_
  refine kx_putF (i := 76) (a := 76) (k := 3) (j := 78) (v := 78) (ci := 6) (C := RX6) (T := TX6) (N := 8) (ty := tyX6 3) hx hb hts hown hK hP hz hS (by decide) (by decide) rfl (by decide) (by decide) rfl (by decide) (tw (.fieldLink "CryGorge$Planner" 15 "CryGorge$Planner" "tried" "[I") (by decide +kernel) rfl) rfl rfl hin rfl (tyX6_ok 3 (by decide)) (fun _ => rfl) (fun _ => rfl) (by decide) (by decide) rfl (by decide) (by decide +kernel) (fun H locs hP hz hS => ?_)
  have hK : va_K D vwCl (ix_tys (kG g 58)) s := hK
  refine lv_aload_n (k := 0) hx hb (by decide +kernel) rfl (lv_at hl 0 rfl) ?_
  refine lv_iconst (n := 5) (v := nI 5) hx hb (by decide +kernel) (by decide) ?_
  refine kx_nI (a := 79) hx hb (tw (.arrayClass .int) (by decide +kernel) rfl) hK rfl (by decide) ((Fzz_lo (by decide)).trans (kzf_8 79 (by decide) (by decide))) (by decide) hP hz hS (by decide) (by decide) (by decide) (Nat.le_of_ble_eq_true rfl) (Nat.le_of_ble_eq_true rfl) (by decide +kernel) (fun H hP hz hS => ?_)
  refine W.widen (k := 3) (n := 130) (Nat.le_of_ble_eq_true rfl) (Nat.le_of_ble_eq_true rfl) ?_
  refine kx_putF (i := 76) (a := 76) (k := 4) (j := 79) (v := 79) (ci := 6) (C := RX6) (T := TX6) (N := 8) (ty := tyX6 4) hx hb hts hown hK hP hz hS (by decide) (by decide) rfl (by decide) (by decide) rfl (by decide) (tw (.fieldLink "CryGorge$Planner" 18 "CryGorge$Planner" "best" "[I") (by decide +kernel) rfl) rfl rfl hin rfl (tyX6_ok 4 (by decide)) (fun _ => rfl) (fun _ => rfl) (by decide) (by decide) rfl (by decide) (by decide +kernel) (fun H locs hP hz hS => ?_)
  have hK : va_K D vwCl (ix_tys (kG g 59)) s := hK
  refine lv_aload_n (k := 0) hx hb (by decide +kernel) rfl (lv_at hl 0 rfl) ?_
  refine lv_bipush (n := 6) (v := nI 6) hx hb (by decide +kernel) (by decide) ?_
  refine kx_nI (a := 80) hx hb (tw (.arrayClass .int) (by decide +kernel) rfl) hK rfl (by decide) ((Fzz_lo (by decide)).trans (kzf_8 80 (by decide) (by decide))) (by decide) hP hz hS (by decide) (by decide) (by decide) (Nat.le_of_ble_eq_true rfl) (Nat.le_of_ble_eq_true rfl) (by decide +kernel) (fun H hP hz hS => ?_)
  refine W.widen (k := 4) (n := 136) (Nat.le_of_ble_eq_true rfl) (Nat.le_of_ble_eq_true rfl) ?_
  refine kx_putF (i := 76) (a := 76) (k := 5) (j := 80) (v := 80) (ci := 6) (C := RX6) (T := TX6) (N := 8) (ty := tyX6 5) hx hb hts hown hK hP hz hS (by decide) (by decide) rfl (by decide) (by decide) rfl (by decide) (tw (.fieldLink "CryGorge$Planner" 21 "CryGorge$Planner" "kept" "[I") (by decide +kernel) rfl) rfl rfl hin rfl (tyX6_ok 5 (by decide)) (fun _ => rfl) (fun _ => rfl) (by decide) (by decide) rfl (by decide) (by decide +kernel) (fun H locs hP hz hS => ?_)
  have hK : va_K D vwCl (ix_tys (kG g 60)) s := hK
  refine lv_aload_n (k := 0) hx hb (by decide +kernel) rfl (lv_at hl 0 rfl) ?_
  refine lv_aload_n (k := 1) hx hb (by decide +kernel) rfl (lv_at hl 1 rfl) ?_
  refine kx_putF (i := 76) (a := 76) (k := 0) (j := 3) (v := 3) (ci := 6) (C := RX6) (T := TX6) (N := 8) (ty := tyX6 0) hx hb hts hown hK hP hz hS (by decide) (by decide) rfl (by decide) (by decide) rfl (by decide) (tw (.fieldLink "CryGorge$Planner" 24 "CryGorge$Planner" "land" "LCryGorge$Land;") (by decide +kernel) rfl) rfl rfl hin rfl (tyX6_ok 0 (by decide)) (fun _ => rfl) (fun _ => rfl) (by decide) (by decide) rfl (by decide) (by decide +kernel) (fun H locs hP hz hS => ?_)
  have hK : va_K D vwCl (ix_tys (kG g 61)) s := hK
  refine lv_aload_n (k := 0) hx hb (by decide +kernel) rfl (lv_at hl 0 rfl) ?_
  refine lv_aload_n (k := 2) hx hb (by decide +kernel) rfl (lv_at hl 2 rfl) ?_
  refine kx_putF (i := 76) (a := 76) (k := 1) (j := 62) (v := 62) (ci := 6) (C := RX6) (T := TX6) (N := 8) (ty := tyX6 1) hx hb hts hown hK hP hz hS (by decide) (by decide) rfl (by decide) (by decide) rfl (by decide) (tw (.fieldLink "CryGorge$Planner" 28 "CryGorge$Planner" "seasons" "LCryGorge$Seasons;") (by decide +kernel) rfl) rfl rfl hin rfl (tyX6_ok 1 (by decide)) (fun _ => rfl) (fun _ => rfl) (by decide) (by decide) rfl (by decide) (by decide +kernel) (fun H locs hP hz hS => ?_)
  have hK : va_K D vwCl (ix_tys (kG g 62)) s := hK
  exact W.vret hx hb hr (fun t ht hW => ⟨⟨(), rfl, trivial, by rw [ht]; exact hz, (ix_lend hP hE hX hS ht hW.alike).1⟩, (ix_lend hP hE hX hS ht hW.alike).2⟩) hS.2.2 (by decide +kernel)
theorem kc_86 {l : Launch} (hl0 : l.stackTraces = false) {D : va_G} {g : kg4} {lo b : Nat} {sa : Nat → Nat} {w : (Nat → Int32) × (Nat → Int32)} : kMet l ky9 prog_11_method_1_code 2 21 659 24 D g lo b sa [86, 3] 87 69 (Fzz w kz_8) 90 73 (Fzz w kz_9) := by
  refine Met.ofW (cc := prog_11_method_1_code) (maxL := 2) (ret := none) (by decide) rfl ?_
  intro p e s m args below meth c s₁ B hml hv
  obtain ⟨rfl, hz0, ⟨hP, hK, hE, hX⟩, hN⟩ := hv
  have hx := B.exec
  have hb := B.bytes
  have hr := B.returns
  have hts : ∀ w ∈ ix_gw, w.before (List.map (fun i => Value.ref (lo + i)) [86, 3]).toArray s = true := fun w hw => atoms_spec (ws := Cond.code ky9 prog_11_method_1_code 2 none :: ix_gw) B.pre w (List.mem_cons_of_mem _ hw)
  have tw : ∀ w, w ∈ lw_tbl → goodWord w = true → w.before (List.map (fun i => Value.ref (lo + i)) [86, 3]).toArray s = true := fun w h1 h2 => hts w (ix_gwm h1 h2)
  have hown : s.vm.findClass "CryGorge$State" = some m.cls := findClass_of_methodNamed B.named
  have hlocks := B.notSynchronized
  have hin : meth.name = "<init>" := (name_of_methodNamed B.named B.method).1
  have hS : va_S (ix_A lo) s.heap s.heap [] := va_S.rf
  have hz := hz0
  have hl := lv_entry (List.map (fun i => Value.ref (lo + i)) [86, 3]) (n := 2) (Nat.le_of_ble_eq_true rfl)
  rw [lg_entry_eq]
  generalize (lg_sl (List.map (fun i => Value.ref (lo + i)) [86, 3]) ++ List.replicate (2 - (lg_sl (List.map (fun i => Value.ref (lo + i)) [86, 3])).length) Slot.unset).toArray = ls at hl ⊢
  have hl : lv_has ls 2 [(0, .ref (lo + 86)), (1, .ref (lo + 3))] := hl
  refine lv_aload_n (k := 0) hx hb (by decide +kernel) rfl (lv_at hl 0 rfl) ?_
  refine W.objInit hx hb hown (tw (.methodLink "CryGorge$State" 3 kOI) (by decide +kernel) rfl) (tw (.instanceMethod kOI) (by decide +kernel) rfl) (tw (.code kOI ⟨#[0xb1]⟩ 1 none) (by decide +kernel) rfl) rfl (by rw [hml]; exact hl.1) rfl (show decode prog_11_method_1_code 1 = .ok (.invokespecial 3, 3) from by decide +kernel) (Nat.le_of_ble_eq_true rfl) (Nat.le_of_ble_eq_true rfl) ?_
  refine W.eq (g2 := F0 m 4 ls []) rfl ?_
  refine lv_aload_n (k := 0) hx hb (by decide +kernel) rfl (lv_at hl 0 rfl) ?_
  refine lv_bipush (n := 8) (v := nI 8) hx hb (by decide +kernel) (by decide) ?_
  refine kx_nI (a := 87) hx hb (tw (.arrayClass .int) (by decide +kernel) rfl) hK rfl (by decide) ((Fzz_lo (by decide)).trans (kzf_8 87 (by decide) (by decide))) (by decide) hP hz hS (by decide) (by decide) (by decide) (Nat.le_of_ble_eq_true rfl) (Nat.le_of_ble_eq_true rfl) (by decide +kernel) (fun H hP hz hS => ?_)
  refine W.widen (k := 1) (n := 8) (Nat.le_of_ble_eq_true rfl) (Nat.le_of_ble_eq_true rfl) ?_
  refine kx_putF (i := 86) (a := 86) (k := 1) (j := 87) (v := 87) (ci := 9) (C := RX9) (T := TX9) (N := 7) (ty := tyX9 1) hx hb hts hown hK hP hz hS (by decide) (by decide) rfl (by decide) (by decide) rfl (by decide) (tw (.fieldLink "CryGorge$State" 9 "CryGorge$State" "strength" "[I") (by decide +kernel) rfl) rfl rfl hin rfl (tyX9_ok 1 (by decide)) (fun _ => rfl) (fun _ => rfl) (by decide) (by decide) rfl (by decide) (by decide +kernel) (fun H locs hP hz hS => ?_)
  have hK : va_K D vwCl (ix_tys (kG g 70)) s := hK
  refine lv_aload_n (k := 0) hx hb (by decide +kernel) rfl (lv_at hl 0 rfl) ?_
  refine lv_bipush (n := 8) (v := nI 8) hx hb (by decide +kernel) (by decide) ?_
  refine kx_nI (a := 88) hx hb (tw (.arrayClass .int) (by decide +kernel) rfl) hK rfl (by decide) ((Fzz_lo (by decide)).trans (kzf_8 88 (by decide) (by decide))) (by decide) hP hz hS (by decide) (by decide) (by decide) (Nat.le_of_ble_eq_true rfl) (Nat.le_of_ble_eq_true rfl) (by decide +kernel) (fun H hP hz hS => ?_)
  refine W.widen (k := 2) (n := 16) (Nat.le_of_ble_eq_true rfl) (Nat.le_of_ble_eq_true rfl) ?_
  refine kx_putF (i := 86) (a := 86) (k := 2) (j := 88) (v := 88) (ci := 9) (C := RX9) (T := TX9) (N := 7) (ty := tyX9 2) hx hb hts hown hK hP hz hS (by decide) (by decide) rfl (by decide) (by decide) rfl (by decide) (tw (.fieldLink "CryGorge$State" 15 "CryGorge$State" "age" "[I") (by decide +kernel) rfl) rfl rfl hin rfl (tyX9_ok 2 (by decide)) (fun _ => rfl) (fun _ => rfl) (by decide) (by decide) rfl (by decide) (by decide +kernel) (fun H locs hP hz hS => ?_)
  have hK : va_K D vwCl (ix_tys (kG g 71)) s := hK
  refine lv_aload_n (k := 0) hx hb (by decide +kernel) rfl (lv_at hl 0 rfl) ?_
  refine lv_bipush (n := 8) (v := nI 8) hx hb (by decide +kernel) (by decide) ?_
  refine kx_nI (a := 89) hx hb (tw (.arrayClass .int) (by decide +kernel) rfl) hK rfl (by decide) ((Fzz_lo (by decide)).trans (kzf_8 89 (by decide) (by decide))) (by decide) hP hz hS (by decide) (by decide) (by decide) (Nat.le_of_ble_eq_true rfl) (Nat.le_of_ble_eq_true rfl) (by decide +kernel) (fun H hP hz hS => ?_)
  refine W.widen (k := 3) (n := 24) (Nat.le_of_ble_eq_true rfl) (Nat.le_of_ble_eq_true rfl) ?_
  refine kx_putF (i := 86) (a := 86) (k := 3) (j := 89) (v := 89) (ci := 9) (C := RX9) (T := TX9) (N := 7) (ty := tyX9 3) hx hb hts hown hK hP hz hS (by decide) (by decide) rfl (by decide) (by decide) rfl (by decide) (tw (.fieldLink "CryGorge$State" 18 "CryGorge$State" "place" "[I") (by decide +kernel) rfl) rfl rfl hin rfl (tyX9_ok 3 (by decide)) (fun _ => rfl) (fun _ => rfl) (by decide) (by decide) rfl (by decide) (by decide +kernel) (fun H locs hP hz hS => ?_)
  have hK : va_K D vwCl (ix_tys (kG g 72)) s := hK
  refine lv_aload_n (k := 0) hx hb (by decide +kernel) rfl (lv_at hl 0 rfl) ?_
  refine lv_aload_n (k := 1) hx hb (by decide +kernel) rfl (lv_at hl 1 rfl) ?_
  refine kx_putF (i := 86) (a := 86) (k := 0) (j := 3) (v := 3) (ci := 9) (C := RX9) (T := TX9) (N := 7) (ty := tyX9 0) hx hb hts hown hK hP hz hS (by decide) (by decide) rfl (by decide) (by decide) rfl (by decide) (tw (.fieldLink "CryGorge$State" 21 "CryGorge$State" "land" "LCryGorge$Land;") (by decide +kernel) rfl) rfl rfl hin rfl (tyX9_ok 0 (by decide)) (fun _ => rfl) (fun _ => rfl) (by decide) (by decide) rfl (by decide) (by decide +kernel) (fun H locs hP hz hS => ?_)
  have hK : va_K D vwCl (ix_tys (kG g 73)) s := hK
  refine lv_aload_n (k := 0) hx hb (by decide +kernel) rfl (lv_at hl 0 rfl) ?_
  refine kx_call (mi := 73) (i := 86) (a := 86) (nL := 2) (own := "CryGorge$State") (u := 73) (t := 90) (h := Fzz w kz_8) (h' := Fzz w kz_9) hl.1 hx hb hml hl0 hown hts (ix_cal_of (by decide) tb_73) (by decide) (kE_s (by decide) kb_9) (ix_gwm (show Cond.methodLink "CryGorge$State" 25 (ix_my mt_73) ∈ lw_tbl from by decide +kernel) rfl) (ix_gwm (show Cond.instanceMethod (ix_my mt_73) ∈ lw_tbl from by decide +kernel) rfl) (ix_gwm (show Cond.selects (ix_my mt_73).cls (ix_my mt_73) (ix_my mt_73) ∈ lw_tbl from by decide +kernel) rfl) (ix_gwm (show Cond.initialized (ix_my mt_73).cls ∈ lw_tbl from by decide +kernel) rfl) (by decide +kernel) ⟨Nat.le_of_ble_eq_true rfl, Nat.le_of_ble_eq_true rfl⟩ (by decide) (by decide) rfl (by decide) (by decide +kernel) (by rw [hz0]; omega) hP hS hK hE hX (Nat.le_of_ble_eq_true rfl) (Nat.le_of_ble_eq_true rfl) (Nat.le_of_ble_eq_true rfl) (by decide +kernel) (fun H locs hP hz hS hX => ?_)
  exact W.vret hx hb hr (fun t ht hW => ⟨⟨(), rfl, trivial, by rw [ht]; exact hz, (ix_lend hP hE hX hS ht hW.alike).1⟩, (ix_lend hP hE hX hS ht hW.alike).2⟩) hS.2.2 (by decide +kernel)
theorem kc_81 {l : Launch} (hl0 : l.stackTraces = false) {D : va_G} {g : kg4} {lo b : Nat} {sa : Nat → Nat} {w : (Nat → Int32) × (Nat → Int32)} : kMet l ky1 prog_3_method_1_code 3 22 680 275 D g lo b sa [81, 3, 62] 82 63 (Fzz w kz_8) 90 74 (Fzz w kz_9) := by
  refine Met.ofW (cc := prog_3_method_1_code) (maxL := 3) (ret := none) (by decide) rfl ?_
  intro p e s m args below meth c s₁ B hml hv
  obtain ⟨rfl, hz0, ⟨hP, hK, hE, hX⟩, hN⟩ := hv
  have hx := B.exec
  have hb := B.bytes
  have hr := B.returns
  have hts : ∀ w ∈ ix_gw, w.before (List.map (fun i => Value.ref (lo + i)) [81, 3, 62]).toArray s = true := fun w hw => atoms_spec (ws := Cond.code ky1 prog_3_method_1_code 3 none :: ix_gw) B.pre w (List.mem_cons_of_mem _ hw)
  have tw : ∀ w, w ∈ lw_tbl → goodWord w = true → w.before (List.map (fun i => Value.ref (lo + i)) [81, 3, 62]).toArray s = true := fun w h1 h2 => hts w (ix_gwm h1 h2)
  have hown : s.vm.findClass "CryGorge$Guesses" = some m.cls := findClass_of_methodNamed B.named
  have hlocks := B.notSynchronized
  have hin : meth.name = "<init>" := (name_of_methodNamed B.named B.method).1
  have hS : va_S (ix_A lo) s.heap s.heap [] := va_S.rf
  have hz := hz0
  have hl := lv_entry (List.map (fun i => Value.ref (lo + i)) [81, 3, 62]) (n := 3) (Nat.le_of_ble_eq_true rfl)
  rw [lg_entry_eq]
  generalize (lg_sl (List.map (fun i => Value.ref (lo + i)) [81, 3, 62]) ++ List.replicate (3 - (lg_sl (List.map (fun i => Value.ref (lo + i)) [81, 3, 62])).length) Slot.unset).toArray = ls at hl ⊢
  have hl : lv_has ls 3 [(0, .ref (lo + 81)), (1, .ref (lo + 3)), (2, .ref (lo + 62))] := hl
  refine lv_aload_n (k := 0) hx hb (by decide +kernel) rfl (lv_at hl 0 rfl) ?_
  refine W.objInit hx hb hown (tw (.methodLink "CryGorge$Guesses" 3 kOI) (by decide +kernel) rfl) (tw (.instanceMethod kOI) (by decide +kernel) rfl) (tw (.code kOI ⟨#[0xb1]⟩ 1 none) (by decide +kernel) rfl) rfl (by rw [hml]; exact hl.1) rfl (show decode prog_3_method_1_code 1 = .ok (.invokespecial 3, 3) from by decide +kernel) (Nat.le_of_ble_eq_true rfl) (Nat.le_of_ble_eq_true rfl) ?_
  refine W.eq (g2 := F0 m 4 ls []) rfl ?_
  refine lv_aload_n (k := 0) hx hb (by decide +kernel) rfl (lv_at hl 0 rfl) ?_
  refine lv_bipush (n := 48) (v := nI 48) hx hb (by decide +kernel) (by decide) ?_
  refine kx_nI (a := 82) hx hb (tw (.arrayClass .int) (by decide +kernel) rfl) hK rfl (by decide) ((Fzz_lo (by decide)).trans (kzf_8 82 (by decide) (by decide))) (by decide) hP hz hS (by decide) (by decide) (by decide) (Nat.le_of_ble_eq_true rfl) (Nat.le_of_ble_eq_true rfl) (by decide +kernel) (fun H hP hz hS => ?_)
  refine W.widen (k := 1) (n := 48) (Nat.le_of_ble_eq_true rfl) (Nat.le_of_ble_eq_true rfl) ?_
  refine kx_putF (i := 81) (a := 81) (k := 3) (j := 82) (v := 82) (ci := 1) (C := RX1) (T := TX1) (N := 10) (ty := tyX1 3) hx hb hts hown hK hP hz hS (by decide) (by decide) rfl (by decide) (by decide) rfl (by decide) (tw (.fieldLink "CryGorge$Guesses" 11 "CryGorge$Guesses" "cryOf" "[I") (by decide +kernel) rfl) rfl rfl hin rfl (tyX1_ok 3 (by decide)) (fun _ => rfl) (fun _ => rfl) (by decide) (by decide) rfl (by decide) (by decide +kernel) (fun H locs hP hz hS => ?_)
  have hK : va_K D vwCl (ix_tys (kG g 64)) s := hK
  refine lv_aload_n (k := 0) hx hb (by decide +kernel) rfl (lv_at hl 0 rfl) ?_
  refine lv_bipush (n := 48) (v := nI 48) hx hb (by decide +kernel) (by decide) ?_
  refine kx_nI (a := 83) hx hb (tw (.arrayClass .int) (by decide +kernel) rfl) hK rfl (by decide) ((Fzz_lo (by decide)).trans (kzf_8 83 (by decide) (by decide))) (by decide) hP hz hS (by decide) (by decide) (by decide) (Nat.le_of_ble_eq_true rfl) (Nat.le_of_ble_eq_true rfl) (by decide +kernel) (fun H hP hz hS => ?_)
  refine W.widen (k := 2) (n := 96) (Nat.le_of_ble_eq_true rfl) (Nat.le_of_ble_eq_true rfl) ?_
  refine kx_putF (i := 81) (a := 81) (k := 4) (j := 83) (v := 83) (ci := 1) (C := RX1) (T := TX1) (N := 10) (ty := tyX1 4) hx hb hts hown hK hP hz hS (by decide) (by decide) rfl (by decide) (by decide) rfl (by decide) (tw (.fieldLink "CryGorge$Guesses" 15 "CryGorge$Guesses" "bayOf" "[I") (by decide +kernel) rfl) rfl rfl hin rfl (tyX1_ok 4 (by decide)) (fun _ => rfl) (fun _ => rfl) (by decide) (by decide) rfl (by decide) (by decide +kernel) (fun H locs hP hz hS => ?_)
  have hK : va_K D vwCl (ix_tys (kG g 65)) s := hK
  refine lv_aload_n (k := 0) hx hb (by decide +kernel) rfl (lv_at hl 0 rfl) ?_
  refine lv_bipush (n := 48) (v := nI 48) hx hb (by decide +kernel) (by decide) ?_
  refine kx_nI (a := 84) hx hb (tw (.arrayClass .int) (by decide +kernel) rfl) hK rfl (by decide) ((Fzz_lo (by decide)).trans (kzf_8 84 (by decide) (by decide))) (by decide) hP hz hS (by decide) (by decide) (by decide) (Nat.le_of_ble_eq_true rfl) (Nat.le_of_ble_eq_true rfl) (by decide +kernel) (fun H hP hz hS => ?_)
  refine W.widen (k := 3) (n := 144) (Nat.le_of_ble_eq_true rfl) (Nat.le_of_ble_eq_true rfl) ?_
  refine kx_putF (i := 81) (a := 81) (k := 5) (j := 84) (v := 84) (ci := 1) (C := RX1) (T := TX1) (N := 10) (ty := tyX1 5) hx hb hts hown hK hP hz hS (by decide) (by decide) rfl (by decide) (by decide) rfl (by decide) (tw (.fieldLink "CryGorge$Guesses" 18 "CryGorge$Guesses" "strengthOf" "[I") (by decide +kernel) rfl) rfl rfl hin rfl (tyX1_ok 5 (by decide)) (fun _ => rfl) (fun _ => rfl) (by decide) (by decide) rfl (by decide) (by decide +kernel) (fun H locs hP hz hS => ?_)
  have hK : va_K D vwCl (ix_tys (kG g 66)) s := hK
  refine lv_aload_n (k := 0) hx hb (by decide +kernel) rfl (lv_at hl 0 rfl) ?_
  refine lv_bipush (n := 100) (v := nI 100) hx hb (by decide +kernel) (by decide) ?_
  refine kx_nI (a := 85) hx hb (tw (.arrayClass .int) (by decide +kernel) rfl) hK rfl (by decide) ((Fzz_lo (by decide)).trans (kzf_8 85 (by decide) (by decide))) (by decide) hP hz hS (by decide) (by decide) (by decide) (Nat.le_of_ble_eq_true rfl) (Nat.le_of_ble_eq_true rfl) (by decide +kernel) (fun H hP hz hS => ?_)
  refine W.widen (k := 4) (n := 244) (Nat.le_of_ble_eq_true rfl) (Nat.le_of_ble_eq_true rfl) ?_
  refine kx_putF (i := 81) (a := 81) (k := 6) (j := 85) (v := 85) (ci := 1) (C := RX1) (T := TX1) (N := 10) (ty := tyX1 6) hx hb hts hown hK hP hz hS (by decide) (by decide) rfl (by decide) (by decide) rfl (by decide) (tw (.fieldLink "CryGorge$Guesses" 21 "CryGorge$Guesses" "heardAlike" "[I") (by decide +kernel) rfl) rfl rfl hin rfl (tyX1_ok 6 (by decide)) (fun _ => rfl) (fun _ => rfl) (by decide) (by decide) rfl (by decide) (by decide +kernel) (fun H locs hP hz hS => ?_)
  have hK : va_K D vwCl (ix_tys (kG g 67)) s := hK
  refine lv_aload_n (k := 0) hx hb (by decide +kernel) rfl (lv_at hl 0 rfl) ?_
  refine lv_aload_n (k := 1) hx hb (by decide +kernel) rfl (lv_at hl 1 rfl) ?_
  refine kx_putF (i := 81) (a := 81) (k := 0) (j := 3) (v := 3) (ci := 1) (C := RX1) (T := TX1) (N := 10) (ty := tyX1 0) hx hb hts hown hK hP hz hS (by decide) (by decide) rfl (by decide) (by decide) rfl (by decide) (tw (.fieldLink "CryGorge$Guesses" 24 "CryGorge$Guesses" "land" "LCryGorge$Land;") (by decide +kernel) rfl) rfl rfl hin rfl (tyX1_ok 0 (by decide)) (fun _ => rfl) (fun _ => rfl) (by decide) (by decide) rfl (by decide) (by decide +kernel) (fun H locs hP hz hS => ?_)
  have hK : va_K D vwCl (ix_tys (kG g 68)) s := hK
  refine lv_aload_n (k := 0) hx hb (by decide +kernel) rfl (lv_at hl 0 rfl) ?_
  refine lv_aload_n (k := 2) hx hb (by decide +kernel) rfl (lv_at hl 2 rfl) ?_
  refine kx_putF (i := 81) (a := 81) (k := 1) (j := 62) (v := 62) (ci := 1) (C := RX1) (T := TX1) (N := 10) (ty := tyX1 1) hx hb hts hown hK hP hz hS (by decide) (by decide) rfl (by decide) (by decide) rfl (by decide) (tw (.fieldLink "CryGorge$Guesses" 28 "CryGorge$Guesses" "seasons" "LCryGorge$Seasons;") (by decide +kernel) rfl) rfl rfl hin rfl (tyX1_ok 1 (by decide)) (fun _ => rfl) (fun _ => rfl) (by decide) (by decide) rfl (by decide) (by decide +kernel) (fun H locs hP hz hS => ?_)
  have hK : va_K D vwCl (ix_tys (kG g 69)) s := hK
  refine lv_aload_n (k := 0) hx hb (by decide +kernel) rfl (lv_at hl 0 rfl) ?_
  refine kx_new (ci := 9) (N := 7) (C := RX9) (T := TX9) (a := 86) hx hb hts tyX9 tyX9_ok hown (tw (.classLink "CryGorge$Guesses" 32 "CryGorge$State") (by decide +kernel) rfl) (tw (.instantiable "CryGorge$State" 7) (by decide +kernel) rfl) (tw (.initialized "CryGorge$State") (by decide +kernel) rfl) hK hP hz hS rfl (by decide) rfl (by decide) (by decide) (kx_fs (N := 7) ((Fzz_lo (by decide)).trans (kzf_8 86 (by decide) (by decide))) (by decide +kernel : ∀ k, k < 7 → kmk 69 86 k = false) rfl _ (fun j hj => by rcases (show j = 0 ∨ j = 1 ∨ j = 2 ∨ j = 3 ∨ j = 4 ∨ j = 5 ∨ j = 6 by omega) with rfl | rfl | rfl | rfl | rfl | rfl | rfl <;> rfl)) (Nat.le_of_ble_eq_true rfl) (Nat.le_of_ble_eq_true rfl) (by decide +kernel) (fun H hP hz hS => ?_)
  refine W.widen (k := 5) (n := 251) (Nat.le_of_ble_eq_true rfl) (Nat.le_of_ble_eq_true rfl) ?_
  refine lv_dup hx hb (by decide +kernel) rfl ?_
  refine lv_aload_n (k := 1) hx hb (by decide +kernel) rfl (lv_at hl 1 rfl) ?_
  refine W.eq (g2 := F0 m 52 ls ((List.map (fun i => Value.ref (lo + i)) [3]).reverse ++ .ref (lo + 86) :: [.ref (lo + 86), .ref (lo + 81)])) rfl ?_
  refine kx_init (nL := 3) (idx := 34) (own := "CryGorge$Guesses") (u := 69) (t := 87) (t' := 90) (u' := 73) (h := Fzz w kz_8) (h' := Fzz w kz_9) (lc := 659) (fr := 21) (ms := 24) (maxL := 2) hx hb hml hl.1 hown hts (kc_86 hl0) kw9 (tw (.initialized "CryGorge$State") (by decide +kernel) rfl) (tw (.methodLink "CryGorge$Guesses" 34 ky9) (by decide +kernel) rfl) (tw (.instanceMethod ky9) (by decide +kernel) rfl) rfl (by decide +kernel) ⟨Nat.le_of_ble_eq_true rfl, Nat.le_of_ble_eq_true rfl⟩ hP hz hS hK hE hX hN (Nat.le_of_ble_eq_true rfl) (by decide +kernel) ⟨Nat.le_of_ble_eq_true rfl, Nat.le_of_ble_eq_true rfl⟩ (fun H locs hP hz hS hX => ?_)
  refine W.widen (k := 8) (n := 275) (Nat.le_of_ble_eq_true rfl) (Nat.le_of_ble_eq_true rfl) ?_
  have hK : va_K D vwCl (ix_tys (kG g 73)) s := hK
  refine kx_putF (i := 81) (a := 81) (k := 2) (j := 86) (v := 86) (ci := 1) (C := RX1) (T := TX1) (N := 10) (ty := tyX1 2) hx hb hts hown hK hP hz hS (by decide) (by decide) rfl (by decide) (by decide) rfl (by decide) (tw (.fieldLink "CryGorge$Guesses" 37 "CryGorge$Guesses" "alone" "LCryGorge$State;") (by decide +kernel) rfl) rfl rfl hin rfl (tyX1_ok 2 (by decide)) (fun _ => rfl) (fun _ => rfl) (by decide) (by decide) rfl (by decide) (by decide +kernel) (fun H locs hP hz hS => ?_)
  have hK : va_K D vwCl (ix_tys (kG g 74)) s := hK
  exact W.vret hx hb hr (fun t ht hW => ⟨⟨(), rfl, trivial, by rw [ht]; exact hz, (ix_lend hP hE hX hS ht hW.alike).1⟩, (ix_lend hP hE hX hS ht hW.alike).2⟩) hS.2.2 (by decide +kernel)
theorem kc_90 {l : Launch} (hl0 : l.stackTraces = false) {D : va_G} {g : kg4} {lo b : Nat} {sa : Nat → Nat} {w : (Nat → Int32) × (Nat → Int32)} : kMet l ky0 prog_2_method_1_code 3 1 40 0 D g lo b sa [90, 3, 62] 91 75 (Fzz w kz_9) 91 77 (Fzz w kz_9) := by
  refine Met.ofW (cc := prog_2_method_1_code) (maxL := 3) (ret := none) (by decide) rfl ?_
  intro p e s m args below meth c s₁ B hml hv
  obtain ⟨rfl, hz0, ⟨hP, hK, hE, hX⟩, hN⟩ := hv
  have hx := B.exec
  have hb := B.bytes
  have hr := B.returns
  have hts : ∀ w ∈ ix_gw, w.before (List.map (fun i => Value.ref (lo + i)) [90, 3, 62]).toArray s = true := fun w hw => atoms_spec (ws := Cond.code ky0 prog_2_method_1_code 3 none :: ix_gw) B.pre w (List.mem_cons_of_mem _ hw)
  have tw : ∀ w, w ∈ lw_tbl → goodWord w = true → w.before (List.map (fun i => Value.ref (lo + i)) [90, 3, 62]).toArray s = true := fun w h1 h2 => hts w (ix_gwm h1 h2)
  have hown : s.vm.findClass "CryGorge$Century" = some m.cls := findClass_of_methodNamed B.named
  have hlocks := B.notSynchronized
  have hin : meth.name = "<init>" := (name_of_methodNamed B.named B.method).1
  have hS : va_S (ix_A lo) s.heap s.heap [] := va_S.rf
  have hz := hz0
  have hl := lv_entry (List.map (fun i => Value.ref (lo + i)) [90, 3, 62]) (n := 3) (Nat.le_of_ble_eq_true rfl)
  rw [lg_entry_eq]
  generalize (lg_sl (List.map (fun i => Value.ref (lo + i)) [90, 3, 62]) ++ List.replicate (3 - (lg_sl (List.map (fun i => Value.ref (lo + i)) [90, 3, 62])).length) Slot.unset).toArray = ls at hl ⊢
  have hl : lv_has ls 3 [(0, .ref (lo + 90)), (1, .ref (lo + 3)), (2, .ref (lo + 62))] := hl
  refine lv_aload_n (k := 0) hx hb (by decide +kernel) rfl (lv_at hl 0 rfl) ?_
  refine W.objInit hx hb hown (tw (.methodLink "CryGorge$Century" 1 kOI) (by decide +kernel) rfl) (tw (.instanceMethod kOI) (by decide +kernel) rfl) (tw (.code kOI ⟨#[0xb1]⟩ 1 none) (by decide +kernel) rfl) rfl (by rw [hml]; exact hl.1) rfl (show decode prog_2_method_1_code 1 = .ok (.invokespecial 1, 3) from by decide +kernel) (Nat.le_of_ble_eq_true rfl) (Nat.le_of_ble_eq_true rfl) ?_
  refine W.eq (g2 := F0 m 4 ls []) rfl ?_
  refine lv_aload_n (k := 0) hx hb (by decide +kernel) rfl (lv_at hl 0 rfl) ?_
  refine lv_aload_n (k := 1) hx hb (by decide +kernel) rfl (lv_at hl 1 rfl) ?_
  refine kx_putF (i := 90) (a := 90) (k := 0) (j := 3) (v := 3) (ci := 0) (C := RX0) (T := TX0) (N := 5) (ty := tyX0 0) hx hb hts hown hK hP hz hS (by decide) (by decide) rfl (by decide) (by decide) rfl (by decide) (tw (.fieldLink "CryGorge$Century" 7 "CryGorge$Century" "land" "LCryGorge$Land;") (by decide +kernel) rfl) rfl rfl hin rfl (tyX0_ok 0 (by decide)) (fun _ => rfl) (fun _ => rfl) (by decide) (by decide) rfl (by decide) (by decide +kernel) (fun H locs hP hz hS => ?_)
  have hK : va_K D vwCl (ix_tys (kG g 76)) s := hK
  refine lv_aload_n (k := 0) hx hb (by decide +kernel) rfl (lv_at hl 0 rfl) ?_
  refine lv_aload_n (k := 2) hx hb (by decide +kernel) rfl (lv_at hl 2 rfl) ?_
  refine kx_putF (i := 90) (a := 90) (k := 1) (j := 62) (v := 62) (ci := 0) (C := RX0) (T := TX0) (N := 5) (ty := tyX0 1) hx hb hts hown hK hP hz hS (by decide) (by decide) rfl (by decide) (by decide) rfl (by decide) (tw (.fieldLink "CryGorge$Century" 13 "CryGorge$Century" "seasons" "LCryGorge$Seasons;") (by decide +kernel) rfl) rfl rfl hin rfl (tyX0_ok 1 (by decide)) (fun _ => rfl) (fun _ => rfl) (by decide) (by decide) rfl (by decide) (by decide +kernel) (fun H locs hP hz hS => ?_)
  have hK : va_K D vwCl (ix_tys (kG g 77)) s := hK
  exact W.vret hx hb hr (fun t ht hW => ⟨⟨(), rfl, trivial, by rw [ht]; exact hz, (ix_lend hP hE hX hS ht hW.alike).1⟩, (ix_lend hP hE hX hS ht hW.alike).2⟩) hS.2.2 (by decide +kernel)
