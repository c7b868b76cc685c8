theorem kc_100 {l : Launch} (hl0 : l.stackTraces = false) {D : va_G} {g : kg4} {lo b : Nat} {sa : Nat → Nat} {w : (Nat → Int32) × (Nat → Int32)} : kMet l ky12 prog_14_method_1_code 1 21 659 7194 D g lo b sa [91] 92 78 (Fzz w kz_10) 708 105 (Fzz w kz_13) := by
  refine Met.ofW (cc := prog_14_method_1_code) (maxL := 1) (ret := none) (by decide) rfl ?_
  intro p e s m args below meth c s₁ B hml hv
  obtain ⟨rfl, hz0, ⟨hP, hK, hE, hX⟩, hN⟩ := hv
  have hx := B.exec
  have hb := B.bytes
  have hr := B.returns
  have hts : ∀ w ∈ ix_gw, w.before (List.map (fun i => Value.ref (lo + i)) [91]).toArray s = true := fun w hw => atoms_spec (ws := Cond.code ky12 prog_14_method_1_code 1 none :: ix_gw) B.pre w (List.mem_cons_of_mem _ hw)
  have tw : ∀ w, w ∈ lw_tbl → goodWord w = true → w.before (List.map (fun i => Value.ref (lo + i)) [91]).toArray s = true := fun w h1 h2 => hts w (ix_gwm h1 h2)
  have hown : s.vm.findClass "CryGorgeModel" = some m.cls := findClass_of_methodNamed B.named
  have hlocks := B.notSynchronized
  have hin : meth.name = "<init>" := (name_of_methodNamed B.named B.method).1
  have hS : va_S (ix_A lo) s.heap s.heap [] := va_S.rf
  have hz := hz0
  have hl := lv_entry (List.map (fun i => Value.ref (lo + i)) [91]) (n := 1) (Nat.le_of_ble_eq_true rfl)
  rw [lg_entry_eq]
  generalize (lg_sl (List.map (fun i => Value.ref (lo + i)) [91]) ++ List.replicate (1 - (lg_sl (List.map (fun i => Value.ref (lo + i)) [91])).length) Slot.unset).toArray = ls at hl ⊢
  have hl : lv_has ls 1 [(0, .ref (lo + 91))] := hl
  refine lv_aload_n (k := 0) hx hb (by decide +kernel) rfl (lv_at hl 0 rfl) ?_
  refine W.objInit hx hb hown (tw (.methodLink "CryGorgeModel" 1 kOI) (by decide +kernel) rfl) (tw (.instanceMethod kOI) (by decide +kernel) rfl) (tw (.code kOI ⟨#[0xb1]⟩ 1 none) (by decide +kernel) rfl) rfl (by rw [hml]; exact hl.1) rfl (show decode prog_14_method_1_code 1 = .ok (.invokespecial 1, 3) from by decide +kernel) (Nat.le_of_ble_eq_true rfl) (Nat.le_of_ble_eq_true rfl) ?_
  refine W.eq (g2 := F0 m 4 ls []) rfl ?_
  refine lv_aload_n (k := 0) hx hb (by decide +kernel) rfl (lv_at hl 0 rfl) ?_
  refine lv_iconst (n := -1) (v := (-1)) hx hb (by decide +kernel) (by decide) ?_
  refine kx_puti (i := 91) (a := 100) (k := 3) (v := (-1)) (ci := 12) (C := RX12) (T := TX12) (N := 50) hx hb hts hown hK hP hz hS (by decide) (by decide) rfl (by decide) (by decide) rfl (by decide) (tw (.fieldLink "CryGorgeModel" 9 "CryGorgeModel" "place" "I") (by decide +kernel) rfl) rfl rfl (tyX12_ok 3 (by decide)) (by decide) (by decide +kernel) (fun H locs hP hz hS => ?_)
  rw [Fzz_up (by decide) (by decide)] at hP
  have hP : va_P D vwCl (ix_ws (kG g 78) (kad lo b sa) (kids 92) (Fzz w kz_11)) H := hP
  have hX : ix_SX (kad lo b sa) lo (Fzz w kz_11) s s.heap := kx_SX hX
  refine lv_aload_n (k := 0) hx hb (by decide +kernel) rfl (lv_at hl 0 rfl) ?_
  refine lv_sipush (n := 600) (v := nI 600) hx hb (by decide +kernel) (by decide) ?_
  refine kx_nI (a := 101) hx hb (tw (.arrayClass .int) (by decide +kernel) rfl) hK rfl (by decide) ((Fzz_lo (by decide)).trans (kzf_11 101 (by decide) (by decide))) (by decide) hP hz hS (by decide) (by decide) (by decide) (Nat.le_of_ble_eq_true rfl) (Nat.le_of_ble_eq_true rfl) (by decide +kernel) (fun H hP hz hS => ?_)
  refine W.widen (k := 1) (n := 600) (Nat.le_of_ble_eq_true rfl) (Nat.le_of_ble_eq_true rfl) ?_
  refine kx_putF (i := 91) (a := 100) (k := 9) (j := 92) (v := 101) (ci := 12) (C := RX12) (T := TX12) (N := 50) (ty := tyX12 9) hx hb hts hown hK hP hz hS (by decide) (by decide) rfl (by decide) (by decide) rfl (by decide) (tw (.fieldLink "CryGorgeModel" 13 "CryGorgeModel" "fed" "[I") (by decide +kernel) rfl) rfl rfl hin rfl (tyX12_ok 9 (by decide)) (fun _ => rfl) (fun _ => rfl) (by decide) (by decide) rfl (by decide) (by decide +kernel) (fun H locs hP hz hS => ?_)
  have hK : va_K D vwCl (ix_tys (kG g 79)) s := hK
  refine lv_aload_n (k := 0) hx hb (by decide +kernel) rfl (lv_at hl 0 rfl) ?_
  refine lv_iconst (n := 2) (v := nI 2) hx hb (by decide +kernel) (by decide) ?_
  refine kx_nI (a := 102) hx hb (tw (.arrayClass .int) (by decide +kernel) rfl) hK rfl (by decide) ((Fzz_lo (by decide)).trans (kzf_11 102 (by decide) (by decide))) (by decide) hP hz hS (by decide) (by decide) (by decide) (Nat.le_of_ble_eq_true rfl) (Nat.le_of_ble_eq_true rfl) (by decide +kernel) (fun H hP hz hS => ?_)
  refine W.widen (k := 2) (n := 602) (Nat.le_of_ble_eq_true rfl) (Nat.le_of_ble_eq_true rfl) ?_
  refine kx_putF (i := 91) (a := 100) (k := 10) (j := 93) (v := 102) (ci := 12) (C := RX12) (T := TX12) (N := 50) (ty := tyX12 10) hx hb hts hown hK hP hz hS (by decide) (by decide) rfl (by decide) (by decide) rfl (by decide) (tw (.fieldLink "CryGorgeModel" 17 "CryGorgeModel" "refused" "[I") (by decide +kernel) rfl) rfl rfl hin rfl (tyX12_ok 10 (by decide)) (fun _ => rfl) (fun _ => rfl) (by decide) (by decide) rfl (by decide) (by decide +kernel) (fun H locs hP hz hS => ?_)
  have hK : va_K D vwCl (ix_tys (kG g 80)) s := hK
  refine lv_aload_n (k := 0) hx hb (by decide +kernel) rfl (lv_at hl 0 rfl) ?_
  refine lv_iconst (n := 4) (v := nI 4) hx hb (by decide +kernel) (by decide) ?_
  refine kx_nI (a := 103) hx hb (tw (.arrayClass .int) (by decide +kernel) rfl) hK rfl (by decide) ((Fzz_lo (by decide)).trans (kzf_11 103 (by decide) (by decide))) (by decide) hP hz hS (by decide) (by decide) (by decide) (Nat.le_of_ble_eq_true rfl) (Nat.le_of_ble_eq_true rfl) (by decide +kernel) (fun H hP hz hS => ?_)
  refine W.widen (k := 3) (n := 606) (Nat.le_of_ble_eq_true rfl) (Nat.le_of_ble_eq_true rfl) ?_
  refine kx_putF (i := 91) (a := 100) (k := 11) (j := 94) (v := 103) (ci := 12) (C := RX12) (T := TX12) (N := 50) (ty := tyX12 11) hx hb hts hown hK hP hz hS (by decide) (by decide) rfl (by decide) (by decide) rfl (by decide) (tw (.fieldLink "CryGorgeModel" 20 "CryGorgeModel" "readTold" "[I") (by decide +kernel) rfl) rfl rfl hin rfl (tyX12_ok 11 (by decide)) (fun _ => rfl) (fun _ => rfl) (by decide) (by decide) rfl (by decide) (by decide +kernel) (fun H locs hP hz hS => ?_)
  have hK : va_K D vwCl (ix_tys (kG g 81)) s := hK
  refine lv_aload_n (k := 0) hx hb (by decide +kernel) rfl (lv_at hl 0 rfl) ?_
  refine lv_iconst (n := 4) (v := nI 4) hx hb (by decide +kernel) (by decide) ?_
  refine kx_nI (a := 104) hx hb (tw (.arrayClass .int) (by decide +kernel) rfl) hK rfl (by decide) ((Fzz_lo (by decide)).trans (kzf_11 104 (by decide) (by decide))) (by decide) hP hz hS (by decide) (by decide) (by decide) (Nat.le_of_ble_eq_true rfl) (Nat.le_of_ble_eq_true rfl) (by decide +kernel) (fun H hP hz hS => ?_)
  refine W.widen (k := 4) (n := 610) (Nat.le_of_ble_eq_true rfl) (Nat.le_of_ble_eq_true rfl) ?_
  refine kx_putF (i := 91) (a := 100) (k := 12) (j := 95) (v := 104) (ci := 12) (C := RX12) (T := TX12) (N := 50) (ty := tyX12 12) hx hb hts hown hK hP hz hS (by decide) (by decide) rfl (by decide) (by decide) rfl (by decide) (tw (.fieldLink "CryGorgeModel" 23 "CryGorgeModel" "told" "[I") (by decide +kernel) rfl) rfl rfl hin rfl (tyX12_ok 12 (by decide)) (fun _ => rfl) (fun _ => rfl) (by decide) (by decide) rfl (by decide) (by decide +kernel) (fun H locs hP hz hS => ?_)
  have hK : va_K D vwCl (ix_tys (kG g 82)) s := hK
  refine lv_aload_n (k := 0) hx hb (by decide +kernel) rfl (lv_at hl 0 rfl) ?_
  refine lv_bipush (n := 6) (v := nI 6) hx hb (by decide +kernel) (by decide) ?_
  refine lv_iconst (n := 2) (v := nI 2) hx hb (by decide +kernel) (by decide) ?_
  refine kx_mna (a := 105) (N := 6) (K := 2) hx hb hown (tw (.classLink "CryGorgeModel" 26 "[[I") (by decide +kernel) rfl) hN.1 (tw (.arrayClass .int) (by decide +kernel) rfl) hK hP hz hS rfl (by decide) (by decide) (by decide) (by decide) (by decide) (by decide) (by decide) (by decide) (fun j hj => ⟨((by decide +kernel : ∀ j, j < 6 → ix_k (105 + 1 + j) = 1 ∧ ix_n (105 + 1 + j) = 2) j hj).1, ((by decide +kernel : ∀ j, j < 6 → ix_k (105 + 1 + j) = 1 ∧ ix_n (105 + 1 + j) = 2) j hj).2, (Fzz_lo (by omega)).trans (kzf_11 _ ((by decide +kernel : ∀ j, j < 6 → kin 92 (105 + 1 + j) = false) j hj) (by omega))⟩) (Nat.le_of_ble_eq_true rfl) (Nat.le_of_ble_eq_true rfl) (by decide +kernel) (fun H hP hz hS => ?_)
  refine W.widen (k := 11) (n := 628) (Nat.le_of_ble_eq_true rfl) (Nat.le_of_ble_eq_true rfl) ?_
  have hP : va_P D vwCl (ix_ws (kG g 82) (kad lo b sa) (kids 103) (Fzz w kz_11)) H := hP
  have hz : H.size = lo + 103 := hz
  refine kx_putF (i := 91) (a := 100) (k := 13) (j := 96) (v := 105) (ci := 12) (C := RX12) (T := TX12) (N := 50) (ty := tyX12 13) hx hb hts hown hK hP hz hS (by decide) (by decide) rfl (by decide) (by decide) rfl (by decide) (tw (.fieldLink "CryGorgeModel" 28 "CryGorgeModel" "readBay" "[[I") (by decide +kernel) rfl) rfl rfl hin rfl (tyX12_ok 13 (by decide)) (fun _ => rfl) (fun _ => rfl) (by decide) (by decide) rfl (by decide) (by decide +kernel) (fun H locs hP hz hS => ?_)
  have hK : va_K D vwCl (ix_tys (kG g 83)) s := hK
  refine lv_aload_n (k := 0) hx hb (by decide +kernel) rfl (lv_at hl 0 rfl) ?_
  refine lv_bipush (n := 6) (v := nI 6) hx hb (by decide +kernel) (by decide) ?_
  refine lv_iconst (n := 2) (v := nI 2) hx hb (by decide +kernel) (by decide) ?_
  refine kx_mna (a := 112) (N := 6) (K := 2) hx hb hown (tw (.classLink "CryGorgeModel" 26 "[[I") (by decide +kernel) rfl) hN.1 (tw (.arrayClass .int) (by decide +kernel) rfl) hK hP hz hS rfl (by decide) (by decide) (by decide) (by decide) (by decide) (by decide) (by decide) (by decide) (fun j hj => ⟨((by decide +kernel : ∀ j, j < 6 → ix_k (112 + 1 + j) = 1 ∧ ix_n (112 + 1 + j) = 2) j hj).1, ((by decide +kernel : ∀ j, j < 6 → ix_k (112 + 1 + j) = 1 ∧ ix_n (112 + 1 + j) = 2) j hj).2, (Fzz_lo (by omega)).trans (kzf_11 _ ((by decide +kernel : ∀ j, j < 6 → kin 92 (112 + 1 + j) = false) j hj) (by omega))⟩) (Nat.le_of_ble_eq_true rfl) (Nat.le_of_ble_eq_true rfl) (by decide +kernel) (fun H hP hz hS => ?_)
  refine W.widen (k := 18) (n := 646) (Nat.le_of_ble_eq_true rfl) (Nat.le_of_ble_eq_true rfl) ?_
  have hP : va_P D vwCl (ix_ws (kG g 83) (kad lo b sa) (kids 110) (Fzz w kz_11)) H := hP
  have hz : H.size = lo + 110 := hz
  refine kx_putF (i := 91) (a := 100) (k := 14) (j := 103) (v := 112) (ci := 12) (C := RX12) (T := TX12) (N := 50) (ty := tyX12 14) hx hb hts hown hK hP hz hS (by decide) (by decide) rfl (by decide) (by decide) rfl (by decide) (tw (.fieldLink "CryGorgeModel" 31 "CryGorgeModel" "bay" "[[I") (by decide +kernel) rfl) rfl rfl hin rfl (tyX12_ok 14 (by decide)) (fun _ => rfl) (fun _ => rfl) (by decide) (by decide) rfl (by decide) (by decide +kernel) (fun H locs hP hz hS => ?_)
  have hK : va_K D vwCl (ix_tys (kG g 84)) s := hK
  refine lv_aload_n (k := 0) hx hb (by decide +kernel) rfl (lv_at hl 0 rfl) ?_
  refine lv_bipush (n := 8) (v := nI 8) hx hb (by decide +kernel) (by decide) ?_
  refine lv_iconst (n := 2) (v := nI 2) hx hb (by decide +kernel) (by decide) ?_
  refine kx_mna (a := 119) (N := 8) (K := 2) hx hb hown (tw (.classLink "CryGorgeModel" 26 "[[I") (by decide +kernel) rfl) hN.1 (tw (.arrayClass .int) (by decide +kernel) rfl) hK hP hz hS rfl (by decide) (by decide) (by decide) (by decide) (by decide) (by decide) (by decide) (by decide) (fun j hj => ⟨((by decide +kernel : ∀ j, j < 8 → ix_k (119 + 1 + j) = 1 ∧ ix_n (119 + 1 + j) = 2) j hj).1, ((by decide +kernel : ∀ j, j < 8 → ix_k (119 + 1 + j) = 1 ∧ ix_n (119 + 1 + j) = 2) j hj).2, (Fzz_lo (by omega)).trans (kzf_11 _ ((by decide +kernel : ∀ j, j < 8 → kin 92 (119 + 1 + j) = false) j hj) (by omega))⟩) (Nat.le_of_ble_eq_true rfl) (Nat.le_of_ble_eq_true rfl) (by decide +kernel) (fun H hP hz hS => ?_)
  refine W.widen (k := 27) (n := 670) (Nat.le_of_ble_eq_true rfl) (Nat.le_of_ble_eq_true rfl) ?_
  have hP : va_P D vwCl (ix_ws (kG g 84) (kad lo b sa) (kids 119) (Fzz w kz_11)) H := hP
  have hz : H.size = lo + 119 := hz
  refine kx_putF (i := 91) (a := 100) (k := 15) (j := 110) (v := 119) (ci := 12) (C := RX12) (T := TX12) (N := 50) (ty := tyX12 15) hx hb hts hown hK hP hz hS (by decide) (by decide) rfl (by decide) (by decide) rfl (by decide) (tw (.fieldLink "CryGorgeModel" 34 "CryGorgeModel" "readCry" "[[I") (by decide +kernel) rfl) rfl rfl hin rfl (tyX12_ok 15 (by decide)) (fun _ => rfl) (fun _ => rfl) (by decide) (by decide) rfl (by decide) (by decide +kernel) (fun H locs hP hz hS => ?_)
  have hK : va_K D vwCl (ix_tys (kG g 85)) s := hK
  refine lv_aload_n (k := 0) hx hb (by decide +kernel) rfl (lv_at hl 0 rfl) ?_
  refine lv_bipush (n := 8) (v := nI 8) hx hb (by decide +kernel) (by decide) ?_
  refine lv_iconst (n := 2) (v := nI 2) hx hb (by decide +kernel) (by decide) ?_
  refine kx_mna (a := 128) (N := 8) (K := 2) hx hb hown (tw (.classLink "CryGorgeModel" 26 "[[I") (by decide +kernel) rfl) hN.1 (tw (.arrayClass .int) (by decide +kernel) rfl) hK hP hz hS rfl (by decide) (by decide) (by decide) (by decide) (by decide) (by decide) (by decide) (by decide) (fun j hj => ⟨((by decide +kernel : ∀ j, j < 8 → ix_k (128 + 1 + j) = 1 ∧ ix_n (128 + 1 + j) = 2) j hj).1, ((by decide +kernel : ∀ j, j < 8 → ix_k (128 + 1 + j) = 1 ∧ ix_n (128 + 1 + j) = 2) j hj).2, (Fzz_lo (by omega)).trans (kzf_11 _ ((by decide +kernel : ∀ j, j < 8 → kin 92 (128 + 1 + j) = false) j hj) (by omega))⟩) (Nat.le_of_ble_eq_true rfl) (Nat.le_of_ble_eq_true rfl) (by decide +kernel) (fun H hP hz hS => ?_)
  refine W.widen (k := 36) (n := 694) (Nat.le_of_ble_eq_true rfl) (Nat.le_of_ble_eq_true rfl) ?_
  have hP : va_P D vwCl (ix_ws (kG g 85) (kad lo b sa) (kids 128) (Fzz w kz_11)) H := hP
  have hz : H.size = lo + 128 := hz
  refine kx_putF (i := 91) (a := 100) (k := 16) (j := 119) (v := 128) (ci := 12) (C := RX12) (T := TX12) (N := 50) (ty := tyX12 16) hx hb hts hown hK hP hz hS (by decide) (by decide) rfl (by decide) (by decide) rfl (by decide) (tw (.fieldLink "CryGorgeModel" 37 "CryGorgeModel" "cry" "[[I") (by decide +kernel) rfl) rfl rfl hin rfl (tyX12_ok 16 (by decide)) (fun _ => rfl) (fun _ => rfl) (by decide) (by decide) rfl (by decide) (by decide +kernel) (fun H locs hP hz hS => ?_)
  have hK : va_K D vwCl (ix_tys (kG g 86)) s := hK
  refine lv_aload_n (k := 0) hx hb (by decide +kernel) rfl (lv_at hl 0 rfl) ?_
  refine lv_bipush (n := 6) (v := nI 6) hx hb (by decide +kernel) (by decide) ?_
  refine lv_bipush (n := 6) (v := nI 6) hx hb (by decide +kernel) (by decide) ?_
  refine kx_mna (a := 137) (N := 6) (K := 6) hx hb hown (tw (.classLink "CryGorgeModel" 26 "[[I") (by decide +kernel) rfl) hN.1 (tw (.arrayClass .int) (by decide +kernel) rfl) hK hP hz hS rfl (by decide) (by decide) (by decide) (by decide) (by decide) (by decide) (by decide) (by decide) (fun j hj => ⟨((by decide +kernel : ∀ j, j < 6 → ix_k (137 + 1 + j) = 1 ∧ ix_n (137 + 1 + j) = 6) j hj).1, ((by decide +kernel : ∀ j, j < 6 → ix_k (137 + 1 + j) = 1 ∧ ix_n (137 + 1 + j) = 6) j hj).2, (Fzz_lo (by omega)).trans (kzf_11 _ ((by decide +kernel : ∀ j, j < 6 → kin 92 (137 + 1 + j) = false) j hj) (by omega))⟩) (Nat.le_of_ble_eq_true rfl) (Nat.le_of_ble_eq_true rfl) (by decide +kernel) (fun H hP hz hS => ?_)
  refine W.widen (k := 43) (n := 736) (Nat.le_of_ble_eq_true rfl) (Nat.le_of_ble_eq_true rfl) ?_
  have hP : va_P D vwCl (ix_ws (kG g 86) (kad lo b sa) (kids 135) (Fzz w kz_11)) H := hP
  have hz : H.size = lo + 135 := hz
  refine kx_putF (i := 91) (a := 100) (k := 17) (j := 128) (v := 137) (ci := 12) (C := RX12) (T := TX12) (N := 50) (ty := tyX12 17) hx hb hts hown hK hP hz hS (by decide) (by decide) rfl (by decide) (by decide) rfl (by decide) (tw (.fieldLink "CryGorgeModel" 40 "CryGorgeModel" "readPath" "[[I") (by decide +kernel) rfl) rfl rfl hin rfl (tyX12_ok 17 (by decide)) (fun _ => rfl) (fun _ => rfl) (by decide) (by decide) rfl (by decide) (by decide +kernel) (fun H locs hP hz hS => ?_)
  have hK : va_K D vwCl (ix_tys (kG g 87)) s := hK
  refine lv_aload_n (k := 0) hx hb (by decide +kernel) rfl (lv_at hl 0 rfl) ?_
  refine lv_bipush (n := 6) (v := nI 6) hx hb (by decide +kernel) (by decide) ?_
  refine lv_bipush (n := 6) (v := nI 6) hx hb (by decide +kernel) (by decide) ?_
  refine kx_mna (a := 144) (N := 6) (K := 6) hx hb hown (tw (.classLink "CryGorgeModel" 26 "[[I") (by decide +kernel) rfl) hN.1 (tw (.arrayClass .int) (by decide +kernel) rfl) hK hP hz hS rfl (by decide) (by decide) (by decide) (by decide) (by decide) (by decide) (by decide) (by decide) (fun j hj => ⟨((by decide +kernel : ∀ j, j < 6 → ix_k (144 + 1 + j) = 1 ∧ ix_n (144 + 1 + j) = 6) j hj).1, ((by decide +kernel : ∀ j, j < 6 → ix_k (144 + 1 + j) = 1 ∧ ix_n (144 + 1 + j) = 6) j hj).2, (Fzz_lo (by omega)).trans (kzf_11 _ ((by decide +kernel : ∀ j, j < 6 → kin 92 (144 + 1 + j) = false) j hj) (by omega))⟩) (Nat.le_of_ble_eq_true rfl) (Nat.le_of_ble_eq_true rfl) (by decide +kernel) (fun H hP hz hS => ?_)
  refine W.widen (k := 50) (n := 778) (Nat.le_of_ble_eq_true rfl) (Nat.le_of_ble_eq_true rfl) ?_
  have hP : va_P D vwCl (ix_ws (kG g 87) (kad lo b sa) (kids 142) (Fzz w kz_11)) H := hP
  have hz : H.size = lo + 142 := hz
  refine kx_putF (i := 91) (a := 100) (k := 18) (j := 135) (v := 144) (ci := 12) (C := RX12) (T := TX12) (N := 50) (ty := tyX12 18) hx hb hts hown hK hP hz hS (by decide) (by decide) rfl (by decide) (by decide) rfl (by decide) (tw (.fieldLink "CryGorgeModel" 43 "CryGorgeModel" "path" "[[I") (by decide +kernel) rfl) rfl rfl hin rfl (tyX12_ok 18 (by decide)) (fun _ => rfl) (fun _ => rfl) (by decide) (by decide) rfl (by decide) (by decide +kernel) (fun H locs hP hz hS => ?_)
  have hK : va_K D vwCl (ix_tys (kG g 88)) s := hK
  refine lv_aload_n (k := 0) hx hb (by decide +kernel) rfl (lv_at hl 0 rfl) ?_
  refine lv_bipush (n := 6) (v := nI 6) hx hb (by decide +kernel) (by decide) ?_
  refine lv_bipush (n := 6) (v := nI 6) hx hb (by decide +kernel) (by decide) ?_
  refine kx_mna (a := 151) (N := 6) (K := 6) hx hb hown (tw (.classLink "CryGorgeModel" 26 "[[I") (by decide +kernel) rfl) hN.1 (tw (.arrayClass .int) (by decide +kernel) rfl) hK hP hz hS rfl (by decide) (by decide) (by decide) (by decide) (by decide) (by decide) (by decide) (by decide) (fun j hj => ⟨((by decide +kernel : ∀ j, j < 6 → ix_k (151 + 1 + j) = 1 ∧ ix_n (151 + 1 + j) = 6) j hj).1, ((by decide +kernel : ∀ j, j < 6 → ix_k (151 + 1 + j) = 1 ∧ ix_n (151 + 1 + j) = 6) j hj).2, (Fzz_lo (by omega)).trans (kzf_11 _ ((by decide +kernel : ∀ j, j < 6 → kin 92 (151 + 1 + j) = false) j hj) (by omega))⟩) (Nat.le_of_ble_eq_true rfl) (Nat.le_of_ble_eq_true rfl) (by decide +kernel) (fun H hP hz hS => ?_)
  refine W.widen (k := 57) (n := 820) (Nat.le_of_ble_eq_true rfl) (Nat.le_of_ble_eq_true rfl) ?_
  have hP : va_P D vwCl (ix_ws (kG g 88) (kad lo b sa) (kids 149) (Fzz w kz_11)) H := hP
  have hz : H.size = lo + 149 := hz
  refine kx_putF (i := 91) (a := 100) (k := 19) (j := 142) (v := 151) (ci := 12) (C := RX12) (T := TX12) (N := 50) (ty := tyX12 19) hx hb hts hown hK hP hz hS (by decide) (by decide) rfl (by decide) (by decide) rfl (by decide) (tw (.fieldLink "CryGorgeModel" 46 "CryGorgeModel" "far" "[[I") (by decide +kernel) rfl) rfl rfl hin rfl (tyX12_ok 19 (by decide)) (fun _ => rfl) (fun _ => rfl) (by decide) (by decide) rfl (by decide) (by decide +kernel) (fun H locs hP hz hS => ?_)
  have hK : va_K D vwCl (ix_tys (kG g 89)) s := hK
  refine lv_aload_n (k := 0) hx hb (by decide +kernel) rfl (lv_at hl 0 rfl) ?_
  refine lv_sipush (n := 160) (v := nI 160) hx hb (by decide +kernel) (by decide) ?_
  refine lv_iconst (n := 2) (v := nI 2) hx hb (by decide +kernel) (by decide) ?_
  refine kx_mna (a := 158) (N := 160) (K := 2) hx hb hown (tw (.classLink "CryGorgeModel" 26 "[[I") (by decide +kernel) rfl) hN.1 (tw (.arrayClass .int) (by decide +kernel) rfl) hK hP hz hS rfl (by decide) (by decide) (by decide) (by decide) (by decide) (by decide) (by decide) (by decide) (fun j hj => ⟨((by decide +kernel : ∀ j, j < 160 → ix_k (158 + 1 + j) = 1 ∧ ix_n (158 + 1 + j) = 2) j hj).1, ((by decide +kernel : ∀ j, j < 160 → ix_k (158 + 1 + j) = 1 ∧ ix_n (158 + 1 + j) = 2) j hj).2, (Fzz_lo (by omega)).trans (kzf_11 _ ((by decide +kernel : ∀ j, j < 160 → kin 92 (158 + 1 + j) = false) j hj) (by omega))⟩) (Nat.le_of_ble_eq_true rfl) (Nat.le_of_ble_eq_true rfl) (by decide +kernel) (fun H hP hz hS => ?_)
  refine W.widen (k := 218) (n := 1300) (Nat.le_of_ble_eq_true rfl) (Nat.le_of_ble_eq_true rfl) ?_
  have hP : va_P D vwCl (ix_ws (kG g 89) (kad lo b sa) (kids 310) (Fzz w kz_11)) H := hP
  have hz : H.size = lo + 310 := hz
  refine kx_putF (i := 91) (a := 100) (k := 22) (j := 149) (v := 158) (ci := 12) (C := RX12) (T := TX12) (N := 50) (ty := tyX12 22) hx hb hts hown hK hP hz hS (by decide) (by decide) rfl (by decide) (by decide) rfl (by decide) (tw (.fieldLink "CryGorgeModel" 49 "CryGorgeModel" "law" "[[I") (by decide +kernel) rfl) rfl rfl hin rfl (tyX12_ok 22 (by decide)) (fun _ => rfl) (fun _ => rfl) (by decide) (by decide) rfl (by decide) (by decide +kernel) (fun H locs hP hz hS => ?_)
  have hK : va_K D vwCl (ix_tys (kG g 90)) s := hK
  refine lv_aload_n (k := 0) hx hb (by decide +kernel) rfl (lv_at hl 0 rfl) ?_
  refine lv_sipush (n := 160) (v := nI 160) hx hb (by decide +kernel) (by decide) ?_
  refine lv_iconst (n := 2) (v := nI 2) hx hb (by decide +kernel) (by decide) ?_
  refine kx_mna (a := 319) (N := 160) (K := 2) hx hb hown (tw (.classLink "CryGorgeModel" 26 "[[I") (by decide +kernel) rfl) hN.1 (tw (.arrayClass .int) (by decide +kernel) rfl) hK hP hz hS rfl (by decide) (by decide) (by decide) (by decide) (by decide) (by decide) (by decide) (by decide) (fun j hj => ⟨((by decide +kernel : ∀ j, j < 160 → ix_k (319 + 1 + j) = 1 ∧ ix_n (319 + 1 + j) = 2) j hj).1, ((by decide +kernel : ∀ j, j < 160 → ix_k (319 + 1 + j) = 1 ∧ ix_n (319 + 1 + j) = 2) j hj).2, (Fzz_lo (by omega)).trans (kzf_11 _ ((by decide +kernel : ∀ j, j < 160 → kin 92 (319 + 1 + j) = false) j hj) (by omega))⟩) (Nat.le_of_ble_eq_true rfl) (Nat.le_of_ble_eq_true rfl) (by decide +kernel) (fun H hP hz hS => ?_)
  refine W.widen (k := 379) (n := 1780) (Nat.le_of_ble_eq_true rfl) (Nat.le_of_ble_eq_true rfl) ?_
  have hP : va_P D vwCl (ix_ws (kG g 90) (kad lo b sa) (kids 471) (Fzz w kz_11)) H := hP
  have hz : H.size = lo + 471 := hz
  refine kx_putF (i := 91) (a := 100) (k := 23) (j := 310) (v := 319) (ci := 12) (C := RX12) (T := TX12) (N := 50) (ty := tyX12 23) hx hb hts hown hK hP hz hS (by decide) (by decide) rfl (by decide) (by decide) rfl (by decide) (tw (.fieldLink "CryGorgeModel" 52 "CryGorgeModel" "readLaw" "[[I") (by decide +kernel) rfl) rfl rfl hin rfl (tyX12_ok 23 (by decide)) (fun _ => rfl) (fun _ => rfl) (by decide) (by decide) rfl (by decide) (by decide +kernel) (fun H locs hP hz hS => ?_)
  have hK : va_K D vwCl (ix_tys (kG g 91)) s := hK
  refine lv_aload_n (k := 0) hx hb (by decide +kernel) rfl (lv_at hl 0 rfl) ?_
  refine lv_bipush (n := 6) (v := nI 6) hx hb (by decide +kernel) (by decide) ?_
  refine lv_iconst (n := 2) (v := nI 2) hx hb (by decide +kernel) (by decide) ?_
  refine kx_mna (a := 480) (N := 6) (K := 2) hx hb hown (tw (.classLink "CryGorgeModel" 26 "[[I") (by decide +kernel) rfl) hN.1 (tw (.arrayClass .int) (by decide +kernel) rfl) hK hP hz hS rfl (by decide) (by decide) (by decide) (by decide) (by decide) (by decide) (by decide) (by decide) (fun j hj => ⟨((by decide +kernel : ∀ j, j < 6 → ix_k (480 + 1 + j) = 1 ∧ ix_n (480 + 1 + j) = 2) j hj).1, ((by decide +kernel : ∀ j, j < 6 → ix_k (480 + 1 + j) = 1 ∧ ix_n (480 + 1 + j) = 2) j hj).2, (Fzz_lo (by omega)).trans (kzf_11 _ ((by decide +kernel : ∀ j, j < 6 → kin 92 (480 + 1 + j) = false) j hj) (by omega))⟩) (Nat.le_of_ble_eq_true rfl) (Nat.le_of_ble_eq_true rfl) (by decide +kernel) (fun H hP hz hS => ?_)
  refine W.widen (k := 386) (n := 1798) (Nat.le_of_ble_eq_true rfl) (Nat.le_of_ble_eq_true rfl) ?_
  have hP : va_P D vwCl (ix_ws (kG g 91) (kad lo b sa) (kids 478) (Fzz w kz_11)) H := hP
  have hz : H.size = lo + 478 := hz
  refine kx_putF (i := 91) (a := 100) (k := 24) (j := 471) (v := 480) (ci := 12) (C := RX12) (T := TX12) (N := 50) (ty := tyX12 24) hx hb hts hown hK hP hz hS (by decide) (by decide) rfl (by decide) (by decide) rfl (by decide) (tw (.fieldLink "CryGorgeModel" 55 "CryGorgeModel" "line" "[[I") (by decide +kernel) rfl) rfl rfl hin rfl (tyX12_ok 24 (by decide)) (fun _ => rfl) (fun _ => rfl) (by decide) (by decide) rfl (by decide) (by decide +kernel) (fun H locs hP hz hS => ?_)
  have hK : va_K D vwCl (ix_tys (kG g 92)) s := hK
  refine lv_aload_n (k := 0) hx hb (by decide +kernel) rfl (lv_at hl 0 rfl) ?_
  refine lv_bipush (n := 6) (v := nI 6) hx hb (by decide +kernel) (by decide) ?_
  refine lv_iconst (n := 2) (v := nI 2) hx hb (by decide +kernel) (by decide) ?_
  refine kx_mna (a := 487) (N := 6) (K := 2) hx hb hown (tw (.classLink "CryGorgeModel" 26 "[[I") (by decide +kernel) rfl) hN.1 (tw (.arrayClass .int) (by decide +kernel) rfl) hK hP hz hS rfl (by decide) (by decide) (by decide) (by decide) (by decide) (by decide) (by decide) (by decide) (fun j hj => ⟨((by decide +kernel : ∀ j, j < 6 → ix_k (487 + 1 + j) = 1 ∧ ix_n (487 + 1 + j) = 2) j hj).1, ((by decide +kernel : ∀ j, j < 6 → ix_k (487 + 1 + j) = 1 ∧ ix_n (487 + 1 + j) = 2) j hj).2, (Fzz_lo (by omega)).trans (kzf_11 _ ((by decide +kernel : ∀ j, j < 6 → kin 92 (487 + 1 + j) = false) j hj) (by omega))⟩) (Nat.le_of_ble_eq_true rfl) (Nat.le_of_ble_eq_true rfl) (by decide +kernel) (fun H hP hz hS => ?_)
  refine W.widen (k := 393) (n := 1816) (Nat.le_of_ble_eq_true rfl) (Nat.le_of_ble_eq_true rfl) ?_
  have hP : va_P D vwCl (ix_ws (kG g 92) (kad lo b sa) (kids 485) (Fzz w kz_11)) H := hP
  have hz : H.size = lo + 485 := hz
  refine kx_putF (i := 91) (a := 100) (k := 25) (j := 478) (v := 487) (ci := 12) (C := RX12) (T := TX12) (N := 50) (ty := tyX12 25) hx hb hts hown hK hP hz hS (by decide) (by decide) rfl (by decide) (by decide) rfl (by decide) (tw (.fieldLink "CryGorgeModel" 58 "CryGorgeModel" "readLine" "[[I") (by decide +kernel) rfl) rfl rfl hin rfl (tyX12_ok 25 (by decide)) (fun _ => rfl) (fun _ => rfl) (by decide) (by decide) rfl (by decide) (by decide +kernel) (fun H locs hP hz hS => ?_)
  have hK : va_K D vwCl (ix_tys (kG g 93)) s := hK
  refine lv_aload_n (k := 0) hx hb (by decide +kernel) rfl (lv_at hl 0 rfl) ?_
  refine lv_sipush (n := 160) (v := nI 160) hx hb (by decide +kernel) (by decide) ?_
  refine kx_nI (a := 494) hx hb (tw (.arrayClass .int) (by decide +kernel) rfl) hK rfl (by decide) ((Fzz_lo (by decide)).trans (kzf_11 494 (by decide) (by decide))) (by decide) hP hz hS (by decide) (by decide) (by decide) (Nat.le_of_ble_eq_true rfl) (Nat.le_of_ble_eq_true rfl) (by decide +kernel) (fun H hP hz hS => ?_)
  refine W.widen (k := 394) (n := 1976) (Nat.le_of_ble_eq_true rfl) (Nat.le_of_ble_eq_true rfl) ?_
  refine kx_putF (i := 91) (a := 100) (k := 26) (j := 485) (v := 494) (ci := 12) (C := RX12) (T := TX12) (N := 50) (ty := tyX12 26) hx hb hts hown hK hP hz hS (by decide) (by decide) rfl (by decide) (by decide) rfl (by decide) (tw (.fieldLink "CryGorgeModel" 61 "CryGorgeModel" "stack" "[I") (by decide +kernel) rfl) rfl rfl hin rfl (tyX12_ok 26 (by decide)) (fun _ => rfl) (fun _ => rfl) (by decide) (by decide) rfl (by decide) (by decide +kernel) (fun H locs hP hz hS => ?_)
  have hK : va_K D vwCl (ix_tys (kG g 94)) s := hK
  refine lv_aload_n (k := 0) hx hb (by decide +kernel) rfl (lv_at hl 0 rfl) ?_
  refine lv_bipush (n := 8) (v := nI 8) hx hb (by decide +kernel) (by decide) ?_
  refine kx_nI (a := 495) hx hb (tw (.arrayClass .int) (by decide +kernel) rfl) hK rfl (by decide) ((Fzz_lo (by decide)).trans (kzf_11 495 (by decide) (by decide))) (by decide) hP hz hS (by decide) (by decide) (by decide) (Nat.le_of_ble_eq_true rfl) (Nat.le_of_ble_eq_true rfl) (by decide +kernel) (fun H hP hz hS => ?_)
  refine W.widen (k := 395) (n := 1984) (Nat.le_of_ble_eq_true rfl) (Nat.le_of_ble_eq_true rfl) ?_
  refine kx_putF (i := 91) (a := 100) (k := 27) (j := 486) (v := 495) (ci := 12) (C := RX12) (T := TX12) (N := 50) (ty := tyX12 27) hx hb hts hown hK hP hz hS (by decide) (by decide) rfl (by decide) (by decide) rfl (by decide) (tw (.fieldLink "CryGorgeModel" 64 "CryGorgeModel" "known" "[I") (by decide +kernel) rfl) rfl rfl hin rfl (tyX12_ok 27 (by decide)) (fun _ => rfl) (fun _ => rfl) (by decide) (by decide) rfl (by decide) (by decide +kernel) (fun H locs hP hz hS => ?_)
  have hK : va_K D vwCl (ix_tys (kG g 95)) s := hK
  refine lv_aload_n (k := 0) hx hb (by decide +kernel) rfl (lv_at hl 0 rfl) ?_
  refine lv_bipush (n := 80) (v := nI 80) hx hb (by decide +kernel) (by decide) ?_
  refine lv_iconst (n := 4) (v := nI 4) hx hb (by decide +kernel) (by decide) ?_
  refine kx_mna (a := 496) (N := 80) (K := 4) hx hb hown (tw (.classLink "CryGorgeModel" 26 "[[I") (by decide +kernel) rfl) hN.1 (tw (.arrayClass .int) (by decide +kernel) rfl) hK hP hz hS rfl (by decide) (by decide) (by decide) (by decide) (by decide) (by decide) (by decide) (by decide) (fun j hj => ⟨((by decide +kernel : ∀ j, j < 80 → ix_k (496 + 1 + j) = 1 ∧ ix_n (496 + 1 + j) = 4) j hj).1, ((by decide +kernel : ∀ j, j < 80 → ix_k (496 + 1 + j) = 1 ∧ ix_n (496 + 1 + j) = 4) j hj).2, (Fzz_lo (by omega)).trans (kzf_11 _ ((by decide +kernel : ∀ j, j < 80 → kin 92 (496 + 1 + j) = false) j hj) (by omega))⟩) (Nat.le_of_ble_eq_true rfl) (Nat.le_of_ble_eq_true rfl) (by decide +kernel) (fun H hP hz hS => ?_)
  refine W.widen (k := 476) (n := 2384) (Nat.le_of_ble_eq_true rfl) (Nat.le_of_ble_eq_true rfl) ?_
  have hP : va_P D vwCl (ix_ws (kG g 95) (kad lo b sa) (kids 568) (Fzz w kz_11)) H := hP
  have hz : H.size = lo + 568 := hz
  refine kx_putF (i := 91) (a := 100) (k := 28) (j := 487) (v := 496) (ci := 12) (C := RX12) (T := TX12) (N := 50) (ty := tyX12 28) hx hb hts hown hK hP hz hS (by decide) (by decide) rfl (by decide) (by decide) rfl (by decide) (tw (.fieldLink "CryGorgeModel" 67 "CryGorgeModel" "step" "[[I") (by decide +kernel) rfl) rfl rfl hin rfl (tyX12_ok 28 (by decide)) (fun _ => rfl) (fun _ => rfl) (by decide) (by decide) rfl (by decide) (by decide +kernel) (fun H locs hP hz hS => ?_)
  have hK : va_K D vwCl (ix_tys (kG g 96)) s := hK
  refine lv_aload_n (k := 0) hx hb (by decide +kernel) rfl (lv_at hl 0 rfl) ?_
  refine lv_bipush (n := 32) (v := nI 32) hx hb (by decide +kernel) (by decide) ?_
  refine kx_nI (a := 577) hx hb (tw (.arrayClass .int) (by decide +kernel) rfl) hK rfl (by decide) ((Fzz_lo (by decide)).trans (kzf_11 577 (by decide) (by decide))) (by decide) hP hz hS (by decide) (by decide) (by decide) (Nat.le_of_ble_eq_true rfl) (Nat.le_of_ble_eq_true rfl) (by decide +kernel) (fun H hP hz hS => ?_)
  refine W.widen (k := 477) (n := 2416) (Nat.le_of_ble_eq_true rfl) (Nat.le_of_ble_eq_true rfl) ?_
  refine kx_putF (i := 91) (a := 100) (k := 30) (j := 568) (v := 577) (ci := 12) (C := RX12) (T := TX12) (N := 50) (ty := tyX12 30) hx hb hts hown hK hP hz hS (by decide) (by decide) rfl (by decide) (by decide) rfl (by decide) (tw (.fieldLink "CryGorgeModel" 70 "CryGorgeModel" "now" "[I") (by decide +kernel) rfl) rfl rfl hin rfl (tyX12_ok 30 (by decide)) (fun _ => rfl) (fun _ => rfl) (by decide) (by decide) rfl (by decide) (by decide +kernel) (fun H locs hP hz hS => ?_)
  have hK : va_K D vwCl (ix_tys (kG g 97)) s := hK
  refine lv_aload_n (k := 0) hx hb (by decide +kernel) rfl (lv_at hl 0 rfl) ?_
  refine lv_bipush (n := 32) (v := nI 32) hx hb (by decide +kernel) (by decide) ?_
  refine kx_nI (a := 578) hx hb (tw (.arrayClass .int) (by decide +kernel) rfl) hK rfl (by decide) ((Fzz_lo (by decide)).trans (kzf_11 578 (by decide) (by decide))) (by decide) hP hz hS (by decide) (by decide) (by decide) (Nat.le_of_ble_eq_true rfl) (Nat.le_of_ble_eq_true rfl) (by decide +kernel) (fun H hP hz hS => ?_)
  refine W.widen (k := 478) (n := 2448) (Nat.le_of_ble_eq_true rfl) (Nat.le_of_ble_eq_true rfl) ?_
  refine kx_putF (i := 91) (a := 100) (k := 31) (j := 569) (v := 578) (ci := 12) (C := RX12) (T := TX12) (N := 50) (ty := tyX12 31) hx hb hts hown hK hP hz hS (by decide) (by decide) rfl (by decide) (by decide) rfl (by decide) (tw (.fieldLink "CryGorgeModel" 73 "CryGorgeModel" "trial" "[I") (by decide +kernel) rfl) rfl rfl hin rfl (tyX12_ok 31 (by decide)) (fun _ => rfl) (fun _ => rfl) (by decide) (by decide) rfl (by decide) (by decide +kernel) (fun H locs hP hz hS => ?_)
  have hK : va_K D vwCl (ix_tys (kG g 98)) s := hK
  refine lv_aload_n (k := 0) hx hb (by decide +kernel) rfl (lv_at hl 0 rfl) ?_
  refine lv_bipush (n := 8) (v := nI 8) hx hb (by decide +kernel) (by decide) ?_
  refine kx_nI (a := 579) hx hb (tw (.arrayClass .int) (by decide +kernel) rfl) hK rfl (by decide) ((Fzz_lo (by decide)).trans (kzf_11 579 (by decide) (by decide))) (by decide) hP hz hS (by decide) (by decide) (by decide) (Nat.le_of_ble_eq_true rfl) (Nat.le_of_ble_eq_true rfl) (by decide +kernel) (fun H hP hz hS => ?_)
  refine W.widen (k := 479) (n := 2456) (Nat.le_of_ble_eq_true rfl) (Nat.le_of_ble_eq_true rfl) ?_
  refine kx_putF (i := 91) (a := 100) (k := 32) (j := 570) (v := 579) (ci := 12) (C := RX12) (T := TX12) (N := 50) (ty := tyX12 32) hx hb hts hown hK hP hz hS (by decide) (by decide) rfl (by decide) (by decide) rfl (by decide) (tw (.fieldLink "CryGorgeModel" 76 "CryGorgeModel" "lost" "[I") (by decide +kernel) rfl) rfl rfl hin rfl (tyX12_ok 32 (by decide)) (fun _ => rfl) (fun _ => rfl) (by decide) (by decide) rfl (by decide) (by decide +kernel) (fun H locs hP hz hS => ?_)
  have hK : va_K D vwCl (ix_tys (kG g 99)) s := hK
  refine lv_aload_n (k := 0) hx hb (by decide +kernel) rfl (lv_at hl 0 rfl) ?_
  refine lv_bipush (n := 16) (v := nI 16) hx hb (by decide +kernel) (by decide) ?_
  refine lv_bipush (n := 32) (v := nI 32) hx hb (by decide +kernel) (by decide) ?_
  refine kx_mna (a := 580) (N := 16) (K := 32) hx hb hown (tw (.classLink "CryGorgeModel" 26 "[[I") (by decide +kernel) rfl) hN.1 (tw (.arrayClass .int) (by decide +kernel) rfl) hK hP hz hS rfl (by decide) (by decide) (by decide) (by decide) (by decide) (by decide) (by decide) (by decide) (fun j hj => ⟨((by decide +kernel : ∀ j, j < 16 → ix_k (580 + 1 + j) = 1 ∧ ix_n (580 + 1 + j) = 32) j hj).1, ((by decide +kernel : ∀ j, j < 16 → ix_k (580 + 1 + j) = 1 ∧ ix_n (580 + 1 + j) = 32) j hj).2, (Fzz_lo (by omega)).trans (kzf_11 _ ((by decide +kernel : ∀ j, j < 16 → kin 92 (580 + 1 + j) = false) j hj) (by omega))⟩) (Nat.le_of_ble_eq_true rfl) (Nat.le_of_ble_eq_true rfl) (by decide +kernel) (fun H hP hz hS => ?_)
  refine W.widen (k := 496) (n := 2984) (Nat.le_of_ble_eq_true rfl) (Nat.le_of_ble_eq_true rfl) ?_
  have hP : va_P D vwCl (ix_ws (kG g 99) (kad lo b sa) (kids 588) (Fzz w kz_11)) H := hP
  have hz : H.size = lo + 588 := hz
  refine kx_putF (i := 91) (a := 100) (k := 33) (j := 571) (v := 580) (ci := 12) (C := RX12) (T := TX12) (N := 50) (ty := tyX12 33) hx hb hts hown hK hP hz hS (by decide) (by decide) rfl (by decide) (by decide) rfl (by decide) (tw (.fieldLink "CryGorgeModel" 79 "CryGorgeModel" "before" "[[I") (by decide +kernel) rfl) rfl rfl hin rfl (tyX12_ok 33 (by decide)) (fun _ => rfl) (fun _ => rfl) (by decide) (by decide) rfl (by decide) (by decide +kernel) (fun H locs hP hz hS => ?_)
  have hK : va_K D vwCl (ix_tys (kG g 100)) s := hK
  refine lv_aload_n (k := 0) hx hb (by decide +kernel) rfl (lv_at hl 0 rfl) ?_
  refine lv_iconst (n := 3) (v := nI 3) hx hb (by decide +kernel) (by decide) ?_
  refine lv_sipush (n := 545) (v := nI 545) hx hb (by decide +kernel) (by decide) ?_
  refine kx_mna (a := 597) (N := 3) (K := 545) hx hb hown (tw (.classLink "CryGorgeModel" 26 "[[I") (by decide +kernel) rfl) hN.1 (tw (.arrayClass .int) (by decide +kernel) rfl) hK hP hz hS rfl (by decide) (by decide) (by decide) (by decide) (by decide) (by decide) (by decide) (by decide) (fun j hj => ⟨((by decide +kernel : ∀ j, j < 3 → ix_k (597 + 1 + j) = 1 ∧ ix_n (597 + 1 + j) = 545) j hj).1, ((by decide +kernel : ∀ j, j < 3 → ix_k (597 + 1 + j) = 1 ∧ ix_n (597 + 1 + j) = 545) j hj).2, (Fzz_lo (by omega)).trans (kzf_11 _ ((by decide +kernel : ∀ j, j < 3 → kin 92 (597 + 1 + j) = false) j hj) (by omega))⟩) (Nat.le_of_ble_eq_true rfl) (Nat.le_of_ble_eq_true rfl) (by decide +kernel) (fun H hP hz hS => ?_)
  refine W.widen (k := 500) (n := 4622) (Nat.le_of_ble_eq_true rfl) (Nat.le_of_ble_eq_true rfl) ?_
  have hP : va_P D vwCl (ix_ws (kG g 100) (kad lo b sa) (kids 592) (Fzz w kz_11)) H := hP
  have hz : H.size = lo + 592 := hz
  refine kx_putF (i := 91) (a := 100) (k := 34) (j := 588) (v := 597) (ci := 12) (C := RX12) (T := TX12) (N := 50) (ty := tyX12 34) hx hb hts hown hK hP hz hS (by decide) (by decide) rfl (by decide) (by decide) rfl (by decide) (tw (.fieldLink "CryGorgeModel" 82 "CryGorgeModel" "kept" "[[I") (by decide +kernel) rfl) rfl rfl hin rfl (tyX12_ok 34 (by decide)) (fun _ => rfl) (fun _ => rfl) (by decide) (by decide) rfl (by decide) (by decide +kernel) (fun H locs hP hz hS => ?_)
  have hK : va_K D vwCl (ix_tys (kG g 101)) s := hK
  refine lv_aload_n (k := 0) hx hb (by decide +kernel) rfl (lv_at hl 0 rfl) ?_
  refine lv_bipush (n := 8) (v := nI 8) hx hb (by decide +kernel) (by decide) ?_
  refine kx_nI (a := 601) hx hb (tw (.arrayClass .int) (by decide +kernel) rfl) hK rfl (by decide) ((Fzz_lo (by decide)).trans (kzf_11 601 (by decide) (by decide))) (by decide) hP hz hS (by decide) (by decide) (by decide) (Nat.le_of_ble_eq_true rfl) (Nat.le_of_ble_eq_true rfl) (by decide +kernel) (fun H hP hz hS => ?_)
  refine W.widen (k := 501) (n := 4630) (Nat.le_of_ble_eq_true rfl) (Nat.le_of_ble_eq_true rfl) ?_
  refine kx_putF (i := 91) (a := 100) (k := 42) (j := 592) (v := 601) (ci := 12) (C := RX12) (T := TX12) (N := 50) (ty := tyX12 42) hx hb hts hown hK hP hz hS (by decide) (by decide) rfl (by decide) (by decide) rfl (by decide) (tw (.fieldLink "CryGorgeModel" 85 "CryGorgeModel" "bestAt" "[I") (by decide +kernel) rfl) rfl rfl hin rfl (tyX12_ok 42 (by decide)) (fun _ => rfl) (fun _ => rfl) (by decide) (by decide) rfl (by decide) (by decide +kernel) (fun H locs hP hz hS => ?_)
  have hK : va_K D vwCl (ix_tys (kG g 102)) s := hK
  refine lv_aload_n (k := 0) hx hb (by decide +kernel) rfl (lv_at hl 0 rfl) ?_
  refine lv_bipush (n := 100) (v := nI 100) hx hb (by decide +kernel) (by decide) ?_
  refine kx_nI (a := 602) hx hb (tw (.arrayClass .int) (by decide +kernel) rfl) hK rfl (by decide) ((Fzz_lo (by decide)).trans (kzf_11 602 (by decide) (by decide))) (by decide) hP hz hS (by decide) (by decide) (by decide) (Nat.le_of_ble_eq_true rfl) (Nat.le_of_ble_eq_true rfl) (by decide +kernel) (fun H hP hz hS => ?_)
  refine W.widen (k := 502) (n := 4730) (Nat.le_of_ble_eq_true rfl) (Nat.le_of_ble_eq_true rfl) ?_
  refine kx_putF (i := 91) (a := 100) (k := 44) (j := 593) (v := 602) (ci := 12) (C := RX12) (T := TX12) (N := 50) (ty := tyX12 44) hx hb hts hown hK hP hz hS (by decide) (by decide) rfl (by decide) (by decide) rfl (by decide) (tw (.fieldLink "CryGorgeModel" 88 "CryGorgeModel" "times" "[I") (by decide +kernel) rfl) rfl rfl hin rfl (tyX12_ok 44 (by decide)) (fun _ => rfl) (fun _ => rfl) (by decide) (by decide) rfl (by decide) (by decide +kernel) (fun H locs hP hz hS => ?_)
  have hK : va_K D vwCl (ix_tys (kG g 103)) s := hK
  refine lv_aload_n (k := 0) hx hb (by decide +kernel) rfl (lv_at hl 0 rfl) ?_
  refine lv_bipush (n := 48) (v := nI 48) hx hb (by decide +kernel) (by decide) ?_
  refine lv_bipush (n := 41) (v := nI 41) hx hb (by decide +kernel) (by decide) ?_
  refine kx_mna (a := 603) (N := 48) (K := 41) hx hb hown (tw (.classLink "CryGorgeModel" 26 "[[I") (by decide +kernel) rfl) hN.1 (tw (.arrayClass .int) (by decide +kernel) rfl) hK hP hz hS rfl (by decide) (by decide) (by decide) (by decide) (by decide) (by decide) (by decide) (by decide) (fun j hj => ⟨((by decide +kernel : ∀ j, j < 48 → ix_k (603 + 1 + j) = 1 ∧ ix_n (603 + 1 + j) = 41) j hj).1, ((by decide +kernel : ∀ j, j < 48 → ix_k (603 + 1 + j) = 1 ∧ ix_n (603 + 1 + j) = 41) j hj).2, (Fzz_lo (by omega)).trans (kzf_11 _ ((by decide +kernel : ∀ j, j < 48 → kin 92 (603 + 1 + j) = false) j hj) (by omega))⟩) (Nat.le_of_ble_eq_true rfl) (Nat.le_of_ble_eq_true rfl) (by decide +kernel) (fun H hP hz hS => ?_)
  refine W.widen (k := 551) (n := 6746) (Nat.le_of_ble_eq_true rfl) (Nat.le_of_ble_eq_true rfl) ?_
  have hP : va_P D vwCl (ix_ws (kG g 103) (kad lo b sa) (kids 643) (Fzz w kz_11)) H := hP
  have hz : H.size = lo + 643 := hz
  refine kx_putF (i := 91) (a := 100) (k := 45) (j := 594) (v := 603) (ci := 12) (C := RX12) (T := TX12) (N := 50) (ty := tyX12 45) hx hb hts hown hK hP hz hS (by decide) (by decide) rfl (by decide) (by decide) rfl (by decide) (tw (.fieldLink "CryGorgeModel" 91 "CryGorgeModel" "heardAt" "[[I") (by decide +kernel) rfl) rfl rfl hin rfl (tyX12_ok 45 (by decide)) (fun _ => rfl) (fun _ => rfl) (by decide) (by decide) rfl (by decide) (by decide +kernel) (fun H locs hP hz hS => ?_)
  have hK : va_K D vwCl (ix_tys (kG g 104)) s := hK
  refine lv_aload_n (k := 0) hx hb (by decide +kernel) rfl (lv_at hl 0 rfl) ?_
  refine lv_bipush (n := 64) (v := nI 64) hx hb (by decide +kernel) (by decide) ?_
  refine lv_bipush (n := 6) (v := nI 6) hx hb (by decide +kernel) (by decide) ?_
  refine kx_mna (a := 652) (N := 64) (K := 6) hx hb hown (tw (.classLink "CryGorgeModel" 26 "[[I") (by decide +kernel) rfl) hN.1 (tw (.arrayClass .int) (by decide +kernel) rfl) hK hP hz hS rfl (by decide) (by decide) (by decide) (by decide) (by decide) (by decide) (by decide) (by decide) (fun j hj => ⟨((by decide +kernel : ∀ j, j < 64 → ix_k (652 + 1 + j) = 1 ∧ ix_n (652 + 1 + j) = 6) j hj).1, ((by decide +kernel : ∀ j, j < 64 → ix_k (652 + 1 + j) = 1 ∧ ix_n (652 + 1 + j) = 6) j hj).2, (Fzz_lo (by omega)).trans (kzf_11 _ ((by decide +kernel : ∀ j, j < 64 → kin 92 (652 + 1 + j) = false) j hj) (by omega))⟩) (Nat.le_of_ble_eq_true rfl) (Nat.le_of_ble_eq_true rfl) (by decide +kernel) (fun H hP hz hS => ?_)
  refine W.widen (k := 616) (n := 7194) (Nat.le_of_ble_eq_true rfl) (Nat.le_of_ble_eq_true rfl) ?_
  have hP : va_P D vwCl (ix_ws (kG g 104) (kad lo b sa) (kids 708) (Fzz w kz_11)) H := hP
  have hz : H.size = lo + 708 := hz
  refine kx_putF (i := 91) (a := 100) (k := 46) (j := 643) (v := 652) (ci := 12) (C := RX12) (T := TX12) (N := 50) (ty := tyX12 46) hx hb hts hown hK hP hz hS (by decide) (by decide) rfl (by decide) (by decide) rfl (by decide) (tw (.fieldLink "CryGorgeModel" 94 "CryGorgeModel" "walked" "[[I") (by decide +kernel) rfl) rfl rfl hin rfl (tyX12_ok 46 (by decide)) (fun _ => rfl) (fun _ => rfl) (by decide) (by decide) rfl (by decide) (by decide +kernel) (fun H locs hP hz hS => ?_)
  have hK : va_K D vwCl (ix_tys (kG g 105)) s := hK
  refine lv_aload_n (k := 0) hx hb (by decide +kernel) rfl (lv_at hl 0 rfl) ?_
  refine kx_call (mi := 152) (i := 91) (a := 100) (nL := 1) (own := "CryGorgeModel") (u := 105) (t := 708) (h := Fzz w kz_11) (h' := Fzz w kz_12) hl.1 hx hb hml hl0 hown hts (ix_cal_of (by decide) tb_152) (by decide) (kE_s (by decide) kb_12) (ix_gwm (show Cond.methodLink "CryGorgeModel" 97 (ix_my mt_152) ∈ lw_tbl from by decide +kernel) rfl) (ix_gwm (show Cond.instanceMethod (ix_my mt_152) ∈ lw_tbl from by decide +kernel) rfl) (ix_gwm (show Cond.selects (ix_my mt_152).cls (ix_my mt_152) (ix_my mt_152) ∈ lw_tbl from by decide +kernel) rfl) (ix_gwm (show Cond.initialized (ix_my mt_152).cls ∈ lw_tbl from by decide +kernel) rfl) (by decide +kernel) ⟨Nat.le_of_ble_eq_true rfl, Nat.le_of_ble_eq_true rfl⟩ (by decide) (by decide) rfl (by decide) (by decide +kernel) (by rw [hz0]; omega) hP hS hK hE hX (Nat.le_of_ble_eq_true rfl) (Nat.le_of_ble_eq_true rfl) (Nat.le_of_ble_eq_true rfl) (by decide +kernel) (fun H locs hP hz hS hX => ?_)
  refine lv_aload_n (k := 0) hx hb (by decide +kernel) rfl (lv_at hl 0 rfl) ?_
  refine kx_call (mi := 180) (i := 91) (a := 100) (nL := 1) (own := "CryGorgeModel") (u := 105) (t := 708) (h := Fzz w kz_12) (h' := Fzz w kz_13) hl.1 hx hb hml hl0 hown hts (ix_cal_of (by decide) tb_180) (by decide) (kE_s (by decide) kb_13) (ix_gwm (show Cond.methodLink "CryGorgeModel" 100 (ix_my mt_180) ∈ lw_tbl from by decide +kernel) rfl) (ix_gwm (show Cond.instanceMethod (ix_my mt_180) ∈ lw_tbl from by decide +kernel) rfl) (ix_gwm (show Cond.selects (ix_my mt_180).cls (ix_my mt_180) (ix_my mt_180) ∈ lw_tbl from by decide +kernel) rfl) (ix_gwm (show Cond.initialized (ix_my mt_180).cls ∈ lw_tbl from by decide +kernel) rfl) (by decide +kernel) ⟨Nat.le_of_ble_eq_true rfl, Nat.le_of_ble_eq_true rfl⟩ (by decide) (by decide) rfl (by decide) (by decide +kernel) (by rw [hz0]; omega) hP hS hK hE hX (Nat.le_of_ble_eq_true rfl) (Nat.le_of_ble_eq_true rfl) (Nat.le_of_ble_eq_true rfl) (by decide +kernel) (fun H locs hP hz hS hX => ?_)
  exact W.vret hx hb hr (fun t ht hW => ⟨⟨(), rfl, trivial, by rw [ht]; exact hz, (ix_lend hP hE hX hS ht hW.alike).1⟩, (ix_lend hP hE hX hS ht hW.alike).2⟩) hS.2.2 (by decide +kernel)
