theorem ix_tab_c99 : ∀ M ∈ ix_tab, ix_mc M < 99 := by decide +kernel
theorem ix_kz0 : ∀ a, a < 300 → (ix_k (a + 0) = 6 → 2000 ≤ a + 0 ∧ a + 0 < 2021) := by decide +kernel
theorem ix_kz1 : ∀ a, a < 300 → (ix_k (a + 300) = 6 → 2000 ≤ a + 300 ∧ a + 300 < 2021) := by decide +kernel
theorem ix_kz2 : ∀ a, a < 300 → (ix_k (a + 600) = 6 → 2000 ≤ a + 600 ∧ a + 600 < 2021) := by decide +kernel
theorem ix_kz3 : ∀ a, a < 300 → (ix_k (a + 900) = 6 → 2000 ≤ a + 900 ∧ a + 900 < 2021) := by decide +kernel
theorem ix_kz4 : ∀ a, a < 300 → (ix_k (a + 1200) = 6 → 2000 ≤ a + 1200 ∧ a + 1200 < 2021) := by decide +kernel
theorem ix_kz5 : ∀ a, a < 300 → (ix_k (a + 1500) = 6 → 2000 ≤ a + 1500 ∧ a + 1500 < 2021) := by decide +kernel
theorem ix_kz6 : ∀ a, a < 300 → (ix_k (a + 1800) = 6 → 2000 ≤ a + 1800 ∧ a + 1800 < 2021) := by decide +kernel
theorem ix_kz7 : ∀ a, a < 300 → (ix_k (a + 2100) = 6 → 2000 ≤ a + 2100 ∧ a + 2100 < 2021) := by decide +kernel
theorem ix_kz8 : ∀ a, a < 300 → (ix_k (a + 2400) = 6 → 2000 ≤ a + 2400 ∧ a + 2400 < 2021) := by decide +kernel
theorem ix_kz9 : ∀ a, a < 300 → (ix_k (a + 2700) = 6 → 2000 ≤ a + 2700 ∧ a + 2700 < 2021) := by decide +kernel
theorem ix_kz10 : ∀ a, a < 300 → (ix_k (a + 3000) = 6 → 2000 ≤ a + 3000 ∧ a + 3000 < 2021) := by decide +kernel
theorem ix_k6d (a : Nat) (h : a < 3001) : ix_k a = 6 → 2000 ≤ a ∧ a < 2021 := by
  by_cases g0 : a < 300
  · have e := ix_kz0 (a - 0) (by omega)
    rw [show a - 0 + 0 = a by omega] at e
    exact e
  by_cases g1 : a < 600
  · have e := ix_kz1 (a - 300) (by omega)
    rw [show a - 300 + 300 = a by omega] at e
    exact e
  by_cases g2 : a < 900
  · have e := ix_kz2 (a - 600) (by omega)
    rw [show a - 600 + 600 = a by omega] at e
    exact e
  by_cases g3 : a < 1200
  · have e := ix_kz3 (a - 900) (by omega)
    rw [show a - 900 + 900 = a by omega] at e
    exact e
  by_cases g4 : a < 1500
  · have e := ix_kz4 (a - 1200) (by omega)
    rw [show a - 1200 + 1200 = a by omega] at e
    exact e
  by_cases g5 : a < 1800
  · have e := ix_kz5 (a - 1500) (by omega)
    rw [show a - 1500 + 1500 = a by omega] at e
    exact e
  by_cases g6 : a < 2100
  · have e := ix_kz6 (a - 1800) (by omega)
    rw [show a - 1800 + 1800 = a by omega] at e
    exact e
  by_cases g7 : a < 2400
  · have e := ix_kz7 (a - 2100) (by omega)
    rw [show a - 2100 + 2100 = a by omega] at e
    exact e
  by_cases g8 : a < 2700
  · have e := ix_kz8 (a - 2400) (by omega)
    rw [show a - 2400 + 2400 = a by omega] at e
    exact e
  by_cases g9 : a < 3000
  · have e := ix_kz9 (a - 2700) (by omega)
    rw [show a - 2700 + 2700 = a by omega] at e
    exact e
  by_cases g10 : a < 3300
  · have e := ix_kz10 (a - 3000) (by omega)
    rw [show a - 3000 + 3000 = a by omega] at e
    exact e
  omega
theorem ix_vw_cn : ∀ ci, ci < 13 → (vwCl.getD ci ("", fun _ => ("", "", "", false), 0)).1 = ix_cn ci := by decide +kernel
theorem ix_tab_cn : ∀ M ∈ ix_tab, ix_cn (ix_mc M) = (ix_my M).cls := by decide +kernel
theorem ix_k6 {a : Nat} (h6 : ix_k a = 6) : 2000 ≤ a ∧ a < 2021 := by
  have ha : a < 3001 := by
    rcases Nat.lt_or_ge a 3001 with q | q
    · exact q
    · have : ix_k a = 0 := by unfold ix_k ix_sh; rw [if_pos q]
      omega
  exact ix_k6d a ha h6
section IXL
variable {p : Program} {l : Launch} {e : Env} {R : Room} {s : State} {m : MethodId} {args : Array Value} {below : List Frame} {meth : Method} {c : Code} {H : Heap} {locs : List Loc} {k : Nat} {Q : State → Prop}
variable {cc : ByteArray} {pc nL : Nat} {lsA : Array Slot} {st : List Value} {ad : Nat → Nat} {o : ix_Op} {own : Nat} {ops : List ix_Op} {D : va_G} {G : ix_G} {ids : List Nat} {dm : Nat → Bool} {lo d K c0 s0 : Nat} {h : ix_H} {r : ix_R}
theorem ix_lcall (hx : p.tables.exec = Jvm.exec) (hb : c.code = cc) (hml : c.maxLocals = nL) (hsz : lsA.size = nL) (hts : ∀ w ∈ ix_gw, w.before args s = true) (hown : s.vm.findClass (ix_cn own) = some m.cls) (hK : va_K D vwCl (ix_tys G) s)
    (hR : d + 13 ≤ R.frames ∧ 41 * d + 341 ≤ R.locals ∧ c0 + K ≤ R.cells ∧ s0 + 6 * K ≤ R.slots) (hk : k + r.2.2 ≤ K) (hF : ix_Fx G ad ids dm lo) (hP : va_P D vwCl (ix_ws G ad ids h) H) (hS : va_S (ix_A lo) s.heap H locs) (hE : ix_Es ad lo s s.heap) (hX : ix_SX ad lo h s s.heap)
    (hdg : decode cc pc = .ok (ix_ins o, ix_len o)) (hlen : ix_lenof (ix_ins o) = ix_len o ∨ ix_lenof (ix_ins o) = 0) (hres : ix_res own cc ops o = true) (hic : ix_iscall (ix_ins o) = true) (h7 : ix_y o < 4) (hz : ix_z o ≤ st.length) (hsum : ((st.drop (ix_z o)).map fun v => v.category).sum ≤ 8)
    (hrcv : ix_rcv dm o (st.take (ix_z o)).reverse = true) (hC : ix_Ct D G ad ids lo l d (ix_x o) (st.take (ix_z o)).reverse h r) (hst3 : ix_y o = 3 → (∀ v, r.1 ≠ .inr v) ∧ ∀ q, ix_cal (ix_x o) = some q → ix_hw (ix_x o) q ∈ lw_tbl) (hst1 : ix_y o = 1 ∨ ix_y o = 2 → ∀ v, r.1 ≠ .inr v) :
    ix_len o = 3 ∧ ∃ a, vx_Run p l e R s m args below meth c H locs (c0 + k) (s0 + 6 * k) r.2.2 (6 * r.2.2) (F0 m pc lsA (st.map (ix_cv ad))) ((st.drop (ix_z o)).map (ix_cv ad)) (ix_Qc D G ad ids lo r a) (ix_XC D G ad ids lo r) (ix_A lo) := by
  have hrest : 2 * (F0 m pc lsA (st.map (ix_cv ad))).monitorRoom + (((st.drop (ix_z o)).map (ix_cv ad)).map fun v => v.category).sum ≤ 8 := by
    refine lv_room ?_
    have e1 : (List.map (fun v => Value.category v) (List.map (ix_cv ad) (st.drop (ix_z o)))) = (st.drop (ix_z o)).map (fun v => v.category) := by
      rw [List.map_map]
      exact List.map_congr_left (fun v _ => ix_cv_cat ad v)
    rw [e1]
    exact hsum
  have hsplit : st = (st.take (ix_z o)).reverse.reverse ++ st.drop (ix_z o) := by rw [List.reverse_reverse, List.take_append_drop]
  generalize hvs : (st.take (ix_z o)).reverse = vs at hrcv hC hsplit
  have hvl : vs.length = ix_z o := by rw [← hvs, List.length_reverse, List.length_take]; omega
  have hstm : st.map (ix_cv ad) = (vs.map (ix_cv ad)).reverse ++ (st.drop (ix_z o)).map (ix_cv ad) := by
    rw [← List.map_reverse, ← List.map_append, ← hsplit]
  unfold ix_res at hres
  unfold ix_iscall at hic
  split at hic
  · rename_i idx he
    rw [he] at hdg hlen hres
    have hn : ix_len o = 3 := by rcases hlen with h1 | h1 <;> first | exact h1.symm | cases h1
    refine ⟨hn, ?_⟩
    rw [hn] at hdg
    dsimp only at hres
    simp only [Bool.and_eq_true, decide_eq_true_eq] at hres
    obtain ⟨⟨r1, r2⟩, r3⟩ := hres
    have hkv := ix_k_v _ r3
    unfold ix_k_vb at hkv
    have har := ix_ar_ok _ r3
    unfold ix_ar at har
    dsimp only at hkv har
    simp only [show ¬ (4 ≤ ix_y o) from by omega, decide_false, Bool.false_or, Bool.and_eq_true, decide_eq_true_eq, if_pos r2, Bool.or_eq_true] at hkv har
    cases hcal : ix_cal (ix_x o) with
    | none => rw [hcal] at har; cases har
    | some q =>
    rw [hcal] at har
    simp only [Bool.and_eq_true, decide_eq_true_eq, Bool.or_eq_true] at har
    obtain ⟨⟨⟨a1, a2⟩, a4⟩, a5⟩ := har
    obtain ⟨⟨⟨v1, v2⟩, ⟨v3, v4⟩, v5⟩, v6⟩ := hkv
    have hy3 : ¬ ix_y o = 3 := by rcases r2 with h1 | h1 <;> omega
    have hmi : ix_x o < 260 ∨ ix_x o = 900 ∨ ix_x o = 901 := by omega
    have hy := ix_y0_of hcal
    have hpl := ix_plain (q := q) v5
    have hgin := ix_gin hcal hmi
    rw [hy] at v2
    have w2 : Cond.instanceMethod q.1 ∈ ix_gw := by have := ix_W2 v3; rw [hy] at this; exact ix_gwm this rfl
    have w4 : Cond.selects q.1.cls q.1 q.1 ∈ ix_gw := by have := ix_W4 v4; unfold ix_selw at this; rw [hy] at this; exact ix_gwm this rfl
    have w5 : Cond.initialized q.1.cls ∈ ix_gw := ix_gwm (ix_W5 v2) rfl
    obtain ⟨a, As, rfl⟩ : ∃ (a : Nat) (As : List Value), vs = .ref a :: As := by
      cases vs with
      | nil => simp only [List.length_nil] at hvl; omega
      | cons b l9 =>
        cases b with
        | ref a => exact ⟨a, l9, rfl⟩
        | _ => unfold ix_rcv at hrcv; rw [he] at hrcv; cases hrcv
    unfold ix_rcv at hrcv
    rw [he] at hrcv
    simp only [ix_iscv, Bool.not_true, Bool.false_or, Bool.or_eq_true, Bool.and_eq_true, decide_eq_true_eq] at hrcv
    have hcellB : ∃ cellB : Cell, H[ad a]? = some cellB ∧ cellB.vm.isStatics = false ∧ s.vm.findClass q.1.cls = some cellB.cls := by
      rcases hrcv with ⟨⟨g1, g2⟩, g3⟩ | ⟨g1, g2⟩
      · have ha := hF.2.2.2.2 a g1 (by omega) (by omega)
        obtain ⟨j, hj⟩ := List.getElem?_of_mem ha
        have hw := ix_ws_at (G := G) (ad := ad) (h := h) hj
        rw [ix_cell5 g2] at hw
        obtain ⟨C, T, N, hq, -⟩ := ix_obj g2
        obtain ⟨cell, b1, b2, b3⟩ := va_recv hK hP hq hw
        refine ⟨cell, b1, b2, ?_⟩
        have hlt : ix_n a < 13 := (List.getElem?_eq_some_iff.mp hq).1
        have e1 := ix_vw_cn (ix_n a) hlt
        rw [List.getD_eq_getElem?_getD, hq] at e1
        have e1 : C = ix_cn (ix_n a) := e1
        have e2 : q.1.cls = ix_cn (ix_n a) := by
          rw [g3] at r1
          have r1 := List.head_eq_of_cons_eq r1
          cases hM : ix_tab[ix_x o]? with
          | none => rw [hM] at r1; simp at r1; omega
          | some M =>
            rw [hM] at r1
            have r1 : ix_n a = ix_mc M := r1
            unfold ix_cal at hcal
            rw [hM] at hcal
            cases hcal
            rw [r1]
            exact (ix_tab_cn M (List.mem_of_getElem? hM)).symm
        rw [e2, ← e1]
        exact b3
      · obtain ⟨-, -, -, -, -, -, -, -, ⟨adV, hvk⟩, -⟩ := hE
        have hcls : q.1.cls = "java/lang/String" := by
          rw [g2] at r1
          have r1 := List.head_eq_of_cons_eq r1
          cases hM : ix_tab[ix_x o]? with
          | none =>
            unfold ix_cal at hcal
            rw [hM] at hcal
            dsimp only at hcal
            split at hcal
            · cases hcal; rfl
            · split at hcal
              · cases hcal; rfl
              · cases hcal
          | some M =>
            rw [hM] at r1
            have r1 : 99 = ix_mc M := r1
            have := ix_tab_c99 M (List.mem_of_getElem? hM)
            omega
        have h2000 := ix_k6 g1
        have hlt : a - 2000 < 21 := by omega
        have hrc := vk_recv (H := H) (locs := locs) hvk hlt hS
        rw [show 2000 + (a - 2000) = a by omega] at hrc
        rw [hcls]
        exact hrc
    have hAl : (As.map (ix_cv ad)).length = ix_z o - 1 := by rw [List.length_map]; simp only [List.length_cons] at hvl; omega
    have hstk : (F0 m pc lsA (st.map (ix_cv ad))).stack = (As.map (ix_cv ad)).reverse ++ .ref (ad a) :: (st.drop (ix_z o)).map (ix_cv ad) := by
      show st.map (ix_cv ad) = _
      rw [hstm]
      simp [ix_cv]
    have hpre : ∀ U : State, U.heap = H → s.WarmedH U.vm → ix_Pc D G ad ids lo (.ref a :: As) h (Value.ref (ad a) :: As.map (ix_cv ad)).toArray U := fun U hU hW => ⟨rfl, ix_St.of hP hK hE hX hS hU hW⟩
    have hroom : (ix_rm d r.2.2).frames + 1 ≤ R.frames ∧ 8 + (q.2.2.1 + 11) + (ix_rm d r.2.2).locals ≤ R.locals := by
      unfold ix_rm
      dsimp only
      omega
    have hcs : c0 + k + r.2.2 ≤ R.cells ∧ s0 + 6 * k + 6 * r.2.2 ≤ R.slots := by
      omega
    have hM := hC q hcal
    rcases r2 with r2 | r2
    · have hlk : Cond.methodLink (ix_cn own) idx q.1 ∈ ix_gw := by
        have := ix_W1 r3 h7
        unfold ix_mkw at this
        dsimp only at this
        rw [if_neg (by omega), hy] at this
        exact ix_gwm this rfl
      have hgv : GoodIn ix_gw (wsV (ix_cn own) idx q.1.cls q.1 (ix_wsM (ix_x o) q)) := by
        intro w hw
        unfold wsV at hw
        rcases List.mem_append.mp hw with hw | hw
        · simp only [List.mem_cons, List.not_mem_nil, or_false] at hw
          rcases hw with rfl | rfl | rfl | rfl
          · exact ⟨hlk, good_of_word (ix_gw_good hlk)⟩
          · exact ⟨w2, good_of_word (ix_gw_good w2)⟩
          · exact ⟨w4, good_of_word (ix_gw_good w4)⟩
          · exact ⟨w5, good_of_word (ix_gw_good w5)⟩
        · exact hgin w hw
      exact ⟨_, vx_runV ⟨hx, hb, hml, hown, hts⟩ hM (cwV (ix_z o - 1) hts hgv hpl rfl rfl ⟨rfl, a2.1, a2.2, a1⟩ hroom) ⟨ix_blind, hcellB, hpre⟩ rfl hAl hsz hstk hrest hdg hcs⟩
    · have hlk : va_Nw (.methodLinkNest (ix_cn own) idx q.1 "CryGorge") s := by
        obtain ⟨-, -, hE3, -⟩ := hE
        have := hE3 _ (ix_k_mk _ r3 h7) r2
        unfold ix_mkw at this
        dsimp only at this
        rw [if_pos r2, hy] at this
        exact this
      have hM2 := ix_vxMet hM (fun E s t hxc => by obtain ⟨x, hx9, -⟩ := hxc; exact hst1 (Or.inr r2) x hx9)
      exact ⟨_, ix_vaRun (va_runVN ⟨hx, hb, hml, hown, hts⟩ hM2 ⟨va_cnB (ix_z o - 1) hts hgin hpl rfl rfl hlk (hts _ w5) ⟨a2.1, a2.2, a1⟩ hroom, hts _ w2, hts _ w4⟩ ⟨ix_blind, hcellB, hpre⟩ rfl hAl hsz hstk hrest hdg hcs)⟩
  · rename_i idx he
    rw [he] at hdg hlen hres
    have hn : ix_len o = 3 := by rcases hlen with h1 | h1 <;> first | exact h1.symm | cases h1
    refine ⟨hn, ?_⟩
    rw [hn] at hdg
    dsimp only at hres
    simp only [Bool.and_eq_true, decide_eq_true_eq] at hres
    obtain ⟨r2, r3⟩ := hres
    have r2 : ix_y o = 1 ∨ ix_y o = 3 := by omega
    have hkv := ix_k_v _ r3
    unfold ix_k_vb at hkv
    have har := ix_ar_ok _ r3
    unfold ix_ar at har
    dsimp only at hkv har
    have hn02 : ¬ (ix_y o = 0 ∨ ix_y o = 2) := by omega
    simp only [show ¬ (4 ≤ ix_y o) from by omega, decide_false, Bool.false_or, Bool.and_eq_true, decide_eq_true_eq, if_neg hn02, Bool.or_eq_true] at hkv har
    cases hcal : ix_cal (ix_x o) with
    | none => rw [hcal] at har; cases har
    | some q =>
    rw [hcal] at har
    simp only [Bool.and_eq_true, decide_eq_true_eq, Bool.or_eq_true] at har
    obtain ⟨⟨⟨a1, a2⟩, a4⟩, a5⟩ := har
    obtain ⟨⟨⟨v1, v2⟩, v3⟩, v6⟩ := hkv
    have hy := ix_y0_of hcal
    rw [hy] at v2
    have w3 : Cond.static q.1 ∈ ix_gw := by have := ix_W3 v3; rw [hy] at this; exact ix_gwm this rfl
    have w5 : Cond.initialized q.1.cls ∈ ix_gw := ix_gwm (ix_W5 v2) rfl
    have hlk : Cond.methodLink (ix_cn own) idx q.1 ∈ ix_gw := by
      have := ix_W1 r3 h7
      unfold ix_mkw at this
      dsimp only at this
      rw [if_neg (by omega), hy] at this
      exact ix_gwm this rfl
    have hAl : (vs.map (ix_cv ad)).length = ix_z o := by rw [List.length_map]; exact hvl
    have hpre : ∀ U : State, U.heap = H → s.WarmedH U.vm → ix_Pc D G ad ids lo vs h (vs.map (ix_cv ad)).toArray U := fun U hU hW => ⟨rfl, ix_St.of hP hK hE hX hS hU hW⟩
    have hroom : (ix_rm d r.2.2).frames + 1 ≤ R.frames ∧ 8 + (q.2.2.1 + 11) + (ix_rm d r.2.2).locals ≤ R.locals := by
      unfold ix_rm
      dsimp only
      omega
    have hcs : c0 + k + r.2.2 ≤ R.cells ∧ s0 + 6 * k + 6 * r.2.2 ≤ R.slots := by
      omega
    have hM := hC q hcal
    have hgs : GoodIn ix_gw (ix_wsM (ix_x o) q) → GoodIn ix_gw (va_wsS (ix_cn own) idx q.1 (ix_wsM (ix_x o) q)) := by
      intro hgin w hw
      unfold va_wsS at hw
      rcases List.mem_append.mp hw with hw | hw
      · simp only [List.mem_cons, List.not_mem_nil, or_false] at hw
        rcases hw with rfl | rfl | rfl
        · exact ⟨hlk, good_of_word (ix_gw_good hlk)⟩
        · exact ⟨w3, good_of_word (ix_gw_good w3)⟩
        · exact ⟨w5, good_of_word (ix_gw_good w5)⟩
      · exact hgin w hw
    rcases r2 with r2 | r2
    · have h3 : ¬ ix_y o = 3 := by omega
      simp only [if_neg h3, decide_eq_true_eq] at v6
      have hM2 := ix_vxMet hM (fun E s t hxc => by obtain ⟨x, hx9, -⟩ := hxc; exact hst1 (Or.inl r2) x hx9)
      have hmi : ix_x o < 260 ∨ ix_x o = 900 ∨ ix_x o = 901 := by omega
      exact ⟨_, ix_vaRun (va_runS ⟨hx, hb, hml, hown, hts⟩ hM2 (va_cwS (ix_z o) hts (hgs (ix_gin hcal hmi)) (ix_plain v6) rfl rfl ⟨a2.1, a2.2, a1⟩ hroom) ⟨ix_blind, hpre⟩ rfl hAl hsz hstm hrest hdg hcs)⟩
    · obtain ⟨h3a, h3b⟩ := hst3 r2
      simp only [if_pos r2, decide_eq_true_eq] at v6
      have hM2 := ix_vxMet hM (fun E s t hxc => by obtain ⟨x, hx9, -⟩ := hxc; exact h3a x hx9)
      have hwc := h3b q hcal
      have hpl : ix_wsM (ix_x o) q = Cond.codeWith q.1 q.2.1 q.2.2.1 q.2.2.2 (ix_hh (ix_x o)) :: ix_gw := by
        unfold ix_wsM ix_hw
        rw [if_neg (by omega)]
      have hgin : GoodIn ix_gw (ix_wsM (ix_x o) q) := by
        intro w hw
        rcases List.mem_cons.mp hw with rfl | hw
        · have hg : goodWord (ix_hw (ix_x o) q) = true := by
            unfold ix_hw
            split <;> rfl
          exact ⟨ix_gwm hwc hg, good_of_word hg⟩
        · exact ⟨hw, good_of_word (ix_gw_good hw)⟩
      exact ⟨_, ix_vaRun (vx_runSW ⟨hx, hb, hml, hown, hts⟩ hM2 (vx_cwSW (ix_z o) hts (hgs hgin) hpl rfl rfl ⟨a2.1, a2.2, a1⟩ hroom) ⟨ix_blind, hpre⟩ rfl hAl hsz hstm hrest hdg hcs)⟩
  · cases hic
end IXL
