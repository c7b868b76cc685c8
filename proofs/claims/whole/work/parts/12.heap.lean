def ix_gw : List Cond := lw_tbl.filter goodWord
theorem ix_gwm {w : Cond} (h : w ∈ lw_tbl) (hg : goodWord w = true) : w ∈ ix_gw := List.mem_filter.mpr ⟨h, hg⟩
theorem ix_layE {ci N : Nat} {C : String} {T : u_T} (hs : ix_sub ((ix_layS ci).map (u_lay C T)) tables_1 = true) (hc : ∀ k, k < N → k ∈ ix_layS ci) : ∀ w ∈ u_ws C T N, w ∈ ix_gw := by
  intro w hw
  obtain ⟨k, hk, rfl⟩ := List.mem_map.mp hw
  refine ix_gwm (ix_tbl (ix_sub_ok _ _ hs _ (List.mem_map.mpr ⟨k, hc k (List.mem_range.mp hk), rfl⟩))) ?_
  unfold u_lay
  split <;> rfl
def ix_Cok (C : String) (T : u_T) (N : Nat) : Prop := (∀ w ∈ u_ws C T N, w ∈ ix_gw) ∧ (∃ ty0 : Nat → FieldType, ∀ k, k < N → parseFieldDescriptor (T k).2.2.1 = some (ty0 k)) ∧ ∀ a, a < N → ∀ b, b < N → a ≠ b → (T a).2.1 ≠ (T b).2.1
theorem ix_co0 : ix_Cok RX0 TX0 5 := ⟨ix_layE ix_la0 (by decide), ⟨_, tyX0_ok⟩, nmX0⟩
theorem ix_co1 : ix_Cok RX1 TX1 10 := ⟨ix_layE ix_la1 (by decide), ⟨_, tyX1_ok⟩, nmX1⟩
theorem ix_co2 : ix_Cok RX2 TX2 3 := ⟨ix_layE ix_la2 (by decide), ⟨_, tyX2_ok⟩, nmX2⟩
theorem ix_co3 : ix_Cok RX3 TX3 6 := ⟨ix_layE ix_la3 (by decide), ⟨_, tyX3_ok⟩, nmX3⟩
theorem ix_co4 : ix_Cok RX4 TX4 10 := ⟨ix_layE ix_la4 (by decide), ⟨_, tyX4_ok⟩, nmX4⟩
theorem ix_co5 : ix_Cok RX5 TX5 5 := ⟨ix_layE ix_la5 (by decide), ⟨_, tyX5_ok⟩, nmX5⟩
theorem ix_co6 : ix_Cok RX6 TX6 8 := ⟨ix_layE ix_la6 (by decide), ⟨_, tyX6_ok⟩, nmX6⟩
theorem ix_co7 : ix_Cok RX7 TX7 7 := ⟨ix_layE ix_la7 (by decide), ⟨_, tyX7_ok⟩, nmX7⟩
theorem ix_co8 : ix_Cok RX8 TX8 3 := ⟨ix_layE ix_la8 (by decide), ⟨_, tyX8_ok⟩, nmX8⟩
theorem ix_co9 : ix_Cok RX9 TX9 7 := ⟨ix_layE ix_la9 (by decide), ⟨_, tyX9_ok⟩, nmX9⟩
theorem ix_co10 : ix_Cok RX10 TX10 7 := ⟨ix_layE ix_la10 (by decide), ⟨_, tyX10_ok⟩, nmX10⟩
theorem ix_co11 : ix_Cok RX11 TX11 20 := ⟨ix_layE ix_la11 (by decide), ⟨_, tyX11_ok⟩, nmX11⟩
theorem ix_co12 : ix_Cok RX12 TX12 50 := ⟨ix_layE ix_la12 (by decide +kernel), ⟨_, tyX12_ok⟩, nmX12⟩
theorem ix_cok {ci N : Nat} {C : String} {T : u_T} (h : vwCl[ci]? = some (C, T, N)) : ix_Cok C T N := by
  match ci, h with
  | 0, h => cases h; exact ix_co0
  | 1, h => cases h; exact ix_co1
  | 2, h => cases h; exact ix_co2
  | 3, h => cases h; exact ix_co3
  | 4, h => cases h; exact ix_co4
  | 5, h => cases h; exact ix_co5
  | 6, h => cases h; exact ix_co6
  | 7, h => cases h; exact ix_co7
  | 8, h => cases h; exact ix_co8
  | 9, h => cases h; exact ix_co9
  | 10, h => cases h; exact ix_co10
  | 11, h => cases h; exact ix_co11
  | 12, h => cases h; exact ix_co12
  | k + 13, h => simp [vwCl] at h
def ix_objb (a : Nat) : Bool := decide (ix_k a ≠ 5) || (match vwCl[ix_n a]? with
  | some q => decide ((ix_rf a).length = q.2.2) && (List.range q.2.2).all (fun k => decide ((ix_rf a)[k]? ≠ some none) || (decide ((q.2.1 k).2.2.1 = "I") && decide ((q.2.1 k).2.2.2 = false)))
  | none => false)
theorem ix_ob0 : ∀ a, a < 300 → ix_objb (a + 0) = true := by decide +kernel
theorem ix_ob1 : ∀ a, a < 300 → ix_objb (a + 300) = true := by decide +kernel
theorem ix_ob2 : ∀ a, a < 300 → ix_objb (a + 600) = true := by decide +kernel
theorem ix_ob3 : ∀ a, a < 300 → ix_objb (a + 900) = true := by decide +kernel
theorem ix_ob4 : ∀ a, a < 300 → ix_objb (a + 1200) = true := by decide +kernel
theorem ix_ob5 : ∀ a, a < 300 → ix_objb (a + 1500) = true := by decide +kernel
theorem ix_ob6 : ∀ a, a < 300 → ix_objb (a + 1800) = true := by decide +kernel
theorem ix_ob7 : ∀ a, a < 300 → ix_objb (a + 2100) = true := by decide +kernel
theorem ix_ob8 : ∀ a, a < 300 → ix_objb (a + 2400) = true := by decide +kernel
theorem ix_ob9 : ∀ a, a < 300 → ix_objb (a + 2700) = true := by decide +kernel
theorem ix_ob10 : ∀ a, a < 300 → ix_objb (a + 3000) = true := by decide +kernel
theorem ix_objb_ok (a : Nat) (h : a < 3001) : ix_objb a = true := by
  by_cases h0 : a < 300
  · have e := ix_ob0 (a - 0) (by omega)
    rw [show a - 0 + 0 = a by omega] at e
    exact e
  by_cases h1 : a < 600
  · have e := ix_ob1 (a - 300) (by omega)
    rw [show a - 300 + 300 = a by omega] at e
    exact e
  by_cases h2 : a < 900
  · have e := ix_ob2 (a - 600) (by omega)
    rw [show a - 600 + 600 = a by omega] at e
    exact e
  by_cases h3 : a < 1200
  · have e := ix_ob3 (a - 900) (by omega)
    rw [show a - 900 + 900 = a by omega] at e
    exact e
  by_cases h4 : a < 1500
  · have e := ix_ob4 (a - 1200) (by omega)
    rw [show a - 1200 + 1200 = a by omega] at e
    exact e
  by_cases h5 : a < 1800
  · have e := ix_ob5 (a - 1500) (by omega)
    rw [show a - 1500 + 1500 = a by omega] at e
    exact e
  by_cases h6 : a < 2100
  · have e := ix_ob6 (a - 1800) (by omega)
    rw [show a - 1800 + 1800 = a by omega] at e
    exact e
  by_cases h7 : a < 2400
  · have e := ix_ob7 (a - 2100) (by omega)
    rw [show a - 2100 + 2100 = a by omega] at e
    exact e
  by_cases h8 : a < 2700
  · have e := ix_ob8 (a - 2400) (by omega)
    rw [show a - 2400 + 2400 = a by omega] at e
    exact e
  by_cases h9 : a < 3000
  · have e := ix_ob9 (a - 2700) (by omega)
    rw [show a - 2700 + 2700 = a by omega] at e
    exact e
  by_cases h10 : a < 3300
  · have e := ix_ob10 (a - 3000) (by omega)
    rw [show a - 3000 + 3000 = a by omega] at e
    exact e
  omega
theorem ix_obj {a : Nat} (h5 : ix_k a = 5) : ∃ (C : String) (T : u_T) (N : Nat), vwCl[ix_n a]? = some (C, T, N) ∧ (ix_rf a).length = N ∧ ∀ k, (ix_rf a)[k]? = some none → (T k).2.2.1 = "I" ∧ (T k).2.2.2 = false := by
  have ha : a < 3001 := by
    rcases Nat.lt_or_ge a 3001 with q | q
    · exact q
    · have : ix_k a = 0 := by unfold ix_k ix_sh; rw [if_pos q]
      omega
  have h := ix_objb_ok a ha
  unfold ix_objb at h
  simp only [h5, ne_eq, not_true_eq_false, decide_false, Bool.false_or] at h
  split at h
  · rename_i q hq
    simp only [Bool.and_eq_true, decide_eq_true_eq, List.all_eq_true, List.mem_range, Bool.or_eq_true] at h
    obtain ⟨C, T, N⟩ := q
    refine ⟨C, T, N, hq, h.1, fun k hk => ?_⟩
    have hkN : k < N := by
      have h1 : (ix_rf a).length = N := h.1
      rw [← h1]; exact (List.getElem?_eq_some_iff.mp hk).1
    rcases h.2 k hkN with g | g
    · exact absurd hk g
    · exact g
  · cases h
theorem ix_flkS : ∀ e ∈ ix_flk, e ∈ ix_flS := by decide +kernel
section IXH
variable {p : Program} {l : Launch} {e : Env} {R : Room} {s : State} {m : MethodId} {args : Array Value} {below : List Frame} {meth : Method} {c : Code} {H : Heap} {locs : List Loc} {cells slots : Nat} {Q : State → Prop}
variable {cc : ByteArray} {pc nL : Nat} {lsA : Array Slot} {st : List Value} {ad : Nat → Nat} {o : ix_Op} {own : Nat} {ops : List ix_Op} {D : va_G} {G : ix_G} {ids : List Nat} {dm : Nat → Bool} {lo : Nat} {h : ix_H}
theorem ix_lget {a r : Nat} {rs : List Value} {f : Option Nat} {idx : Nat} (hx : p.tables.exec = Jvm.exec) (hb : c.code = cc) (hts : ∀ w ∈ ix_gw, w.before args s = true) (hnw : ∀ e ∈ ix_flS, e.2.2.2.2 ≠ 0 → va_Nw (ix_fw e) s) (hown : s.vm.findClass (ix_cn own) = some m.cls) (hK : va_K D vwCl (ix_tys G) s)
    (hP : va_P D vwCl (ix_ws G ad ids h) H) (ha : a ∈ ids) (h5 : ix_k a = 5) (hc : ix_n a = ix_x o) (hf : (ix_rf a)[ix_y o]? = some f) (hin : (own, idx, ix_x o, ix_y o, ix_z o) ∈ ix_flk) (hdg : decode cc pc = .ok (.getfield idx, 3))
    (kk : W p l e R s m args below meth c H locs cells slots Q (F0 m (pc + 3) lsA (ix_fe ad (G.2.2.2.2 a (ix_y o)) (h a (ix_y o)) f :: rs))) :
    W p l e R s m args below meth c H locs cells slots Q (F0 m pc lsA (.ref (ad a) :: rs)) := by
  obtain ⟨k, hk⟩ := List.getElem?_of_mem ha
  have hw := ix_ws_at (G := G) (ad := ad) (h := h) hk
  rw [ix_cell5 h5] at hw
  obtain ⟨C, T, N, hq, hN, -⟩ := ix_obj h5
  have hco := ix_cok hq
  have hy : ix_y o < N := by rw [← hN]; exact (List.getElem?_eq_some_iff.mp hf).1
  have hT : ix_T (ix_x o) = T := by
    unfold ix_T
    rw [List.getD_eq_getElem?_getD, ← hc, hq]
    rfl
  have hfl := ix_flkS _ hin
  have hmem : ix_fw (own, idx, ix_x o, ix_y o, ix_z o) ∈ lw_tbl := ix_tbl (ix_sub_ok _ _ ix_s1 _ (List.mem_map.mpr ⟨_, hfl, rfl⟩))
  by_cases hz : ix_z o = 0
  · have hwd : (Cond.fieldLink (ix_cn own) idx (T (ix_y o)).1 (T (ix_y o)).2.1 (T (ix_y o)).2.2.1).before args s = true := by
      have e1 : ix_fw (own, idx, ix_x o, ix_y o, ix_z o) = Cond.fieldLink (ix_cn own) idx (T (ix_y o)).1 (T (ix_y o)).2.1 (T (ix_y o)).2.2.1 := by
        unfold ix_fw
        dsimp only
        rw [if_pos hz, hT]
      rw [← e1]
      refine hts _ (ix_gwm hmem ?_)
      rw [e1]
      rfl
    exact va_get (D := D) (ref := (T (ix_y o)).1) hx hb hts hco.1 hown hK hP k hw hq (ix_y o) hy hwd (fun _ h9 => h9) (ix_fv_at hf) hdg kk
  · have hwd : (Cond.fieldLinkNest (ix_cn own) idx (T (ix_y o)).1 (T (ix_y o)).2.1 (T (ix_y o)).2.2.1 "CryGorge").before args s = true := by
      have e1 : ix_fw (own, idx, ix_x o, ix_y o, ix_z o) = Cond.fieldLinkNest (ix_cn own) idx (T (ix_y o)).1 (T (ix_y o)).2.1 (T (ix_y o)).2.2.1 "CryGorge" := by
        unfold ix_fw
        dsimp only
        rw [if_neg hz, hT]
      have h9 := hnw _ hfl hz
      rw [e1] at h9
      exact va_Nw.use rfl h9
    exact va_getN (D := D) (ref := (T (ix_y o)).1) hx hb hts hco.1 hown hK hP k hw hq (ix_y o) hy hwd (fun _ h9 => h9) (ix_fv_at hf) hdg kk
theorem ix_lput {a : Nat} {v : Int32} {rs : List Value} {idx : Nat} (hx : p.tables.exec = Jvm.exec) (hb : c.code = cc) (hts : ∀ w ∈ ix_gw, w.before args s = true) (hnw : ∀ e ∈ ix_flS, e.2.2.2.2 ≠ 0 → va_Nw (ix_fw e) s) (hown : s.vm.findClass (ix_cn own) = some m.cls) (hK : va_K D vwCl (ix_tys G) s)
    (hF : ix_Fx G ad ids dm lo) (hP : va_P D vwCl (ix_ws G ad ids h) H) (hS : va_S (fun q => lo ≤ q) s.heap H locs) (ha : a ∈ ids) (h5 : ix_k a = 5) (hc : ix_n a = ix_x o) (hf : (ix_rf a)[ix_y o]? = some none) (hin : (own, idx, ix_x o, ix_y o, ix_z o) ∈ ix_flk) (hdg : decode cc pc = .ok (.putfield idx, 3))
    (kk : ∀ (H1 : Heap) (locs1 : List Loc), va_P D vwCl (ix_ws G ad ids (ix_up h a (ix_y o) v)) H1 → va_S (fun q => lo ≤ q) s.heap H1 locs1 → W p l e R s m args below meth c H1 locs1 cells slots Q (F0 m (pc + 3) lsA rs)) :
    W p l e R s m args below meth c H locs cells slots Q (F0 m pc lsA (.int v :: .ref (ad a) :: rs)) := by
  obtain ⟨k, hk⟩ := List.getElem?_of_mem ha
  have hw := ix_ws_at (G := G) (ad := ad) (h := h) hk
  rw [ix_cell5 h5] at hw
  obtain ⟨C, T, N, hq, hN, hI⟩ := ix_obj h5
  obtain ⟨hI1, hI2⟩ := hI _ hf
  obtain ⟨hco1, ⟨ty0, hty⟩, hnm⟩ := ix_cok hq
  have hy : ix_y o < N := by rw [← hN]; exact (List.getElem?_eq_some_iff.mp hf).1
  have hT : ix_T (ix_x o) = T := by
    unfold ix_T
    rw [List.getD_eq_getElem?_getD, ← hc, hq]
    rfl
  have hfl := ix_flkS _ hin
  have hmem : ix_fw (own, idx, ix_x o, ix_y o, ix_z o) ∈ lw_tbl := ix_tbl (ix_sub_ok _ _ ix_s1 _ (List.mem_map.mpr ⟨_, hfl, rfl⟩))
  have hlen : ix_y o < (ix_fv G ad h a).length := by unfold ix_fv; rw [List.length_mapIdx]; exact (List.getElem?_eq_some_iff.mp hf).1
  have hset : (ix_ws G ad ids h).set k (ad a, .inr (ix_n a, (ix_fv G ad h a).set (ix_y o) (.int v))) = ix_ws G ad ids (ix_up h a (ix_y o) v) := by
    refine ix_ws_set hF.2.1 hk ?_ (fun b hb => ix_cell_of (ix_up_ne hb))
    rw [ix_cell5 h5, ix_fv_set hf]
  have hd : parseFieldDescriptor (T (ix_y o)).2.2.1 = some .int := by rw [hI1]; decide +kernel
  have kk' : ∀ (H1 : Heap) (locs1 : List Loc), va_P D vwCl ((ix_ws G ad ids h).set k (ad a, .inr (ix_n a, (ix_fv G ad h a).set (ix_y o) (.int v)))) H1 → va_D (fun q => lo ≤ q) ((ix_ws G ad ids h).set k (ad a, .inr (ix_n a, (ix_fv G ad h a).set (ix_y o) (.int v)))) → va_S (fun q => lo ≤ q) s.heap H1 locs1 → W p l e R s m args below meth c H1 locs1 cells slots Q (F0 m (pc + 3) lsA rs) := by
    intro H1 locs1 q1 _ q3
    rw [hset] at q1
    exact kk H1 locs1 q1 q3
  by_cases hz : ix_z o = 0
  · have hwd : (Cond.fieldLink (ix_cn own) idx (T (ix_y o)).1 (T (ix_y o)).2.1 (T (ix_y o)).2.2.1).before args s = true := by
      have e1 : ix_fw (own, idx, ix_x o, ix_y o, ix_z o) = Cond.fieldLink (ix_cn own) idx (T (ix_y o)).1 (T (ix_y o)).2.1 (T (ix_y o)).2.2.1 := by
        unfold ix_fw
        dsimp only
        rw [if_pos hz, hT]
      rw [← e1]
      refine hts _ (ix_gwm hmem ?_)
      rw [e1]
      rfl
    exact va_put (D := D) (ref := (T (ix_y o)).1) hx hb hts hco1 ty0 hty hnm hown hK hP (ix_va_D hF h) hS k hw hq (ix_y o) hy hwd (fun _ h9 => h9) hI2 (ty := .int) hd rfl rfl hlen hdg kk'
  · have hwd : (Cond.fieldLinkNest (ix_cn own) idx (T (ix_y o)).1 (T (ix_y o)).2.1 (T (ix_y o)).2.2.1 "CryGorge").before args s = true := by
      have e1 : ix_fw (own, idx, ix_x o, ix_y o, ix_z o) = Cond.fieldLinkNest (ix_cn own) idx (T (ix_y o)).1 (T (ix_y o)).2.1 (T (ix_y o)).2.2.1 "CryGorge" := by
        unfold ix_fw
        dsimp only
        rw [if_neg hz, hT]
      have h9 := hnw _ hfl hz
      rw [e1] at h9
      exact va_Nw.use rfl h9
    exact va_putN (D := D) (ref := (T (ix_y o)).1) hx hb hts hco1 ty0 hty hnm hown hK hP (ix_va_D hF h) hS k hw hq (ix_y o) hy hwd (fun _ h9 => h9) hI2 (ty := .int) hd rfl rfl hlen hdg kk'
end IXH
