set_option maxRecDepth 100000 in
theorem ix_tabP_eq : ix_tabP = ix_tab.take 260 := rfl
theorem ix_k_mk : ∀ e ∈ ix_mlk, e.2.2.2.1 < 4 → e ∈ ix_mkS := by decide +kernel
def ix_k_vb (e : Nat × Nat × Nat × Nat × Nat) : Bool := decide (4 ≤ e.2.2.2.1) || (decide (e.2.2.1 < 286 ∨ e.2.2.1 = 900 ∨ e.2.2.1 = 901) && decide ((ix_y0 e.2.2.1).cls ∈ ix_inS) &&
  (if e.2.2.2.1 = 0 ∨ e.2.2.2.1 = 2 then decide (e.2.2.1 ∈ ix_viS) && (decide (e.2.2.1 ∈ ix_seS) || decide (e.2.2.1 ∈ ix_prS)) && decide (e.2.2.1 < 260 ∨ 286 ≤ e.2.2.1) else decide (e.2.2.1 ∈ ix_stS)) && (if e.2.2.2.1 = 3 then decide (260 ≤ e.2.2.1 ∧ e.2.2.1 < 286) else decide (e.2.2.1 < 260 ∨ 286 ≤ e.2.2.1)))
theorem ix_k_v : ∀ e ∈ ix_mlk, ix_k_vb e = true := by decide +kernel
theorem ix_y0_of {mi : Nat} {q : ix_Q4} (h : ix_cal mi = some q) : ix_y0 mi = q.1 := by unfold ix_y0; rw [h]; rfl
theorem ix_W1 {e : Nat × Nat × Nat × Nat × Nat} (he : e ∈ ix_mlk) (h7 : e.2.2.2.1 < 4) : ix_mkw e ∈ lw_tbl := ix_tbl (ix_sub_ok _ _ ix_s2 _ (List.mem_map.mpr ⟨e, ix_k_mk e he h7, rfl⟩))
theorem ix_W2 {mi : Nat} (h : mi ∈ ix_viS) : Cond.instanceMethod (ix_y0 mi) ∈ lw_tbl := ix_tbl (ix_sub_ok _ _ ix_s3 _ (List.mem_map.mpr ⟨mi, h, rfl⟩))
theorem ix_W3 {mi : Nat} (h : mi ∈ ix_stS) : Cond.static (ix_y0 mi) ∈ lw_tbl := ix_tbl (ix_sub_ok _ _ ix_s4 _ (List.mem_map.mpr ⟨mi, h, rfl⟩))
theorem ix_W4 {mi : Nat} (h : mi ∈ ix_seS ∨ mi ∈ ix_prS) : ix_selw mi ∈ lw_tbl := by
  rcases h with h | h
  · exact ix_tbl (ix_sub_ok _ _ ix_s5 _ (List.mem_map.mpr ⟨mi, h, rfl⟩))
  · exact List.mem_append_left _ (ix_sub_ok _ _ ix_s6 _ (List.mem_map.mpr ⟨mi, h, rfl⟩))
theorem ix_W5 {c : String} (h : c ∈ ix_inS) : Cond.initialized c ∈ lw_tbl := ix_tbl (ix_sub_ok _ _ ix_s8 _ (List.mem_map.mpr ⟨c, h, rfl⟩))
theorem ix_gw_good {w : Cond} (h : w ∈ ix_gw) : goodWord w = true := (List.mem_filter.mp h).2
theorem ix_hwl {mi : Nat} {q : ix_Q4} (h : ix_cal mi = some q) (hm : mi < 260 ∨ mi = 900 ∨ mi = 901) : ix_hw mi q ∈ lw_tbl := by
  rcases hm with hm | rfl | rfl
  · unfold ix_cal at h
    have e1 : ix_tabP[mi]? = ix_tab[mi]? := by rw [ix_tabP_eq, List.getElem?_take, if_pos hm]
    split at h
    · rename_i M hM
      cases h
      have h1 := ix_cwP M (List.mem_of_getElem? (e1.trans hM))
      unfold ix_hw
      rw [if_pos (Or.inl hm)]
      exact h1
    · split at h
      · omega
      · split at h
        · omega
        · cases h
  · exact cQ_900 q h
  · exact cQ_901 q h
theorem ix_gin {mi : Nat} {q : ix_Q4} (h : ix_cal mi = some q) (hm : mi < 260 ∨ mi = 900 ∨ mi = 901) : GoodIn ix_gw (ix_wsM mi q) := by
  intro w hw
  rcases List.mem_cons.mp hw with rfl | hw
  · have hg : goodWord (ix_hw mi q) = true := by
      unfold ix_hw
      split <;> rfl
    exact ⟨ix_gwm (ix_hwl h hm) hg, good_of_word hg⟩
  · exact ⟨hw, good_of_word (ix_gw_good hw)⟩
theorem ix_plain {mi : Nat} {q : ix_Q4} (hm : mi < 260 ∨ 286 ≤ mi) : ix_wsM mi q = Cond.code q.1 q.2.1 q.2.2.1 q.2.2.2 :: ix_gw := by
  unfold ix_wsM ix_hw
  rw [if_pos hm]
section IXD
variable {p : Program} {l : Launch} {e : Env} {R : Room} {s : State} {m : MethodId} {args : Array Value} {below : List Frame} {meth : Method} {c : Code} {H : Heap} {locs : List Loc} {cells slots mc ms : Nat} {Q : State → Prop}
variable {cc : ByteArray} {pc nL : Nat} {lsA : Array Slot} {rest st0 : List Value} {ad : Nat → Nat} {o : ix_Op} {own : Nat} {D : va_G} {G : ix_G} {ids : List Nat} {dm : Nat → Bool} {lo : Nat} {h : ix_H} {r : ix_R} {a : Array Value}
theorem ix_SXb {t : State} {H1 : Heap} {locs1 : List Loc} {h' : ix_H} (hE : ix_Es ad lo s s.heap) (hv : s.vm.Alike t.vm) (hS : va_S (ix_A lo) s.heap H1 locs1) (hX : ix_SX ad lo h' t H1) : ix_SX ad lo h' s s.heap := by
  obtain ⟨x1, x2, x3⟩ := hX
  refine ⟨(x1.moved hv.symm).kept ?_, x2, x3⟩
  exact (hS.2.1 _ (Nat.lt_of_lt_of_le x3 hE.1) (Nat.not_le.mpr x3)).symm
theorem ix_aft (hE : ix_Es ad lo s s.heap) (hr : vx_Run p l e R s m args below meth c H locs cells slots mc ms (F0 m pc lsA st0) rest (ix_Qc D G ad ids lo r a) (ix_XC D G ad ids lo r) (ix_A lo)) (hS : va_S (ix_A lo) s.heap H locs)
    (kk : ∀ (v : Option Value) (H1 : Heap) (locs1 : List Loc), r.1 = .inl v → va_P D vwCl (ix_ws G ad ids r.2.1) H1 → ix_SX ad lo r.2.1 s s.heap → va_S (ix_A lo) s.heap H1 locs1 → W p l e R s m args below meth c H1 locs1 (cells + mc) (slots + ms) Q (F0 m (pc + 3) lsA ((v.map (ix_cv ad)).toList ++ rest)))
    (kx : ∀ (x : Nat) (q9 : Addr) (ce : Cell) (H1 : Heap) (locs1 : List Loc), r.1 = .inr x → va_P D vwCl (ix_ws G ad ids r.2.1) H1 → ix_SX ad lo r.2.1 s s.heap → va_S (ix_A lo) s.heap H1 locs1 → H1[q9]? = some ce → ce.vm = .none → s.vm.findClass (ix_en x) = some ce.cls → vx_W p l e R s m args below meth c H1 locs1 (cells + mc) (slots + ms) Q (F0 m pc lsA rest) q9) :
    W p l e R s m args below meth c H locs cells slots Q (F0 m pc lsA st0) := by
  intro T hT X
  rcases hr T hT X with ⟨v, st₀, t, T', L, h0, X', hL, e1, e2, ⟨v1, hv1, hv2, ⟨hP, hX⟩, hF⟩, st⟩ | ⟨q, st₀, t, T', L, E, ce, h0, X', hL, e1, e2, ⟨x, hx1, hx2, ⟨hP, hX⟩, hF⟩, hce, hcv, hcl, st⟩
  · cases hv2
    obtain ⟨k1, k2, k3⟩ := vx_keep (A0 := ix_A lo) (A1 := ix_A lo) (free := ix_A lo) h0 e1 hS (fun _ _ h => h) (fun _ h => h) hL hF
    have hal : s.vm.Alike t.vm := by rw [← e2]; exact X'.warmed.alike
    obtain ⟨t2, a1, b1⟩ := kk v1 T'.heap (locs ++ L) hv1 (by rw [e1]; exact hP) (ix_SXb hE hal k3 (by rw [e1]; exact hX)) k3 T' rfl X'
    exact ⟨t2, st t2 a1, b1⟩
  · obtain ⟨k1, k2, k3⟩ := vx_keep (A0 := ix_A lo) (A1 := ix_A lo) (free := ix_A lo) h0 e1 hS (fun _ _ h => h) (fun _ h => h) hL hF
    have hal : s.vm.Alike t.vm := by rw [← e2]; exact X'.warmed.alike
    obtain ⟨t2, a1, b1⟩ := kx x q ce T'.heap (locs ++ L) hx1 (by rw [e1]; exact hP) (ix_SXb hE hal k3 (by rw [e1]; exact hX)) k3 (by rw [e1]; exact hce) hcv (by rw [← hx2]; exact hcl) T' rfl X'
    exact ⟨t2, st.trans a1, b1⟩
theorem ix_vaRun {Qa : State → Outcome → State → Prop} {XC : String → State → State → Prop} {free : Addr → Prop} (hr : va_Run p l e R s m args below meth c H locs cells slots mc ms (F0 m pc lsA st0) rest Qa free) : vx_Run p l e R s m args below meth c H locs cells slots mc ms (F0 m pc lsA st0) rest Qa XC free := fun T hT X => Or.inl (hr T hT X)
end IXD
