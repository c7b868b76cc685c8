section KX
variable {p : Program} {l : Launch} {e : Env} {R : Room} {s : State} {m : MethodId} {args : Array Value} {below : List Frame} {meth : Method} {c : Code} {H : Heap} {locs : List Loc} {cells slots : Nat} {Q : State → Prop}
variable {cc : ByteArray} {pc : Nat} {ls : Array Slot} {rest : List Value} {D : va_G} {G : ix_G} {lo b : Nat} {sa : Nat → Nat} {t : Nat} {h : ix_H}
theorem kal_run {t N j : Nat} (h : t + 1 + N ≤ 91 ∨ (91 ≤ t ∧ t + 1 + N ≤ 708)) (hj : j < N) : kal (t + 1 + j) = kal t + 1 + j := by
  unfold kal
  rcases h with h | h
  · rw [if_pos (by omega), if_pos (by omega)]
  · rw [if_neg (by omega), if_pos (by omega), if_neg (by omega), if_pos (by omega)]
    omega
theorem kx_rows {H1 : Heap} {a K : Nat} (ha : kal t = a) : ∀ N, (t + 1 + N ≤ 91 ∨ (91 ≤ t ∧ t + 1 + N ≤ 708)) → va_P D vwCl (ix_ws G (kad lo b sa) (kids (t + 1)) h) H1 → (∀ j, j < N → ix_k (a + 1 + j) = 1 ∧ ix_n (a + 1 + j) = K ∧ h (a + 1 + j) = fun _ => 0) → (∀ j, j < N → H1[lo + t + 1 + j]? = some (arrV G.2.1 K (fun _ => .int 0))) → va_P D vwCl (ix_ws G (kad lo b sa) (kids (t + 1 + N)) h) H1 := by
  intro N
  induction N with
  | zero => exact fun _ hP _ _ => hP
  | succ N ih =>
    intro hb hP hk hr
    have := ih (by omega) hP (fun j hj => hk j (by omega)) (fun j hj => hr j (by omega))
    refine kx_add (t := t + 1 + N) this ?_
    have e1 := kal_run (t := t) (N := N + 1) (j := N) hb (Nat.lt_succ_self _)
    obtain ⟨k1, k2, k3⟩ := hk N (Nat.lt_succ_self _)
    rw [kad_al (by omega), e1, ha, ix_cell1 k1, k2, k3]
    show H1[lo + (t + 1 + N)]? = _
    rw [show lo + (t + 1 + N) = lo + t + 1 + N by omega]
    exact hr N (Nat.lt_succ_self _)
theorem kx_mna (hx : p.tables.exec = Jvm.exec) (hb : c.code = cc) {own : String} {index : Nat} (hown : s.vm.findClass own = some m.cls) (hcl : (Cond.classLink own index "[[I").before args s = true) (hov : va_AOA .int s) (harr : (Cond.arrayClass .int).before args s = true) (hK : va_K D vwCl (ix_tys G) s) (hP : va_P D vwCl (ix_ws G (kad lo b sa) (kids t) h) H) (hz : H.size = lo + t) (hS : va_S (ix_A lo) s.heap H locs) {n k : Int32} {N K a : Nat} (ha : kal t = a) (hn : ¬ n < 0) (hk : ¬ k < 0) (hN : n.toNatClampNeg = N) (hM : k.toNatClampNeg = K) (hb1 : N * 4 ≤ 536870912) (hb2 : K * 4 ≤ 536870912)
    (hk3 : ix_sh a = (3, N, a + 1)) (hT : t + 1 + N ≤ 91 ∨ (91 ≤ t ∧ t + 1 + N ≤ 708)) (hrw : ∀ j, j < N → ix_k (a + 1 + j) = 1 ∧ ix_n (a + 1 + j) = K ∧ h (a + 1 + j) = fun _ => 0) (hcells : cells + (1 + N) ≤ R.cells) (hslots : slots + (N + N * K) ≤ R.slots) (hdg : decode cc pc = .ok (.multianewarray index 2, 4))
    (kk : ∀ H1, va_P D vwCl (ix_ws G (kad lo b sa) (kids (t + 1 + N)) h) H1 → H1.size = lo + (t + 1 + N) → va_S (ix_A lo) s.heap H1 locs → W p l e R s m args below meth c H1 locs (cells + 1 + N) (slots + N + N * K) Q (F0 m (pc + 4) ls (.ref (lo + t) :: rest))) : W p l e R s m args below meth c H locs cells slots Q (F0 m pc ls (.int k :: .int n :: rest)) := by
  subst hN
  subst hM
  intro T hTt Xs
  obtain ⟨vm₁, cA, comp, -, fA, fC, hO, -, X', step⟩ := Xs.multianewarray2F (ty := .int) hx hown hcl (va_AOA.use hov) harr (g := F0 m pc ls (.int k :: .int n :: rest)) rfl (by rw [hb]; exact hdg) rfl hn hk hb1 hb2 (by omega) rfl rfl hcells hslots
  have f2 : s.vm.findClass ("[" ++ FieldType.int.toString) = some G.2.1 := (hK.2 1 (G.2.1, .int) rfl).2
  have f3 : s.vm.findClass ("[" ++ (FieldType.array .int).toString) = some G.2.2.1 := (hK.2 2 (G.2.2.1, .array .int) rfl).2
  have ec : G.2.1 = comp := Option.some.inj (f2.symm.trans fC)
  have ea : G.2.2.1 = cA := Option.some.inj (f3.symm.trans fA)
  subst ec
  subst ea
  generalize hF : Jvm.Free.Multi.fill (T.setVm vm₁) G.2.2.1 G.2.1 n.toNatClampNeg k.toNatClampNeg (defaultValue .int) n.toNatClampNeg = F at X' step
  have hTh : (T.setVm vm₁).heap = H := hTt
  obtain ⟨g1, g2, -, -⟩ := Jvm.Free.Multi.fill_facts (T.setVm vm₁) G.2.2.1 G.2.1 n.toNatClampNeg k.toNatClampNeg (defaultValue .int) n.toNatClampNeg
  rw [hF, hTh] at g1 g2
  have hold : ∀ x : Nat, x < H.size → F.heap[x]? = H[x]? := fun x hx => by
    have := Jvm.Free.Multi.fill_old (T.setVm vm₁) G.2.2.1 G.2.1 n.toNatClampNeg k.toNatClampNeg (defaultValue .int) (a := x) (by rw [hTh]; exact hx) n.toNatClampNeg
    rw [hF, hTh] at this
    exact this
  have hrow : ∀ j : Nat, j < n.toNatClampNeg → F.heap[H.size + 1 + j]? = some (arrV G.2.1 k.toNatClampNeg (fun _ => .int 0)) := fun j hj => by
    have := Jvm.Free.Multi.fill_inner (T.setVm vm₁) G.2.2.1 G.2.1 n.toNatClampNeg k.toNatClampNeg (defaultValue .int) n.toNatClampNeg j hj
    rw [hF, hTh] at this
    rw [this]
    exact congrArg some (arrV_new _ _ _)
  have h1 : va_P D vwCl (ix_ws G (kad lo b sa) (kids (t + 1)) h) F.heap := by
    refine kx_add (kx_lt hP hold) ?_
    rw [kad_al (by omega), ha, ix_cell3 (show ix_k a = 3 by unfold ix_k; rw [hk3])]
    show F.heap[lo + t]? = _
    rw [← hz, g2]
    refine congrArg some ?_
    rw [vr_outer]
    show _ = arrV G.2.2.1 (ix_n a) (fun j => va_rf (some (kad lo b sa (ix_b a + j))))
    have en : ix_n a = n.toNatClampNeg := by unfold ix_n; rw [hk3]
    have eb : ix_b a = a + 1 := by unfold ix_b; rw [hk3]
    rw [en]
    refine arrV_cg (fun j hj => ?_)
    rw [if_pos hj, eb, ← ha, ← kal_run hT hj, kad_al (by omega), hz]
    rw [show lo + (t + 1 + j) = lo + t + 1 + j by omega]
  have h2 := kx_rows ha n.toNatClampNeg hT h1 hrw (fun j hj => by rw [← hz]; exact hrow j hj)
  obtain ⟨t2, a1, b1⟩ := kk F.heap h2 (by rw [g1]; omega) (kx_S hS (by rw [g1]; omega) hold) F rfl X'
  rw [← hz] at a1
  exact ⟨t2, step t2 (by rw [hTt]; exact a1), b1⟩
theorem kx_new (hx : p.tables.exec = Jvm.exec) (hb : c.code = cc) {own C : String} {T : u_T} {N ci index : Nat} (hts : ∀ w ∈ ix_gw, w.before args s = true) (ty : Nat → FieldType) (hty : ∀ k, k < N → parseFieldDescriptor (T k).2.2.1 = some (ty k)) (hown : s.vm.findClass own = some m.cls) (hcl : (Cond.classLink own index C).before args s = true) (hinst : (Cond.instantiable C N).before args s = true) (hini : (Cond.initialized C).before args s = true)
    (hK : va_K D vwCl (ix_tys G) s) (hP : va_P D vwCl (ix_ws G (kad lo b sa) (kids t) h) H) (hz : H.size = lo + t) (hS : va_S (ix_A lo) s.heap H locs) (hc : vwCl[ci]? = some (C, T, N)) (ht : t < 709) {a : Nat} (ha : kal t = a) (hk : ix_k a = 5) (hn : ix_n a = ci) (hfs : ∀ j, j < N → defaultValue (ty j) = vp_V (ix_fv G (kad lo b sa) h a) j) (hcells : cells + 1 ≤ R.cells) (hslots : slots + N ≤ R.slots) (hdg : decode cc pc = .ok (.new index, 3))
    (kk : ∀ H1, va_P D vwCl (ix_ws G (kad lo b sa) (kids (t + 1)) h) H1 → H1.size = lo + (t + 1) → va_S (ix_A lo) s.heap H1 locs → W p l e R s m args below meth c H1 locs (cells + 1) (slots + N) Q (F0 m (pc + 3) ls (.ref (lo + t) :: rest))) : W p l e R s m args below meth c H locs cells slots Q (F0 m pc ls rest) := by
  have hKn := hK.1 ci _ hc
  refine W.newcK hx hb hown hcl hinst hini rfl hdg hcells hslots hKn.2.1 hz fun H1 kC hkC e1 z1 o1 => ?_
  have o2 : ∀ q, q < H.size → H1[q]? = H[q]? := fun q hq => o1 q (by omega)
  refine kk H1 (kx_add (kx_lt hP o2) ?_) (by omega) (kx_S hS (by omega) o2)
  rw [kad_al ht, ha, ix_cell5 hk, hn]
  exact ⟨_, hc, (u_born ty hts (ix_cok hc).1 hKn hkC e1 hty).to hfs⟩
-- a reference put into a field
theorem kx_fvset {mk' : Nat → Nat → Bool} {g : ClassId × ClassId × ClassId × ClassId} {mk : Nat → Nat → Bool} {ad : Nat → Nat} {a k u : Nat} (hr : (ix_rf a)[k]? = some (some u)) (hm : ∀ a' k', mk' a' k' = if a' = a ∧ k' = k then true else mk a' k') : (ix_fv (g.1, g.2.1, g.2.2.1, g.2.2.2, mk) ad h a).set k (.ref (ad u)) = ix_fv (g.1, g.2.1, g.2.2.1, g.2.2.2, mk') ad h a := by
  refine List.ext_getElem? fun j => ?_
  have hl : k < (ix_fv (g.1, g.2.1, g.2.2.1, g.2.2.2, mk) ad h a).length := by unfold ix_fv; rw [List.length_mapIdx]; exact (List.getElem?_eq_some_iff.mp hr).1
  rw [List.getElem?_set]
  by_cases hj : k = j
  · subst hj
    rw [if_pos rfl, if_pos hl, ix_fv_at hr]
    show some (Value.ref (ad u)) = some (ix_fe ad (mk' a k) (h a k) (some u))
    rw [hm, if_pos ⟨rfl, rfl⟩]
    rfl
  · rw [if_neg hj]
    cases hr2 : (ix_rf a)[j]? with
    | none =>
      unfold ix_fv
      rw [List.getElem?_mapIdx, List.getElem?_mapIdx, hr2]
      rfl
    | some r =>
      rw [ix_fv_at hr2, ix_fv_at hr2]
      show some (ix_fe ad (mk a j) (h a j) r) = some (ix_fe ad (mk' a j) (h a j) r)
      rw [hm, if_neg (fun z => hj z.2.symm)]
theorem kx_cellne {mk' : Nat → Nat → Bool} {g : ClassId × ClassId × ClassId × ClassId} {mk : Nat → Nat → Bool} {ad : Nat → Nat} {a a' k : Nat} (hm : ∀ a' k', mk' a' k' = if a' = a ∧ k' = k then true else mk a' k') (hne : a' ≠ a) : ix_cell (g.1, g.2.1, g.2.2.1, g.2.2.2, mk') ad h a' = ix_cell (g.1, g.2.1, g.2.2.1, g.2.2.2, mk) ad h a' := by
  unfold ix_cell ix_fv
  have : (fun k r => ix_fe ad (mk' a' k) (h a' k) r) = (fun k r => ix_fe ad (mk a' k) (h a' k) r) := by
    funext k2 r
    rw [hm, if_neg (fun z => hne z.1)]
  dsimp only
  rw [this]
theorem kx_wsset {mk' : Nat → Nat → Bool} {g : ClassId × ClassId × ClassId × ClassId} {mk : Nat → Nat → Bool} {ad : Nat → Nat} {a k u i : Nat} (ht : t ≤ 709) (hi : i < t) (ha : kal i = a) (h5 : ix_k a = 5) (hr : (ix_rf a)[k]? = some (some u)) (hm : ∀ a' k', mk' a' k' = if a' = a ∧ k' = k then true else mk a' k') : (ix_ws (g.1, g.2.1, g.2.2.1, g.2.2.2, mk) ad (kids t) h).set i (ad a, .inr (ix_n a, (ix_fv (g.1, g.2.1, g.2.2.1, g.2.2.2, mk) ad h a).set k (.ref (ad u)))) = ix_ws (g.1, g.2.1, g.2.2.1, g.2.2.2, mk') ad (kids t) h := by
  have hia : (kids t)[i]? = some a := by rw [kids_at hi, ha]
  refine List.ext_getElem? fun j => ?_
  unfold ix_ws
  rw [List.getElem?_set, List.getElem?_map, List.getElem?_map]
  by_cases hj : i = j
  · subst hj
    rw [if_pos rfl, if_pos (by rw [List.length_map]; exact (List.getElem?_eq_some_iff.mp hia).1), hia]
    show some (ad a, _) = some (ad a, _)
    rw [kx_fvset hr hm, ix_cell5 h5]
  · rw [if_neg hj]
    cases hb : (kids t)[j]? with
    | none => rfl
    | some b' =>
      have hne : b' ≠ a := fun e => hj (ix_nd (kids_nd ht) hia (e ▸ hb))
      show some (ad b', _) = some (ad b', _)
      rw [kx_cellne hm hne]
end KX
