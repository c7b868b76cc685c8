def kNl : List Cond := [.methodLinkNest "CryGorge" 24 ⟨"CryGorge$Land", "<init>", "()V"⟩ "CryGorge", .methodLinkNest "CryGorge" 44 ⟨"CryGorge$Heard", "<init>", "()V"⟩ "CryGorge", .methodLinkNest "CryGorge" 54 ⟨"CryGorge$Work", "<init>", "()V"⟩ "CryGorge", .methodLinkNest "CryGorge" 82 ⟨"CryGorge$History", "<init>", "()V"⟩ "CryGorge"]
def kN (U : State) : Prop := va_AOA .int U ∧ ∀ w ∈ kNl, va_Nw w U
theorem va_AOA.moved {ty : FieldType} {s U : State} (hv : s.vm.Alike U.vm) (h : va_AOA ty s) : va_AOA ty U := by
  have e : (Cond.arrayOver (.array ty)).before #[] (s.setVm U.vm) = true := by
    rw [Cond.arrayOver_setVmC hv]
    exact h
  exact e
theorem kN.moved {s U : State} (hW : s.WarmedH U.vm) (h : kN s) : kN U := by
  refine ⟨h.1.moved hW.alike, fun w hw => ?_⟩
  have h2 := h.2 w hw
  unfold kNl at hw
  simp only [List.mem_cons, List.not_mem_nil, or_false] at hw
  rcases hw with rfl | rfl | rfl | rfl <;> exact va_Nw.warmM hW h2
abbrev kG (g : ClassId × ClassId × ClassId × ClassId) (u : Nat) : ix_G := (g.1, g.2.1, g.2.2.1, g.2.2.2, kmk u)
abbrev kg4 : Type := ClassId × ClassId × ClassId × ClassId
def kSt (D : va_G) (g : kg4) (lo b : Nat) (sa : Nat → Nat) (t u : Nat) (h : ix_H) (U : State) : Prop := U.heap.size = lo + t ∧ ix_St D (kG g u) (kad lo b sa) (kids t) lo h U ∧ kN U
def kSp (D : va_G) (g : kg4) (lo b : Nat) (sa : Nat → Nat) (t u : Nat) (h : ix_H) (U : State) : Prop := U.heap.size = lo + t ∧ ix_Sp D (kG g u) (kad lo b sa) (kids t) lo h U
def kMet (l : Launch) (y : MethodName) (cc : ByteArray) (maxL fr lc ms : Nat) (D : va_G) (g : kg4) (lo b : Nat) (sa : Nat → Nat) (as : List Nat) (t u : Nat) (h : ix_H) (t' u' : Nat) (h' : ix_H) : Prop := Met l y (Cond.code y cc maxL none :: ix_gw) { frames := fr, cells := t' - t, slots := ms, locals := lc } (va_Pc (as.map (fun i => .ref (lo + i))) (kSt D g lo b sa t u h)) (va_Qv (fun _ : Unit => True) (fun _ => kSp D g lo b sa t' u' h') (ix_A lo)) (t' - t) ms (ix_A lo)
theorem kblind {D : va_G} {g : kg4} {lo b : Nat} {sa : Nat → Nat} {t u : Nat} {h : ix_H} {av : List Value} : FrameBlind (va_Pc av (kSt D g lo b sa t u h)) := by
  intro a U f mk hp
  obtain ⟨h1, h2, ⟨h3, h4, h5, h6⟩, h7⟩ := hp
  refine ⟨h1, h2, ⟨h3, va_K.moved (u := U) (U := U.calling f mk a) (Vm.Alike.refl U.vm) h4, ?_, ?_⟩, ?_⟩
  · exact ix_Es.moved (s := U) (U := U.calling f mk a) (State.WarmedH.refl U) h5
  · exact ix_SX.moved (s := U) (U := U.calling f mk a) (Vm.Alike.refl U.vm) h6
  · exact kN.moved (s := U) (U := U.calling f mk a) (State.WarmedH.refl U) h7
theorem kgood {y : MethodName} {cc : ByteArray} {maxL : Nat} (h : Cond.code y cc maxL none ∈ lw_tbl) : GoodIn ix_gw (Cond.code y cc maxL none :: ix_gw) := by
  intro w hw
  rcases List.mem_cons.mp hw with rfl | hw
  · exact ⟨ix_gwm h rfl, good_of_word rfl⟩
  · exact ⟨hw, good_of_word (ix_gw_good hw)⟩
section KX
variable {p : Program} {l : Launch} {e : Env} {R : Room} {s : State} {m : MethodId} {args : Array Value} {below : List Frame} {meth : Method} {c : Code} {H : Heap} {locs : List Loc} {cells slots : Nat} {Q : State → Prop}
variable {cc : ByteArray} {pc : Nat} {ls : Array Slot} {rest : List Value} {D : va_G} {g : kg4} {lo b : Nat} {sa : Nat → Nat} {t u : Nat} {h : ix_H}
theorem kx_ws {G : ix_G} {i a ci : Nat} (ht : t ≤ 709) (hi : i < t) (ha : kal i = a) (h5 : ix_k a = 5) (hn : ix_n a = ci) : (ix_ws G (kad lo b sa) (kids t) h)[i]? = some (lo + i, .inr (ci, ix_fv G (kad lo b sa) h a)) := by
  have he := ix_ws_at (G := G) (ad := kad lo b sa) (h := h) (kids_at hi)
  rw [kad_al (by omega), ha, ix_cell5 h5, hn] at he
  exact he
theorem kx_get {G : ix_G} (hx : p.tables.exec = Jvm.exec) (hb : c.code = cc) {own ref C : String} {T : u_T} {N ci index i a k j v : Nat} (hts : ∀ w ∈ ix_gw, w.before args s = true) (hown : s.vm.findClass own = some m.cls) (hK : va_K D vwCl (ix_tys G) s) (hP : va_P D vwCl (ix_ws G (kad lo b sa) (kids t) h) H) (ht : t ≤ 709) (hi : i < t) (ha : kal i = a) (h5 : ix_k a = 5) (hn : ix_n a = ci) (hc : vwCl[ci]? = some (C, T, N)) (hk : k < N) (hlink : (Cond.fieldLink own index ref (T k).2.1 (T k).2.2.1).before args s = true) (hrf : (T k).1 = ref) (hr : (ix_rf a)[k]? = some (some v)) (hm : G.2.2.2.2 a k = true) (hu : kal j = v) (hj : j < 709) (hdg : decode cc pc = .ok (.getfield index, 3))
    (kk : W p l e R s m args below meth c H locs cells slots Q (F0 m (pc + 3) ls (.ref (lo + j) :: rest))) : W p l e R s m args below meth c H locs cells slots Q (F0 m pc ls (.ref (lo + i) :: rest)) := by
  refine va_get hx hb hts (ix_cok hc).1 hown hK hP i (kx_ws ht hi ha h5 hn) hc k hk hlink (fun x hx => by rw [← hrf]; exact hx) (v := .ref (lo + j)) ?_ hdg kk
  rw [ix_fv_at hr, hm, ← hu]
  show some (Value.ref (kad lo b sa (kal j))) = _
  rw [kad_al hj]
theorem kx_putF (hx : p.tables.exec = Jvm.exec) (hb : c.code = cc) {own ref C : String} {T : u_T} {N ci index i a k j v : Nat} (hts : ∀ w ∈ ix_gw, w.before args s = true) (hown : s.vm.findClass own = some m.cls) (hK : va_K D vwCl (ix_tys (kG g u)) s) (hP : va_P D vwCl (ix_ws (kG g u) (kad lo b sa) (kids t) h) H) (hz : H.size = lo + t) (hS : va_S (ix_A lo) s.heap H locs) (ht : t ≤ 709) (hi : i < t) (ha : kal i = a) (h5 : ix_k a = 5) (hn : ix_n a = ci) (hc : vwCl[ci]? = some (C, T, N)) (hk : k < N) (hlink : (Cond.fieldLink own index ref (T k).2.1 (T k).2.2.1).before args s = true) (hrf : (T k).1 = ref) (hfin : (T k).2.2.2 = true) (hin : meth.name = "<init>") (hdecl : (T k).1 = own) {ty : FieldType} (hd : parseFieldDescriptor (T k).2.2.1 = some ty) (hnar : ∀ q, narrow ty (.ref q) = .ref q) (hfit : ∀ q, fits ty (.ref q) = true) (hr : (ix_rf a)[k]? = some (some v)) (hm : kP[u]? = some (a, k)) (hu : kal j = v) (hj : j < 709) (hdg : decode cc pc = .ok (.putfield index, 3))
    (kk : ∀ (H1 : Heap) (locs1 : List Loc), va_P D vwCl (ix_ws (kG g (u + 1)) (kad lo b sa) (kids t) h) H1 → H1.size = lo + t → va_S (ix_A lo) s.heap H1 locs1 → W p l e R s m args below meth c H1 locs1 cells slots Q (F0 m (pc + 3) ls rest)) : W p l e R s m args below meth c H locs cells slots Q (F0 m pc ls (.ref (lo + j) :: .ref (lo + i) :: rest)) := by
  obtain ⟨hin2, ⟨ty0, hty⟩, hnm⟩ := ix_cok hc
  have hl : k < (ix_fv (kG g u) (kad lo b sa) h a).length := by unfold ix_fv; rw [List.length_mapIdx]; exact (List.getElem?_eq_some_iff.mp hr).1
  have he := kx_ws (G := kG g u) (lo := lo) (b := b) (sa := sa) (h := h) ht hi ha h5 hn
  have hD : va_D (ix_A lo) (ix_ws (kG g u) (kad lo b sa) (kids t) h) := kx_D ht
  have hap := va_apart (own := own) hts hin2 ty0 hty hnm hK hc
  obtain ⟨r, h1, cell, q1, q2, q3, q4⟩ := hP i _ he
  obtain rfl : r = (C, T, N) := Option.some.inj (h1.symm.trans hc)
  obtain ⟨hSl, hfc, kC, hkC, hkind⟩ := hK.1 ci _ hc
  obtain ⟨cf, kf, fi, f, hfi, hsl⟩ := hSl k hk
  have hlay := hts _ (hin2 _ (u_in_lay hk))
  unfold u_lay at hlay
  rw [if_pos hfin] at hlay
  have hst := (u_facts hfc hkC (u_lays hts hin2 hk) hfi).1
  have hcf : m.cls = cf := by
    obtain ⟨_, _, c', _, _, _, -, -, hf', -, -, -, hown2, -⟩ := Cond.laysFinal_spec hlay
    have e1 : c' = cf := by have := hfi.symm.trans hf'; simp at this; exact this.1.symm
    rw [hdecl] at hown2
    rw [← e1]; exact Option.some.inj (hown.symm.trans hown2)
  have h6 := u_fits hfc hkC hkind (Or.inr hlay) hfi hd (hnar (lo + j)) (hfit (lo + j))
  refine W.putFinK hx hb hown hlink (by rw [← hrf]; exact hfi) hst hcf hin (by rw [q2]; exact h6) q1 q3 (by rw [hsl]; exact k2_hasslot (q4 k hk)) rfl rfl hdg fun H' e1 e2 e3 => ?_
  rw [hsl] at e1 ⊢
  have hP2 := hP.set hD he (e := .inr (ci, (ix_fv (kG g u) (kad lo b sa) h a).set k (.ref (lo + j)))) ⟨_, hc, t_OB.to (V := updV (vp_V (ix_fv (kG g u) (kad lo b sa) h a)) k (.ref (lo + j))) ⟨_, e1, q2, q3, t_set q4 hap hk (.ref (lo + j))⟩ (fun j' _ => vp_updV_set hl (.ref (lo + j)) j')⟩ e3
  refine kk H' _ ?_ (e2.trans hz) (hS.put e2 e3 (hD.2 i _ he))
  have ew := kx_wsset (g := g) (mk := kmk u) (mk' := kmk (u + 1)) (ad := kad lo b sa) (h := h) ht hi ha h5 hr (kmk_s hm)
  rw [← hu, kad_al hj, ← ha, kad_al (by omega), ha, hn] at ew
  rw [← ew]
  exact hP2
theorem kx_puti {G : ix_G} (hx : p.tables.exec = Jvm.exec) (hb : c.code = cc) {own ref C : String} {T : u_T} {N ci index i a k : Nat} {v : Int32} (hts : ∀ w ∈ ix_gw, w.before args s = true) (hown : s.vm.findClass own = some m.cls) (hK : va_K D vwCl (ix_tys G) s) (hP : va_P D vwCl (ix_ws G (kad lo b sa) (kids t) h) H) (hz : H.size = lo + t) (hS : va_S (ix_A lo) s.heap H locs) (ht : t ≤ 709) (hi : i < t) (ha : kal i = a) (h5 : ix_k a = 5) (hn : ix_n a = ci) (hc : vwCl[ci]? = some (C, T, N)) (hk : k < N) (hlink : (Cond.fieldLink own index ref (T k).2.1 (T k).2.2.1).before args s = true) (hrf : (T k).1 = ref) (hfin : (T k).2.2.2 = false) (hd : parseFieldDescriptor (T k).2.2.1 = some .int) (hr : (ix_rf a)[k]? = some none) (hdg : decode cc pc = .ok (.putfield index, 3))
    (kk : ∀ (H1 : Heap) (locs1 : List Loc), va_P D vwCl (ix_ws G (kad lo b sa) (kids t) (ix_up h a k v)) H1 → H1.size = lo + t → va_S (ix_A lo) s.heap H1 locs1 → W p l e R s m args below meth c H1 locs1 cells slots Q (F0 m (pc + 3) ls rest)) : W p l e R s m args below meth c H locs cells slots Q (F0 m pc ls (.int v :: .ref (lo + i) :: rest)) := by
  obtain ⟨hin2, ⟨ty0, hty⟩, hnm⟩ := ix_cok hc
  have hl : k < (ix_fv G (kad lo b sa) h a).length := by unfold ix_fv; rw [List.length_mapIdx]; exact (List.getElem?_eq_some_iff.mp hr).1
  have he := kx_ws (G := G) (lo := lo) (b := b) (sa := sa) (h := h) ht hi ha h5 hn
  have hD : va_D (ix_A lo) (ix_ws G (kad lo b sa) (kids t) h) := kx_D ht
  have hap := va_apart (own := own) hts hin2 ty0 hty hnm hK hc
  obtain ⟨r, h1, cell, q1, q2, q3, q4⟩ := hP i _ he
  obtain rfl : r = (C, T, N) := Option.some.inj (h1.symm.trans hc)
  obtain ⟨hSl, hfc, kC, hkC, hkind⟩ := hK.1 ci _ hc
  obtain ⟨cf, kf, fi, f, hfi, hsl⟩ := hSl k hk
  have hlay := hts _ (hin2 _ (u_in_lay hk))
  unfold u_lay at hlay
  rw [if_neg (by rw [hfin]; decide)] at hlay
  have hst := (u_facts hfc hkC (u_lays hts hin2 hk) hfi).1
  have h6 := u_store hfc hkC hkind hlay hfi hd (v := .int v) rfl rfl
  refine W.putK hx hb (f := f) ⟨hown, hlink, ⟨_, _, _, by rw [← hrf]; exact hfi⟩, hst⟩ (by rw [q2]; exact h6) q1 q3 (by rw [hsl]; exact k2_hasslot (q4 k hk)) rfl rfl hdg fun H' e1 e2 e3 => ?_
  rw [hsl] at e1 ⊢
  have hP2 := hP.set hD he (e := .inr (ci, (ix_fv G (kad lo b sa) h a).set k (.int v))) ⟨_, hc, t_OB.to (V := updV (vp_V (ix_fv G (kad lo b sa) h a)) k (.int v)) ⟨_, e1, q2, q3, t_set q4 hap hk (.int v)⟩ (fun j' _ => vp_updV_set hl (.int v) j')⟩ e3
  refine kk H' _ ?_ (e2.trans hz) (hS.put e2 e3 (hD.2 i _ he))
  have hia : (kids t)[i]? = some a := by rw [kids_at hi, ha]
  have ew := ix_ws_set (G := G) (ad := kad lo b sa) (h := h) (h' := ix_up h a k v) (x := .inr (ci, (ix_fv G (kad lo b sa) h a).set k (.int v))) (kids_nd ht) hia (by rw [ix_cell5 h5, hn, ix_fv_set hr]) (fun b' hb' => ix_cell_of (ix_up_ne hb'))
  rw [← ha, kad_al (by omega), ha] at ew
  rw [← ew]
  exact hP2
-- a call of a constructor
theorem kx_after {mc ms : Nat} {st0 : List Value} {t' u' : Nat} {h' : ix_H} {a : Array Value} (hr : va_Run p l e R s m args below meth c H locs cells slots mc ms (F0 m pc ls st0) rest (va_Qv (fun _ : Unit => True) (fun _ => kSp D g lo b sa t' u' h') (ix_A lo) a) (ix_A lo)) (hS : va_S (ix_A lo) s.heap H locs) (hE : ix_Es (kad lo b sa) lo s s.heap)
    (kk : ∀ (H1 : Heap) (locs1 : List Loc), va_P D vwCl (ix_ws (kG g u') (kad lo b sa) (kids t') h') H1 → H1.size = lo + t' → va_S (ix_A lo) s.heap H1 locs1 → ix_SX (kad lo b sa) lo h' s s.heap → W p l e R s m args below meth c H1 locs1 (cells + mc) (slots + ms) Q (F0 m (pc + 3) ls rest)) : W p l e R s m args below meth c H locs cells slots Q (F0 m pc ls st0) := by
  refine va_callv hr hS (fun _ _ h => h) (fun _ h => h) (fun _ t1 H1 locs1 ht hv _ hB _ _ hS1 => ?_)
  obtain ⟨z1, hP1, hX1⟩ := hB
  rw [ht] at z1 hP1 hX1
  exact kk H1 locs1 hP1 z1 hS1 (ix_SXb hE hv hS1 hX1)
theorem kx_pre {av : List Value} (hP : va_P D vwCl (ix_ws (kG g u) (kad lo b sa) (kids t) h) H) (hz : H.size = lo + t) (hS : va_S (ix_A lo) s.heap H locs) (hK : va_K D vwCl (ix_tys (kG g u)) s) (hE : ix_Es (kad lo b sa) lo s s.heap) (hX : ix_SX (kad lo b sa) lo h s s.heap) (hN : kN s) : ∀ U : State, U.heap = H → s.WarmedH U.vm → va_Pc av (kSt D g lo b sa t u h) av.toArray U := fun U hU hW => ⟨rfl, by rw [hU]; exact hz, ix_St.of hP hK hE hX hS hU hW, hN.moved hW⟩
theorem kx_init {y : MethodName} {cb : ByteArray} {maxL fr lc ms nL idx i : Nat} {own : String} {as : List Nat} {t' u' : Nat} {h' : ix_H} (hx : p.tables.exec = Jvm.exec) (hb : c.code = cc) (hml : c.maxLocals = nL) (hls : ls.size = nL) (hown : s.vm.findClass own = some m.cls) (hts : ∀ w ∈ ix_gw, w.before args s = true) (hM : kMet l y cb maxL fr lc ms D g lo b sa (i :: as) t u h t' u' h') (hcw : Cond.code y cb maxL none ∈ lw_tbl) (hini : (Cond.initialized y.cls).before args s = true) (hl : (Cond.methodLink own idx y).before args s = true) (hin : (Cond.instanceMethod y).before args s = true) (hy1 : y.name = "<init>")
    (hd : y.cls ≠ "java/lang/invoke/MethodHandle" ∧ y.cls ≠ "java/lang/invoke/VarHandle" ∧ (parseMethodDescriptor y.desc).map (fun d => d.parameters.length) = some as.length) (hR : fr + 1 ≤ R.frames ∧ 8 + (maxL + 11) + lc ≤ R.locals) (hP : va_P D vwCl (ix_ws (kG g u) (kad lo b sa) (kids t) h) H) (hz : H.size = lo + t) (hS : va_S (ix_A lo) s.heap H locs) (hK : va_K D vwCl (ix_tys (kG g u)) s) (hE : ix_Es (kad lo b sa) lo s s.heap) (hX : ix_SX (kad lo b sa) lo h s s.heap) (hN : kN s) (hW : (rest.map fun v => v.category).sum ≤ 8) (hdg : decode cc pc = .ok (.invokespecial idx, 3)) (hf : cells + (t' - t) ≤ R.cells ∧ slots + ms ≤ R.slots)
    (kk : ∀ (H1 : Heap) (locs1 : List Loc), va_P D vwCl (ix_ws (kG g u') (kad lo b sa) (kids t') h') H1 → H1.size = lo + t' → va_S (ix_A lo) s.heap H1 locs1 → ix_SX (kad lo b sa) lo h' s s.heap → W p l e R s m args below meth c H1 locs1 (cells + (t' - t)) (slots + ms) Q (F0 m (pc + 3) ls rest)) : W p l e R s m args below meth c H locs cells slots Q (F0 m pc ls ((as.map (fun i => Value.ref (lo + i))).reverse ++ .ref (lo + i) :: rest)) := by
  refine kx_after (va_runI (As := as.map (fun i => Value.ref (lo + i))) (b := lo + i) ⟨hx, hb, hml, hown, hts⟩ hM (cwI as.length hts (kgood hcw) rfl rfl rfl hini hl hin hy1 hd hR) ⟨kblind, ?_⟩ rfl (List.length_map _) hls rfl (lv_room hW) hdg hf) hS hE kk
  exact kx_pre (av := (i :: as).map (fun i => Value.ref (lo + i))) hP hz hS hK hE hX hN
theorem kx_initN {y : MethodName} {cb : ByteArray} {maxL fr lc ms nL idx i : Nat} {own : String} {as : List Nat} {t' u' : Nat} {h' : ix_H} (hx : p.tables.exec = Jvm.exec) (hb : c.code = cc) (hml : c.maxLocals = nL) (hls : ls.size = nL) (hown : s.vm.findClass own = some m.cls) (hts : ∀ w ∈ ix_gw, w.before args s = true) (hM : kMet l y cb maxL fr lc ms D g lo b sa (i :: as) t u h t' u' h') (hcw : Cond.code y cb maxL none ∈ lw_tbl) (hini : (Cond.initialized y.cls).before args s = true) (hl : va_Nw (.methodLinkNest own idx y "CryGorge") s) (hin : (Cond.instanceMethod y).before args s = true) (hy1 : y.name = "<init>")
    (hd : y.cls ≠ "java/lang/invoke/MethodHandle" ∧ y.cls ≠ "java/lang/invoke/VarHandle" ∧ (parseMethodDescriptor y.desc).map (fun d => d.parameters.length) = some as.length) (hR : fr + 1 ≤ R.frames ∧ 8 + (maxL + 11) + lc ≤ R.locals) (hP : va_P D vwCl (ix_ws (kG g u) (kad lo b sa) (kids t) h) H) (hz : H.size = lo + t) (hS : va_S (ix_A lo) s.heap H locs) (hK : va_K D vwCl (ix_tys (kG g u)) s) (hE : ix_Es (kad lo b sa) lo s s.heap) (hX : ix_SX (kad lo b sa) lo h s s.heap) (hN : kN s) (hW : (rest.map fun v => v.category).sum ≤ 8) (hdg : decode cc pc = .ok (.invokespecial idx, 3)) (hf : cells + (t' - t) ≤ R.cells ∧ slots + ms ≤ R.slots)
    (kk : ∀ (H1 : Heap) (locs1 : List Loc), va_P D vwCl (ix_ws (kG g u') (kad lo b sa) (kids t') h') H1 → H1.size = lo + t' → va_S (ix_A lo) s.heap H1 locs1 → ix_SX (kad lo b sa) lo h' s s.heap → W p l e R s m args below meth c H1 locs1 (cells + (t' - t)) (slots + ms) Q (F0 m (pc + 3) ls rest)) : W p l e R s m args below meth c H locs cells slots Q (F0 m pc ls ((as.map (fun i => Value.ref (lo + i))).reverse ++ .ref (lo + i) :: rest)) := by
  refine kx_after (va_runIN (As := as.map (fun i => Value.ref (lo + i))) (b := lo + i) ⟨hx, hb, hml, hown, hts⟩ hM ⟨va_cnB as.length hts (kgood hcw) rfl rfl rfl hl hini hd hR, hy1, hin⟩ ⟨kblind, ?_⟩ rfl (List.length_map _) hls rfl (lv_room hW) hdg hf) hS hE kk
  exact kx_pre (av := (i :: as).map (fun i => Value.ref (lo + i))) hP hz hS hK hE hX hN
-- a call of a method
theorem kx_call {mi nL idx i a : Nat} {q : ix_Q4} {h' : ix_H} (hls : ls.size = nL) (hx : p.tables.exec = Jvm.exec) (hb : c.code = cc) (hml : c.maxLocals = nL) {own : String} (hl0 : l.stackTraces = false) (hown : s.vm.findClass own = some m.cls) (hts : ∀ w ∈ ix_gw, w.before args s = true) (hcal : ix_cal mi = some q) (hmi : mi < 260) (hex : ix_exec ix_tabP ix_pr (kdm t u) 8 20000 mi [.ref a] h = some (.inl none, h', 0)) (hlk : Cond.methodLink own idx q.1 ∈ ix_gw) (w2 : Cond.instanceMethod q.1 ∈ ix_gw) (w4 : Cond.selects q.1.cls q.1 q.1 ∈ ix_gw) (w5 : Cond.initialized q.1.cls ∈ ix_gw) (hd : q.1.cls ≠ "java/lang/invoke/MethodHandle" ∧ q.1.cls ≠ "java/lang/invoke/VarHandle" ∧ (parseMethodDescriptor q.1.desc).map (fun d => d.parameters.length) = some 0)
    (hR : 21 ≤ R.frames ∧ 8 + (q.2.2.1 + 11) + 628 ≤ R.locals) (ht : t ≤ 709) (hi : i < t) (ha : kal i = a) (h5 : ix_k a = 5) (hcn : ix_cn (ix_n a) = q.1.cls) (hcz : s.heap.size + cells ≤ lo + t) (hP : va_P D vwCl (ix_ws (kG g u) (kad lo b sa) (kids t) h) H) (hS : va_S (ix_A lo) s.heap H locs) (hK : va_K D vwCl (ix_tys (kG g u)) s) (hE : ix_Es (kad lo b sa) lo s s.heap) (hX : ix_SX (kad lo b sa) lo h s s.heap) (hcl : cells ≤ R.cells) (hsl : slots ≤ R.slots) (hW : (rest.map fun v => v.category).sum ≤ 8) (hdg : decode cc pc = .ok (.invokevirtual idx, 3))
    (kk : ∀ (H1 : Heap) (locs1 : List Loc), va_P D vwCl (ix_ws (kG g u) (kad lo b sa) (kids t) h') H1 → H1.size = lo + t → va_S (ix_A lo) s.heap H1 locs1 → ix_SX (kad lo b sa) lo h' s s.heap → W p l e R s m args below meth c H1 locs1 cells slots Q (F0 m (pc + 3) ls rest)) : W p l e R s m args below meth c H locs cells slots Q (F0 m pc ls (.ref (lo + i) :: rest)) := by
  have hC := ix_exec_ok (D := D) (G := kG g u) (ad := kad lo b sa) (ids := kids t) (lo := lo) hl0 (kx_F ht) ix_pr_ok 8 20000 mi [.ref a] h _ hex
  have hM := hC q hcal
  have hpl := ix_plain (q := q) (mi := mi) (Or.inl hmi)
  have hgin := ix_gin hcal (Or.inl hmi)
  have ea : kad lo b sa a = lo + i := by rw [← ha]; exact kad_al (by omega)
  have hgv : GoodIn ix_gw (wsV own idx q.1.cls q.1 (ix_wsM mi q)) := by
    intro w hw
    unfold wsV at hw
    rcases List.mem_append.mp hw with hw | hw
    · simp only [List.mem_cons, List.not_mem_nil, or_false] at hw
      rcases hw with rfl | rfl | rfl | rfl
      · exact ⟨hlk, good_of_word (ix_gw_good hlk)⟩
      · exact ⟨w2, good_of_word (ix_gw_good w2)⟩
      · exact ⟨w4, good_of_word (ix_gw_good w4)⟩
      · exact ⟨w5, good_of_word (ix_gw_good w5)⟩
    · exact hgin w hw
  have hcellB : ∃ cellB : Cell, H[lo + i]? = some cellB ∧ cellB.vm.isStatics = false ∧ s.vm.findClass q.1.cls = some cellB.cls := by
    obtain ⟨C, T, N, hq, -⟩ := ix_obj h5
    obtain ⟨cell, b1, b2, b3⟩ := va_recv hK hP hq (kx_ws ht hi ha h5 rfl)
    refine ⟨cell, b1, b2, ?_⟩
    have hlt : ix_n a < 13 := (List.getElem?_eq_some_iff.mp hq).1
    have e1 := ix_vw_cn (ix_n a) hlt
    rw [List.getD_eq_getElem?_getD, hq] at e1
    have e1 : C = ix_cn (ix_n a) := e1
    rw [← hcn, ← e1]
    exact b3
  have hpre : ∀ U : State, U.heap = H → s.WarmedH U.vm → ix_Pc D (kG g u) (kad lo b sa) (kids t) lo [.ref a] h (Value.ref (lo + i) :: ([] : List Value)).toArray U := fun U hU hW => ⟨by
    show _ = ([Value.ref (kad lo b sa a)] : List Value).toArray
    rw [ea], ix_St.of hP hK hE hX hS hU hW⟩
  have run := vx_runV (p := p) (e := e) (R := R) (below := below) (meth := meth) (locs := locs) (cells := cells) (slots := slots) (g := F0 m pc ls (.ref (lo + i) :: rest)) (rest := rest) (As := []) ⟨hx, hb, hml, hown, hts⟩ hM (cwV 0 hts hgv hpl rfl rfl ⟨rfl, hd.1, hd.2.1, hd.2.2⟩ (by unfold ix_rm; dsimp only; omega)) ⟨ix_blind, hcellB, hpre⟩ rfl rfl hls rfl (lv_room hW) hdg ⟨by show cells + 0 ≤ _; omega, by show slots + 6 * 0 ≤ _; omega⟩
  refine ix_aft hE run hS (fun v H1 locs1 hv hP1 hX1 hS1 => ?_) (fun x q9 ce H1 locs1 hv => by cases hv)
  cases hv
  intro T hT X
  have up := X.same.2.2.1
  have up2 : T.heap.size ≤ s.heap.size + cells := up
  rw [hT] at up2
  have dn : lo + (t - 1) < H1.size := by
    have e9 := ix_ws_at (G := kG g u) (ad := kad lo b sa) (h := h') (kids_at (show t - 1 < t by omega))
    have := (hP1 _ _ e9).lt
    rw [kad_al (by omega)] at this
    exact this
  exact kk H1 locs1 hP1 (by omega) hS1 hX1 T hT X
end KX
