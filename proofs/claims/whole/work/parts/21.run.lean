theorem ix_cks_ok : ∀ e ∈ ix_cks, Cond.constant (ix_cn e.1) e.2.1 e.2.2 ∈ tables_1 := by decide +kernel
theorem ix_acK : ∀ e ∈ ix_mlk, e.2.2.2.1 = 7 → (e.1, e.2.1) ∈ ix_acS := by decide +kernel
theorem ix_acN : Cond.native arraycopyName ∈ tables_1 ∧ Cond.static arraycopyName ∈ tables_1 := by decide +kernel
theorem ix_acI : "java/lang/System" ∈ ix_inS := by decide +kernel
theorem ix_mathS3 : Cond.static Lib.Math.max.name ∈ tables_1 ∧ Cond.static Lib.Math.min.name ∈ tables_1 ∧ Cond.static Lib.Math.abs.name ∈ tables_1 := by decide +kernel
theorem ix_mathS (k : Nat) : Cond.static (ix_mn k) ∈ tables_1 := by
  unfold ix_mn
  split
  · exact ix_mathS3.1
  · split
    · exact ix_mathS3.2.1
    · exact ix_mathS3.2.2
theorem ix_mathI : "java/lang/Math" ∈ ix_inS := by decide +kernel
theorem ix_mathC : Cond.code Lib.Math.max.name Lib.Math.max.code 2 (some .int) ∈ tables_1 ∧ Cond.code Lib.Math.min.name Lib.Math.min.code 2 (some .int) ∈ tables_1 ∧ Cond.code Lib.Math.abs.name Lib.Math.abs.code 1 (some .int) ∈ tables_1 := by decide +kernel
theorem ix_mmK : ∀ e ∈ ix_mlk, 4 ≤ e.2.2.2.1 → e.2.2.2.1 ≤ 6 → (e.1, e.2.1, e.2.2.2.1) ∈ ix_mmS := by decide +kernel
theorem ix_cn11 : ix_cn 11 = "CryGorge" := by decide +kernel
theorem ix_tab_h11 : ∀ M ∈ ix_tab, ix_mc M = 11 → ix_mh M = [] := by decide +kernel
theorem ix_tab_len : ix_tab.length = 286 := by decide +kernel
theorem ix_hwl2 {mi : Nat} {q : ix_Q4} (h : ix_cal mi = some q) (h1 : 260 ≤ mi) (h2 : mi < 286) : ix_hw mi q ∈ lw_tbl := by
  by_cases e260 : mi = 260
  · subst e260; cases h; exact cW_260
  by_cases e261 : mi = 261
  · subst e261; cases h; exact cW_261
  by_cases e262 : mi = 262
  · subst e262; cases h; exact cW_262
  by_cases e263 : mi = 263
  · subst e263; cases h; exact cW_263
  by_cases e264 : mi = 264
  · subst e264; cases h; exact cW_264
  by_cases e265 : mi = 265
  · subst e265; cases h; exact cW_265
  by_cases e266 : mi = 266
  · subst e266; cases h; exact cW_266
  by_cases e267 : mi = 267
  · subst e267; cases h; exact cW_267
  by_cases e268 : mi = 268
  · subst e268; cases h; exact cW_268
  by_cases e269 : mi = 269
  · subst e269; cases h; exact cW_269
  by_cases e270 : mi = 270
  · subst e270; cases h; exact cW_270
  by_cases e271 : mi = 271
  · subst e271; cases h; exact cW_271
  by_cases e272 : mi = 272
  · subst e272; cases h; exact cW_272
  by_cases e273 : mi = 273
  · subst e273; cases h; exact cW_273
  by_cases e274 : mi = 274
  · subst e274; cases h; exact cW_274
  by_cases e275 : mi = 275
  · subst e275; cases h; exact cW_275
  by_cases e276 : mi = 276
  · subst e276; cases h; exact cW_276
  by_cases e277 : mi = 277
  · subst e277; cases h; exact cW_277
  by_cases e278 : mi = 278
  · subst e278; cases h; exact cW_278
  by_cases e279 : mi = 279
  · subst e279; cases h; exact cW_279
  by_cases e280 : mi = 280
  · subst e280; cases h; exact cW_280
  by_cases e281 : mi = 281
  · subst e281; cases h; exact cW_281
  by_cases e282 : mi = 282
  · subst e282; cases h; exact cW_282
  by_cases e283 : mi = 283
  · subst e283; cases h; exact cW_283
  by_cases e284 : mi = 284
  · subst e284; cases h; exact cW_284
  by_cases e285 : mi = 285
  · subst e285; cases h; exact cW_285
  exfalso
  omega
theorem ix_hwA {mi : Nat} {q : ix_Q4} (hq : ix_cal mi = some q) : ix_hw mi q ∈ lw_tbl := by
  by_cases h260 : mi < 260 ∨ mi = 900 ∨ mi = 901
  · exact ix_hwl hq h260
  · have hxx : mi < 286 := by
      rcases Nat.lt_or_ge mi 286 with z | z
      · exact z
      · exfalso
        unfold ix_cal at hq
        rw [List.getElem?_eq_none (by rw [ix_tab_len]; exact z)] at hq
        dsimp only at hq
        rw [if_neg (by omega), if_neg (by omega)] at hq
        cases hq
    exact ix_hwl2 hq (by omega) hxx
theorem ix_Es.str {ad : Nat → Nat} {lo : Nat} {U : State} {H : Heap} (h : ix_Es ad lo U H) {own i x : Nat} (hm : (own, i, x) ∈ ix_sks) : ∃ tx : String, vk_R (ix_cn own) i tx (ad x) U := by
  obtain ⟨-, -, -, h4, -⟩ := h
  have h5 := h4 (own, i, x) hm
  dsimp only at h5
  exact h5
section IXM
variable {l : Launch} {D : va_G} {G : ix_G} {ad : Nat → Nat} {ids : List Nat} {dm : Nat → Bool} {lo d c0 s0 : Nat} {M : ix_M} {call : Nat → List Value → ix_H → Option ix_R}
variable {p : Program} {e : Env} {R : Room} {s : State} {m : MethodId} {args : Array Value} {below : List Frame} {meth : Method} {c : Code} {r : ix_R}
def ix_Hc (own : Nat) (s : State) (args : Array Value) (c : Code) (M : ix_M) : Prop := ∀ (o : ix_Op) (x : Nat) (e : ix_Hd), o ∈ ix_mo M → ix_find (ix_mh M) (ix_pc o) x = some e →
  ∃ (name : String) (pre : List ExceptionTableEntry) (z : ExceptionTableEntry) (suf : List ExceptionTableEntry), c.exceptionTable.toList = pre ++ z :: suf ∧
    (∀ z' ∈ pre, covers z' (ix_pc o) = false ∨ (z'.catchType ≠ 0 ∧ ∃ nm : String, (Cond.classLink (ix_cn own) z'.catchType nm).before args s = true ∧ va_Nc (ix_en x) nm s)) ∧ covers z (ix_pc o) = true ∧ z.catchType ≠ 0 ∧
    (Cond.classLink (ix_cn own) z.catchType name).before args s = true ∧ (Cond.castable (ix_en x) name).before args s = true ∧
    ∃ (oh : ix_Op) (i0 : Nat), (ix_mo M)[i0]? = some oh ∧ ix_pc oh = z.handlerPc ∧ ((∃ n : Fin 4, ix_ins oh = .astore_n n ∧ (n : Nat) = e.2.2.2.2) ∨ ix_ins oh = .astore e.2.2.2.2) ∧ e.2.2.2.1 = i0 + 1
theorem ix_run_ok (hok : ix_okm M = true) (hokr : ix_okr M = true) (hM11 : ix_mc M = 11 → ix_mh M = []) (hcall : ∀ mi vs h r, call mi vs h = some r → ix_Ct D G ad ids lo l d mi vs h r) (hl : l.stackTraces = false) (hF : ix_Fx G ad ids dm lo)
    (hR : d + 13 ≤ R.frames ∧ 41 * d + 341 ≤ R.locals ∧ c0 + r.2.2 ≤ R.cells ∧ s0 + 6 * r.2.2 ≤ R.slots) (hx : p.tables.exec = Jvm.exec) (hb : c.code = ix_mb M) (hml : c.maxLocals = ix_ml M) (hown : s.vm.findClass (ix_cn (ix_mc M)) = some m.cls) (hts : ∀ w ∈ ix_gw, w.before args s = true) (hret : meth.sig.returnType = ix_mr M) (hlk : meth.locks = false)
    (hK : va_K D vwCl (ix_tys G) s) (hE : ix_Es ad lo s s.heap) (hno : ix_mh M = [] → ∀ x ∈ c.exceptionTable.toList, False) (hcat : ix_Hc (ix_mc M) s args c M) :
    ∀ (g i : Nat) (ls st : List Value) (h : ix_H) (k : Nat), ix_run dm call (ix_mo M) (ix_mh M) g i ls st h k = some r → ∀ o : ix_Op, (ix_mo M)[i]? = some o → ∀ (H : Heap) (locs : List Loc) (lsA : Array Slot), ix_Lh ad lsA (ix_ml M) ls → va_P D vwCl (ix_ws G ad ids h) H → ix_SX ad lo h s s.heap → va_S (ix_A lo) s.heap H locs →
      W p l e R s m args below meth c H locs (c0 + k) (s0 + 6 * k) (vx_MQ below (ix_Qc D G ad ids lo r) (ix_XC D G ad ids lo r) args s (c0 + r.2.2) (s0 + 6 * r.2.2) (ix_A lo)) (F0 m (ix_pc o) lsA (st.map (ix_cv ad))) := by
  unfold ix_okm at hok
  simp only [Bool.and_eq_true, decide_eq_true_eq] at hok
  obtain ⟨⟨⟨⟨⟨ok1, ok2⟩, ok3⟩, ok4⟩, ok5⟩, ok6⟩ := hok
  obtain ⟨hE1, hE2, hE3, hE4, hE5, hE6, hE7, hE8, hE9, hE10, hE11, hE12, -⟩ := id hE
  have hco : ∀ (i : Nat) (v : Int32), (ix_mc M, i, v) ∈ ix_cks → (Jvm.Cond.constant (ix_cn (ix_mc M)) i v).before args s = true := fun i v hm => hts _ (ix_gwm (ix_tbl (ix_cks_ok _ hm)) rfl)
  have hst : ∀ (i x : Nat), (ix_mc M, i, x) ∈ ix_sks → ∃ tx : String, vk_R (ix_cn (ix_mc M)) i tx (ad x) s := fun i x hm => ix_Es.str hE hm
  have hac : ∀ i, (ix_mc M, i, 0, 7, 5) ∈ ix_mlk → (Cond.methodLink (ix_cn (ix_mc M)) i arraycopyName).before args s = true ∧ (Cond.native arraycopyName).before args s = true ∧ (Cond.static arraycopyName).before args s = true ∧ (Cond.initialized "java/lang/System").before args s = true := fun i hm =>
    ⟨hts _ (ix_gwm (ix_tbl (ix_sub_ok _ _ ix_s9 _ (List.mem_map.mpr ⟨(ix_mc M, i), ix_acK _ hm rfl, rfl⟩))) rfl), hts _ (ix_gwm (ix_tbl ix_acN.1) rfl), hts _ (ix_gwm (ix_tbl ix_acN.2) rfl), hts _ (ix_gwm (ix_W5 ix_acI) rfl)⟩
  have hR12 : 12 ≤ R.frames ∧ 300 ≤ R.locals := by omega
  have hmm : ∀ (i k : Nat), (ix_mc M, i, k) ∈ ix_mmS → (Cond.methodLink (ix_cn (ix_mc M)) i (ix_mn k)).before args s = true := fun i k hm => hts _ (ix_gwm (ix_tbl (ix_sub_ok _ _ ix_s10 _ (List.mem_map.mpr ⟨(ix_mc M, i, k), hm, rfl⟩))) rfl)
  have hmS : ∀ k, (Cond.static (ix_mn k)).before args s = true := fun k => hts _ (ix_gwm (ix_tbl (ix_mathS k)) rfl)
  have hmI : (Cond.initialized "java/lang/Math").before args s = true := hts _ (ix_gwm (ix_W5 ix_mathI) rfl)
  have hm4 := hts _ (ix_gwm (ix_tbl ix_mathC.1) rfl)
  have hm5 := hts _ (ix_gwm (ix_tbl ix_mathC.2.1) rfl)
  have hm6 := hts _ (ix_gwm (ix_tbl ix_mathC.2.2) rfl)
  intro g
  induction g with
  | zero => intro i ls st h k hr; rw [ix_run] at hr; cases hr
  | succ g ih =>
    intro i ls st h k hr o ho H locs lsA hL hP hX hS
    obtain ⟨o9, ho9, hc⟩ := ix_run_cases hr
    cases Option.some.inj (ho.symm.trans ho9)
    have hmono := ix_run_mono _ _ _ _ _ _ _ hr
    have hok1 := List.all_eq_true.mp ok1 o (List.mem_of_getElem? ho)
    unfold ix_ok1 at hok1
    simp only [Bool.and_eq_true, Bool.or_eq_true, decide_eq_true_eq] at hok1
    obtain ⟨⟨hdg, hlen⟩, hres⟩ := hok1
    have nx : ∀ {ls' st' : List Value} {h' : ix_H} {k' : Nat}, ix_run dm call (ix_mo M) (ix_mh M) g (i + 1) ls' st' h' k' = some r → ∀ (H' : Heap) (locs' : List Loc) (lsA' : Array Slot), ix_Lh ad lsA' (ix_ml M) ls' → va_P D vwCl (ix_ws G ad ids h') H' → ix_SX ad lo h' s s.heap → va_S (ix_A lo) s.heap H' locs' →
        W p l e R s m args below meth c H' locs' (c0 + k') (s0 + 6 * k') (vx_MQ below (ix_Qc D G ad ids lo r) (ix_XC D G ad ids lo r) args s (c0 + r.2.2) (s0 + 6 * r.2.2) (ix_A lo)) (F0 m (ix_pc o + ix_len o) lsA' (st'.map (ix_cv ad))) := by
      intro ls' st' h' k' hr' H' locs' lsA' q1 q2 q3 q4
      obtain ⟨o', ho'⟩ := ix_run_some hr'
      rw [← ix_chain_at _ ok2 i o o' ho ho']
      exact ih (i + 1) ls' st' h' k' hr' o' ho' H' locs' lsA' q1 q2 q3 q4
    rcases hc with ⟨q, h1, h2⟩ | ⟨q, h1, h2⟩ | ⟨q, h1, h2⟩ | ⟨q, h1, h2⟩ | ⟨q, h1, h2⟩ | ⟨h1, h7, hz, hsum, hrcv, h', k', h2⟩ | ⟨v, h1, h2, h3, h4⟩ | ⟨h1, h2, h4⟩ | ⟨ik, h1, h2, h3, h4⟩
    · exact ix_l1 hx hb hown hco hst hdg hlen hres hL h1 (fun lsA' hL' => nx h2 H locs lsA' hL' hP hX hS)
    · exact ix_l2 hx hb hdg hlen hL h1 (fun lsA' hL' => nx h2 H locs lsA' hL' hP hX hS)
    · exact ix_l3 hx hb (hml.trans hL.size.symm) hown hR12 (by omega) hmm hmS hmI hm4 hm5 hm6 ix_mmK hdg hlen hres hL h1 (fun lsA' hL' => nx h2 H locs lsA' hL' hP hX hS)
    · refine ix_lb hx hb hdg hlen rfl hres h1 (fun pc' hpc => ?_)
      rcases hpc with ⟨e1, rfl⟩ | ⟨o', ho', rfl⟩
      · rw [e1] at h2
        exact nx h2 H locs lsA hL hP hX hS
      · exact ih q.1 ls q.2 h k h2 o' ho' H locs lsA hL hP hX hS
    · refine ix_lh hx hb (hml.trans hL.size.symm) hts hE2 hown hK hac hR12 hF hP hS hE1 hX hdg hlen hres h1 (fun H1 locs1 q1 q2 q3 => ?_)
      exact nx h2 H1 locs1 lsA hL q1 (hX.same q3.1 q3.2) q2
    · rcases h2 with ⟨v, h3, h4⟩ | ⟨x, hy0, h3, h4⟩
      · have hm2 := ix_run_mono _ _ _ _ _ _ _ h4
        obtain ⟨hn3, a9, hrun⟩ := ix_lcall (r := (.inl v, h', k')) hx hb hml hL.size hts hown hK hR hm2 hF hP hS hE hX hdg hlen hres h1 h7 hz hsum hrcv (hcall _ _ _ _ h3)
          (fun h39 => ⟨fun v9 hv9 => (by cases hv9), fun q hq => ix_hwA hq⟩) (fun _ v9 hv9 => by cases hv9)
        refine ix_aft hE hrun hS (fun v1 H1 locs1 e1 q1 q2 q3 => ?_) (fun x1 q9 ce H1 locs1 e1 => by cases e1)
        cases e1
        have := nx h4 H1 locs1 lsA hL q1 q2 q3
        rw [hn3] at this
        have e5 : (v.map (ix_cv ad)).toList ++ (st.drop (ix_z o)).map (ix_cv ad) = (v.toList ++ st.drop (ix_z o)).map (ix_cv ad) := by cases v <;> simp
        rw [e5]
        rw [Nat.mul_add, ← Nat.add_assoc, ← Nat.add_assoc] at this
        exact this
      · have hkk : k + k' ≤ r.2.2 := by
          rcases h4 with ⟨-, h4⟩ | ⟨e9, -, -, h4⟩
          · rw [h4]; exact Nat.le_refl _
          · exact ix_run_mono _ _ _ _ _ _ _ h4
        obtain ⟨hn3, a9, hrun⟩ := ix_lcall (r := (.inr x, h', k')) hx hb hml hL.size hts hown hK hR hkk hF hP hS hE hX hdg hlen hres h1 h7 hz hsum hrcv (hcall _ _ _ _ h3) (fun h39 => by omega) (fun h39 => by omega)
        refine ix_aft hE hrun hS (fun v1 H1 locs1 e1 => by cases e1) (fun x1 q9 ce H1 locs1 e1 q1 q2 q3 g1 g2 g3 => ?_)
        cases e1
        rcases h4 with ⟨hs0, h4⟩ | ⟨e9, hf9, hl9, h4⟩
        · subst h4
          refine vx_out (fun x hx9 => absurd (hno hs0 x hx9) id) hlk g1 g2 g3 (fun t ht hv => ?_) q3.2.2 (by show c0 + k + k' ≤ c0 + (k + k'); omega) (by show s0 + 6 * k + 6 * k' ≤ s0 + 6 * (k + k'); omega)
          exact ⟨x, rfl, rfl, ix_lend q1 hE q2 q3 ht hv⟩
        · obtain ⟨name, pre, z, suf, t1, t2, t3, t4, t5, t6, oh, i0, t7, t8, t9, t10⟩ := hcat o x e9 (List.mem_of_getElem? ho) hf9
          refine vx_catch hown pre z suf t1 t2 t3 t4 t5 t6 g1 g2 g3 ?_
          have hokh := List.all_eq_true.mp ok1 oh (List.mem_of_getElem? t7)
          unfold ix_ok1 at hokh
          simp only [Bool.and_eq_true, Bool.or_eq_true, decide_eq_true_eq] at hokh
          obtain ⟨⟨hdgh, hlenh⟩, -⟩ := hokh
          obtain ⟨h0L, hcL, lv, h1L, h2L⟩ := hL
          obtain ⟨o', ho'⟩ := ix_run_some h4
          rw [t10] at ho' h4
          have hpc' := ix_chain_at _ ok2 i0 oh o' t7 ho'
          rw [← t8]
          rcases t9 with ⟨n9, t9, t9b⟩ | t9
          · rw [t9] at hdgh hlenh
            have hn : ix_len oh = 1 := by rcases hlenh with h1 | h1 <;> first | exact h1.symm | cases h1
            rw [hn] at hdgh hpc'
            refine lv_astore_n hx hb hdgh t9b h1L (by rw [← h0L]; exact hl9) rfl (fun ls' hl' => ?_)
            have := ih (i0 + 1) _ _ _ _ h4 o' ho' H1 locs1 ls' (ix_Lh.drop h0L hcL h2L hl') q1 q2 q3
            rw [hpc', Nat.mul_add, ← Nat.add_assoc, ← Nat.add_assoc] at this
            exact this
          · rw [t9] at hdgh hlenh
            have hn : ix_len oh = 2 := by rcases hlenh with h1 | h1 <;> first | exact h1.symm | cases h1
            rw [hn] at hdgh hpc'
            refine lv_astore hx hb hdgh h1L (by rw [← h0L]; exact hl9) rfl (fun ls' hl' => ?_)
            have := ih (i0 + 1) _ _ _ _ h4 o' ho' H1 locs1 ls' (ix_Lh.drop h0L hcL h2L hl') q1 q2 q3
            rw [hpc', Nat.mul_add, ← Nat.add_assoc, ← Nat.add_assoc] at this
            exact this
    · subst h2
      subst h4
      rw [h1] at hdg hlen
      have hn : ix_len o = 1 := by rcases hlen with h9 | h9 <;> first | exact h9.symm | cases h9
      rw [hn] at hdg
      unfold ix_okr at hokr
      split at hokr
      · exact absurd h1 (of_decide_eq_true (List.all_eq_true.mp hokr o (List.mem_of_getElem? ho)))
      · rename_i ty hty
        simp only [Bool.and_eq_true, Bool.or_eq_true, decide_eq_true_eq] at hokr
        have hnar : narrow ty (.int v) = .int v := by
          rcases hokr.2 with h9 | ⟨h9, h10⟩
          · rw [h9]; rfl
          · have h11 := List.all_eq_true.mp h10 o (List.mem_of_getElem? ho)
            simp only [Bool.or_eq_true, decide_eq_true_eq] at h11
            rw [h9]
            rcases h11 with h11 | h11
            · exact absurd h1 h11
            · rcases h3 with h3 | h3 | h3
              · omega
              · rw [h3]; rfl
              · rw [h3]; rfl
        exact vx_ret (W.zret hx hb (hret.trans hty) hnar (fun t ht hW => ⟨some (.int v), rfl, rfl, ix_lend hP hE hX hS ht hW.alike⟩) hS.2.2 hdg hlk)
    · subst h2
      subst h4
      rw [h1] at hdg hlen
      have hn : ix_len o = 1 := by rcases hlen with h9 | h9 <;> first | exact h9.symm | cases h9
      rw [hn] at hdg
      unfold ix_okr at hokr
      split at hokr
      · rename_i hty
        exact vx_ret (W.vret hx hb (hret.trans hty) (fun t ht hW => ⟨none, rfl, rfl, ix_lend hP hE hX hS ht hW.alike⟩) hS.2.2 hdg hlk)
      · simp only [Bool.and_eq_true] at hokr
        exact absurd h1 (of_decide_eq_true (List.all_eq_true.mp hokr.1 o (List.mem_of_getElem? ho)))
    · subst h2
      rw [h1] at hdg hlen
      have hn : ix_len o = 3 := by rcases hlen with h9 | h9 <;> first | exact h9.symm | cases h9
      rw [hn] at hdg
      unfold ix_res at hres
      rw [h1] at hres
      dsimp only at hres
      rw [if_pos h3] at hres
      simp only [Bool.and_eq_true, Bool.or_eq_true, decide_eq_true_eq] at hres
      obtain ⟨⟨⟨r1, r2⟩, r3⟩, r4⟩ := hres
      have hno' := hno (hM11 r1)
      rw [r1, ix_cn11] at hown
      rcases r4 with ⟨⟨⟨s1, s2⟩, s3⟩, s4⟩ | ⟨⟨⟨s1, s2⟩, s3⟩, s4⟩
      · rw [s1] at h4
        subst h4
        rw [s2] at hdg
        exact ix_lthrow0 hl hx hb (hml.trans hL.size.symm) hown hR hP hS hE hX hno' hlk hdg r2 s3 s4 r3
      · rw [s1] at h4
        subst h4
        rw [s2] at hdg
        exact ix_lthrow1 hl hx hb (hml.trans hL.size.symm) hown hR hP hS hE hX hno' hlk hdg r2 s3 s4 r3
end IXM
