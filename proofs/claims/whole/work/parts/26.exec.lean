theorem ix_okP : ∀ M ∈ ix_tabP, ix_okm M = true := List.forall_mem_append.mpr ⟨og_0, List.forall_mem_append.mpr ⟨og_1, List.forall_mem_append.mpr ⟨og_2, List.forall_mem_append.mpr ⟨og_3, List.forall_mem_append.mpr ⟨og_4, List.forall_mem_append.mpr ⟨og_5, List.forall_mem_append.mpr ⟨og_6, List.forall_mem_append.mpr ⟨og_7, List.forall_mem_append.mpr ⟨og_8, List.forall_mem_append.mpr ⟨og_9, List.forall_mem_append.mpr ⟨og_10, List.forall_mem_append.mpr ⟨og_11, List.forall_mem_append.mpr ⟨og_12, List.forall_mem_append.mpr ⟨og_13, List.forall_mem_append.mpr ⟨og_14, List.forall_mem_append.mpr ⟨og_15, og_16⟩⟩⟩⟩⟩⟩⟩⟩⟩⟩⟩⟩⟩⟩⟩⟩
theorem ix_plainP : ∀ M ∈ ix_tab, plainName (ix_my M).cls = true := by decide +kernel
theorem ix_noH : ∀ M ∈ ix_tabP, ix_mh M = [] := by decide +kernel
theorem ix_tabP_sub {M : ix_M} (h : M ∈ ix_tabP) : M ∈ ix_tab := by rw [ix_tabP_eq] at h; exact List.mem_of_mem_take h
theorem ix_lvargs : ∀ (vs : List Value) (i j : Nat) (v : Value), (∀ v ∈ vs, v.category = 1) → vs[j]? = some v → (i + j, v) ∈ lv_args i vs
  | [], i, j, v, _, h => by simp at h
  | a :: l, i, 0, v, hc, h => by
    cases h
    exact List.mem_cons_self
  | a :: l, i, j + 1, v, hc, h => by
    rw [lv_args, if_neg (by rw [hc a List.mem_cons_self]; decide)]
    refine List.mem_cons_of_mem _ ?_
    have := ix_lvargs l (i + 1) j v (fun x hx => hc x (List.mem_cons_of_mem _ hx)) h
    rw [show i + (j + 1) = i + 1 + j by omega]
    exact this
theorem ix_lgsl : ∀ (vs : List Value), (∀ v ∈ vs, v.category = 1) → (lg_sl vs).length = vs.length
  | [], _ => rfl
  | a :: l, hc => by
    have h1 := ix_lgsl l (fun x hx => hc x (List.mem_cons_of_mem _ hx))
    unfold lg_sl at h1 ⊢
    rw [List.flatMap_cons, if_neg (by rw [hc a List.mem_cons_self]; decide), List.length_append, h1]
    simp only [List.length_cons, List.length_nil]
    omega
theorem ix_Lh0 {ad : Nat → Nat} {vs : List Value} {n : Nat} (hc : ∀ v ∈ vs, v.category = 1) (hn : vs.length ≤ n) : ix_Lh ad ((lg_sl (vs.map (ix_cv ad)) ++ List.replicate (n - (lg_sl (vs.map (ix_cv ad))).length) Slot.unset).toArray) n (vs ++ List.replicate (n - vs.length) .null) := by
  have hc' : ∀ v ∈ vs.map (ix_cv ad), v.category = 1 := by
    intro v hv
    obtain ⟨w, hw, rfl⟩ := List.mem_map.mp hv
    rw [ix_cv_cat]
    exact hc w hw
  refine ⟨by rw [List.length_append, List.length_replicate]; omega, fun v hv => ?_, _, lv_entry (vs.map (ix_cv ad)) (by rw [ix_lgsl _ hc', List.length_map]; exact hn), fun i v hi hv => ?_⟩
  · rcases List.mem_append.mp hv with h | h
    · exact hc v h
    · rw [List.eq_of_mem_replicate h]; rfl
  · by_cases hl : i < vs.length
    · rw [List.getElem?_append_left hl] at hi
      have := ix_lvargs (vs.map (ix_cv ad)) 0 i (ix_cv ad v) hc' (by rw [List.getElem?_map, hi]; rfl)
      rw [Nat.zero_add] at this
      exact this
    · rw [List.getElem?_append_right (by omega)] at hi
      exact absurd (List.eq_of_mem_replicate (List.mem_of_getElem? hi)) hv
theorem ix_exec_ok {l : Launch} {D : va_G} {G : ix_G} {ad : Nat → Nat} {ids : List Nat} {dm : Nat → Bool} {lo : Nat} (hl : l.stackTraces = false) (hF : ix_Fx G ad ids dm lo) {pr : Nat → List Value → ix_H → Option ix_R} (hpr : ∀ d mi vs h r, pr mi vs h = some r → ix_Ct D G ad ids lo l d mi vs h r) :
    ∀ (d f mi : Nat) (vs : List Value) (h : ix_H) (r : ix_R), ix_exec ix_tabP pr dm d f mi vs h = some r → ix_Ct D G ad ids lo l d mi vs h r := by
  intro d
  induction d with
  | zero => intro f mi vs h r hr; rw [ix_exec] at hr; cases hr
  | succ d ih =>
    intro f mi vs h r hr
    rw [ix_exec] at hr
    split at hr
    · exact hpr _ _ _ _ _ hr
    · rename_i M hM
      split at hr
      · rename_i hc
        have hcat : ∀ v ∈ vs, v.category = 1 := fun v hv => by simpa using List.all_eq_true.mp hc.2 v hv
        have hMp := List.mem_of_getElem? hM
        have hMt := ix_tabP_sub hMp
        have hmi : mi < 260 := by
          rw [ix_tabP_eq] at hM
          have := (List.getElem?_eq_some_iff.mp hM).1
          rw [List.length_take] at this
          omega
        have hMt2 : ix_tab[mi]? = some M := by rw [ix_tabP_eq, List.getElem?_take, if_pos hmi] at hM; exact hM
        have hok := ix_okP M hMp
        have hok' := hok
        unfold ix_okm at hok'
        simp only [Bool.and_eq_true, decide_eq_true_eq] at hok'
        obtain ⟨⟨⟨⟨⟨ok1, ok2⟩, ok3⟩, ok4⟩, ok5⟩, ok6⟩ := hok'
        intro q hq
        unfold ix_cal at hq
        rw [hMt2] at hq
        cases hq
        refine vx_ofW (cc := ix_mb M) (maxL := ix_ml M) (ret := ix_mr M) (ix_plainP M hMt) (ix_plain (q := (ix_my M, ix_mb M, ix_ml M, ix_mr M)) (Or.inl hmi)) ?_
        intro p e s m args below meth c s₁ B hml hno hpc
        obtain ⟨rfl, hSt⟩ := hpc
        obtain ⟨hP, hK, hE, hX⟩ := hSt
        have hts : ∀ w ∈ ix_gw, w.before (vs.map (ix_cv ad)).toArray s = true := fun w hw => atoms_spec (ws := ix_wsM mi (ix_my M, ix_mb M, ix_ml M, ix_mr M)) B.pre w (List.mem_cons_of_mem _ hw)
        have hown : s.vm.findClass (ix_cn (ix_mc M)) = some m.cls := by rw [ok6]; exact findClass_of_methodNamed B.named
        obtain ⟨o, ho⟩ := ix_run_some hr
        have hpc0 : ix_pc o = 0 := by
          rw [← List.head?_eq_getElem?] at ho
          rw [ho] at ok3
          exact Option.some.inj ok3
        have hL0 := ix_Lh0 (ad := ad) (n := ix_ml M) hcat (by rw [hc.1]; exact ok4)
        rw [hc.1] at hL0
        have hrun := ix_run_ok (D := D) (G := G) (ad := ad) (ids := ids) (dm := dm) (lo := lo) (d := d) (p := p) (e := e) (R := ix_rm (d + 1) r.2.2) (c0 := 0) (s0 := 0) (s := s) (m := m) (args := (vs.map (ix_cv ad)).toArray) (below := below) (meth := meth) (c := c) (r := r) hok (ix_okr_ok M hMt) (fun h11 => ix_noH M hMp) (ih f) hl hF (by unfold ix_rm; dsimp only; omega) B.exec B.bytes hml hown hts B.returns B.notSynchronized hK hE (fun _ => hno) (fun o x e9 _ hf => by rw [ix_noH M hMp] at hf; cases hf)
          f 0 _ [] h 0 hr o ho s.heap [] _ hL0 hP hX va_S.rf
        rw [lg_entry_eq]
        rw [hpc0] at hrun
        simp only [Nat.zero_add, Nat.mul_zero] at hrun
        exact hrun
      · cases hr
