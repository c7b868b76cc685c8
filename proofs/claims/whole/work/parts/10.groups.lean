section IXB
variable {p : Program} {l : Launch} {e : Env} {R : Room} {s : State} {m : MethodId} {args : Array Value} {below : List Frame} {meth : Method} {c : Code} {H : Heap} {locs : List Loc} {cells slots : Nat} {Q : State → Prop}
variable {cc : ByteArray} {pc nL : Nat} {lsA : Array Slot} {ls st : List Value} {ad : Nat → Nat} {o : ix_Op} {own : Nat} {ops : List ix_Op}
theorem ix_l2 (hx : p.tables.exec = Jvm.exec) (hb : c.code = cc)
    (hdg : decode cc pc = .ok (ix_ins o, ix_len o)) (hlen : ix_lenof (ix_ins o) = ix_len o ∨ ix_lenof (ix_ins o) = 0) (hL : ix_Lh ad lsA nL ls) {q : List Value × List Value} (h : ix_g2 o ls st = some q)
    (kk : ∀ lsA' : Array Slot, ix_Lh ad lsA' nL q.1 → W p l e R s m args below meth c H locs cells slots Q (F0 m (pc + ix_len o) lsA' (q.2.map (ix_cv ad)))) :
    W p l e R s m args below meth c H locs cells slots Q (F0 m pc lsA (st.map (ix_cv ad))) := by
  unfold ix_g2 at h
  split at h
  · rename_i k x r he
    rw [he] at hdg hlen
    have hn : ix_len o = 1 := by rcases hlen with h1 | h1 <;> first | exact h1.symm | cases h1
    rw [hn] at hdg kk
    split at h
    · rename_i hk
      cases h
      obtain ⟨h0, hc, lv, h1, h2⟩ := hL
      exact lv_istore_n hx hb hdg rfl h1 (by rw [← h0]; exact hk) rfl (fun ls' hl' => kk ls' (ix_Lh.put (x := .int x) h0 hc h2 rfl hl'))
    · cases h
  · rename_i k x r he
    rw [he] at hdg hlen
    have hn : ix_len o = 2 := by rcases hlen with h1 | h1 <;> first | exact h1.symm | cases h1
    rw [hn] at hdg kk
    split at h
    · rename_i hk
      cases h
      obtain ⟨h0, hc, lv, h1, h2⟩ := hL
      exact lv_istore hx hb hdg h1 (by rw [← h0]; exact hk) rfl (fun ls' hl' => kk ls' (ix_Lh.put (x := .int x) h0 hc h2 rfl hl'))
    · cases h
  · rename_i k x r he
    rw [he] at hdg hlen
    have hn : ix_len o = 1 := by rcases hlen with h1 | h1 <;> first | exact h1.symm | cases h1
    rw [hn] at hdg kk
    split at h
    · rename_i hk
      cases h
      obtain ⟨h0, hc, lv, h1, h2⟩ := hL
      exact lv_astore_n hx hb hdg rfl h1 (by rw [← h0]; exact hk) rfl (fun ls' hl' => kk ls' (ix_Lh.put (x := .ref x) h0 hc h2 rfl hl'))
    · cases h
  · rename_i k x r he
    rw [he] at hdg hlen
    have hn : ix_len o = 2 := by rcases hlen with h1 | h1 <;> first | exact h1.symm | cases h1
    rw [hn] at hdg kk
    split at h
    · rename_i hk
      cases h
      obtain ⟨h0, hc, lv, h1, h2⟩ := hL
      exact lv_astore hx hb hdg h1 (by rw [← h0]; exact hk) rfl (fun ls' hl' => kk ls' (ix_Lh.put (x := .ref x) h0 hc h2 rfl hl'))
    · cases h
  · rename_i x r he
    rw [he] at hdg hlen
    have hn : ix_len o = 1 := by rcases hlen with h1 | h1 <;> first | exact h1.symm | cases h1
    rw [hn] at hdg kk
    cases h
    exact lv_ineg hx hb hdg (kk lsA hL)
  · rename_i x r he
    rw [he] at hdg hlen
    have hn : ix_len o = 1 := by rcases hlen with h1 | h1 <;> first | exact h1.symm | cases h1
    rw [hn] at hdg kk
    cases h
    exact lv_i2b hx hb hdg rfl (kk lsA hL)
  · rename_i x r he
    rw [he] at hdg hlen
    have hn : ix_len o = 1 := by rcases hlen with h1 | h1 <;> first | exact h1.symm | cases h1
    rw [hn] at hdg kk
    cases h
    exact lv_i2c hx hb hdg rfl (kk lsA hL)
  · rename_i x r he
    rw [he] at hdg hlen
    have hn : ix_len o = 1 := by rcases hlen with h1 | h1 <;> first | exact h1.symm | cases h1
    rw [hn] at hdg kk
    cases h
    exact lv_i2l hx hb hdg rfl (kk lsA hL)
  · rename_i a r he
    rw [he] at hdg hlen
    have hn : ix_len o = 1 := by rcases hlen with h1 | h1 <;> first | exact h1.symm | cases h1
    rw [hn] at hdg kk
    split at h
    · rename_i hk
      cases h
      exact lv_dup hx hb hdg (by rw [ix_cv_cat]; exact hk) (kk lsA hL)
    · cases h
  · rename_i a r he
    rw [he] at hdg hlen
    have hn : ix_len o = 1 := by rcases hlen with h1 | h1 <;> first | exact h1.symm | cases h1
    rw [hn] at hdg kk
    split at h
    · rename_i hk
      cases h
      exact lv_pop hx hb hdg (by rw [ix_cv_cat]; exact hk) (kk lsA hL)
    · cases h
  · rename_i a b r he
    rw [he] at hdg hlen
    have hn : ix_len o = 1 := by rcases hlen with h1 | h1 <;> first | exact h1.symm | cases h1
    rw [hn] at hdg kk
    split at h
    · rename_i hk
      cases h
      exact lv_dup2_11 hx hb hdg (by rw [ix_cv_cat]; exact hk.1) (by rw [ix_cv_cat]; exact hk.2) (kk lsA hL)
    · cases h
  · rename_i y x r he
    rw [he] at hdg hlen
    have hn : ix_len o = 1 := by rcases hlen with h1 | h1 <;> first | exact h1.symm | cases h1
    rw [hn] at hdg kk
    cases h
    exact W.lcmp hx hb hdg (kk lsA hL)
  · cases h
theorem ix_l3a (hx : p.tables.exec = Jvm.exec) (hb : c.code = cc)
    (hdg : decode cc pc = .ok (ix_ins o, ix_len o)) (hlen : ix_lenof (ix_ins o) = ix_len o ∨ ix_lenof (ix_ins o) = 0) (hL : ix_Lh ad lsA nL ls) {q : List Value × List Value} (h : ix_g3a o ls st = some q)
    (kk : ∀ lsA' : Array Slot, ix_Lh ad lsA' nL q.1 → W p l e R s m args below meth c H locs cells slots Q (F0 m (pc + ix_len o) lsA' (q.2.map (ix_cv ad)))) :
    W p l e R s m args below meth c H locs cells slots Q (F0 m pc lsA (st.map (ix_cv ad))) := by
  unfold ix_g3a at h
  split at h
  · rename_i y x r
    rw [Option.map_eq_some_iff] at h
    obtain ⟨v, h, hq⟩ := h
    subst hq
    generalize hi : ix_ins o = ins at hdg hlen h
    unfold ix_bop at h
    split at h
    · have hn : ix_len o = 1 := by rcases hlen with h1 | h1 <;> first | exact h1.symm | cases h1
      rw [hn] at hdg kk
      cases h
      exact lv_iadd hx hb hdg (kk lsA hL)
    · have hn : ix_len o = 1 := by rcases hlen with h1 | h1 <;> first | exact h1.symm | cases h1
      rw [hn] at hdg kk
      cases h
      exact lv_isub hx hb hdg (kk lsA hL)
    · have hn : ix_len o = 1 := by rcases hlen with h1 | h1 <;> first | exact h1.symm | cases h1
      rw [hn] at hdg kk
      cases h
      exact lv_imul hx hb hdg (kk lsA hL)
    · have hn : ix_len o = 1 := by rcases hlen with h1 | h1 <;> first | exact h1.symm | cases h1
      rw [hn] at hdg kk
      cases h
      exact lv_iand hx hb hdg (kk lsA hL)
    · have hn : ix_len o = 1 := by rcases hlen with h1 | h1 <;> first | exact h1.symm | cases h1
      rw [hn] at hdg kk
      cases h
      exact lv_ior hx hb hdg (kk lsA hL)
    · have hn : ix_len o = 1 := by rcases hlen with h1 | h1 <;> first | exact h1.symm | cases h1
      rw [hn] at hdg kk
      cases h
      exact lv_ixor hx hb hdg (kk lsA hL)
    · have hn : ix_len o = 1 := by rcases hlen with h1 | h1 <;> first | exact h1.symm | cases h1
      rw [hn] at hdg kk
      cases h
      exact lv_ishl hx hb hdg (kk lsA hL)
    · have hn : ix_len o = 1 := by rcases hlen with h1 | h1 <;> first | exact h1.symm | cases h1
      rw [hn] at hdg kk
      cases h
      exact lv_ishr hx hb hdg (kk lsA hL)
    · have hn : ix_len o = 1 := by rcases hlen with h1 | h1 <;> first | exact h1.symm | cases h1
      rw [hn] at hdg kk
      cases h
      exact lv_iushr hx hb hdg rfl (kk lsA hL)
    · have hn : ix_len o = 1 := by rcases hlen with h1 | h1 <;> first | exact h1.symm | cases h1
      rw [hn] at hdg kk
      split at h
      · cases h
      · rename_i hz
        cases h
        exact lv_idiv hx hb hdg hz (kk lsA hL)
    · have hn : ix_len o = 1 := by rcases hlen with h1 | h1 <;> first | exact h1.symm | cases h1
      rw [hn] at hdg kk
      split at h
      · cases h
      · rename_i hz
        cases h
        exact lv_irem hx hb hdg hz (kk lsA hL)
    · cases h
  · cases h
theorem ix_l3 (hx : p.tables.exec = Jvm.exec) (hb : c.code = cc) (hml : c.maxLocals = lsA.size) (hown : s.vm.findClass (ix_cn own) = some m.cls) (hR : 12 ≤ R.frames ∧ 300 ≤ R.locals) (hcs : cells ≤ R.cells ∧ slots ≤ R.slots)
    (hmm : ∀ (i k : Nat), (own, i, k) ∈ ix_mmS → (Cond.methodLink (ix_cn own) i (ix_mn k)).before args s = true) (hmS : ∀ k, (Cond.static (ix_mn k)).before args s = true) (hmI : (Cond.initialized "java/lang/Math").before args s = true)
    (hm4 : (Cond.code Lib.Math.max.name Lib.Math.max.code 2 (some .int)).before args s = true) (hm5 : (Cond.code Lib.Math.min.name Lib.Math.min.code 2 (some .int)).before args s = true) (hm6 : (Cond.code Lib.Math.abs.name Lib.Math.abs.code 1 (some .int)).before args s = true)
    (hmk : ∀ e ∈ ix_mlk, 4 ≤ e.2.2.2.1 → e.2.2.2.1 ≤ 6 → (e.1, e.2.1, e.2.2.2.1) ∈ ix_mmS)
    (hdg : decode cc pc = .ok (ix_ins o, ix_len o)) (hlen : ix_lenof (ix_ins o) = ix_len o ∨ ix_lenof (ix_ins o) = 0) (hres : ix_res own cc ops o = true) (hL : ix_Lh ad lsA nL ls) {q : List Value × List Value} (h : ix_g3 o ls st = some q)
    (kk : ∀ lsA' : Array Slot, ix_Lh ad lsA' nL q.1 → W p l e R s m args below meth c H locs cells slots Q (F0 m (pc + ix_len o) lsA' (q.2.map (ix_cv ad)))) :
    W p l e R s m args below meth c H locs cells slots Q (F0 m pc lsA (st.map (ix_cv ad))) := by
  unfold ix_g3 at h
  split at h
  · rename_i q9 h9
    cases h
    exact ix_l3a hx hb hdg hlen hL h9 kk
  · unfold ix_g3b at h
    split at h
    · rename_i idx he
      unfold ix_res at hres
      rw [he] at hdg hlen hres
      have hn : ix_len o = 3 := by rcases hlen with h1 | h1 <;> first | exact h1.symm | cases h1
      rw [hn] at hdg kk
      dsimp only at hres
      simp only [Bool.and_eq_true, decide_eq_true_eq] at hres
      split at h
      · rename_i hsum
        have hcat : ∀ r : List Value, (List.map (fun v => Value.category v) (List.map (ix_cv ad) r)) = r.map (fun v => v.category) := fun r => by
          rw [List.map_map]
          exact List.map_congr_left (fun v _ => ix_cv_cat ad v)
        split at h
        · rename_i h4
          split at h
          · rename_i y x r
            cases h
            have hlk := hmm _ _ (hmk _ hres.2 (by show 4 ≤ ix_y o; omega) (by show ix_y o ≤ 6; omega))
            have hlk : (Cond.methodLink (ix_cn own) idx (ix_mn (ix_y o))).before args s = true := hlk
            rw [h4] at hlk
            simp only [List.map_cons, List.sum_cons] at hsum
            exact va_mmax hx hb hml hown hlk (hmS 4) hmI hm4 (by omega) (by rw [hcat]; omega) hcs.1 hcs.2 hdg (kk lsA hL)
          · cases h
        · split at h
          · rename_i h4
            split at h
            · rename_i y x r
              cases h
              have hlk := hmm _ _ (hmk _ hres.2 (by show 4 ≤ ix_y o; omega) (by show ix_y o ≤ 6; omega))
              have hlk : (Cond.methodLink (ix_cn own) idx (ix_mn (ix_y o))).before args s = true := hlk
              rw [h4] at hlk
              simp only [List.map_cons, List.sum_cons] at hsum
              exact va_mmin hx hb hml hown hlk (hmS 5) hmI hm5 (by omega) (by rw [hcat]; omega) hcs.1 hcs.2 hdg (kk lsA hL)
            · cases h
          · split at h
            · rename_i h4
              split at h
              · rename_i x r
                cases h
                have hlk := hmm _ _ (hmk _ hres.2 (by show 4 ≤ ix_y o; omega) (by show ix_y o ≤ 6; omega))
                have hlk : (Cond.methodLink (ix_cn own) idx (ix_mn (ix_y o))).before args s = true := hlk
                rw [h4] at hlk
                simp only [List.map_cons, List.sum_cons] at hsum
                exact va_mabs hx hb hml hown hlk (hmS 6) hmI hm6 (by omega) (by rw [hcat]; omega) hcs.1 hcs.2 hdg (kk lsA hL)
              · cases h
            · cases h
      · cases h
    · cases h
theorem ix_jmp_at {t : Nat} {off : Int} (h : ix_jmp ops pc t off = true) : ∃ o', ops[t]? = some o' ∧ (pc : Int) + off = (ix_pc o' : Int) := by
  unfold ix_jmp at h
  split at h
  · rename_i o' ho
    exact ⟨o', ho, of_decide_eq_true h⟩
  · cases h
theorem ix_lb (hx : p.tables.exec = Jvm.exec) (hb : c.code = cc)
    (hdg : decode cc pc = .ok (ix_ins o, ix_len o)) (hlen : ix_lenof (ix_ins o) = ix_len o ∨ ix_lenof (ix_ins o) = 0) (hpc : ix_pc o = pc) (hres : ix_res own cc ops o = true) {i : Nat} {q : Nat × List Value} (h : ix_gb o i st = some q)
    (kk : ∀ pc' : Nat, (q.1 = i + 1 ∧ pc' = pc + ix_len o) ∨ (∃ o', ops[q.1]? = some o' ∧ ix_pc o' = pc') → W p l e R s m args below meth c H locs cells slots Q (F0 m pc' lsA (q.2.map (ix_cv ad)))) :
    W p l e R s m args below meth c H locs cells slots Q (F0 m pc lsA (st.map (ix_cv ad))) := by
  unfold ix_gb at h
  unfold ix_res at hres
  split at h
  · rename_i off r he
    rw [he] at hdg hlen hres
    have hn : ix_len o = 3 := by rcases hlen with h1 | h1 <;> first | exact h1.symm | cases h1
    rw [hn] at hdg kk
    dsimp only at hres
    rw [hpc] at hres
    obtain ⟨o', h1, h2⟩ := ix_jmp_at hres
    cases h
    exact lv_goto hx hb hdg h2 (kk _ (Or.inr ⟨o', h1, rfl⟩))
  · rename_i cd off x r he
    rw [he] at hdg hlen hres
    have hn : ix_len o = 3 := by rcases hlen with h1 | h1 <;> first | exact h1.symm | cases h1
    rw [hn] at hdg kk
    dsimp only at hres
    rw [hpc] at hres
    obtain ⟨o', h1, h2⟩ := ix_jmp_at hres
    cases h
    cases cd
    · refine lv_if_eq hx hb hdg h2 (fun hc => ?_) (fun hc => ?_)
      · have e9 : ix_c1 .eq x = true := decide_eq_true hc
        rw [e9] at kk
        exact kk _ (Or.inr ⟨o', h1, rfl⟩)
      · have e9 : ix_c1 .eq x = false := decide_eq_false hc
        rw [e9] at kk
        exact kk _ (Or.inl ⟨rfl, rfl⟩)
    · refine lv_if_ne hx hb hdg h2 (fun hc => ?_) (fun hc => ?_)
      · have e9 : ix_c1 .ne x = true := decide_eq_true hc
        rw [e9] at kk
        exact kk _ (Or.inr ⟨o', h1, rfl⟩)
      · have e9 : ix_c1 .ne x = false := decide_eq_false (fun z => z hc)
        rw [e9] at kk
        exact kk _ (Or.inl ⟨rfl, rfl⟩)
    · refine lv_if_lt hx hb hdg h2 (fun hc => ?_) (fun hc => ?_)
      · have e9 : ix_c1 .lt x = true := decide_eq_true hc
        rw [e9] at kk
        exact kk _ (Or.inr ⟨o', h1, rfl⟩)
      · have e9 : ix_c1 .lt x = false := decide_eq_false hc
        rw [e9] at kk
        exact kk _ (Or.inl ⟨rfl, rfl⟩)
    · refine lv_if_ge hx hb hdg h2 (fun hc => ?_) (fun hc => ?_)
      · have e9 : ix_c1 .ge x = true := decide_eq_true hc
        rw [e9] at kk
        exact kk _ (Or.inr ⟨o', h1, rfl⟩)
      · have e9 : ix_c1 .ge x = false := decide_eq_false hc
        rw [e9] at kk
        exact kk _ (Or.inl ⟨rfl, rfl⟩)
    · refine lv_if_gt hx hb hdg h2 (fun hc => ?_) (fun hc => ?_)
      · have e9 : ix_c1 .gt x = true := decide_eq_true hc
        rw [e9] at kk
        exact kk _ (Or.inr ⟨o', h1, rfl⟩)
      · have e9 : ix_c1 .gt x = false := decide_eq_false hc
        rw [e9] at kk
        exact kk _ (Or.inl ⟨rfl, rfl⟩)
    · refine lv_if_le hx hb hdg h2 (fun hc => ?_) (fun hc => ?_)
      · have e9 : ix_c1 .le x = true := decide_eq_true hc
        rw [e9] at kk
        exact kk _ (Or.inr ⟨o', h1, rfl⟩)
      · have e9 : ix_c1 .le x = false := decide_eq_false hc
        rw [e9] at kk
        exact kk _ (Or.inl ⟨rfl, rfl⟩)
  · rename_i cd off y x r he
    rw [he] at hdg hlen hres
    have hn : ix_len o = 3 := by rcases hlen with h1 | h1 <;> first | exact h1.symm | cases h1
    rw [hn] at hdg kk
    dsimp only at hres
    rw [hpc] at hres
    obtain ⟨o', h1, h2⟩ := ix_jmp_at hres
    cases h
    cases cd
    · refine lv_icmp_eq hx hb hdg h2 (fun hc => ?_) (fun hc => ?_)
      · have e9 : ix_c2 .eq x y = true := decide_eq_true hc
        rw [e9] at kk
        exact kk _ (Or.inr ⟨o', h1, rfl⟩)
      · have e9 : ix_c2 .eq x y = false := decide_eq_false hc
        rw [e9] at kk
        exact kk _ (Or.inl ⟨rfl, rfl⟩)
    · refine lv_icmp_ne hx hb hdg h2 (fun hc => ?_) (fun hc => ?_)
      · have e9 : ix_c2 .ne x y = true := decide_eq_true hc
        rw [e9] at kk
        exact kk _ (Or.inr ⟨o', h1, rfl⟩)
      · have e9 : ix_c2 .ne x y = false := decide_eq_false (fun z => z hc)
        rw [e9] at kk
        exact kk _ (Or.inl ⟨rfl, rfl⟩)
    · refine lv_icmp_lt hx hb hdg h2 (fun hc => ?_) (fun hc => ?_)
      · have e9 : ix_c2 .lt x y = true := decide_eq_true hc
        rw [e9] at kk
        exact kk _ (Or.inr ⟨o', h1, rfl⟩)
      · have e9 : ix_c2 .lt x y = false := decide_eq_false hc
        rw [e9] at kk
        exact kk _ (Or.inl ⟨rfl, rfl⟩)
    · refine lv_icmp_ge hx hb hdg h2 (fun hc => ?_) (fun hc => ?_)
      · have e9 : ix_c2 .ge x y = true := decide_eq_true hc
        rw [e9] at kk
        exact kk _ (Or.inr ⟨o', h1, rfl⟩)
      · have e9 : ix_c2 .ge x y = false := decide_eq_false hc
        rw [e9] at kk
        exact kk _ (Or.inl ⟨rfl, rfl⟩)
    · refine lv_icmp_gt hx hb hdg h2 (fun hc => ?_) (fun hc => ?_)
      · have e9 : ix_c2 .gt x y = true := decide_eq_true hc
        rw [e9] at kk
        exact kk _ (Or.inr ⟨o', h1, rfl⟩)
      · have e9 : ix_c2 .gt x y = false := decide_eq_false hc
        rw [e9] at kk
        exact kk _ (Or.inl ⟨rfl, rfl⟩)
    · refine lv_icmp_le hx hb hdg h2 (fun hc => ?_) (fun hc => ?_)
      · have e9 : ix_c2 .le x y = true := decide_eq_true hc
        rw [e9] at kk
        exact kk _ (Or.inr ⟨o', h1, rfl⟩)
      · have e9 : ix_c2 .le x y = false := decide_eq_false hc
        rw [e9] at kk
        exact kk _ (Or.inl ⟨rfl, rfl⟩)
  · rename_i d lo hi offs x r he
    rw [he] at hdg hres
    dsimp only at hres
    rw [hpc] at hres
    simp only [Bool.and_eq_true, decide_eq_true_eq, List.all_eq_true, List.mem_range] at hres
    obtain ⟨⟨⟨r1, r2⟩, r3⟩, r4⟩ := hres
    split at h
    · rename_i hc
      cases h
      obtain ⟨o', h1, h2⟩ := ix_jmp_at r1
      exact lv_tableOut hx hb hdg hc h2 (kk _ (Or.inr ⟨o', h1, rfl⟩))
    · rename_i hc
      rw [Option.map_eq_some_iff] at h
      obtain ⟨t, ht, hq⟩ := h
      subst hq
      have hlt := (List.getElem?_eq_some_iff.mp ht).1
      obtain ⟨o', h1, h2⟩ := ix_jmp_at (r4 (x.toInt - lo).toNat (by omega))
      have e1 : (ix_tl o).getD (x.toInt - lo).toNat 0 = t := by rw [List.getD_eq_getElem?_getD, ht]; rfl
      have hs : (x.toInt - lo).toNat < offs.size := by omega
      have e2 : offs[(x.toInt - lo).toNat]? = some (offs.getD (x.toInt - lo).toNat 0) := by rw [Array.getD_eq_getD_getElem?, Array.getElem?_eq_getElem hs]; rfl
      rw [e1] at h1
      exact lv_tableIn hx hb hdg (fun z => hc (Or.inl z)) (fun z => hc (Or.inr z)) e2 h2 (kk _ (Or.inr ⟨o', h1, rfl⟩))
  · cases h
end IXB
