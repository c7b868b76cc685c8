def ix_cv (ad : Nat → Nat) : Value → Value
  | .ref a => .ref (ad a)
  | v => v
theorem ix_cv_cat (ad : Nat → Nat) (v : Value) : (ix_cv ad v).category = v.category := by cases v <;> rfl
def ix_Lh (ad : Nat → Nat) (lsA : Array Slot) (nL : Nat) (ls : List Value) : Prop :=
  ls.length = nL ∧ (∀ v ∈ ls, v.category = 1) ∧ ∃ lv : List (Nat × Value), lv_has lsA nL lv ∧ ∀ (i : Nat) (v : Value), ls[i]? = some v → v ≠ .null → (i, ix_cv ad v) ∈ lv
theorem ix_Lh.size {ad : Nat → Nat} {lsA : Array Slot} {nL : Nat} {ls : List Value} (h : ix_Lh ad lsA nL ls) : lsA.size = nL := by
  obtain ⟨-, -, lv, h, -⟩ := h
  exact h.1
theorem ix_Lh.get {ad : Nat → Nat} {lsA : Array Slot} {nL : Nat} {ls : List Value} (h : ix_Lh ad lsA nL ls) {i : Nat} {v : Value} (hv : ls[i]? = some v) (hn : v ≠ .null) : lsA[i]? = some (.val (ix_cv ad v)) := by
  obtain ⟨-, -, lv, h1, h2⟩ := h
  exact h1.2.2 _ (h2 i v hv hn)
theorem ix_Lh.put {ad : Nat → Nat} {lsA' : Array Slot} {nL i : Nat} {ls : List Value} {lv : List (Nat × Value)} {x : Value} (h0 : ls.length = nL) (hc : ∀ v ∈ ls, v.category = 1) (h2 : ∀ (i : Nat) (v : Value), ls[i]? = some v → v ≠ .null → (i, ix_cv ad v) ∈ lv) (hx : x.category = 1)
    (h1 : lv_has lsA' nL ((i, ix_cv ad x) :: lv.filter (fun q => !(q.1 == i) && !(q.1 + 1 == i && q.2.category == 2)))) : ix_Lh ad lsA' nL (ls.set i x) := by
  refine ⟨by rw [List.length_set]; exact h0, fun v hv => ?_, _, h1, fun j v hj hn => ?_⟩
  · rcases List.mem_or_eq_of_mem_set hv with h | h
    · exact hc v h
    · rw [h]; exact hx
  · rw [List.getElem?_set] at hj
    by_cases hij : i = j
    · subst hij
      rw [if_pos rfl] at hj
      split at hj
      · cases hj
        exact List.mem_cons_self
      · cases hj
    · rw [if_neg hij] at hj
      refine List.mem_cons_of_mem _ (List.mem_filter.mpr ⟨h2 j v hj hn, ?_⟩)
      have hcat := hc v (List.mem_of_getElem? hj)
      have hij' : (j == i) = false := by simpa using fun e => hij e.symm
      have hc2 : ((ix_cv ad v).category == 2) = false := by rw [ix_cv_cat, hcat]; rfl
      simp only [hij', hc2, Bool.not_false, Bool.and_false, Bool.and_true]
theorem ix_Lh.drop {ad : Nat → Nat} {lsA' : Array Slot} {nL i : Nat} {ls : List Value} {lv : List (Nat × Value)} {x : Value} (h0 : ls.length = nL) (hc : ∀ v ∈ ls, v.category = 1) (h2 : ∀ (i : Nat) (v : Value), ls[i]? = some v → v ≠ .null → (i, ix_cv ad v) ∈ lv)
    (h1 : lv_has lsA' nL ((i, x) :: lv.filter (fun q => !(q.1 == i) && !(q.1 + 1 == i && q.2.category == 2)))) : ix_Lh ad lsA' nL (ls.set i .null) := by
  refine ⟨by rw [List.length_set]; exact h0, fun v hv => ?_, _, h1, fun j v hj hn => ?_⟩
  · rcases List.mem_or_eq_of_mem_set hv with h | h
    · exact hc v h
    · rw [h]; rfl
  · rw [List.getElem?_set] at hj
    by_cases hij : i = j
    · subst hij
      rw [if_pos rfl] at hj
      split at hj
      · cases hj
        exact absurd rfl hn
      · cases hj
    · rw [if_neg hij] at hj
      refine List.mem_cons_of_mem _ (List.mem_filter.mpr ⟨h2 j v hj hn, ?_⟩)
      have hcat := hc v (List.mem_of_getElem? hj)
      have hij' : (j == i) = false := by simpa using fun e => hij e.symm
      have hc2 : ((ix_cv ad v).category == 2) = false := by rw [ix_cv_cat, hcat]; rfl
      simp only [hij', hc2, Bool.not_false, Bool.and_false, Bool.and_true]
section IXA
variable {p : Program} {l : Launch} {e : Env} {R : Room} {s : State} {m : MethodId} {args : Array Value} {below : List Frame} {meth : Method} {c : Code} {H : Heap} {locs : List Loc} {cells slots : Nat} {Q : State → Prop}
variable {cc : ByteArray} {pc nL : Nat} {lsA : Array Slot} {ls st : List Value} {ad : Nat → Nat} {o : ix_Op} {own : Nat} {ops : List ix_Op}
theorem ix_l1 (hx : p.tables.exec = Jvm.exec) (hb : c.code = cc) (hown : s.vm.findClass (ix_cn own) = some m.cls) (hco : ∀ (i : Nat) (v : Int32), (own, i, v) ∈ ix_cks → (Jvm.Cond.constant (ix_cn own) i v).before args s = true)
    (hst : ∀ (i x : Nat), (own, i, x) ∈ ix_sks → ∃ tx : String, vk_R (ix_cn own) i tx (ad x) s)
    (hdg : decode cc pc = .ok (ix_ins o, ix_len o)) (hlen : ix_lenof (ix_ins o) = ix_len o ∨ ix_lenof (ix_ins o) = 0) (hres : ix_res own cc ops o = true) (hL : ix_Lh ad lsA nL ls) {q : List Value × List Value} (h : ix_g1 o ls st = some q)
    (kk : ∀ lsA' : Array Slot, ix_Lh ad lsA' nL q.1 → W p l e R s m args below meth c H locs cells slots Q (F0 m (pc + ix_len o) lsA' (q.2.map (ix_cv ad)))) :
    W p l e R s m args below meth c H locs cells slots Q (F0 m pc lsA (st.map (ix_cv ad))) := by
  unfold ix_g1 at h
  split at h
  · rename_i n he
    rw [he] at hdg hlen
    have hn : ix_len o = 1 := by rcases hlen with h1 | h1 <;> first | exact h1.symm | cases h1
    rw [hn] at hdg kk
    cases h
    exact lv_iconst hx hb hdg rfl (kk lsA hL)
  · rename_i n he
    rw [he] at hdg hlen
    have hn : ix_len o = 2 := by rcases hlen with h1 | h1 <;> first | exact h1.symm | cases h1
    rw [hn] at hdg kk
    cases h
    exact lv_bipush hx hb hdg rfl (kk lsA hL)
  · rename_i n he
    rw [he] at hdg hlen
    have hn : ix_len o = 3 := by rcases hlen with h1 | h1 <;> first | exact h1.symm | cases h1
    rw [hn] at hdg kk
    cases h
    exact lv_sipush hx hb hdg rfl (kk lsA hL)
  · rename_i n he
    rw [he] at hdg hlen
    have hn : ix_len o = 2 := by rcases hlen with h1 | h1 <;> first | exact h1.symm | cases h1
    rw [hn] at hdg kk
    unfold ix_res at hres
    rw [he] at hres
    dsimp only at hres
    split at h
    · rename_i hz
      rw [if_pos hz] at hres
      cases h
      exact lv_ldc hx hb hown (hco _ _ (of_decide_eq_true hres)) hdg (kk lsA hL)
    · rename_i hz
      split at h
      · rename_i hz1
        rw [if_neg hz, if_pos hz1] at hres
        cases h
        obtain ⟨tx, hR⟩ := hst _ _ (of_decide_eq_true hres)
        exact va_ldcS hx hb hown hR hdg (kk lsA hL)
      · cases h
  · rename_i n he
    rw [he] at hdg hlen
    have hn : ix_len o = 3 := by rcases hlen with h1 | h1 <;> first | exact h1.symm | cases h1
    rw [hn] at hdg kk
    unfold ix_res at hres
    rw [he] at hres
    dsimp only at hres
    split at h
    · rename_i hz
      rw [if_pos hz] at hres
      cases h
      exact lv_ldcw hx hb hown (hco _ _ (of_decide_eq_true hres)) hdg (kk lsA hL)
    · cases h
  · rename_i n he
    rw [he] at hdg hlen
    have hn : ix_len o = 1 := by rcases hlen with h1 | h1 <;> first | exact h1.symm | cases h1
    rw [hn] at hdg kk
    split at h
    · rename_i x hg
      cases h
      exact lv_iload_n hx hb hdg rfl (hL.get hg (by simp)) (kk lsA hL)
    · cases h
  · rename_i n he
    rw [he] at hdg hlen
    have hn : ix_len o = 2 := by rcases hlen with h1 | h1 <;> first | exact h1.symm | cases h1
    rw [hn] at hdg kk
    split at h
    · rename_i x hg
      cases h
      exact lv_iload hx hb hdg (hL.get hg (by simp)) (kk lsA hL)
    · cases h
  · rename_i n he
    rw [he] at hdg hlen
    have hn : ix_len o = 1 := by rcases hlen with h1 | h1 <;> first | exact h1.symm | cases h1
    rw [hn] at hdg kk
    split at h
    · rename_i x hg
      cases h
      exact lv_aload_n hx hb hdg rfl (hL.get hg (by simp)) (kk lsA hL)
    · cases h
  · rename_i n he
    rw [he] at hdg hlen
    have hn : ix_len o = 2 := by rcases hlen with h1 | h1 <;> first | exact h1.symm | cases h1
    rw [hn] at hdg kk
    split at h
    · rename_i x hg
      cases h
      exact lv_aload hx hb hdg (hL.get hg (by simp)) (kk lsA hL)
    · cases h
  · rename_i i n he
    rw [he] at hdg hlen
    have hn : ix_len o = 3 := by rcases hlen with h1 | h1 <;> first | exact h1.symm | cases h1
    rw [hn] at hdg kk
    split at h
    · rename_i x hg
      cases h
      obtain ⟨h0, hc, lv, h1, h2⟩ := hL
      obtain ⟨k, hk⟩ := List.getElem?_of_mem (h2 i _ hg (by simp))
      have hi : i < nL := by rw [← h0]; exact (List.getElem?_eq_some_iff.mp hg).1
      exact lv_iinc hx hb hdg h1 hk rfl hi rfl (fun ls' hl' => kk ls' (ix_Lh.put (x := .int (x + Int32.ofInt n)) h0 hc h2 rfl hl'))
    · cases h
  · cases h
end IXA
