-- nothing but the law's own cell refers to 99
def n99L (l : List Value) : Prop := ∀ v ∈ l, v ≠ .ref 99
theorem n99_nil : n99L [] := fun v hv => absurd hv List.not_mem_nil
theorem n99_cons {v : Value} {l : List Value} : n99L (v :: l) ↔ v ≠ .ref 99 ∧ n99L l := List.forall_mem_cons
theorem n99_get {ls : List Value} {k : Nat} {v : Value} (hl : n99L ls) (e : ls[k]? = some v) : v ≠ .ref 99 := hl v (List.mem_of_getElem? e)
theorem n99_set {ls : List Value} {k : Nat} {v : Value} (hl : n99L ls) (hv : v ≠ .ref 99) : n99L (ls.set k v) := fun x hx => by
  rcases List.mem_or_eq_of_mem_set hx with q | q
  · exact hl x q
  · rw [q]; exact hv
theorem n99_int {x : Int32} : Value.int x ≠ .ref 99 := fun e => by cases e
theorem n99_long {x : Int64} : Value.long x ≠ .ref 99 := fun e => by cases e
theorem n99_ref {x : Nat} (h : x ≠ 99) : Value.ref x ≠ .ref 99 := fun e => h (by cases e; rfl)
def o99 (o : ix_Op) : Bool := match ix_ins o with
  | .ldc _ => decide (ix_z o ≠ 1) || decide (ix_x o ≠ 99)
  | _ => true
theorem g199 {o : ix_Op} {ls st : List Value} {q : List Value × List Value} (ho : o99 o = true) (hl : n99L ls) (hs : n99L st) (e : ix_g1 o ls st = some q) : n99L q.1 ∧ n99L q.2 := by
  unfold ix_g1 at e
  unfold o99 at ho
  split at e
  · cases e; exact ⟨hl, n99_cons.mpr ⟨n99_int, hs⟩⟩
  · cases e; exact ⟨hl, n99_cons.mpr ⟨n99_int, hs⟩⟩
  · cases e; exact ⟨hl, n99_cons.mpr ⟨n99_int, hs⟩⟩
  · rename_i hi
    rw [hi] at ho
    split at e
    · cases e; exact ⟨hl, n99_cons.mpr ⟨n99_int, hs⟩⟩
    · split at e
      · rename_i z1
        cases e
        refine ⟨hl, n99_cons.mpr ⟨n99_ref (fun z => ?_), hs⟩⟩
        simp [z1, z] at ho
      · cases e
  · split at e
    · cases e; exact ⟨hl, n99_cons.mpr ⟨n99_int, hs⟩⟩
    · cases e
  · split at e
    · cases e; exact ⟨hl, n99_cons.mpr ⟨n99_int, hs⟩⟩
    · cases e
  · split at e
    · cases e; exact ⟨hl, n99_cons.mpr ⟨n99_int, hs⟩⟩
    · cases e
  · split at e
    · rename_i hx
      cases e; exact ⟨hl, n99_cons.mpr ⟨n99_get hl hx, hs⟩⟩
    · cases e
  · split at e
    · rename_i hx
      cases e; exact ⟨hl, n99_cons.mpr ⟨n99_get hl hx, hs⟩⟩
    · cases e
  · split at e
    · cases e; exact ⟨n99_set hl n99_int, hs⟩
    · cases e
  · cases e
theorem g299 {o : ix_Op} {ls st : List Value} {q : List Value × List Value} (hl : n99L ls) (hs : n99L st) (e : ix_g2 o ls st = some q) : n99L q.1 ∧ n99L q.2 := by
  unfold ix_g2 at e
  split at e
  · split at e
    · cases e; exact ⟨n99_set hl n99_int, (n99_cons.mp hs).2⟩
    · cases e
  · split at e
    · cases e; exact ⟨n99_set hl n99_int, (n99_cons.mp hs).2⟩
    · cases e
  · split at e
    · cases e; exact ⟨n99_set hl (n99_cons.mp hs).1, (n99_cons.mp hs).2⟩
    · cases e
  · split at e
    · cases e; exact ⟨n99_set hl (n99_cons.mp hs).1, (n99_cons.mp hs).2⟩
    · cases e
  · cases e; exact ⟨hl, n99_cons.mpr ⟨n99_int, (n99_cons.mp hs).2⟩⟩
  · cases e; exact ⟨hl, n99_cons.mpr ⟨n99_int, (n99_cons.mp hs).2⟩⟩
  · cases e; exact ⟨hl, n99_cons.mpr ⟨n99_int, (n99_cons.mp hs).2⟩⟩
  · cases e; exact ⟨hl, n99_cons.mpr ⟨n99_long, (n99_cons.mp hs).2⟩⟩
  · split at e
    · cases e; exact ⟨hl, n99_cons.mpr ⟨(n99_cons.mp hs).1, hs⟩⟩
    · cases e
  · split at e
    · cases e; exact ⟨hl, (n99_cons.mp hs).2⟩
    · cases e
  · split at e
    · cases e; exact ⟨hl, n99_cons.mpr ⟨(n99_cons.mp hs).1, n99_cons.mpr ⟨(n99_cons.mp (n99_cons.mp hs).2).1, hs⟩⟩⟩
    · cases e
  · cases e; exact ⟨hl, n99_cons.mpr ⟨n99_int, (n99_cons.mp (n99_cons.mp hs).2).2⟩⟩
  · cases e
theorem g399 {o : ix_Op} {ls st : List Value} {q : List Value × List Value} (hl : n99L ls) (hs : n99L st) (e : ix_g3 o ls st = some q) : n99L q.1 ∧ n99L q.2 := by
  unfold ix_g3 at e
  cases ha : ix_g3a o ls st with
  | some q' =>
    rw [ha] at e
    cases e
    unfold ix_g3a at ha
    split at ha
    · rw [Option.map_eq_some_iff] at ha
      obtain ⟨v, -, rfl⟩ := ha
      exact ⟨hl, n99_cons.mpr ⟨n99_int, (n99_cons.mp (n99_cons.mp hs).2).2⟩⟩
    · cases ha
  | none =>
    rw [ha] at e
    replace e : ix_g3b o ls st = some q := e
    unfold ix_g3b at e
    split at e
    · split at e
      · split at e
        · split at e
          · cases e; exact ⟨hl, n99_cons.mpr ⟨n99_int, (n99_cons.mp (n99_cons.mp hs).2).2⟩⟩
          · cases e
        · split at e
          · split at e
            · cases e; exact ⟨hl, n99_cons.mpr ⟨n99_int, (n99_cons.mp (n99_cons.mp hs).2).2⟩⟩
            · cases e
          · split at e
            · split at e
              · cases e; exact ⟨hl, n99_cons.mpr ⟨n99_int, (n99_cons.mp hs).2⟩⟩
              · cases e
            · cases e
      · cases e
    · cases e
theorem gb99 {o : ix_Op} {i : Nat} {st : List Value} {q : Nat × List Value} (hs : n99L st) (e : ix_gb o i st = some q) : n99L q.2 := by
  unfold ix_gb at e
  split at e
  · cases e; exact hs
  · cases e; exact (n99_cons.mp hs).2
  · cases e; exact (n99_cons.mp (n99_cons.mp hs).2).2
  · split at e
    · cases e; exact (n99_cons.mp hs).2
    · rw [Option.map_eq_some_iff] at e
      obtain ⟨t, -, rfl⟩ := e
      exact (n99_cons.mp hs).2
  · cases e
theorem rf99 (a : Nat) : ∀ r ∈ ix_rf a, r ≠ some 99 := by
  have : (ix_rf a).all (fun r => decide (r ≠ some 99)) = true := by
    unfold ix_rf
    repeat' split
    all_goals rfl
  intro r hr
  exact of_decide_eq_true (List.all_eq_true.mp this r hr)
def b3b (a : Nat) : Bool := decide (ix_k a = 3 → ix_b a + ix_n a ≤ 99 ∨ 100 ≤ ix_b a)
theorem b3_0 : ∀ a, a < 300 → b3b (a + 0) = true := by decide +kernel
theorem b3_1 : ∀ a, a < 300 → b3b (a + 300) = true := by decide +kernel
theorem b3_2 : ∀ a, a < 300 → b3b (a + 600) = true := by decide +kernel
theorem b3_3 : ∀ a, a < 300 → b3b (a + 900) = true := by decide +kernel
theorem b3_4 : ∀ a, a < 300 → b3b (a + 1200) = true := by decide +kernel
theorem b3_5 : ∀ a, a < 300 → b3b (a + 1500) = true := by decide +kernel
theorem b3_6 : ∀ a, a < 300 → b3b (a + 1800) = true := by decide +kernel
theorem b3_7 : ∀ a, a < 300 → b3b (a + 2100) = true := by decide +kernel
theorem b3_8 : ∀ a, a < 300 → b3b (a + 2400) = true := by decide +kernel
theorem b3_9 : ∀ a, a < 300 → b3b (a + 2700) = true := by decide +kernel
theorem b3_10 : ∀ a, a < 300 → b3b (a + 3000) = true := by decide +kernel
theorem b399 (a : Nat) (h3 : ix_k a = 3) : ix_b a + ix_n a ≤ 99 ∨ 100 ≤ ix_b a := by
  have ha : a < 3001 := by
    rcases Nat.lt_or_ge a 3001 with q | q
    · exact q
    · exfalso
      have e : ix_sh a = (0, 0, 0) := by unfold ix_sh; rw [if_pos q]
      simp [ix_k, e] at h3
  have hb : b3b a = true := by
    by_cases g0 : a < 300
    · have e := b3_0 (a - 0) (by omega)
      rw [show a - 0 + 0 = a by omega] at e
      exact e
    by_cases g1 : a < 600
    · have e := b3_1 (a - 300) (by omega)
      rw [show a - 300 + 300 = a by omega] at e
      exact e
    by_cases g2 : a < 900
    · have e := b3_2 (a - 600) (by omega)
      rw [show a - 600 + 600 = a by omega] at e
      exact e
    by_cases g3 : a < 1200
    · have e := b3_3 (a - 900) (by omega)
      rw [show a - 900 + 900 = a by omega] at e
      exact e
    by_cases g4 : a < 1500
    · have e := b3_4 (a - 1200) (by omega)
      rw [show a - 1200 + 1200 = a by omega] at e
      exact e
    by_cases g5 : a < 1800
    · have e := b3_5 (a - 1500) (by omega)
      rw [show a - 1500 + 1500 = a by omega] at e
      exact e
    by_cases g6 : a < 2100
    · have e := b3_6 (a - 1800) (by omega)
      rw [show a - 1800 + 1800 = a by omega] at e
      exact e
    by_cases g7 : a < 2400
    · have e := b3_7 (a - 2100) (by omega)
      rw [show a - 2100 + 2100 = a by omega] at e
      exact e
    by_cases g8 : a < 2700
    · have e := b3_8 (a - 2400) (by omega)
      rw [show a - 2400 + 2400 = a by omega] at e
      exact e
    by_cases g9 : a < 3000
    · have e := b3_9 (a - 2700) (by omega)
      rw [show a - 2700 + 2700 = a by omega] at e
      exact e
    by_cases g10 : a < 3300
    · have e := b3_10 (a - 3000) (by omega)
      rw [show a - 3000 + 3000 = a by omega] at e
      exact e
    omega
  exact of_decide_eq_true hb h3
def F99 (w : Int32) (h : ix_H) : ix_H := ix_up h 99 0 w
theorem F99_ne {w : Int32} {h : ix_H} {a : Nat} (ha : a ≠ 99) : F99 w h a = h a := ix_up_ne ha
theorem F99_up {w v : Int32} {h : ix_H} {a k : Nat} (ha : a ≠ 99) : ix_up (F99 w h) a k v = F99 w (ix_up h a k v) := by
  funext i j
  unfold F99 ix_up
  by_cases e1 : i = a
  · subst e1; rw [if_pos rfl, if_neg ha, if_pos rfl, if_neg ha]
  · rw [if_neg e1]
    by_cases e2 : i = 99
    · rw [if_pos e2, if_pos e2, if_neg e1]
    · rw [if_neg e2, if_neg e2, if_neg e1]
theorem F99_row {w : Int32} {h : ix_H} {a : Nat} {f : Nat → Int32} (ha : a ≠ 99) : ix_row (F99 w h) a f = F99 w (ix_row h a f) := by
  funext i j
  unfold F99 ix_up ix_row
  by_cases e1 : i = a
  · subst e1; rw [if_pos rfl, if_neg ha, if_pos rfl]
  · rw [if_neg e1, if_neg e1]
def M99 (w : Int32) (q : List Value × ix_H) : List Value × ix_H := (q.1, F99 w q.2)
theorem gh99 {dm : Nat → Bool} {o : ix_Op} {st : List Value} {h : ix_H} {w : Int32} (hs : n99L st) : ix_gh dm o st (F99 w h) = (ix_gh dm o st h).map (M99 w) ∧ ∀ q, ix_gh dm o st h = some q → n99L q.1 := by
  have r99 : ∀ {a : Nat} {r : List Value}, n99L (.ref a :: r) → a ≠ 99 := fun h e => (n99_cons.mp h).1 (by rw [e])
  unfold ix_gh
  split
  · have ha := r99 hs
    split
    · split
      · rename_i t ht
        split
        · refine ⟨rfl, fun q e => ?_⟩
          cases e
          exact n99_cons.mpr ⟨n99_ref (fun z => rf99 _ _ (List.mem_of_getElem? ht) (by rw [z])), (n99_cons.mp hs).2⟩
        · exact ⟨rfl, fun q e => by cases e⟩
      · rw [F99_ne ha]
        refine ⟨rfl, fun q e => ?_⟩
        cases e
        exact n99_cons.mpr ⟨n99_int, (n99_cons.mp hs).2⟩
      · exact ⟨rfl, fun q e => by cases e⟩
    · exact ⟨rfl, fun q e => by cases e⟩
  · have ha := r99 (n99_cons.mp hs).2
    split
    · rw [F99_up ha]
      refine ⟨rfl, fun q e => ?_⟩
      cases e
      exact (n99_cons.mp (n99_cons.mp hs).2).2
    · exact ⟨rfl, fun q e => by cases e⟩
  · have ha := r99 (n99_cons.mp hs).2
    have hr := (n99_cons.mp (n99_cons.mp hs).2).2
    rw [F99_ne ha, F99_ne (show 3001 ≠ 99 by decide)]
    split
    · refine ⟨rfl, fun q e => ?_⟩
      cases e
      exact n99_cons.mpr ⟨n99_int, hr⟩
    · split
      · refine ⟨rfl, fun q e => ?_⟩
        cases e
        exact n99_cons.mpr ⟨n99_int, hr⟩
      · exact ⟨rfl, fun q e => by cases e⟩
  · have h2 := (n99_cons.mp hs).2
    have ha := r99 (n99_cons.mp h2).2
    split
    · rw [F99_up ha]
      refine ⟨rfl, fun q e => ?_⟩
      cases e
      exact (n99_cons.mp (n99_cons.mp h2).2).2
    · exact ⟨rfl, fun q e => by cases e⟩
  · have ha := r99 (n99_cons.mp hs).2
    rw [F99_ne ha]
    split
    · refine ⟨rfl, fun q e => ?_⟩
      cases e
      exact n99_cons.mpr ⟨n99_int, (n99_cons.mp (n99_cons.mp hs).2).2⟩
    · exact ⟨rfl, fun q e => by cases e⟩
  · have h2 := (n99_cons.mp hs).2
    have ha := r99 (n99_cons.mp h2).2
    split
    · rw [F99_up ha]
      refine ⟨rfl, fun q e => ?_⟩
      cases e
      exact (n99_cons.mp (n99_cons.mp h2).2).2
    · exact ⟨rfl, fun q e => by cases e⟩
  · split
    · rename_i hc
      refine ⟨rfl, fun q e => ?_⟩
      cases e
      refine n99_cons.mpr ⟨n99_ref (fun z => ?_), (n99_cons.mp (n99_cons.mp hs).2).2⟩
      have b := b399 _ hc.2.1
      have l := hc.2.2
      omega
    · exact ⟨rfl, fun q e => by cases e⟩
  · have ha := r99 (n99_cons.mp hs).2
    rw [F99_ne ha]
    split
    · refine ⟨rfl, fun q e => ?_⟩
      cases e
      exact n99_cons.mpr ⟨n99_long, (n99_cons.mp (n99_cons.mp hs).2).2⟩
    · exact ⟨rfl, fun q e => by cases e⟩
  · have h2 := (n99_cons.mp hs).2
    have ha := r99 (n99_cons.mp h2).2
    split
    · rw [F99_up ha]
      refine ⟨rfl, fun q e => ?_⟩
      cases e
      exact (n99_cons.mp (n99_cons.mp h2).2).2
    · exact ⟨rfl, fun q e => by cases e⟩
  · rw [F99_ne (show 3001 ≠ 99 by decide)]
    have hr := (n99_cons.mp hs).2
    split
    · refine ⟨rfl, fun q e => ?_⟩
      cases e
      exact n99_cons.mpr ⟨n99_int, hr⟩
    · split
      · refine ⟨rfl, fun q e => ?_⟩
        cases e
        exact n99_cons.mpr ⟨n99_int, hr⟩
      · exact ⟨rfl, fun q e => by cases e⟩
  · have h2 := (n99_cons.mp (n99_cons.mp hs).2).2
    have ha := r99 h2
    have h4 := (n99_cons.mp (n99_cons.mp h2).2).2
    have hb := r99 h4
    split
    · unfold ix_cpy
      rw [F99_ne ha, F99_ne hb, F99_row ha]
      refine ⟨rfl, fun q e => ?_⟩
      cases e
      exact (n99_cons.mp h4).2
    · exact ⟨rfl, fun q e => by cases e⟩
  · exact ⟨rfl, fun q e => by cases e⟩
def R99 (w : Int32) (r : ix_R) : ix_R := (r.1, F99 w r.2.1, r.2.2)
def C99 (w : Int32) (call : Nat → List Value → ix_H → Option ix_R) : Prop := ∀ mi vs h, n99L vs → call mi vs (F99 w h) = (call mi vs h).map (R99 w) ∧ ∀ v h' k', call mi vs h = some (.inl (some v), h', k') → v ≠ .ref 99
theorem run99 {dm : Nat → Bool} {call : Nat → List Value → ix_H → Option ix_R} {ops : List ix_Op} {hs : List ix_Hd} {w : Int32} (hc : C99 w call) (ho : ops.all o99 = true) : ∀ g i ls st h k, n99L ls → n99L st → ix_run dm call ops hs g i ls st (F99 w h) k = (ix_run dm call ops hs g i ls st h k).map (R99 w) ∧ ∀ v h' k', ix_run dm call ops hs g i ls st h k = some (.inl (some v), h', k') → v ≠ .ref 99 := by
  intro g
  induction g with
  | zero => exact fun _ _ _ _ _ _ _ => ⟨rfl, fun _ _ _ e => by cases e⟩
  | succ g ih =>
    intro i ls st h k hl hst
    rw [ix_run, ix_run]
    cases hop : ops[i]? with
    | none => exact ⟨rfl, fun _ _ _ e => by cases e⟩
    | some o =>
      have oo := List.all_eq_true.mp ho o (List.mem_of_getElem? hop)
      simp only []
      cases h1 : ix_g1 o ls st with
      | some q =>
        obtain ⟨a, b⟩ := g199 oo hl hst h1
        exact ih _ _ _ _ _ a b
      | none =>
        simp only []
        cases h2 : ix_g2 o ls st with
        | some q =>
          obtain ⟨a, b⟩ := g299 hl hst h2
          exact ih _ _ _ _ _ a b
        | none =>
          simp only []
          cases h3 : ix_g3 o ls st with
          | some q =>
            obtain ⟨a, b⟩ := g399 hl hst h3
            exact ih _ _ _ _ _ a b
          | none =>
            simp only []
            cases h4 : ix_gb o i st with
            | some q => exact ih _ _ _ _ _ hl (gb99 hst h4)
            | none =>
              simp only []
              obtain ⟨e5, n5⟩ := gh99 (dm := dm) (o := o) (h := h) (w := w) hst
              rw [e5]
              cases h5 : ix_gh dm o st h with
              | some q => exact ih _ _ _ _ _ hl (n5 q h5)
              | none =>
                simp only [Option.map_none]
                split
                · split
                  · have nt : n99L (st.take (ix_z o)).reverse := fun v hv => hst v (List.mem_of_mem_take (List.mem_reverse.mp hv))
                    have nd : n99L (st.drop (ix_z o)) := fun v hv => hst v (List.mem_of_mem_drop hv)
                    obtain ⟨e6, n6⟩ := hc (ix_x o) (st.take (ix_z o)).reverse h nt
                    rw [e6]
                    cases h6 : call (ix_x o) (st.take (ix_z o)).reverse h with
                    | none => exact ⟨rfl, fun _ _ _ e => by cases e⟩
                    | some r =>
                      obtain ⟨r1, h', k'⟩ := r
                      cases r1 with
                      | inl v =>
                        simp only [Option.map_some, R99]
                        refine ih _ _ _ _ _ hl (fun x hx => ?_)
                        rcases List.mem_append.mp hx with q | q
                        · cases v with
                          | none => exact absurd q List.not_mem_nil
                          | some v =>
                            rw [Option.toList_some, List.mem_singleton] at q
                            rw [q]
                            exact n6 v h' k' h6
                        · exact nd x q
                      | inr x =>
                        simp only [Option.map_some, R99]
                        split
                        · exact ⟨rfl, fun _ _ _ e => by cases e⟩
                        · split
                          · split
                            · exact ⟨rfl, fun _ _ _ e => by cases e⟩
                            · exact ⟨rfl, fun _ _ _ e => by cases e⟩
                          · split
                            · exact ih _ _ _ _ _ (n99_set hl (fun e => by cases e)) n99_nil
                            · exact ⟨rfl, fun _ _ _ e => by cases e⟩
                  · exact ⟨rfl, fun _ _ _ e => by cases e⟩
                · split
                  · split
                    · exact ⟨rfl, fun _ _ _ e => by cases e; exact n99_int⟩
                    · exact ⟨rfl, fun _ _ _ e => by cases e⟩
                  · exact ⟨rfl, fun _ _ _ e => by cases e⟩
                  · split
                    · exact ⟨rfl, fun _ _ _ e => by cases e⟩
                    · exact ⟨rfl, fun _ _ _ e => by cases e⟩
                  · exact ⟨rfl, fun _ _ _ e => by cases e⟩
theorem pr99 {w : Int32} : C99 w ix_pr := by
  intro mi vs h nv
  unfold ix_pr
  split
  · split
    · unfold ix_p900
      split
      · exact ⟨rfl, fun _ _ _ e => by cases e; exact n99_int⟩
      · exact ⟨rfl, fun _ _ _ e => by cases e⟩
    · exact ⟨rfl, fun _ _ _ e => by cases e⟩
  · split
    · split
      · unfold ix_p901
        split
        · exact ⟨rfl, fun _ _ _ e => by cases e; exact n99_int⟩
        · exact ⟨rfl, fun _ _ _ e => by cases e⟩
      · exact ⟨rfl, fun _ _ _ e => by cases e⟩
    · exact ⟨rfl, fun _ _ _ e => by cases e⟩
theorem exec99 {tab : List ix_M} {dm : Nat → Bool} {w : Int32} (ht : ∀ M ∈ tab, (ix_mo M).all o99 = true) : ∀ d f, C99 w (ix_exec tab ix_pr dm d f) := by
  intro d
  induction d with
  | zero => exact fun f mi vs h _ => ⟨rfl, fun _ _ _ e => by cases e⟩
  | succ d ih =>
    intro f mi vs h nv
    rw [ix_exec, ix_exec]
    cases hM : tab[mi]? with
    | none => exact pr99 mi vs h nv
    | some M =>
      simp only []
      split
      · refine run99 (ih f) (ht M (List.mem_of_getElem? hM)) _ _ _ _ _ _ (fun v hv => ?_) n99_nil
        rcases List.mem_append.mp hv with q | q
        · exact nv v q
        · rw [(List.mem_replicate.mp q).2]; exact fun e => by cases e
      · exact ⟨rfl, fun _ _ _ e => by cases e⟩
theorem tab99 : ∀ M ∈ ix_tabP, (ix_mo M).all o99 = true := by decide +kernel
theorem px_99 {D mi : Nat} {vs : List Value} {h : ix_H} {Q : ix_R → Prop} (nv : n99L vs) (T : px_T px_E D mi vs h Q) (w : Int32) : px_T px_E D mi vs (ix_up h 99 0 w) (fun r => ∃ r0, Q r0 ∧ r = (r0.1, ix_up r0.2.1 99 0 w, r0.2.2)) := by
  obtain ⟨r, hQ, F, H⟩ := T
  refine ⟨_, ⟨r, hQ, rfl⟩, F, fun d f hd hf => ?_⟩
  have := (exec99 (w := w) (dm := ix_D) tab99 d f mi vs h nv).1
  have e : px_E d f mi vs h = some r := H d f hd hf
  rw [show ix_exec ix_tabP ix_pr ix_D d f mi vs h = some r from e] at this
  exact this
