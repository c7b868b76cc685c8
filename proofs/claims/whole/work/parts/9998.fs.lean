-- nothing but the law's own cell refers to 99
def nzzL (l : List Value) : Prop := ∀ v ∈ l, v ≠ .ref 3000
theorem nzz_nil : nzzL [] := fun v hv => absurd hv List.not_mem_nil
theorem nzz_cons {v : Value} {l : List Value} : nzzL (v :: l) ↔ v ≠ .ref 3000 ∧ nzzL l := List.forall_mem_cons
theorem nzz_get {ls : List Value} {k : Nat} {v : Value} (hl : nzzL ls) (e : ls[k]? = some v) : v ≠ .ref 3000 := hl v (List.mem_of_getElem? e)
theorem nzz_set {ls : List Value} {k : Nat} {v : Value} (hl : nzzL ls) (hv : v ≠ .ref 3000) : nzzL (ls.set k v) := fun x hx => by
  rcases List.mem_or_eq_of_mem_set hx with q | q
  · exact hl x q
  · rw [q]; exact hv
theorem nzz_int {x : Int32} : Value.int x ≠ .ref 3000 := fun e => by cases e
theorem nzz_long {x : Int64} : Value.long x ≠ .ref 3000 := fun e => by cases e
theorem nzz_ref {x : Nat} (h : x ≠ 3000) : Value.ref x ≠ .ref 3000 := fun e => h (by cases e; rfl)
def ozz (o : ix_Op) : Bool := match ix_ins o with
  | .ldc _ => decide (ix_z o ≠ 1) || decide (ix_x o ≠ 3000)
  | _ => true
theorem g1zz {o : ix_Op} {ls st : List Value} {q : List Value × List Value} (ho : ozz o = true) (hl : nzzL ls) (hs : nzzL st) (e : ix_g1 o ls st = some q) : nzzL q.1 ∧ nzzL q.2 := by
  unfold ix_g1 at e
  unfold ozz at ho
  split at e
  · cases e; exact ⟨hl, nzz_cons.mpr ⟨nzz_int, hs⟩⟩
  · cases e; exact ⟨hl, nzz_cons.mpr ⟨nzz_int, hs⟩⟩
  · cases e; exact ⟨hl, nzz_cons.mpr ⟨nzz_int, hs⟩⟩
  · rename_i hi
    rw [hi] at ho
    split at e
    · cases e; exact ⟨hl, nzz_cons.mpr ⟨nzz_int, hs⟩⟩
    · split at e
      · rename_i z1
        cases e
        refine ⟨hl, nzz_cons.mpr ⟨nzz_ref (fun z => ?_), hs⟩⟩
        simp [z1, z] at ho
      · cases e
  · split at e
    · cases e; exact ⟨hl, nzz_cons.mpr ⟨nzz_int, hs⟩⟩
    · cases e
  · split at e
    · cases e; exact ⟨hl, nzz_cons.mpr ⟨nzz_int, hs⟩⟩
    · cases e
  · split at e
    · cases e; exact ⟨hl, nzz_cons.mpr ⟨nzz_int, hs⟩⟩
    · cases e
  · split at e
    · rename_i hx
      cases e; exact ⟨hl, nzz_cons.mpr ⟨nzz_get hl hx, hs⟩⟩
    · cases e
  · split at e
    · rename_i hx
      cases e; exact ⟨hl, nzz_cons.mpr ⟨nzz_get hl hx, hs⟩⟩
    · cases e
  · split at e
    · cases e; exact ⟨nzz_set hl nzz_int, hs⟩
    · cases e
  · cases e
theorem g2zz {o : ix_Op} {ls st : List Value} {q : List Value × List Value} (hl : nzzL ls) (hs : nzzL st) (e : ix_g2 o ls st = some q) : nzzL q.1 ∧ nzzL q.2 := by
  unfold ix_g2 at e
  split at e
  · split at e
    · cases e; exact ⟨nzz_set hl nzz_int, (nzz_cons.mp hs).2⟩
    · cases e
  · split at e
    · cases e; exact ⟨nzz_set hl nzz_int, (nzz_cons.mp hs).2⟩
    · cases e
  · split at e
    · cases e; exact ⟨nzz_set hl (nzz_cons.mp hs).1, (nzz_cons.mp hs).2⟩
    · cases e
  · split at e
    · cases e; exact ⟨nzz_set hl (nzz_cons.mp hs).1, (nzz_cons.mp hs).2⟩
    · cases e
  · cases e; exact ⟨hl, nzz_cons.mpr ⟨nzz_int, (nzz_cons.mp hs).2⟩⟩
  · cases e; exact ⟨hl, nzz_cons.mpr ⟨nzz_int, (nzz_cons.mp hs).2⟩⟩
  · cases e; exact ⟨hl, nzz_cons.mpr ⟨nzz_int, (nzz_cons.mp hs).2⟩⟩
  · cases e; exact ⟨hl, nzz_cons.mpr ⟨nzz_long, (nzz_cons.mp hs).2⟩⟩
  · split at e
    · cases e; exact ⟨hl, nzz_cons.mpr ⟨(nzz_cons.mp hs).1, hs⟩⟩
    · cases e
  · split at e
    · cases e; exact ⟨hl, (nzz_cons.mp hs).2⟩
    · cases e
  · split at e
    · cases e; exact ⟨hl, nzz_cons.mpr ⟨(nzz_cons.mp hs).1, nzz_cons.mpr ⟨(nzz_cons.mp (nzz_cons.mp hs).2).1, hs⟩⟩⟩
    · cases e
  · cases e; exact ⟨hl, nzz_cons.mpr ⟨nzz_int, (nzz_cons.mp (nzz_cons.mp hs).2).2⟩⟩
  · cases e
theorem g3zz {o : ix_Op} {ls st : List Value} {q : List Value × List Value} (hl : nzzL ls) (hs : nzzL st) (e : ix_g3 o ls st = some q) : nzzL q.1 ∧ nzzL q.2 := by
  unfold ix_g3 at e
  cases ha : ix_g3a o ls st with
  | some q' =>
    rw [ha] at e
    cases e
    unfold ix_g3a at ha
    split at ha
    · rw [Option.map_eq_some_iff] at ha
      obtain ⟨v, -, rfl⟩ := ha
      exact ⟨hl, nzz_cons.mpr ⟨nzz_int, (nzz_cons.mp (nzz_cons.mp hs).2).2⟩⟩
    · cases ha
  | none =>
    rw [ha] at e
    replace e : ix_g3b o ls st = some q := e
    unfold ix_g3b at e
    split at e
    · split at e
      · split at e
        · split at e
          · cases e; exact ⟨hl, nzz_cons.mpr ⟨nzz_int, (nzz_cons.mp (nzz_cons.mp hs).2).2⟩⟩
          · cases e
        · split at e
          · split at e
            · cases e; exact ⟨hl, nzz_cons.mpr ⟨nzz_int, (nzz_cons.mp (nzz_cons.mp hs).2).2⟩⟩
            · cases e
          · split at e
            · split at e
              · cases e; exact ⟨hl, nzz_cons.mpr ⟨nzz_int, (nzz_cons.mp hs).2⟩⟩
              · cases e
            · cases e
      · cases e
    · cases e
theorem gbzz {o : ix_Op} {i : Nat} {st : List Value} {q : Nat × List Value} (hs : nzzL st) (e : ix_gb o i st = some q) : nzzL q.2 := by
  unfold ix_gb at e
  split at e
  · cases e; exact hs
  · cases e; exact (nzz_cons.mp hs).2
  · cases e; exact (nzz_cons.mp (nzz_cons.mp hs).2).2
  · split at e
    · cases e; exact (nzz_cons.mp hs).2
    · rw [Option.map_eq_some_iff] at e
      obtain ⟨t, -, rfl⟩ := e
      exact (nzz_cons.mp hs).2
  · cases e
theorem rfzz (a : Nat) : ∀ r ∈ ix_rf a, r ≠ some 3000 := by
  have : (ix_rf a).all (fun r => decide (r ≠ some 3000)) = true := by
    unfold ix_rf
    repeat' split
    all_goals rfl
  intro r hr
  exact of_decide_eq_true (List.all_eq_true.mp this r hr)
def b3w (a : Nat) : Bool := decide (ix_k a = 3 → ix_b a + ix_n a ≤ 3000)
theorem b3w_0 : ∀ a, a < 300 → b3w (a + 0) = true := by decide +kernel
theorem b3w_1 : ∀ a, a < 300 → b3w (a + 300) = true := by decide +kernel
theorem b3w_2 : ∀ a, a < 300 → b3w (a + 600) = true := by decide +kernel
theorem b3w_3 : ∀ a, a < 300 → b3w (a + 900) = true := by decide +kernel
theorem b3w_4 : ∀ a, a < 300 → b3w (a + 1200) = true := by decide +kernel
theorem b3w_5 : ∀ a, a < 300 → b3w (a + 1500) = true := by decide +kernel
theorem b3w_6 : ∀ a, a < 300 → b3w (a + 1800) = true := by decide +kernel
theorem b3w_7 : ∀ a, a < 300 → b3w (a + 2100) = true := by decide +kernel
theorem b3w_8 : ∀ a, a < 300 → b3w (a + 2400) = true := by decide +kernel
theorem b3w_9 : ∀ a, a < 300 → b3w (a + 2700) = true := by decide +kernel
theorem b3w_10 : ∀ a, a < 300 → b3w (a + 3000) = true := by decide +kernel
theorem b3zz (a j : Nat) (h3 : ix_k a = 3) (hj : j < ix_n a) : ix_b a + j ≠ 3000 := by
  have ha : a < 3001 := by
    rcases Nat.lt_or_ge a 3001 with q | q
    · exact q
    · exfalso
      have e : ix_sh a = (0, 0, 0) := by unfold ix_sh; rw [if_pos q]
      simp [ix_k, e] at h3
  have hb : b3w a = true := by
    by_cases g0 : a < 300
    · have e := b3w_0 (a - 0) (by omega)
      rw [show a - 0 + 0 = a by omega] at e
      exact e
    by_cases g1 : a < 600
    · have e := b3w_1 (a - 300) (by omega)
      rw [show a - 300 + 300 = a by omega] at e
      exact e
    by_cases g2 : a < 900
    · have e := b3w_2 (a - 600) (by omega)
      rw [show a - 600 + 600 = a by omega] at e
      exact e
    by_cases g3 : a < 1200
    · have e := b3w_3 (a - 900) (by omega)
      rw [show a - 900 + 900 = a by omega] at e
      exact e
    by_cases g4 : a < 1500
    · have e := b3w_4 (a - 1200) (by omega)
      rw [show a - 1200 + 1200 = a by omega] at e
      exact e
    by_cases g5 : a < 1800
    · have e := b3w_5 (a - 1500) (by omega)
      rw [show a - 1500 + 1500 = a by omega] at e
      exact e
    by_cases g6 : a < 2100
    · have e := b3w_6 (a - 1800) (by omega)
      rw [show a - 1800 + 1800 = a by omega] at e
      exact e
    by_cases g7 : a < 2400
    · have e := b3w_7 (a - 2100) (by omega)
      rw [show a - 2100 + 2100 = a by omega] at e
      exact e
    by_cases g8 : a < 2700
    · have e := b3w_8 (a - 2400) (by omega)
      rw [show a - 2400 + 2400 = a by omega] at e
      exact e
    by_cases g9 : a < 3000
    · have e := b3w_9 (a - 2700) (by omega)
      rw [show a - 2700 + 2700 = a by omega] at e
      exact e
    by_cases g10 : a < 3300
    · have e := b3w_10 (a - 3000) (by omega)
      rw [show a - 3000 + 3000 = a by omega] at e
      exact e
    omega
  have := of_decide_eq_true hb h3
  omega
def Fzz (w : (Nat → Int32) × (Nat → Int32)) (h : ix_H) : ix_H := fun a => if a = 3000 then w.1 else if a = 3001 then w.2 else h a
theorem Fzz_ne {w : (Nat → Int32) × (Nat → Int32)} {h : ix_H} {a : Nat} (ha : a ≠ 3000) (hk : 1 ≤ ix_k a) : Fzz w h a = h a := by
  unfold Fzz
  rw [if_neg ha, if_neg (fun z => by rw [z, ix_k3001] at hk; omega)]
theorem Fzz_up {w : (Nat → Int32) × (Nat → Int32)} {v : Int32} {h : ix_H} {a k : Nat} (ha : a ≠ 3000) (hk : 1 ≤ ix_k a) : ix_up (Fzz w h) a k v = Fzz w (ix_up h a k v) := by
  have h1 : a ≠ 3001 := fun z => by rw [z, ix_k3001] at hk; omega
  funext i j
  by_cases e1 : i = a
  · subst e1; simp [Fzz, ix_up, ha, h1]
  · by_cases e2 : i = 3000
    · subst e2; simp [Fzz, ix_up, e1]
    · by_cases e3 : i = 3001
      · subst e3; simp [Fzz, ix_up, e1]
      · simp [Fzz, ix_up, e1, e2, e3]
theorem Fzz_row {w : (Nat → Int32) × (Nat → Int32)} {h : ix_H} {a : Nat} {f : Nat → Int32} (ha : a ≠ 3000) (hk : 1 ≤ ix_k a) : ix_row (Fzz w h) a f = Fzz w (ix_row h a f) := by
  have h1 : a ≠ 3001 := fun z => by rw [z, ix_k3001] at hk; omega
  funext i
  unfold Fzz ix_row
  by_cases e1 : i = a
  · subst e1; rw [if_pos rfl, if_neg ha, if_neg h1, if_pos rfl]
  · rw [if_neg e1, if_neg e1]
def Mzz (w : (Nat → Int32) × (Nat → Int32)) (q : List Value × ix_H) : List Value × ix_H := (q.1, Fzz w q.2)
theorem ghzz {dm : Nat → Bool} {o : ix_Op} {st : List Value} {h : ix_H} {w : (Nat → Int32) × (Nat → Int32)} (hs : nzzL st) : ix_gh dm o st (Fzz w h) = (ix_gh dm o st h).map (Mzz w) ∧ ∀ q, ix_gh dm o st h = some q → nzzL q.1 := by
  have rzz : ∀ {a : Nat} {r : List Value}, nzzL (.ref a :: r) → a ≠ 3000 := fun h e => (nzz_cons.mp h).1 (by rw [e])
  have k7 : ∀ {a : Nat}, a ≠ 3000 → ¬ ix_k a = 7 := fun h e => h (ix_k7 e)
  unfold ix_gh
  split
  · have ha := rzz hs
    split
    · rename_i hc
      split
      · rename_i t ht
        split
        · refine ⟨rfl, fun q e => ?_⟩
          cases e
          exact nzz_cons.mpr ⟨nzz_ref (fun z => rfzz _ _ (List.mem_of_getElem? ht) (by rw [z])), (nzz_cons.mp hs).2⟩
        · exact ⟨rfl, fun q e => by cases e⟩
      · rw [Fzz_ne ha (by omega)]
        refine ⟨rfl, fun q e => ?_⟩
        cases e
        exact nzz_cons.mpr ⟨nzz_int, (nzz_cons.mp hs).2⟩
      · exact ⟨rfl, fun q e => by cases e⟩
    · exact ⟨rfl, fun q e => by cases e⟩
  · have ha := rzz (nzz_cons.mp hs).2
    split
    · rename_i hc
      rw [Fzz_up ha (by omega)]
      refine ⟨rfl, fun q e => ?_⟩
      cases e
      exact (nzz_cons.mp (nzz_cons.mp hs).2).2
    · exact ⟨rfl, fun q e => by cases e⟩
  · have ha := rzz (nzz_cons.mp hs).2
    have hr := (nzz_cons.mp (nzz_cons.mp hs).2).2
    split
    · rename_i hc
      rw [Fzz_ne ha (by omega)]
      refine ⟨rfl, fun q e => ?_⟩
      cases e
      exact nzz_cons.mpr ⟨nzz_int, hr⟩
    · rw [if_neg (fun z => k7 ha z.1), if_neg (fun z => k7 ha z.1)]
      exact ⟨rfl, fun q e => by cases e⟩
  · have h2 := (nzz_cons.mp hs).2
    have ha := rzz (nzz_cons.mp h2).2
    split
    · rename_i hc
      rw [Fzz_up ha (by omega)]
      refine ⟨rfl, fun q e => ?_⟩
      cases e
      exact (nzz_cons.mp (nzz_cons.mp h2).2).2
    · exact ⟨rfl, fun q e => by cases e⟩
  · have ha := rzz (nzz_cons.mp hs).2
    split
    · rename_i hc
      rw [Fzz_ne ha (by omega)]
      refine ⟨rfl, fun q e => ?_⟩
      cases e
      exact nzz_cons.mpr ⟨nzz_int, (nzz_cons.mp (nzz_cons.mp hs).2).2⟩
    · exact ⟨rfl, fun q e => by cases e⟩
  · have h2 := (nzz_cons.mp hs).2
    have ha := rzz (nzz_cons.mp h2).2
    split
    · rename_i hc
      rw [Fzz_up ha (by omega)]
      refine ⟨rfl, fun q e => ?_⟩
      cases e
      exact (nzz_cons.mp (nzz_cons.mp h2).2).2
    · exact ⟨rfl, fun q e => by cases e⟩
  · split
    · rename_i hc
      refine ⟨rfl, fun q e => ?_⟩
      cases e
      refine nzz_cons.mpr ⟨nzz_ref (b3zz _ _ hc.2.1 ?_), (nzz_cons.mp (nzz_cons.mp hs).2).2⟩
      have l := hc.2.2
      omega
    · exact ⟨rfl, fun q e => by cases e⟩
  · have ha := rzz (nzz_cons.mp hs).2
    split
    · rename_i hc
      rw [Fzz_ne ha (by omega)]
      refine ⟨rfl, fun q e => ?_⟩
      cases e
      exact nzz_cons.mpr ⟨nzz_long, (nzz_cons.mp (nzz_cons.mp hs).2).2⟩
    · exact ⟨rfl, fun q e => by cases e⟩
  · have h2 := (nzz_cons.mp hs).2
    have ha := rzz (nzz_cons.mp h2).2
    split
    · rename_i hc
      rw [Fzz_up ha (by omega)]
      refine ⟨rfl, fun q e => ?_⟩
      cases e
      exact (nzz_cons.mp (nzz_cons.mp h2).2).2
    · exact ⟨rfl, fun q e => by cases e⟩
  · have hr := (nzz_cons.mp hs).2
    have ha := rzz hs
    split
    · refine ⟨rfl, fun q e => ?_⟩
      cases e
      exact nzz_cons.mpr ⟨nzz_int, hr⟩
    · rw [if_neg (k7 ha), if_neg (k7 ha)]
      exact ⟨rfl, fun q e => by cases e⟩
  · have h2 := (nzz_cons.mp (nzz_cons.mp hs).2).2
    have ha := rzz h2
    have h4 := (nzz_cons.mp (nzz_cons.mp h2).2).2
    have hb := rzz h4
    split
    · rename_i hc
      unfold ix_cpy
      rw [Fzz_ne ha (by omega), Fzz_ne hb (by omega), Fzz_row ha (by omega)]
      refine ⟨rfl, fun q e => ?_⟩
      cases e
      exact (nzz_cons.mp h4).2
    · exact ⟨rfl, fun q e => by cases e⟩
  · exact ⟨rfl, fun q e => by cases e⟩
def Rzz (w : (Nat → Int32) × (Nat → Int32)) (r : ix_R) : ix_R := (r.1, Fzz w r.2.1, r.2.2)
def Czz (w : (Nat → Int32) × (Nat → Int32)) (call : Nat → List Value → ix_H → Option ix_R) : Prop := ∀ mi vs h, nzzL vs → call mi vs (Fzz w h) = (call mi vs h).map (Rzz w) ∧ ∀ v h' k', call mi vs h = some (.inl (some v), h', k') → v ≠ .ref 3000
theorem runzz {dm : Nat → Bool} {call : Nat → List Value → ix_H → Option ix_R} {ops : List ix_Op} {hs : List ix_Hd} {w : (Nat → Int32) × (Nat → Int32)} (hc : Czz w call) (ho : ops.all ozz = true) : ∀ g i ls st h k, nzzL ls → nzzL st → ix_run dm call ops hs g i ls st (Fzz w h) k = (ix_run dm call ops hs g i ls st h k).map (Rzz w) ∧ ∀ v h' k', ix_run dm call ops hs g i ls st h k = some (.inl (some v), h', k') → v ≠ .ref 3000 := by
  intro g
  induction g with
  | zero => exact fun _ _ _ _ _ _ _ => ⟨rfl, fun _ _ _ e => by cases e⟩
  | succ g ih =>
    intro i ls st h k hl hst
    rw [ix_run, ix_run]
    cases hop : ops[i]? with
    | none => exact ⟨rfl, fun _ _ _ e => by cases e⟩
    | some o =>
      have oo := List.all_eq_true.mp ho o (List.mem_of_getElem? hop)
      simp only []
      cases h1 : ix_g1 o ls st with
      | some q =>
        obtain ⟨a, b⟩ := g1zz oo hl hst h1
        exact ih _ _ _ _ _ a b
      | none =>
        simp only []
        cases h2 : ix_g2 o ls st with
        | some q =>
          obtain ⟨a, b⟩ := g2zz hl hst h2
          exact ih _ _ _ _ _ a b
        | none =>
          simp only []
          cases h3 : ix_g3 o ls st with
          | some q =>
            obtain ⟨a, b⟩ := g3zz hl hst h3
            exact ih _ _ _ _ _ a b
          | none =>
            simp only []
            cases h4 : ix_gb o i st with
            | some q => exact ih _ _ _ _ _ hl (gbzz hst h4)
            | none =>
              simp only []
              obtain ⟨e5, n5⟩ := ghzz (dm := dm) (o := o) (h := h) (w := w) hst
              rw [e5]
              cases h5 : ix_gh dm o st h with
              | some q => exact ih _ _ _ _ _ hl (n5 q h5)
              | none =>
                simp only [Option.map_none]
                split
                · split
                  · have nt : nzzL (st.take (ix_z o)).reverse := fun v hv => hst v (List.mem_of_mem_take (List.mem_reverse.mp hv))
                    have nd : nzzL (st.drop (ix_z o)) := fun v hv => hst v (List.mem_of_mem_drop hv)
                    obtain ⟨e6, n6⟩ := hc (ix_x o) (st.take (ix_z o)).reverse h nt
                    rw [e6]
                    cases h6 : call (ix_x o) (st.take (ix_z o)).reverse h with
                    | none => exact ⟨rfl, fun _ _ _ e => by cases e⟩
                    | some r =>
                      obtain ⟨r1, h', k'⟩ := r
                      cases r1 with
                      | inl v =>
                        simp only [Option.map_some, Rzz]
                        refine ih _ _ _ _ _ hl (fun x hx => ?_)
                        rcases List.mem_append.mp hx with q | q
                        · cases v with
                          | none => exact absurd q List.not_mem_nil
                          | some v =>
                            rw [Option.toList_some, List.mem_singleton] at q
                            rw [q]
                            exact n6 v h' k' h6
                        · exact nd x q
                      | inr x =>
                        simp only [Option.map_some, Rzz]
                        split
                        · exact ⟨rfl, fun _ _ _ e => by cases e⟩
                        · split
                          · split
                            · exact ⟨rfl, fun _ _ _ e => by cases e⟩
                            · exact ⟨rfl, fun _ _ _ e => by cases e⟩
                          · split
                            · exact ih _ _ _ _ _ (nzz_set hl (fun e => by cases e)) nzz_nil
                            · exact ⟨rfl, fun _ _ _ e => by cases e⟩
                  · exact ⟨rfl, fun _ _ _ e => by cases e⟩
                · split
                  · split
                    · exact ⟨rfl, fun _ _ _ e => by cases e; exact nzz_int⟩
                    · exact ⟨rfl, fun _ _ _ e => by cases e⟩
                  · exact ⟨rfl, fun _ _ _ e => by cases e⟩
                  · split
                    · exact ⟨rfl, fun _ _ _ e => by cases e⟩
                    · exact ⟨rfl, fun _ _ _ e => by cases e⟩
                  · exact ⟨rfl, fun _ _ _ e => by cases e⟩
theorem przz {w : (Nat → Int32) × (Nat → Int32)} : Czz w ix_pr := by
  intro mi vs h nv
  unfold ix_pr
  split
  · split
    · unfold ix_p900
      split
      · exact ⟨rfl, fun _ _ _ e => by cases e; exact nzz_int⟩
      · exact ⟨rfl, fun _ _ _ e => by cases e⟩
    · exact ⟨rfl, fun _ _ _ e => by cases e⟩
  · split
    · split
      · unfold ix_p901
        split
        · exact ⟨rfl, fun _ _ _ e => by cases e; exact nzz_int⟩
        · exact ⟨rfl, fun _ _ _ e => by cases e⟩
      · exact ⟨rfl, fun _ _ _ e => by cases e⟩
    · exact ⟨rfl, fun _ _ _ e => by cases e⟩
theorem execzz {tab : List ix_M} {dm : Nat → Bool} {w : (Nat → Int32) × (Nat → Int32)} (ht : ∀ M ∈ tab, (ix_mo M).all ozz = true) : ∀ d f, Czz w (ix_exec tab ix_pr dm d f) := by
  intro d
  induction d with
  | zero => exact fun f mi vs h _ => ⟨rfl, fun _ _ _ e => by cases e⟩
  | succ d ih =>
    intro f mi vs h nv
    rw [ix_exec, ix_exec]
    cases hM : tab[mi]? with
    | none => exact przz mi vs h nv
    | some M =>
      simp only []
      split
      · refine runzz (ih f) (ht M (List.mem_of_getElem? hM)) _ _ _ _ _ _ (fun v hv => ?_) nzz_nil
        rcases List.mem_append.mp hv with q | q
        · exact nv v q
        · rw [(List.mem_replicate.mp q).2]; exact fun e => by cases e
      · exact ⟨rfl, fun _ _ _ e => by cases e⟩
theorem tabzz : ∀ M ∈ ix_tabP, (ix_mo M).all ozz = true := by decide +kernel
