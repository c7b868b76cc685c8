abbrev ix_G : Type := ClassId × ClassId × ClassId × ClassId × (Nat → Nat → Bool)
def ix_tys (G : ix_G) : List (ClassId × FieldType) := [(G.1, .byte), (G.2.1, .int), (G.2.2.1, .array .int), (G.2.2.2.1, .long)]
def ix_fe (ad : Nat → Nat) (b : Bool) (v : Int32) : Option Nat → Value
  | some t => bif b then .ref (ad t) else .null
  | none => .int v
def ix_fv (G : ix_G) (ad : Nat → Nat) (h : ix_H) (a : Nat) : List Value := (ix_rf a).mapIdx (fun k r => ix_fe ad (G.2.2.2.2 a k) (h a k) r)
def ix_cell (G : ix_G) (ad : Nat → Nat) (h : ix_H) (a : Nat) : va_E :=
  if ix_k a = 1 then .inl (G.2.1, ix_n a, .inl (h a))
  else if ix_k a = 2 then .inl (G.1, ix_n a, .inl (h a))
  else if ix_k a = 3 then .inl (G.2.2.1, ix_n a, .inr (.inr (.inr (.inr (fun j => some (ad (ix_b a + j)))))))
  else if ix_k a = 4 then .inl (G.2.2.2.1, ix_n a, .inr (.inl (fun j => (h a j).toInt64)))
  else .inr (ix_n a, ix_fv G ad h a)
def ix_ws (G : ix_G) (ad : Nat → Nat) (ids : List Nat) (h : ix_H) : va_W := ids.map (fun a => (ad a, ix_cell G ad h a))
def ix_Fx (G : ix_G) (ad : Nat → Nat) (ids : List Nat) (dm : Nat → Bool) (lo : Nat) : Prop := (∀ a k, k < 100 → dm (10000 + 100 * a + k) = true → G.2.2.2.2 a k = true) ∧ ids.Nodup ∧ (∀ a ∈ ids, ∀ b ∈ ids, ad a = ad b → a = b) ∧ (∀ a ∈ ids, lo ≤ ad a) ∧ ∀ a, dm a = true → 1 ≤ ix_k a → ix_k a ≤ 5 → a ∈ ids
theorem ix_ws_at {G : ix_G} {ad : Nat → Nat} {ids : List Nat} {h : ix_H} {k a : Nat} (hk : ids[k]? = some a) : (ix_ws G ad ids h)[k]? = some (ad a, ix_cell G ad h a) := by
  unfold ix_ws
  rw [List.getElem?_map, hk]
  rfl
theorem ix_ws_get {G : ix_G} {ad : Nat → Nat} {ids : List Nat} {h : ix_H} {k : Nat} {q : Nat × va_E} (hk : (ix_ws G ad ids h)[k]? = some q) : ∃ a, ids[k]? = some a ∧ q = (ad a, ix_cell G ad h a) := by
  unfold ix_ws at hk
  rw [List.getElem?_map] at hk
  cases hi : ids[k]? with
  | none => rw [hi] at hk; cases hk
  | some a => rw [hi] at hk; exact ⟨a, rfl, (Option.some.inj hk).symm⟩
theorem ix_nd {ids : List Nat} (hn : ids.Nodup) {i j a : Nat} (hi : ids[i]? = some a) (hj : ids[j]? = some a) : i = j := by
  obtain ⟨h1, e1⟩ := List.getElem?_eq_some_iff.mp hi
  obtain ⟨h2, e2⟩ := List.getElem?_eq_some_iff.mp hj
  have hp := List.pairwise_iff_getElem.mp hn
  rcases Nat.lt_trichotomy i j with q | q | q
  · exact absurd (e1.trans e2.symm) (hp i j h1 h2 q)
  · exact q
  · exact absurd (e2.trans e1.symm) (hp j i h2 h1 q)
theorem ix_va_D {G : ix_G} {ad : Nat → Nat} {ids : List Nat} {dm : Nat → Bool} {lo : Nat} (hF : ix_Fx G ad ids dm lo) (h : ix_H) : va_D (fun q => lo ≤ q) (ix_ws G ad ids h) := by
  obtain ⟨-, hn, hi, hlo, -⟩ := hF
  refine ⟨fun i j x y hx hy hxy => ?_, fun k q hk => ?_⟩
  · obtain ⟨a, h1, rfl⟩ := ix_ws_get hx
    obtain ⟨b, h2, rfl⟩ := ix_ws_get hy
    have e := hi a (List.mem_of_getElem? h1) b (List.mem_of_getElem? h2) hxy
    subst e
    exact ix_nd hn h1 h2
  · obtain ⟨a, h1, rfl⟩ := ix_ws_get hk
    exact hlo a (List.mem_of_getElem? h1)
theorem ix_ws_set {G : ix_G} {ad : Nat → Nat} {ids : List Nat} {h h' : ix_H} {k a : Nat} {x : va_E} (hn : ids.Nodup) (hk : ids[k]? = some a) (he : ix_cell G ad h' a = x) (ho : ∀ b, b ≠ a → ix_cell G ad h' b = ix_cell G ad h b) : (ix_ws G ad ids h).set k (ad a, x) = ix_ws G ad ids h' := by
  refine List.ext_getElem? fun j => ?_
  unfold ix_ws
  rw [List.getElem?_set, List.getElem?_map, List.getElem?_map]
  by_cases hj : k = j
  · subst hj
    have hl : k < (List.map (fun a => (ad a, ix_cell G ad h a)) ids).length := by rw [List.length_map]; exact (List.getElem?_eq_some_iff.mp hk).1
    rw [if_pos rfl, if_pos hl, hk, ← he]
    rfl
  · rw [if_neg hj]
    cases hb : ids[j]? with
    | none => rfl
    | some b =>
      have hne : b ≠ a := fun e => hj (ix_nd hn hk (e ▸ hb))
      show some (ad b, ix_cell G ad h b) = some (ad b, ix_cell G ad h' b)
      rw [ho b hne]
theorem ix_up_ne {h : ix_H} {a k : Nat} {v : Int32} {b : Nat} (hb : b ≠ a) : ix_up h a k v b = h b := by
  funext j
  unfold ix_up
  rw [if_neg hb]
theorem ix_up_eq {h : ix_H} {a k : Nat} {v : Int32} : ix_up h a k v a = upd (h a) k v := by
  funext j
  unfold ix_up upd
  rw [if_pos rfl]
theorem ix_cell_of {G : ix_G} {ad : Nat → Nat} {h h' : ix_H} {b : Nat} (e : h' b = h b) : ix_cell G ad h' b = ix_cell G ad h b := by
  unfold ix_cell ix_fv
  rw [e]
theorem ix_cell1 {G : ix_G} {ad : Nat → Nat} {h : ix_H} {a : Nat} (hk : ix_k a = 1) : ix_cell G ad h a = .inl (G.2.1, ix_n a, .inl (h a)) := by unfold ix_cell; rw [if_pos hk]
theorem ix_cell2 {G : ix_G} {ad : Nat → Nat} {h : ix_H} {a : Nat} (hk : ix_k a = 2) : ix_cell G ad h a = .inl (G.1, ix_n a, .inl (h a)) := by unfold ix_cell; rw [if_neg (by omega), if_pos hk]
theorem ix_cell3 {G : ix_G} {ad : Nat → Nat} {h : ix_H} {a : Nat} (hk : ix_k a = 3) : ix_cell G ad h a = .inl (G.2.2.1, ix_n a, .inr (.inr (.inr (.inr (fun j => some (ad (ix_b a + j))))))) := by unfold ix_cell; rw [if_neg (by omega), if_neg (by omega), if_pos hk]
theorem ix_cell4 {G : ix_G} {ad : Nat → Nat} {h : ix_H} {a : Nat} (hk : ix_k a = 4) : ix_cell G ad h a = .inl (G.2.2.2.1, ix_n a, .inr (.inl (fun j => (h a j).toInt64))) := by unfold ix_cell; rw [if_neg (by omega), if_neg (by omega), if_neg (by omega), if_pos hk]
theorem ix_cell5 {G : ix_G} {ad : Nat → Nat} {h : ix_H} {a : Nat} (hk : ix_k a = 5) : ix_cell G ad h a = .inr (ix_n a, ix_fv G ad h a) := by unfold ix_cell; rw [if_neg (by omega), if_neg (by omega), if_neg (by omega), if_neg (by omega)]
theorem ix_fv_at {G : ix_G} {ad : Nat → Nat} {h : ix_H} {a k : Nat} {r : Option Nat} (hk : (ix_rf a)[k]? = some r) : (ix_fv G ad h a)[k]? = some (ix_fe ad (G.2.2.2.2 a k) (h a k) r) := by
  unfold ix_fv
  rw [List.getElem?_mapIdx, hk]
  rfl
theorem ix_fv_set {G : ix_G} {ad : Nat → Nat} {h : ix_H} {a k : Nat} {v : Int32} (hk : (ix_rf a)[k]? = some none) : (ix_fv G ad h a).set k (.int v) = ix_fv G ad (ix_up h a k v) a := by
  refine List.ext_getElem? fun j => ?_
  have hl : k < (ix_fv G ad h a).length := by unfold ix_fv; rw [List.length_mapIdx]; exact (List.getElem?_eq_some_iff.mp hk).1
  rw [List.getElem?_set]
  by_cases hj : k = j
  · subst hj
    rw [if_pos rfl, if_pos hl, ix_fv_at hk, ix_up_eq]
    show some (Value.int v) = some (Value.int (upd (h a) k v k))
    rw [pk_us]
  · rw [if_neg hj]
    cases hr : (ix_rf a)[j]? with
    | none =>
      unfold ix_fv
      rw [List.getElem?_mapIdx, List.getElem?_mapIdx, hr]
      rfl
    | some r =>
      rw [ix_fv_at hr, ix_fv_at hr, ix_up_eq]
      cases r with
      | some t => rfl
      | none =>
        show some (Value.int (h a j)) = some (Value.int (upd (h a) k v j))
        rw [pk_un (fun e => hj e.symm)]
