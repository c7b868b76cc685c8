theorem ix_chain_app : ∀ (a b : List ix_Op), ix_chain a = true → ix_chain b = true → (∀ o o', a.getLast? = some o → b.head? = some o' → ix_pc o' = ix_pc o + ix_len o) → ix_chain (a ++ b) = true
  | [], b, _, hb, _ => hb
  | [x], [], _, _, _ => rfl
  | [x], y :: l, _, hb, h => by
    show (decide (ix_pc y = ix_pc x + ix_len x) && ix_chain (y :: l)) = true
    rw [hb, Bool.and_true]
    exact decide_eq_true (h x y rfl rfl)
  | x :: z :: l, b, ha, hb, h => by
    rw [ix_chain, Bool.and_eq_true] at ha
    show (decide (ix_pc z = ix_pc x + ix_len x) && ix_chain (z :: l ++ b)) = true
    rw [ha.1, Bool.true_and]
    refine ix_chain_app (z :: l) b ha.2 hb (fun o o' h1 h2 => h o o' ?_ h2)
    rw [List.getLast?_cons_cons]
    exact h1
def ix_bd (a b : List ix_Op) : Bool := match a.getLast?, b.head? with
  | some o, some o' => decide (ix_pc o' = ix_pc o + ix_len o)
  | _, _ => true
theorem ix_bdo {a b : List ix_Op} (h : ix_bd a b = true) : ∀ o o', a.getLast? = some o → b.head? = some o' → ix_pc o' = ix_pc o + ix_len o := by
  intro o o' h1 h2
  unfold ix_bd at h
  rw [h1, h2] at h
  exact of_decide_eq_true h
theorem lk_0 : (lo_0).all (ix_ok1 13 code ix_lo) = true := by decide +kernel
theorem lk_1 : (lo_1).all (ix_ok1 13 code ix_lo) = true := by decide +kernel
theorem lk_2 : (lo_2).all (ix_ok1 13 code ix_lo) = true := by decide +kernel
theorem lk_3 : (lo_3).all (ix_ok1 13 code ix_lo) = true := by decide +kernel
theorem lk_4 : (lo_4).all (ix_ok1 13 code ix_lo) = true := by decide +kernel
theorem lk_5 : (lo_5).all (ix_ok1 13 code ix_lo) = true := by decide +kernel
theorem lk_6 : (lo_6).all (ix_ok1 13 code ix_lo) = true := by decide +kernel
theorem lk_7 : (lo_7).all (ix_ok1 13 code ix_lo) = true := by decide +kernel
theorem lk_8 : (lo_8).all (ix_ok1 13 code ix_lo) = true := by decide +kernel
theorem lk_9 : (lo_9).all (ix_ok1 13 code ix_lo) = true := by decide +kernel
