theorem ix_ac7 : ∀ e ∈ ix_mlk, e.2.2.2.1 = 7 → e.2.2.1 = 0 ∧ e.2.2.2.2 = 5 := by decide +kernel
def ix_rfb (a : Nat) : Bool := decide ((ix_rf a).length ≤ 100)
theorem ix_rl0 : ∀ a, a < 300 → ix_rfb (a + 0) = true := by decide +kernel
theorem ix_rl1 : ∀ a, a < 300 → ix_rfb (a + 300) = true := by decide +kernel
theorem ix_rl2 : ∀ a, a < 300 → ix_rfb (a + 600) = true := by decide +kernel
theorem ix_rl3 : ∀ a, a < 300 → ix_rfb (a + 900) = true := by decide +kernel
theorem ix_rl4 : ∀ a, a < 300 → ix_rfb (a + 1200) = true := by decide +kernel
theorem ix_rl5 : ∀ a, a < 300 → ix_rfb (a + 1500) = true := by decide +kernel
theorem ix_rl6 : ∀ a, a < 300 → ix_rfb (a + 1800) = true := by decide +kernel
theorem ix_rl7 : ∀ a, a < 300 → ix_rfb (a + 2100) = true := by decide +kernel
theorem ix_rl8 : ∀ a, a < 300 → ix_rfb (a + 2400) = true := by decide +kernel
theorem ix_rl9 : ∀ a, a < 300 → ix_rfb (a + 2700) = true := by decide +kernel
theorem ix_rl10 : ∀ a, a < 300 → ix_rfb (a + 3000) = true := by decide +kernel
theorem ix_rf_len (a k : Nat) (h : k < (ix_rf a).length) : k < 100 := by
  have key : (ix_rf a).length ≤ 100 := by
    by_cases ha : 3001 ≤ a
    · unfold ix_rf ix_k ix_sh
      rw [if_pos ha]
      exact Nat.le_of_ble_eq_true rfl
    by_cases g0 : a < 300
    · have e := ix_rl0 (a - 0) (by omega)
      rw [show a - 0 + 0 = a by omega] at e
      exact of_decide_eq_true e
    by_cases g1 : a < 600
    · have e := ix_rl1 (a - 300) (by omega)
      rw [show a - 300 + 300 = a by omega] at e
      exact of_decide_eq_true e
    by_cases g2 : a < 900
    · have e := ix_rl2 (a - 600) (by omega)
      rw [show a - 600 + 600 = a by omega] at e
      exact of_decide_eq_true e
    by_cases g3 : a < 1200
    · have e := ix_rl3 (a - 900) (by omega)
      rw [show a - 900 + 900 = a by omega] at e
      exact of_decide_eq_true e
    by_cases g4 : a < 1500
    · have e := ix_rl4 (a - 1200) (by omega)
      rw [show a - 1200 + 1200 = a by omega] at e
      exact of_decide_eq_true e
    by_cases g5 : a < 1800
    · have e := ix_rl5 (a - 1500) (by omega)
      rw [show a - 1500 + 1500 = a by omega] at e
      exact of_decide_eq_true e
    by_cases g6 : a < 2100
    · have e := ix_rl6 (a - 1800) (by omega)
      rw [show a - 1800 + 1800 = a by omega] at e
      exact of_decide_eq_true e
    by_cases g7 : a < 2400
    · have e := ix_rl7 (a - 2100) (by omega)
      rw [show a - 2100 + 2100 = a by omega] at e
      exact of_decide_eq_true e
    by_cases g8 : a < 2700
    · have e := ix_rl8 (a - 2400) (by omega)
      rw [show a - 2400 + 2400 = a by omega] at e
      exact of_decide_eq_true e
    by_cases g9 : a < 3000
    · have e := ix_rl9 (a - 2700) (by omega)
      rw [show a - 2700 + 2700 = a by omega] at e
      exact of_decide_eq_true e
    by_cases g10 : a < 3300
    · have e := ix_rl10 (a - 3000) (by omega)
      rw [show a - 3000 + 3000 = a by omega] at e
      exact of_decide_eq_true e
    omega
  omega
theorem ix_k3000 : ix_k 3000 = 7 := by decide
theorem ix_k3001 : ix_k 3001 = 0 := by decide
def ix_SX (ad : Nat → Nat) (lo : Nat) (h : ix_H) (U : State) (H : Heap) : Prop := va_X (ad 3000) (h 3001 0).toNatClampNeg (h 3000) U H ∧ Int32.ofNat (h 3001 0).toNatClampNeg = h 3001 0 ∧ ad 3000 < lo
theorem ix_kn0 : ∀ a, a < 300 → ix_k (a + 0) ≠ 7 := by decide +kernel
theorem ix_kn1 : ∀ a, a < 300 → ix_k (a + 300) ≠ 7 := by decide +kernel
theorem ix_kn2 : ∀ a, a < 300 → ix_k (a + 600) ≠ 7 := by decide +kernel
theorem ix_kn3 : ∀ a, a < 300 → ix_k (a + 900) ≠ 7 := by decide +kernel
theorem ix_kn4 : ∀ a, a < 300 → ix_k (a + 1200) ≠ 7 := by decide +kernel
theorem ix_kn5 : ∀ a, a < 300 → ix_k (a + 1500) ≠ 7 := by decide +kernel
theorem ix_kn6 : ∀ a, a < 300 → ix_k (a + 1800) ≠ 7 := by decide +kernel
theorem ix_kn7 : ∀ a, a < 300 → ix_k (a + 2100) ≠ 7 := by decide +kernel
theorem ix_kn8 : ∀ a, a < 300 → ix_k (a + 2400) ≠ 7 := by decide +kernel
theorem ix_kn9 : ∀ a, a < 300 → ix_k (a + 2700) ≠ 7 := by decide +kernel
theorem ix_k7 {a : Nat} (h7 : ix_k a = 7) : a = 3000 := by
  have ha : a < 3001 := by
    rcases Nat.lt_or_ge a 3001 with q | q
    · exact q
    · have : ix_k a = 0 := by unfold ix_k ix_sh; rw [if_pos q]
      omega
  by_cases g0 : a < 300
  · have e := ix_kn0 (a - 0) (by omega)
    rw [show a - 0 + 0 = a by omega] at e
    exact absurd h7 e
  by_cases g1 : a < 600
  · have e := ix_kn1 (a - 300) (by omega)
    rw [show a - 300 + 300 = a by omega] at e
    exact absurd h7 e
  by_cases g2 : a < 900
  · have e := ix_kn2 (a - 600) (by omega)
    rw [show a - 600 + 600 = a by omega] at e
    exact absurd h7 e
  by_cases g3 : a < 1200
  · have e := ix_kn3 (a - 900) (by omega)
    rw [show a - 900 + 900 = a by omega] at e
    exact absurd h7 e
  by_cases g4 : a < 1500
  · have e := ix_kn4 (a - 1200) (by omega)
    rw [show a - 1200 + 1200 = a by omega] at e
    exact absurd h7 e
  by_cases g5 : a < 1800
  · have e := ix_kn5 (a - 1500) (by omega)
    rw [show a - 1500 + 1500 = a by omega] at e
    exact absurd h7 e
  by_cases g6 : a < 2100
  · have e := ix_kn6 (a - 1800) (by omega)
    rw [show a - 1800 + 1800 = a by omega] at e
    exact absurd h7 e
  by_cases g7 : a < 2400
  · have e := ix_kn7 (a - 2100) (by omega)
    rw [show a - 2100 + 2100 = a by omega] at e
    exact absurd h7 e
  by_cases g8 : a < 2700
  · have e := ix_kn8 (a - 2400) (by omega)
    rw [show a - 2400 + 2400 = a by omega] at e
    exact absurd h7 e
  by_cases g9 : a < 3000
  · have e := ix_kn9 (a - 2700) (by omega)
    rw [show a - 2700 + 2700 = a by omega] at e
    exact absurd h7 e
  omega
section IXH2
variable {p : Program} {l : Launch} {e : Env} {R : Room} {s : State} {m : MethodId} {args : Array Value} {below : List Frame} {meth : Method} {c : Code} {H : Heap} {locs : List Loc} {cells slots : Nat} {Q : State → Prop}
variable {cc : ByteArray} {pc nL : Nat} {lsA : Array Slot} {st : List Value} {ad : Nat → Nat} {o : ix_Op} {own : Nat} {ops : List ix_Op} {D : va_G} {G : ix_G} {ids : List Nat} {dm : Nat → Bool} {lo : Nat} {h : ix_H}
theorem ix_lh (hx : p.tables.exec = Jvm.exec) (hb : c.code = cc) (hml : c.maxLocals = lsA.size) (hts : ∀ w ∈ ix_gw, w.before args s = true) (hnw : ∀ e ∈ ix_flS, e.2.2.2.2 ≠ 0 → va_Nw (ix_fw e) s) (hown : s.vm.findClass (ix_cn own) = some m.cls) (hK : va_K D vwCl (ix_tys G) s)
    (hac : ∀ i, (own, i, 0, 7, 5) ∈ ix_mlk → (Cond.methodLink (ix_cn own) i arraycopyName).before args s = true ∧ (Cond.native arraycopyName).before args s = true ∧ (Cond.static arraycopyName).before args s = true ∧ (Cond.initialized "java/lang/System").before args s = true)
    (hR : 12 ≤ R.frames ∧ 300 ≤ R.locals) (hF : ix_Fx G ad ids dm lo) (hP : va_P D vwCl (ix_ws G ad ids h) H) (hS : va_S (fun q => lo ≤ q) s.heap H locs) (hlo : lo ≤ s.heap.size) (hX : ix_SX ad lo h s s.heap)
    (hdg : decode cc pc = .ok (ix_ins o, ix_len o)) (hlen : ix_lenof (ix_ins o) = ix_len o ∨ ix_lenof (ix_ins o) = 0) (hres : ix_res own cc ops o = true) {q : List Value × ix_H} (hg : ix_gh dm o st h = some q)
    (kk : ∀ (H1 : Heap) (locs1 : List Loc), va_P D vwCl (ix_ws G ad ids q.2) H1 → va_S (fun q => lo ≤ q) s.heap H1 locs1 → (q.2 3000 = h 3000 ∧ q.2 3001 = h 3001) → W p l e R s m args below meth c H1 locs1 cells slots Q (F0 m (pc + ix_len o) lsA (q.1.map (ix_cv ad)))) :
    W p l e R s m args below meth c H locs cells slots Q (F0 m pc lsA (st.map (ix_cv ad))) := by
  obtain ⟨hF0, hF1, hF2, hF3, hF4⟩ := id hF
  have hup : ∀ (a k : Nat) (v : Int32), ix_k a ≠ 7 → ix_k a ≠ 0 → (ix_up h a k v 3000 = h 3000 ∧ ix_up h a k v 3001 = h 3001) := by
    intro a k v h7 h0
    refine ⟨ix_up_ne (fun z => h7 ?_), ix_up_ne (fun z => h0 ?_)⟩
    · rw [← z]; exact ix_k3000
    · rw [← z]; exact ix_k3001
  unfold ix_gh at hg
  unfold ix_res at hres
  split at hg
  · rename_i idx a r he
    rw [he] at hdg hlen hres
    have hn : ix_len o = 3 := by rcases hlen with h1 | h1 <;> first | exact h1.symm | cases h1
    rw [hn] at hdg kk
    dsimp only at hres
    split at hg
    · rename_i hc
      have ha := hF4 a hc.1 (by omega) (by omega)
      split at hg
      · rename_i t hf
        split at hg
        · rename_i hfl
          cases hg
          have hy9 : ix_y o < 100 := ix_rf_len a _ (List.getElem?_eq_some_iff.mp hf).1
          refine ix_lget (r := 0) hx hb hts hnw hown hK hP ha hc.2.1 hc.2.2 hf (of_decide_eq_true hres) hdg ?_
          rw [hF0 a (ix_y o) hy9 hfl]
          exact kk _ _ hP hS ⟨rfl, rfl⟩
        · cases hg
      · rename_i hf
        cases hg
        exact ix_lget (r := 0) hx hb hts hnw hown hK hP ha hc.2.1 hc.2.2 hf (of_decide_eq_true hres) hdg (kk _ _ hP hS ⟨rfl, rfl⟩)
      · cases hg
    · cases hg
  · rename_i idx v a r he
    rw [he] at hdg hlen hres
    have hn : ix_len o = 3 := by rcases hlen with h1 | h1 <;> first | exact h1.symm | cases h1
    rw [hn] at hdg kk
    dsimp only at hres
    split at hg
    · rename_i hc
      have ha := hF4 a hc.1 (by omega) (by omega)
      cases hg
      exact ix_lput hx hb hts hnw hown hK hF hP hS ha hc.2.1 hc.2.2.1 hc.2.2.2 (of_decide_eq_true hres) hdg (fun H1 locs1 q1 q2 => kk H1 locs1 q1 q2 (hup a _ v (by omega) (by omega)))
    · cases hg
  · rename_i j a r he
    rw [he] at hdg hlen
    have hn : ix_len o = 1 := by rcases hlen with h1 | h1 <;> first | exact h1.symm | cases h1
    rw [hn] at hdg kk
    split at hg
    · rename_i hc
      have ha := hF4 a hc.1 (by omega) (by omega)
      obtain ⟨k, hk⟩ := List.getElem?_of_mem ha
      have hw := ix_ws_at (G := G) (ad := ad) (h := h) hk
      rw [ix_cell1 hc.2.1] at hw
      cases hg
      exact va_iald hx hb hK hP k 1 hw rfl hc.2.2 hdg (kk _ _ hP hS ⟨rfl, rfl⟩)
    · split at hg
      · rename_i hc
        have ea := ix_k7 hc.1
        subst ea
        cases hg
        exact va_sld (A := fun q => lo ≤ q) hx hb hX.1 (Nat.lt_of_lt_of_le hX.2.2 hlo) (Nat.not_le.mpr hX.2.2) hS hc.2 hdg (kk _ _ hP hS ⟨rfl, rfl⟩)
      · cases hg
  · rename_i v j a r he
    rw [he] at hdg hlen
    have hn : ix_len o = 1 := by rcases hlen with h1 | h1 <;> first | exact h1.symm | cases h1
    rw [hn] at hdg kk
    split at hg
    · rename_i hc
      have ha := hF4 a hc.1 (by omega) (by omega)
      obtain ⟨k, hk⟩ := List.getElem?_of_mem ha
      have hw := ix_ws_at (G := G) (ad := ad) (h := h) hk
      rw [ix_cell1 hc.2.1] at hw
      cases hg
      refine va_iast hx hb hK hP (ix_va_D hF h) hS k 1 hw rfl hc.2.2 hdg (fun H1 locs1 q1 _ q3 => ?_)
      rw [ix_ws_set (h' := ix_up h a j.toNatClampNeg v) hF1 hk (by rw [ix_cell1 hc.2.1, ix_up_eq]) (fun b hb => ix_cell_of (ix_up_ne hb))] at q1
      exact kk H1 locs1 q1 q3 (hup a _ v (by omega) (by omega))
    · cases hg
  · rename_i j a r he
    rw [he] at hdg hlen
    have hn : ix_len o = 1 := by rcases hlen with h1 | h1 <;> first | exact h1.symm | cases h1
    rw [hn] at hdg kk
    split at hg
    · rename_i hc
      have ha := hF4 a hc.1 (by omega) (by omega)
      obtain ⟨k, hk⟩ := List.getElem?_of_mem ha
      have hw := ix_ws_at (G := G) (ad := ad) (h := h) hk
      rw [ix_cell2 hc.2.1] at hw
      cases hg
      exact va_bald hx hb hK hP k 0 hw rfl hc.2.2 hdg (kk _ _ hP hS ⟨rfl, rfl⟩)
    · cases hg
  · rename_i v j a r he
    rw [he] at hdg hlen
    have hn : ix_len o = 1 := by rcases hlen with h1 | h1 <;> first | exact h1.symm | cases h1
    rw [hn] at hdg kk
    split at hg
    · rename_i hc
      have ha := hF4 a hc.1 (by omega) (by omega)
      obtain ⟨k, hk⟩ := List.getElem?_of_mem ha
      have hw := ix_ws_at (G := G) (ad := ad) (h := h) hk
      rw [ix_cell2 hc.2.1] at hw
      cases hg
      refine va_bast hx hb hK hP (ix_va_D hF h) hS k 0 hw rfl hc.2.2 hdg (fun H1 locs1 q1 _ q3 => ?_)
      rw [ix_ws_set (h' := ix_up h a j.toNatClampNeg (vp_nar .byte v)) hF1 hk (by rw [ix_cell2 hc.2.1, ix_up_eq]) (fun b hb => ix_cell_of (ix_up_ne hb))] at q1
      exact kk H1 locs1 q1 q3 (hup a _ _ (by omega) (by omega))
    · cases hg
  · rename_i j a r he
    rw [he] at hdg hlen
    have hn : ix_len o = 1 := by rcases hlen with h1 | h1 <;> first | exact h1.symm | cases h1
    rw [hn] at hdg kk
    split at hg
    · rename_i hc
      have ha := hF4 a hc.1 (by omega) (by omega)
      obtain ⟨k, hk⟩ := List.getElem?_of_mem ha
      have hw := ix_ws_at (G := G) (ad := ad) (h := h) hk
      rw [ix_cell3 hc.2.1] at hw
      cases hg
      have hcell : H[ad a]? = some (vp_cell G.2.2.1 (ix_n a, .inr (.inr (.inr (.inr (fun j => some (ad (ix_b a + j)))))))) := hP k _ hw
      have hj : j.toNatClampNeg < ix_n a := by
        rcases Nat.lt_or_ge j.toNatClampNeg (ix_n a) with q | q
        · exact q
        · exact absurd (Or.inr q) hc.2.2
      exact W.aald hx hb (ty := .array .int) hcell ((hK.2 2 _ rfl).1 _ _) rfl (fun z => by cases z) (by show ¬ (j < 0 ∨ (arrV G.2.2.1 (ix_n a) _).slots.size ≤ j.toNatClampNeg); rw [arrV_size]; exact hc.2.2) (arrV_read _ _ hj) rfl rfl hdg (kk _ _ hP hS ⟨rfl, rfl⟩)
    · cases hg
  · rename_i j a r he
    rw [he] at hdg hlen
    have hn : ix_len o = 1 := by rcases hlen with h1 | h1 <;> first | exact h1.symm | cases h1
    rw [hn] at hdg kk
    split at hg
    · rename_i hc
      have ha := hF4 a hc.1 (by omega) (by omega)
      obtain ⟨k, hk⟩ := List.getElem?_of_mem ha
      have hw := ix_ws_at (G := G) (ad := ad) (h := h) hk
      rw [ix_cell4 hc.2.1] at hw
      cases hg
      exact va_lald hx hb hK hP k 3 hw rfl hc.2.2 hdg (kk _ _ hP hS ⟨rfl, rfl⟩)
    · cases hg
  · rename_i v j a r he
    rw [he] at hdg hlen
    have hn : ix_len o = 1 := by rcases hlen with h1 | h1 <;> first | exact h1.symm | cases h1
    rw [hn] at hdg kk
    split at hg
    · rename_i hc
      have ha := hF4 a hc.1 (by omega) (by omega)
      obtain ⟨k, hk⟩ := List.getElem?_of_mem ha
      have hw := ix_ws_at (G := G) (ad := ad) (h := h) hk
      rw [ix_cell4 hc.2.1] at hw
      cases hg
      refine va_last hx hb hK hP (ix_va_D hF h) hS k 3 hw rfl hc.2.2.1 hdg (fun H1 locs1 q1 _ q3 => ?_)
      rw [ix_ws_set (h' := ix_up h a j.toNatClampNeg v.toInt32) hF1 hk (by
        rw [ix_cell4 hc.2.1, ix_up_eq]
        congr 5
        funext i
        unfold upd vp_updL
        split
        · exact hc.2.2.2
        · rfl) (fun b hb => ix_cell_of (ix_up_ne hb))] at q1
      exact kk H1 locs1 q1 q3 (hup a _ _ (by omega) (by omega))
    · cases hg
  · rename_i a r he
    rw [he] at hdg hlen
    have hn : ix_len o = 1 := by rcases hlen with h1 | h1 <;> first | exact h1.symm | cases h1
    rw [hn] at hdg kk
    split at hg
    · rename_i hc
      have ha := hF4 a hc.1 (by omega) (by omega)
      obtain ⟨k, hk⟩ := List.getElem?_of_mem ha
      have hw := ix_ws_at (G := G) (ad := ad) (h := h) hk
      cases hg
      rcases hc.2 with h1 | h1 | h1
      · rw [ix_cell1 h1] at hw
        exact va_alen hx hb hK hP k 1 hw rfl rfl hdg (kk _ _ hP hS ⟨rfl, rfl⟩)
      · rw [ix_cell2 h1] at hw
        exact va_alen hx hb hK hP k 0 hw rfl rfl hdg (kk _ _ hP hS ⟨rfl, rfl⟩)
      · rw [ix_cell3 h1] at hw
        exact va_alen hx hb hK hP k 2 hw rfl rfl hdg (kk _ _ hP hS ⟨rfl, rfl⟩)
    · split at hg
      · rename_i hc
        have ea := ix_k7 hc
        subst ea
        cases hg
        obtain ⟨scr, g1, g2, g3, g4, g5⟩ := hX.1
        have hH : H[ad 3000]? = some scr := by rw [hS.2.1 _ (Nat.lt_of_lt_of_le hX.2.2 hlo) (Nat.not_le.mpr hX.2.2)]; exact g1
        exact W.alen hx hb (n := h 3001 0) hH g2 (by rw [g4]; exact hX.2.1) rfl rfl hdg (kk _ _ hP hS ⟨rfl, rfl⟩)
      · cases hg
  · rename_i idx n dp a sp b r he
    rw [he] at hdg hlen hres
    have hn : ix_len o = 3 := by rcases hlen with h1 | h1 <;> first | exact h1.symm | cases h1
    rw [hn] at hdg kk
    dsimp only at hres
    split at hg
    · rename_i hc
      obtain ⟨c0, c1, c2, c3, c4, c5, c6, c7, c8, c9, c10⟩ := hc
      have ha := hF4 a c1 (by omega) (by omega)
      have hbm := hF4 b c2 (by omega) (by omega)
      obtain ⟨k, hk⟩ := List.getElem?_of_mem ha
      obtain ⟨k2, hk2⟩ := List.getElem?_of_mem hbm
      have hw := ix_ws_at (G := G) (ad := ad) (h := h) hk
      have hw2 := ix_ws_at (G := G) (ad := ad) (h := h) hk2
      rw [ix_cell1 c3] at hw
      rw [ix_cell1 c4] at hw2
      simp only [Bool.and_eq_true, decide_eq_true_eq] at hres
      have hx0 : ix_x o = 0 ∧ ix_z o = 5 := by
        have := ix_ac7 _ hres.2 c0
        exact this
      rw [c0, hx0.1, hx0.2] at hres
      obtain ⟨w1, w2, w3, w4⟩ := hac idx hres.2
      cases hg
      refine va_copyi hx hb hml hown w1 w2 w3 w4 hK hP (ix_va_D hF h) hS k2 k 1 1 hw2 hw rfl rfl rfl c5 c6 c7 c8 c9 (fun _ _ => rfl) (by omega) ?_ hdg (fun H1 locs1 q1 _ q3 => ?_)
      · have e1 : (List.map (fun v => Value.category v) (List.map (ix_cv ad) r)) = r.map (fun v => v.category) := by
          rw [List.map_map]
          exact List.map_congr_left (fun v _ => ix_cv_cat ad v)
        rw [e1]
        have e2 : nativeFrameWords "java/lang/System" "arraycopy" 5 = 7 := by decide
        rw [e2]
        omega
      · rw [ix_ws_set (h' := ix_cpy h b sp.toNatClampNeg a dp.toNatClampNeg n.toNatClampNeg) hF1 hk (by
          rw [ix_cell1 c3]
          unfold ix_cpy ix_row
          rw [if_pos rfl]) (fun x hxa => ix_cell_of (by unfold ix_cpy ix_row; rw [if_neg hxa]))] at q1
        refine kk H1 locs1 q1 q3 ⟨?_, ?_⟩
        · exact if_neg (fun z : 3000 = a => by rw [← z, ix_k3000] at c3; cases c3)
        · exact if_neg (fun z : 3001 = a => by rw [← z, ix_k3001] at c3; cases c3)
    · cases hg
  · cases hg
end IXH2
