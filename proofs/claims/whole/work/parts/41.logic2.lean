section PX
variable {C : px_C} {D : Nat} {ops : List ix_Op} {hs : List ix_Hd} {i j : Nat} {ls st ls' st' : List Value} {h h' : ix_H} {k k' : Nat} {Q : ix_R → Prop} {o : ix_Op}
variable {pc len x y z : Nat} {tl : List Nat} {v : Int32} {a b w : Int32} {n m p q t e c : Nat}
theorem px_in {jx : Int32} (hj : jx = nI m) (hm : m < n) (hb : n < 2147483648) : (¬ (jx < 0 ∨ n ≤ jx.toNatClampNeg)) ∧ jx.toNatClampNeg = m := by
  subst hj
  exact ⟨nI_in hm hb, nI_clamp (by omega)⟩
theorem w_gr (ho : ops[i]? = some (pc, len, .getfield c, x, y, z, tl, v)) (hj : i + 1 = j) (hs' : ix_sh n = (5, x, e)) {rl : List (Option Nat)} (hrl : ix_rf n = rl) (hr : rl[y]? = some (some t)) (H : px_R C D ops hs j ls (.ref t :: st) h k Q) : px_R C D ops hs i ls (.ref n :: st) h k Q :=
  px_wh ho hj rfl rfl (px_g3n (fun _ _ => rfl) rfl) rfl (by
    unfold ix_gh
    simp only [ix_ins, ix_x, ix_y, ix_k, ix_n, hs']
    rw [if_pos ⟨rfl, trivial, trivial⟩, hrl, hr]
    rfl) H
theorem w_gi (ho : ops[i]? = some (pc, len, .getfield c, x, y, z, tl, v)) (hj : i + 1 = j) (hs' : ix_sh n = (5, x, e)) {rl : List (Option Nat)} (hrl : ix_rf n = rl) (hr : rl[y]? = some none) (hv : h n y = w) (H : px_R C D ops hs j ls (.int w :: st) h k Q) : px_R C D ops hs i ls (.ref n :: st) h k Q :=
  px_wh ho hj rfl rfl (px_g3n (fun _ _ => rfl) rfl) rfl (by
    unfold ix_gh
    simp only [ix_ins, ix_x, ix_y, ix_k, ix_n, hs']
    rw [if_pos ⟨rfl, trivial, trivial⟩, hrl, hr]
    subst hv
    rfl) H
theorem w_pf (ho : ops[i]? = some (pc, len, .putfield c, x, y, z, tl, v)) (hj : i + 1 = j) (hs' : ix_sh n = (5, x, e)) {rl : List (Option Nat)} (hrl : ix_rf n = rl) (hr : rl[y]? = some none) (H : px_R C D ops hs j ls st (ix_up h n y a) k Q) : px_R C D ops hs i ls (.int a :: .ref n :: st) h k Q :=
  px_wh ho hj rfl rfl (px_g3n (fun _ _ => rfl) rfl) rfl (by
    unfold ix_gh
    simp only [ix_ins, ix_x, ix_y, ix_k, ix_n, hs']
    rw [if_pos ⟨rfl, trivial, trivial, by rw [hrl]; exact hr⟩]) H
theorem w_ial (ho : ops[i]? = some (pc, len, .iaload, x, y, z, tl, v)) (hj : i + 1 = j) (hs' : ix_sh n = (1, p, e)) (hx : a = nI m) (hm : m < p) (hb : Nat.blt p 2147483648 = true) (hv : h n m = w) (H : px_R C D ops hs j ls (.int w :: st) h k Q) : px_R C D ops hs i ls (.int a :: .ref n :: st) h k Q :=
  px_wh ho hj rfl rfl (px_g3n (fun _ _ => rfl) rfl) rfl (by
    obtain ⟨h1, h2⟩ := px_in hx hm (Nat.blt_eq.mp hb)
    unfold ix_gh
    simp only [ix_ins, ix_k, ix_n, hs']
    rw [if_pos ⟨rfl, trivial, h1⟩, h2]
    subst hv
    rfl) H
theorem w_ias (ho : ops[i]? = some (pc, len, .iastore, x, y, z, tl, v)) (hj : i + 1 = j) (hs' : ix_sh n = (1, p, e)) (hx : a = nI m) (hm : m < p) (hb : Nat.blt p 2147483648 = true) (H : px_R C D ops hs j ls st (ix_up h n m b) k Q) : px_R C D ops hs i ls (.int b :: .int a :: .ref n :: st) h k Q :=
  px_wh ho hj rfl rfl (px_g3n (fun _ _ => rfl) rfl) rfl (by
    obtain ⟨h1, h2⟩ := px_in hx hm (Nat.blt_eq.mp hb)
    unfold ix_gh
    simp only [ix_ins, ix_k, ix_n, hs']
    rw [if_pos ⟨rfl, trivial, h1⟩, h2]) H
theorem w_bal (ho : ops[i]? = some (pc, len, .baload, x, y, z, tl, v)) (hj : i + 1 = j) (hs' : ix_sh n = (2, p, e)) (hx : a = nI m) (hm : m < p) (hb : Nat.blt p 2147483648 = true) (hv : h n m = w) (H : px_R C D ops hs j ls (.int w :: st) h k Q) : px_R C D ops hs i ls (.int a :: .ref n :: st) h k Q :=
  px_wh ho hj rfl rfl (px_g3n (fun _ _ => rfl) rfl) rfl (by
    obtain ⟨h1, h2⟩ := px_in hx hm (Nat.blt_eq.mp hb)
    unfold ix_gh
    simp only [ix_ins, ix_k, ix_n, hs']
    rw [if_pos ⟨rfl, trivial, h1⟩, h2]
    subst hv
    rfl) H
theorem w_bas (ho : ops[i]? = some (pc, len, .bastore, x, y, z, tl, v)) (hj : i + 1 = j) (hs' : ix_sh n = (2, p, e)) (hx : a = nI m) (hm : m < p) (hb : Nat.blt p 2147483648 = true) (H : px_R C D ops hs j ls st (ix_up h n m (vp_nar .byte b)) k Q) : px_R C D ops hs i ls (.int b :: .int a :: .ref n :: st) h k Q :=
  px_wh ho hj rfl rfl (px_g3n (fun _ _ => rfl) rfl) rfl (by
    obtain ⟨h1, h2⟩ := px_in hx hm (Nat.blt_eq.mp hb)
    unfold ix_gh
    simp only [ix_ins, ix_k, ix_n, hs']
    rw [if_pos ⟨rfl, trivial, h1⟩, h2]) H
theorem w_aal (ho : ops[i]? = some (pc, len, .aaload, x, y, z, tl, v)) (hj : i + 1 = j) (hs' : ix_sh n = (3, p, e)) (hx : a = nI m) (hm : m < p) (hb : Nat.blt p 2147483648 = true) (H : px_R C D ops hs j ls (.ref (e + m) :: st) h k Q) : px_R C D ops hs i ls (.int a :: .ref n :: st) h k Q :=
  px_wh ho hj rfl rfl (px_g3n (fun _ _ => rfl) rfl) rfl (by
    obtain ⟨h1, h2⟩ := px_in hx hm (Nat.blt_eq.mp hb)
    unfold ix_gh
    simp only [ix_ins, ix_k, ix_n, ix_b, hs']
    rw [if_pos ⟨rfl, trivial, h1⟩, h2]) H
theorem w_alen (ho : ops[i]? = some (pc, len, .arraylength, x, y, z, tl, v)) (hj : i + 1 = j) (hs' : ix_sh n = (q, p, e)) (hq : q = 1 ∨ q = 2 ∨ q = 3) (H : px_R C D ops hs j ls (.int (nI p) :: st) h k Q) : px_R C D ops hs i ls (.ref n :: st) h k Q :=
  px_wh ho hj rfl rfl (px_g3n (fun _ _ => rfl) rfl) rfl (by
    unfold ix_gh
    simp only [ix_ins, ix_k, ix_n, hs']
    rw [if_pos ⟨rfl, hq⟩]
    rfl) H
theorem w_alenS (ho : ops[i]? = some (pc, len, .arraylength, x, y, z, tl, v)) (hj : i + 1 = j) (hs' : ix_sh n = (7, p, e)) (H : px_R C D ops hs j ls (.int (h 3001 0) :: st) h k Q) : px_R C D ops hs i ls (.ref n :: st) h k Q :=
  px_wh ho hj rfl rfl (px_g3n (fun _ _ => rfl) rfl) rfl (by
    unfold ix_gh
    simp only [ix_ins, ix_k, ix_n, hs']
    rw [if_neg (by rintro ⟨-, h1 | h1 | h1⟩ <;> cases h1)]
    rfl) H
theorem w_ialS (ho : ops[i]? = some (pc, len, .iaload, x, y, z, tl, v)) (hj : i + 1 = j) (hs' : ix_sh n = (7, p, e)) (hx : a = nI m) (hm : m < q) (hb : q < 2147483648) (hq : h 3001 0 = nI q) (H : px_R C D ops hs j ls (.int (h n m) :: st) h k Q) : px_R C D ops hs i ls (.int a :: .ref n :: st) h k Q :=
  px_wh ho hj rfl rfl (px_g3n (fun _ _ => rfl) rfl) rfl (by
    obtain ⟨h1, h2⟩ := px_in hx hm hb
    unfold ix_gh
    simp only [ix_ins, ix_k, ix_n, hs', hq]
    rw [nI_clamp hb, if_neg (by rintro ⟨-, h1, -⟩; cases h1), if_pos ⟨trivial, h1⟩, h2]) H
theorem w_lal (ho : ops[i]? = some (pc, len, .laload, x, y, z, tl, v)) (hj : i + 1 = j) (hs' : ix_sh n = (4, p, e)) (hx : a = nI m) (hm : m < p) (hb : Nat.blt p 2147483648 = true) (H : px_R C D ops hs j ls (.long (h n m).toInt64 :: st) h k Q) : px_R C D ops hs i ls (.int a :: .ref n :: st) h k Q :=
  px_wh ho hj rfl rfl (px_g3n (fun _ _ => rfl) rfl) rfl (by
    obtain ⟨h1, h2⟩ := px_in hx hm (Nat.blt_eq.mp hb)
    unfold ix_gh
    simp only [ix_ins, ix_k, ix_n, hs']
    rw [if_pos ⟨rfl, trivial, h1⟩, h2]) H
theorem px_l32 (b : Int32) : b.toInt64.toInt32 = b := Int32.toInt32_toInt64 b
theorem w_las (ho : ops[i]? = some (pc, len, .lastore, x, y, z, tl, v)) (hj : i + 1 = j) (hs' : ix_sh n = (4, p, e)) (hx : a = nI m) (hm : m < p) (hb : Nat.blt p 2147483648 = true) (H : px_R C D ops hs j ls st (ix_up h n m b) k Q) : px_R C D ops hs i ls (.long b.toInt64 :: .int a :: .ref n :: st) h k Q :=
  px_wh ho hj rfl rfl (px_g3n (fun _ _ => rfl) rfl) rfl (by
    obtain ⟨h1, h2⟩ := px_in hx hm (Nat.blt_eq.mp hb)
    unfold ix_gh
    simp only [ix_ins, ix_k, ix_n, hs', px_l32]
    rw [if_pos ⟨rfl, trivial, h1, trivial⟩, h2]) H
theorem w_ac {A B p' e' : Nat} {s d l : Int32} {S' d' l' : Nat} (ho : ops[i]? = some (pc, len, .invokestatic c, x, 7, z, tl, v)) (hj : i + 1 = j) (hA : ix_sh A = (1, p, e)) (hB : ix_sh B = (1, p', e')) (e1 : s = nI S') (e2 : d = nI d') (e3 : l = nI l') (b1 : Nat.blt p 2147483648 = true) (b2 : Nat.blt p' 2147483648 = true) (l1 : S' + l' ≤ p') (l2 : d' + l' ≤ p) (hc : Nat.ble (st.map fun v => v.category).sum 8 = true) (H : px_R C D ops hs j ls st (ix_cpy h B S' A d' l') k Q) : px_R C D ops hs i ls (.int l :: .int d :: .ref A :: .int s :: .ref B :: st) h k Q := by
  have b1 := Nat.blt_eq.mp b1
  have b2 := Nat.blt_eq.mp b2
  subst e1 e2 e3
  refine px_wh ho hj rfl rfl ?_ rfl ?_ H
  · rw [px_g3s]
    unfold ix_g3b
    simp only [ix_ins, ix_y]
    split
    · rfl
    · rfl
  · unfold ix_gh
    simp only [ix_ins, ix_y, ix_k, ix_n, hA, hB]
    rw [nI_clamp (n := S') (by omega), nI_clamp (n := d') (by omega), nI_clamp (n := l') (by omega)]
    rw [if_pos ⟨trivial, rfl, rfl, trivial, trivial, nI_pos (by omega), nI_pos (by omega), nI_pos (by omega), l1, l2, Nat.le_of_ble_eq_true hc⟩]
-- calls
theorem px_call {ins : Instr} {vs : List Value} {Q' : ix_R → Prop} (ho : ops[i]? = some (pc, len, ins, x, y, z, tl, v)) (hj : i + 1 = j) (h1 : ix_g1 (pc, len, ins, x, y, z, tl, v) ls st = none) (h2 : ix_g2 (pc, len, ins, x, y, z, tl, v) ls st = none) (h3 : ix_g3 (pc, len, ins, x, y, z, tl, v) ls st = none) (h4 : ix_gb (pc, len, ins, x, y, z, tl, v) i st = none) (h5 : ix_gh ix_D (pc, len, ins, x, y, z, tl, v) st h = none) (hi : ix_iscall ins = true) (hy : y < 4) (hz : z ≤ st.length) (hc : ((st.drop z).map fun v => v.category).sum ≤ 8) (hr : ix_rcv ix_D (pc, len, ins, x, y, z, tl, v) (st.take z).reverse = true)
    (hv : (st.take z).reverse = vs) (hd : st.drop z = st') (T : px_T C D x vs h Q')
    (H : ∀ u h' k', Q' (.inl u, h', k') → px_R C D ops hs j ls (u.toList ++ st') h' (k + k') Q)
    (HX : ∀ u h' k', Q' (.inr u, h', k') → y = 0 ∧ hs = [] ∧ Q (.inr u, h', k + k') ∨ y = 0 ∧ ∃ e, ix_find hs pc u = some e ∧ e.2.2.2.2 < ls.length ∧ px_R C D ops hs e.2.2.2.1 (ls.set e.2.2.2.2 .null) [] h' (k + k') Q) : px_R C D ops hs i ls st h k Q := by
  subst hj hv hd
  have key : ∀ d f g, ix_run ix_D (C d f) ops hs (g + 1) i ls st h k = (match C d f x (st.take z).reverse h with
                    | none => none
                    | some (.inl v, h', k') => ix_run ix_D (C d f) ops hs g (i + 1) ls (v.toList ++ st.drop z) h' (k + k')
                    | some (.inr w, h', k') => if y ≠ 0 then none else match ix_find hs pc w with
                      | none => if hs.isEmpty = true then some (.inr w, h', k + k') else none
                      | some e => if e.2.2.2.2 < ls.length then ix_run ix_D (C d f) ops hs g e.2.2.2.1 (ls.set e.2.2.2.2 .null) [] h' (k + k') else none) := by
    intro d f g
    rw [ix_run, ho]
    simp only [h1, h2, h3, h4, h5]
    rw [if_pos hi, if_pos ⟨hy, hz, hc, hr⟩]
    rfl
  obtain ⟨⟨u, h', k'⟩, hq, F, hF⟩ := T
  cases u with
  | inl u =>
    obtain ⟨r, hQ, F', hF'⟩ := H u h' k' hq
    refine ⟨r, hQ, F + F' + 1, fun d f g q1 q2 q3 => ?_⟩
    obtain ⟨g', rfl⟩ : ∃ g', g = g' + 1 := ⟨g - 1, by omega⟩
    rw [key, hF d f q1 (by omega)]
    exact hF' d f g' q1 (by omega) (by omega)
  | inr u =>
    rcases HX u h' k' hq with ⟨rfl, rfl, h9⟩ | ⟨rfl, e9, he, hl, r, hQ, F', hF'⟩
    · refine ⟨_, h9, F + 1, fun d f g q1 q2 q3 => ?_⟩
      obtain ⟨g', rfl⟩ : ∃ g', g = g' + 1 := ⟨g - 1, by omega⟩
      rw [key, hF d f q1 (by omega)]
      rfl
    · refine ⟨r, hQ, F + F' + 1, fun d f g q1 q2 q3 => ?_⟩
      obtain ⟨g', rfl⟩ : ∃ g', g = g' + 1 := ⟨g - 1, by omega⟩
      rw [key, hF d f q1 (by omega)]
      show (if (0 : Nat) ≠ 0 then none else match ix_find hs pc u with
                      | none => if hs.isEmpty = true then some (.inr u, h', k + k') else none
                      | some e => if e.2.2.2.2 < ls.length then ix_run ix_D (C d f) ops hs g' e.2.2.2.1 (ls.set e.2.2.2.2 .null) [] h' (k + k') else none) = _
      rw [if_neg (by simp), he]
      show (if e9.2.2.2.2 < ls.length then _ else _) = _
      rw [if_pos hl]
      exact hF' d f g' q1 (by omega) (by omega)
theorem px_gsn {st : List Value} (hy : y < 4) : ix_g3 (pc, len, .invokestatic c, x, y, z, tl, v) ls st = none := by
  rw [px_g3s]
  unfold ix_g3b
  simp only [ix_ins, ix_y]
  split
  · rw [if_neg (by omega), if_neg (by omega), if_neg (by omega)]
  · rfl
theorem px_gsh {st : List Value} (hy : y < 4) : ix_gh ix_D (pc, len, .invokestatic c, x, y, z, tl, v) st h = none := by
  unfold ix_gh
  split
  all_goals first
    | rfl
    | (rw [if_neg]; rintro ⟨e9, -⟩; have e9 : y = 7 := e9; omega)
    | (rename_i heq; exact absurd heq (by intro e9; cases e9))
theorem w_cvQ {vs : List Value} {Q' : ix_R → Prop} (ho : ops[i]? = some (pc, len, .invokevirtual c, x, y, z, tl, v)) (hj : i + 1 = j) (hv : (st.take z).reverse = .ref n :: vs) (hd : st.drop z = st') (hs' : ix_sh n = (5, p, e)) (ht : tl = [p]) (hyz : (Nat.blt y 4 && Nat.ble z st.length && Nat.ble (st'.map fun v => v.category).sum 8) = true) (T : px_T C D x (.ref n :: vs) h Q')
    (H : ∀ u h' k', Q' (.inl u, h', k') → px_R C D ops hs j ls (u.toList ++ st') h' (k + k') Q)
    (HX : ∀ u h' k', Q' (.inr u, h', k') → y = 0 ∧ hs = [] ∧ Q (.inr u, h', k + k') ∨ y = 0 ∧ ∃ e, ix_find hs pc u = some e ∧ e.2.2.2.2 < ls.length ∧ px_R C D ops hs e.2.2.2.1 (ls.set e.2.2.2.2 .null) [] h' (k + k') Q) : px_R C D ops hs i ls st h k Q := by
  simp only [Bool.and_eq_true] at hyz
  refine px_call ho hj rfl (by unfold ix_g2; rfl) (px_g3n (fun _ _ => rfl) rfl) (by unfold ix_gb; rfl) (by unfold ix_gh; rfl) rfl (Nat.blt_eq.mp hyz.1.1) (Nat.le_of_ble_eq_true hyz.1.2) (by rw [hd]; exact Nat.le_of_ble_eq_true hyz.2) ?_ hv hd T H HX
  rw [hv]
  unfold ix_rcv
  simp only [ix_tl, ix_k, ix_n, hs', ht, ix_D]
  simp
theorem w_csQ {vs : List Value} {Q' : ix_R → Prop} (ho : ops[i]? = some (pc, len, .invokestatic c, x, y, z, tl, v)) (hj : i + 1 = j) (hv : (st.take z).reverse = vs) (hd : st.drop z = st') (hyz : (Nat.blt y 4 && Nat.ble z st.length && Nat.ble (st'.map fun v => v.category).sum 8) = true) (T : px_T C D x vs h Q')
    (H : ∀ u h' k', Q' (.inl u, h', k') → px_R C D ops hs j ls (u.toList ++ st') h' (k + k') Q)
    (HX : ∀ u h' k', Q' (.inr u, h', k') → y = 0 ∧ hs = [] ∧ Q (.inr u, h', k + k') ∨ y = 0 ∧ ∃ e, ix_find hs pc u = some e ∧ e.2.2.2.2 < ls.length ∧ px_R C D ops hs e.2.2.2.1 (ls.set e.2.2.2.2 .null) [] h' (k + k') Q) : px_R C D ops hs i ls st h k Q := by
  simp only [Bool.and_eq_true] at hyz
  have hy := Nat.blt_eq.mp hyz.1.1
  refine px_call ho hj rfl (by unfold ix_g2; rfl) (px_gsn hy) (by unfold ix_gb; rfl) (px_gsh hy) rfl hy (Nat.le_of_ble_eq_true hyz.1.2) (by rw [hd]; exact Nat.le_of_ble_eq_true hyz.2) ?_ hv hd T H HX
  unfold ix_rcv
  split <;> rfl
theorem w_csS {a : Nat} {vs : List Value} {u : Option Value} (ho : ops[i]? = some (pc, len, .invokevirtual c, x, y, z, tl, v)) (hj : i + 1 = j) (hv : (st.take z).reverse = .ref n :: vs) (hd : st.drop z = st') (hs' : ix_sh n = (6, p, e)) (ht : tl = [99]) (hyz : (Nat.blt y 4 && Nat.ble z st.length && Nat.ble (st'.map fun v => v.category).sum 8) = true) (T : px_T C D x (.ref n :: vs) h (fun r => r = (.inl u, h, 0)))
    (H : px_R C D ops hs j ls (u.toList ++ st') h k Q) : px_R C D ops hs i ls st h k Q := by
  simp only [Bool.and_eq_true] at hyz
  refine px_call ho hj rfl (by unfold ix_g2; rfl) (px_g3n (fun _ _ => rfl) rfl) (by unfold ix_gb; rfl) (by unfold ix_gh; rfl) rfl (Nat.blt_eq.mp hyz.1.1) (Nat.le_of_ble_eq_true hyz.1.2) (by rw [hd]; exact Nat.le_of_ble_eq_true hyz.2) ?_ hv hd T (fun u' h' k' hq => by cases hq; exact H) (fun u' h' k' hq => by cases hq)
  rw [hv]
  unfold ix_rcv
  simp only [ix_tl, ix_k, hs', ht]
  simp
-- the plain calls: the callee returns; nothing is thrown
theorem px_lift {D D' mi : Nat} {vs : List Value} {h : ix_H} {Q : ix_R → Prop} (hT : px_T px_E D mi vs h Q) (hD : Nat.ble D D' = true) : px_T px_E D' mi vs h Q := by
  have hD := Nat.le_of_ble_eq_true hD
  obtain ⟨r, hq, F, hF⟩ := hT
  exact ⟨r, hq, F, fun d f h1 h2 => hF d f (by omega) h2⟩
theorem w_cv {D' : Nat} {vs : List Value} {u : Option Value} (ho : ops[i]? = some (pc, len, .invokevirtual c, x, y, z, tl, v)) (hj : i + 1 = j) (hv : (st.take z).reverse = .ref n :: vs) (hd : st.drop z = st') (hs' : ix_sh n = (5, p, e)) (ht : tl = [p]) (hyz : (Nat.blt y 4 && Nat.ble z st.length && Nat.ble (st'.map fun v => v.category).sum 8) = true) (T : px_V D' x (.ref n :: vs) h u h') (hD : Nat.ble D' D = true)
    (H : px_R px_E D ops hs j ls (u.toList ++ st') h' k Q) : px_R px_E D ops hs i ls st h k Q :=
  w_cvQ ho hj hv hd hs' ht hyz (px_lift T hD) (fun u' h' k' hq => by cases hq; exact H) (fun u' h' k' hq => by cases hq)
theorem w_cs {D' : Nat} {vs : List Value} {u : Option Value} (ho : ops[i]? = some (pc, len, .invokestatic c, x, y, z, tl, v)) (hj : i + 1 = j) (hv : (st.take z).reverse = vs) (hd : st.drop z = st') (hyz : (Nat.blt y 4 && Nat.ble z st.length && Nat.ble (st'.map fun v => v.category).sum 8) = true) (T : px_V D' x vs h u h') (hD : Nat.ble D' D = true)
    (H : px_R px_E D ops hs j ls (u.toList ++ st') h' k Q) : px_R px_E D ops hs i ls st h k Q :=
  w_csQ ho hj hv hd hyz (px_lift T hD) (fun u' h' k' hq => by cases hq; exact H) (fun u' h' k' hq => by cases hq)
theorem w_cvP {D' : Nat} {vs : List Value} {P : Option Value → ix_H → Prop} (ho : ops[i]? = some (pc, len, .invokevirtual c, x, y, z, tl, v)) (hj : i + 1 = j) (hv : (st.take z).reverse = .ref n :: vs) (hd : st.drop z = st') (hs' : ix_sh n = (5, p, e)) (ht : tl = [p]) (hyz : (Nat.blt y 4 && Nat.ble z st.length && Nat.ble (st'.map fun v => v.category).sum 8) = true) (T : px_P D' x (.ref n :: vs) h P) (hD : Nat.ble D' D = true)
    (H : ∀ u h', P u h' → px_R px_E D ops hs j ls (u.toList ++ st') h' k Q) : px_R px_E D ops hs i ls st h k Q :=
  w_cvQ ho hj hv hd hs' ht hyz (px_lift T hD) (fun u' h' k' hq => by obtain ⟨v9, h9, e9, hP⟩ := hq; cases e9; exact H _ _ hP) (fun u' h' k' hq => by obtain ⟨v9, h9, e9, hP⟩ := hq; cases e9)
theorem w_csP {D' : Nat} {vs : List Value} {P : Option Value → ix_H → Prop} (ho : ops[i]? = some (pc, len, .invokestatic c, x, y, z, tl, v)) (hj : i + 1 = j) (hv : (st.take z).reverse = vs) (hd : st.drop z = st') (hyz : (Nat.blt y 4 && Nat.ble z st.length && Nat.ble (st'.map fun v => v.category).sum 8) = true) (T : px_P D' x vs h P) (hD : Nat.ble D' D = true)
    (H : ∀ u h', P u h' → px_R px_E D ops hs j ls (u.toList ++ st') h' k Q) : px_R px_E D ops hs i ls st h k Q :=
  w_csQ ho hj hv hd hyz (px_lift T hD) (fun u' h' k' hq => by obtain ⟨v9, h9, e9, hP⟩ := hq; cases e9; exact H _ _ hP) (fun u' h' k' hq => by obtain ⟨v9, h9, e9, hP⟩ := hq; cases e9)
-- ends
theorem px_end {r : ix_R} (e : ∀ d f g, ix_run ix_D (C d f) ops hs (g + 1) i ls st h k = some r) (hQ : Q r) : px_R C D ops hs i ls st h k Q := by
  refine ⟨r, hQ, 1, fun d f g _ _ h3 => ?_⟩
  obtain ⟨g', rfl⟩ : ∃ g', g = g' + 1 := ⟨g - 1, by omega⟩
  exact e d f g'
theorem w_ir (ho : ops[i]? = some (pc, len, .ireturn, 0, y, z, tl, v)) (hQ : Q (.inl (some (.int a)), h, k)) : px_R C D ops hs i ls [.int a] h k Q :=
  px_end (fun d f g => by
    rw [ix_run, ho]
    simp only [show ix_g1 (pc, len, .ireturn, 0, y, z, tl, v) ls [.int a] = none from rfl, show ix_g2 (pc, len, .ireturn, 0, y, z, tl, v) ls [.int a] = none from rfl, show ix_g3 (pc, len, .ireturn, 0, y, z, tl, v) ls [.int a] = none from rfl, show ix_gb (pc, len, .ireturn, 0, y, z, tl, v) i [.int a] = none from rfl, show ix_gh ix_D (pc, len, .ireturn, 0, y, z, tl, v) [.int a] h = none from rfl]
    rfl) hQ
theorem w_irB (ho : ops[i]? = some (pc, len, .ireturn, x, y, z, tl, v)) (ha : a = nI 0 ∨ a = nI 1) (hQ : Q (.inl (some (.int a)), h, k)) : px_R C D ops hs i ls [.int a] h k Q :=
  px_end (fun d f g => by
    rw [ix_run, ho]
    simp only [show ix_g1 (pc, len, .ireturn, x, y, z, tl, v) ls [.int a] = none from rfl, show ix_g2 (pc, len, .ireturn, x, y, z, tl, v) ls [.int a] = none from rfl, show ix_g3 (pc, len, .ireturn, x, y, z, tl, v) ls [.int a] = none from rfl, show ix_gb (pc, len, .ireturn, x, y, z, tl, v) i [.int a] = none from rfl, show ix_gh ix_D (pc, len, .ireturn, x, y, z, tl, v) [.int a] h = none from rfl]
    show (if x = 0 ∨ a = 0 ∨ a = 1 then some ((Sum.inl (some (Value.int a)) : Option Value ⊕ Nat), h, k) else none) = _
    rw [if_pos (Or.inr (show a = 0 ∨ a = 1 from ha))]) hQ
theorem w_rt (ho : ops[i]? = some (pc, len, .return_, x, y, z, tl, v)) (hQ : Q (.inl none, h, k)) : px_R C D ops hs i ls [] h k Q :=
  px_end (fun d f g => by
    rw [ix_run, ho]
    simp only [show ix_g1 (pc, len, .return_, x, y, z, tl, v) ls [] = none from rfl, show ix_g2 (pc, len, .return_, x, y, z, tl, v) ls [] = none from rfl, show ix_g3 (pc, len, .return_, x, y, z, tl, v) ls [] = none from rfl, show ix_gb (pc, len, .return_, x, y, z, tl, v) i [] = none from rfl, show ix_gh ix_D (pc, len, .return_, x, y, z, tl, v) [] h = none from rfl]
    rfl) hQ
theorem w_thr (ho : ops[i]? = some (pc, len, .new c, x, 1, z, tl, v)) (hQ : Q (.inr x, h, k + 1)) : px_R C D ops hs i ls [] h k Q :=
  px_end (fun d f g => by
    rw [ix_run, ho]
    simp only [show ix_g1 (pc, len, .new c, x, 1, z, tl, v) ls [] = none from rfl, show ix_g2 (pc, len, .new c, x, 1, z, tl, v) ls [] = none from rfl, show ix_g3 (pc, len, .new c, x, 1, z, tl, v) ls [] = none from rfl, show ix_gb (pc, len, .new c, x, 1, z, tl, v) i [] = none from rfl, show ix_gh ix_D (pc, len, .new c, x, 1, z, tl, v) [] h = none from rfl]
    rfl) hQ
theorem px_M {M : ix_M} {mi : Nat} {vs : List Value} (ht : ix_tabP[mi]? = some M) (hl : vs.length = ix_ma M) (hc : vs.all (fun v => v.category == 1) = true) (hh : ix_mh M = []) (ho : ix_mo M = ops) (hls : vs ++ List.replicate (ix_ml M - ix_ma M) .null = ls) (H : px_R px_E D ops [] 0 ls [] h 0 Q) : px_T px_E (D + 1) mi vs h Q := by
  subst ho hls
  obtain ⟨r, hq, F, hF⟩ := H
  refine ⟨r, hq, F, fun d f h1 h2 => ?_⟩
  obtain ⟨d', rfl⟩ : ∃ d', d = d' + 1 := ⟨d - 1, by omega⟩
  show ix_exec ix_tabP ix_pr ix_D (d' + 1) f mi vs h = some r
  rw [ix_exec, ht]
  show (if vs.length = ix_ma M ∧ vs.all (fun v => v.category == 1) = true then _ else _) = _
  rw [if_pos ⟨hl, hc⟩, hh]
  exact hF d' f f (by omega) h2 h2
theorem px_pr {mi : Nat} {vs : List Value} {r : ix_R} (ht : ix_tabP[mi]? = none) (hp : ix_pr mi vs h = some r) (hQ : Q r) : px_T px_E 1 mi vs h Q := by
  refine ⟨r, hQ, 0, fun d f h1 h2 => ?_⟩
  obtain ⟨d', rfl⟩ : ∃ d', d = d' + 1 := ⟨d - 1, by omega⟩
  show ix_exec ix_tabP ix_pr ix_D (d' + 1) f mi vs h = some r
  rw [ix_exec, ht]
  exact hp
end PX
-- folds
def px_fold {α : Type} (f : Nat → α → α) : Nat → α → α
  | 0, s => s
  | n + 1, s => f n (px_fold f n s)
theorem px_for {C : px_C} {D : Nat} {ops : List ix_Op} {hs : List ix_Hd} {L k : Nat} {Q : ix_R → Prop} {α : Type} (ls : Nat → α → List Value) (hp : α → ix_H) (f : Nat → α → α) (N : Nat) (s0 : α) (I : Nat → α → Prop) (h0 : I 0 s0) (hI : ∀ c s, c < N → I c s → I (c + 1) (f c s))
    (body : ∀ c s, c < N → I c s → px_R C D ops hs L (ls (c + 1) (f c s)) [] (hp (f c s)) k Q → px_R C D ops hs L (ls c s) [] (hp s) k Q)
    (ex : I N (px_fold f N s0) → px_R C D ops hs L (ls N (px_fold f N s0)) [] (hp (px_fold f N s0)) k Q) : px_R C D ops hs L (ls 0 s0) [] (hp s0) k Q := by
  have inv : ∀ c, c ≤ N → I c (px_fold f c s0) := by
    intro c
    induction c with
    | zero => intro _; exact h0
    | succ c ih => intro hc; exact hI c _ (by omega) (ih (by omega))
  have key : ∀ m c, c + m = N → px_R C D ops hs L (ls c (px_fold f c s0)) [] (hp (px_fold f c s0)) k Q := by
    intro m
    induction m with
    | zero => intro c hc; have : c = N := by omega
              subst this; exact ex (inv _ (Nat.le_refl _))
    | succ m ih => intro c hc; exact body c _ (by omega) (inv c (by omega)) (ih (c + 1) (by omega))
  exact key N 0 (by omega)
