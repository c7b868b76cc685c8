def px_PI (D mi : Nat) (vs : List Value) (h : ix_H) (P : Int32 → ix_H → Prop) : Prop := px_T px_E D mi vs h (fun r => ∃ v h', r = (.inl (some (.int v)), h', 0) ∧ P v h')
def px_PU (D mi : Nat) (vs : List Value) (h : ix_H) (P : ix_H → Prop) : Prop := px_T px_E D mi vs h (fun r => ∃ h', r = (.inl none, h', 0) ∧ P h')
theorem px_b01 (b : Bool) : px_b b = nI 0 ∨ px_b b = nI 1 := by cases b; exact Or.inl rfl; exact Or.inr rfl
section PX
variable {D : Nat} {ops : List ix_Op} {hs : List ix_Hd} {i j : Nat} {ls st ls' st' : List Value} {h h' : ix_H} {k k' : Nat} {Q : ix_R → Prop} {o : ix_Op}
variable {pc len x y z : Nat} {tl : List Nat} {v : Int32} {a b w : Int32} {n m p q t e c D' : Nat} {vs : List Value}
theorem w_cvI (ho : ops[i]? = some (pc, len, .invokevirtual c, x, y, z, tl, v)) (hj : i + 1 = j) (hv : (st.take z).reverse = .ref n :: vs) (hd : st.drop z = st') (hs' : ix_sh n = (5, p, e)) (ht : tl = [p]) (hyz : (Nat.blt y 4 && Nat.ble z st.length && Nat.ble (st'.map fun v => v.category).sum 8) = true) (T : px_V D' x (.ref n :: vs) h (some (.int a)) h') (hD : Nat.ble D' D = true)
    (H : px_R px_E D ops hs j ls (.int a :: st') h' k Q) : px_R px_E D ops hs i ls st h k Q := w_cv ho hj hv hd hs' ht hyz T hD H
theorem w_cvU (ho : ops[i]? = some (pc, len, .invokevirtual c, x, y, z, tl, v)) (hj : i + 1 = j) (hv : (st.take z).reverse = .ref n :: vs) (hd : st.drop z = st') (hs' : ix_sh n = (5, p, e)) (ht : tl = [p]) (hyz : (Nat.blt y 4 && Nat.ble z st.length && Nat.ble (st'.map fun v => v.category).sum 8) = true) (T : px_V D' x (.ref n :: vs) h none h') (hD : Nat.ble D' D = true)
    (H : px_R px_E D ops hs j ls st' h' k Q) : px_R px_E D ops hs i ls st h k Q := w_cv ho hj hv hd hs' ht hyz T hD H
theorem w_csI (ho : ops[i]? = some (pc, len, .invokestatic c, x, y, z, tl, v)) (hj : i + 1 = j) (hv : (st.take z).reverse = vs) (hd : st.drop z = st') (hyz : (Nat.blt y 4 && Nat.ble z st.length && Nat.ble (st'.map fun v => v.category).sum 8) = true) (T : px_V D' x vs h (some (.int a)) h') (hD : Nat.ble D' D = true)
    (H : px_R px_E D ops hs j ls (.int a :: st') h' k Q) : px_R px_E D ops hs i ls st h k Q := w_cs ho hj hv hd hyz T hD H
theorem w_csU (ho : ops[i]? = some (pc, len, .invokestatic c, x, y, z, tl, v)) (hj : i + 1 = j) (hv : (st.take z).reverse = vs) (hd : st.drop z = st') (hyz : (Nat.blt y 4 && Nat.ble z st.length && Nat.ble (st'.map fun v => v.category).sum 8) = true) (T : px_V D' x vs h none h') (hD : Nat.ble D' D = true)
    (H : px_R px_E D ops hs j ls st' h' k Q) : px_R px_E D ops hs i ls st h k Q := w_cs ho hj hv hd hyz T hD H
theorem w_cvPI {P : Int32 → ix_H → Prop} (ho : ops[i]? = some (pc, len, .invokevirtual c, x, y, z, tl, v)) (hj : i + 1 = j) (hv : (st.take z).reverse = .ref n :: vs) (hd : st.drop z = st') (hs' : ix_sh n = (5, p, e)) (ht : tl = [p]) (hyz : (Nat.blt y 4 && Nat.ble z st.length && Nat.ble (st'.map fun v => v.category).sum 8) = true) (T : px_PI D' x (.ref n :: vs) h P) (hD : Nat.ble D' D = true)
    (H : ∀ a h', P a h' → px_R px_E D ops hs j ls (.int a :: st') h' k Q) : px_R px_E D ops hs i ls st h k Q :=
  w_cvQ ho hj hv hd hs' ht hyz (px_lift T hD) (fun u' h' k' hq => by obtain ⟨v9, h9, e9, hP⟩ := hq; cases e9; exact H _ _ hP) (fun u' h' k' hq => by obtain ⟨v9, h9, e9, hP⟩ := hq; cases e9)
theorem w_cvPU {P : ix_H → Prop} (ho : ops[i]? = some (pc, len, .invokevirtual c, x, y, z, tl, v)) (hj : i + 1 = j) (hv : (st.take z).reverse = .ref n :: vs) (hd : st.drop z = st') (hs' : ix_sh n = (5, p, e)) (ht : tl = [p]) (hyz : (Nat.blt y 4 && Nat.ble z st.length && Nat.ble (st'.map fun v => v.category).sum 8) = true) (T : px_PU D' x (.ref n :: vs) h P) (hD : Nat.ble D' D = true)
    (H : ∀ h', P h' → px_R px_E D ops hs j ls st' h' k Q) : px_R px_E D ops hs i ls st h k Q :=
  w_cvQ ho hj hv hd hs' ht hyz (px_lift T hD) (fun u' h' k' hq => by obtain ⟨h9, e9, hP⟩ := hq; cases e9; exact H _ hP) (fun u' h' k' hq => by obtain ⟨h9, e9, hP⟩ := hq; cases e9)
theorem w_csPI {P : Int32 → ix_H → Prop} (ho : ops[i]? = some (pc, len, .invokestatic c, x, y, z, tl, v)) (hj : i + 1 = j) (hv : (st.take z).reverse = vs) (hd : st.drop z = st') (hyz : (Nat.blt y 4 && Nat.ble z st.length && Nat.ble (st'.map fun v => v.category).sum 8) = true) (T : px_PI D' x vs h P) (hD : Nat.ble D' D = true)
    (H : ∀ a h', P a h' → px_R px_E D ops hs j ls (.int a :: st') h' k Q) : px_R px_E D ops hs i ls st h k Q :=
  w_csQ ho hj hv hd hyz (px_lift T hD) (fun u' h' k' hq => by obtain ⟨v9, h9, e9, hP⟩ := hq; cases e9; exact H _ _ hP) (fun u' h' k' hq => by obtain ⟨v9, h9, e9, hP⟩ := hq; cases e9)
theorem w_csPU {P : ix_H → Prop} (ho : ops[i]? = some (pc, len, .invokestatic c, x, y, z, tl, v)) (hj : i + 1 = j) (hv : (st.take z).reverse = vs) (hd : st.drop z = st') (hyz : (Nat.blt y 4 && Nat.ble z st.length && Nat.ble (st'.map fun v => v.category).sum 8) = true) (T : px_PU D' x vs h P) (hD : Nat.ble D' D = true)
    (H : ∀ h', P h' → px_R px_E D ops hs j ls st' h' k Q) : px_R px_E D ops hs i ls st h k Q :=
  w_csQ ho hj hv hd hyz (px_lift T hD) (fun u' h' k' hq => by obtain ⟨h9, e9, hP⟩ := hq; cases e9; exact H _ hP) (fun u' h' k' hq => by obtain ⟨h9, e9, hP⟩ := hq; cases e9)
theorem w_add0 {C : px_C} (ho : ops[i]? = some (pc, len, .iadd, x, y, z, tl, v)) (hj : i + 1 = j) (H : px_R C D ops hs j ls (.int (nI n) :: st) h k Q) : px_R C D ops hs i ls (.int (nI n) :: .int (nI 0) :: st) h k Q := w_add ho hj (by rw [px_nadd, Nat.zero_add]; exact H)
theorem px_PIm {mi : Nat} {P P' : Int32 → ix_H → Prop} (T : px_PI D mi vs h P) (hP : ∀ a h', P a h' → P' a h') : px_PI D mi vs h P' := by
  obtain ⟨r, ⟨v9, h9, e9, hp⟩, F⟩ := T
  exact ⟨r, ⟨v9, h9, e9, hP _ _ hp⟩, F⟩
theorem px_PUm {mi : Nat} {P P' : ix_H → Prop} (T : px_PU D mi vs h P) (hP : ∀ h', P h' → P' h') : px_PU D mi vs h P' := by
  obtain ⟨r, ⟨h9, e9, hp⟩, F⟩ := T
  exact ⟨r, ⟨h9, e9, hP _ hp⟩, F⟩
theorem px_VI {mi : Nat} (T : px_V D mi vs h (some (.int a)) h') : px_PI D mi vs h (fun a' h1 => a' = a ∧ h1 = h') := by
  obtain ⟨r, e9, F⟩ := T
  exact ⟨r, ⟨a, h', e9, rfl, rfl⟩, F⟩
theorem px_VU {mi : Nat} (T : px_V D mi vs h none h') : px_PU D mi vs h (fun h1 => h1 = h') := by
  obtain ⟨r, e9, F⟩ := T
  exact ⟨r, ⟨h', e9, rfl⟩, F⟩
end PX
