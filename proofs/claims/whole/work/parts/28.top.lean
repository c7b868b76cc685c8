def ix_p900 (a : Nat) (h : ix_H) : Option ix_R := if 2000 ≤ a ∧ a < 2021 then some (.inl (some (.int (Int32.ofNat (ix_txL.getD (a - 2000) 0)))), h, 0) else none
def ix_p901 (a : Nat) (j : Int32) (h : ix_H) : Option ix_R := if 2000 ≤ a ∧ a < 2021 ∧ ¬ (j < 0 ∨ ix_txL.getD (a - 2000) 0 ≤ j.toNatClampNeg) then some (.inl (some (.int ((ix_txB.getD (a - 2000) []).getD j.toNatClampNeg 0))), h, 0) else none
def ix_pr (mi : Nat) (vs : List Value) (h : ix_H) : Option ix_R :=
  if mi = 900 then (match vs with
    | [.ref a] => ix_p900 a h
    | _ => none)
  else if mi = 901 then (match vs with
    | [.ref a, .int j] => ix_p901 a j h
    | _ => none)
  else none
theorem ix_metVx {l : Launch} {y : MethodName} {ws : List Cond} {rm : Room} {Pc : Array Value → State → Prop} {Qc : Array Value → State → Outcome → State → Prop} {XC : String → State → State → Prop} {mc ms : Nat} {free : Addr → Prop} (h : Met l y ws rm Pc Qc mc ms free) : vx_Met l y ws rm Pc Qc XC mc ms free := by
  intro p e ha hc hk s m args below hf hfit hP hK
  obtain ⟨t, o, h1, h2, h3, h4⟩ := h p e ha hc hk s m args below hf hfit hP hK
  exact ⟨t, o, h1, h2, h3, Or.inl h4⟩
theorem ix_txok : ∀ i, i < 21 → (ix_txL.getD i 0 < 100 ∧ ∀ j, j < ix_txL.getD i 0 → (ix_chr ((ix_txB.getD i []).getD j 0) = (ix_txB.getD i []).getD j 0 ∧ narrow .char (.int ((ix_txB.getD i []).getD j 0)) = .int ((ix_txB.getD i []).getD j 0))) := by decide +kernel
theorem ix_p900_ok {l : Launch} {D : va_G} {G : ix_G} {ad : Nat → Nat} {ids : List Nat} {lo d : Nat} {a : Nat} {h : ix_H} {r : ix_R} (hr : ix_p900 a h = some r) : ix_Ct D G ad ids lo l d 900 [.ref a] h r := by
  unfold ix_p900 at hr
  split at hr
  · rename_i ha
    cases hr
    intro q hq
    cases hq
    obtain ⟨i, rfl⟩ : ∃ i : Nat, a = 2000 + i := ⟨a - 2000, by omega⟩
    rw [show 2000 + i - 2000 = i by omega]
    exact ix_metVx (ix_cLE (i := i) (by omega))
  · cases hr
theorem ix_p901_ok {l : Launch} {D : va_G} {G : ix_G} {ad : Nat → Nat} {ids : List Nat} {lo d : Nat} {a : Nat} {j : Int32} {h : ix_H} {r : ix_R} (hr : ix_p901 a j h = some r) : ix_Ct D G ad ids lo l d 901 [.ref a, .int j] h r := by
  unfold ix_p901 at hr
  split at hr
  · rename_i ha
    cases hr
    intro q hq
    cases hq
    obtain ⟨i, rfl⟩ : ∃ i : Nat, a = 2000 + i := ⟨a - 2000, by omega⟩
    rw [show 2000 + i - 2000 = i by omega] at ha ⊢
    have hi : i < 21 := by omega
    obtain ⟨t1, t2⟩ := ix_txok i hi
    have hin : vp_in j (ix_txL.getD i 0) := ha.2.2
    obtain ⟨n1, n2⟩ := vp_in_iff.mp hin
    have hj : j.toNatClampNeg < ix_txL.getD i 0 := by
      rcases Nat.lt_or_ge j.toNatClampNeg (ix_txL.getD i 0) with z | z
      · exact z
      · exact absurd (Or.inr z) ha.2.2
    obtain ⟨t3, t4⟩ := t2 _ hj
    have hlt : j < Int32.ofNat (ix_txL.getD i 0) := by
      rw [Int32.lt_iff_toInt_lt]
      have e1 : (Int32.ofNat (ix_txL.getD i 0)).toInt = (ix_txL.getD i 0 : Int) := nI_toInt (by omega)
      rw [e1]
      exact n2
    have hc := ix_cCA (l := l) (D := D) (G := G) (ad := ad) (ids := ids) (lo := lo) (h := h) (d := d) (i := i) (j := j) hi (fun z => ha.2.2 (Or.inl z)) hlt hin (by rw [t3]; exact t4)
    rw [t3] at hc
    exact ix_metVx hc
  · cases hr
theorem ix_pr_ok {l : Launch} {D : va_G} {G : ix_G} {ad : Nat → Nat} {ids : List Nat} {lo : Nat} : ∀ d mi vs h r, ix_pr mi vs h = some r → ix_Ct D G ad ids lo l d mi vs h r := by
  intro d mi vs h r hr
  unfold ix_pr at hr
  split at hr
  · rename_i hm
    subst hm
    split at hr
    · exact ix_p900_ok hr
    · cases hr
  · split at hr
    · rename_i hm
      subst hm
      split at hr
      · exact ix_p901_ok hr
      · cases hr
    · cases hr
