def kchk (h : ix_H) : Bool :=
  decide (h 3 6 = nI 0 ∧ h 3 7 = nI 0 ∧ h 3 8 = nI 21 ∧ h 3 9 = nI 3 ∧ h 104 0 = nI 0 ∧ h 104 1 = nI 0 ∧ h 104 2 = nI 21 ∧ h 104 3 = nI 3) &&
  decide (∀ a : Nat, a < 6 → ∀ b : Nat, b < 6 → h (9 + a) b = nI 0 ∧ h (145 + a) b = nI 0) &&
  decide (h 41 4 = nI 7 ∧ ∀ k : Nat, k < 7 → h 43 k = nI (pf_usual.getD k (0, 0)).1 ∧ h 44 k = nI (pf_usual.getD k (0, 0)).2) &&
  decide (h 51 2 = nI 0 ∧ h 100 35 = nI 0 ∧ h 100 20 = nI 0) &&
  decide (∀ c : Nat, c < 8 → h 65 c = nI 0 ∧ h 577 (8 + c) = nI 0 ∧ h 66 c = nI 0 ∧ h 577 (16 + c) = nI 0 ∧ h 67 c = -1 ∧ h 577 c = -1) &&
  decide (h 64 4 = nI 0 ∧ (∀ b : Nat, b < 6 → h 577 (24 + b) = nI 0) ∧ h 64 5 = h 577 30 ∧ h 64 6 = nI 0 ∧ h 577 31 = nI 0) &&
  decide (h 72 3 = nI 0 ∧ h 100 36 = nI 0 ∧ h 72 4 = nI 0 ∧ h 100 38 = nI 0 ∧ h 72 5 = h 100 37) &&
  decide (h 0 16 = nI 0 ∧ h 100 1 = nI 0 ∧ h 0 18 = h 102 0 ∧ h 0 19 = h 102 1 ∧ h 0 17 = h 100 3)
theorem kchk_ok : kchk kz_13 = true := by decide +kernel
theorem Fzz_lo {w : (Nat → Int32) × (Nat → Int32)} {h : ix_H} {a : Nat} (ha : a < 3000) : Fzz w h a = h a := by
  unfold Fzz
  rw [if_neg (by omega), if_neg (by omega)]
theorem kz_I (w : (Nat → Int32) × (Nat → Int32)) : px_I (Fzz w kz_13) 0 0 21 pf_usual 0 0 0 0 := by
  have K := kchk_ok
  unfold kchk at K
  simp only [Bool.and_eq_true, decide_eq_true_eq] at K
  obtain ⟨⟨⟨⟨⟨⟨⟨⟨c1, c2, c3, c4, c5, c6, c7, c8⟩, p1⟩, l1, l2⟩, m1, m2, m3⟩, n1⟩, o1, o2, o3, o4, o5⟩, q1, q2, q3, q4, q5⟩, r1, r2, r3, r4, r5⟩ := K
  have F : ∀ a, a < 3000 → Fzz w kz_13 a = kz_13 a := fun a ha => Fzz_lo ha
  refine ⟨?_, ⟨?_, Or.inr ⟨by rw [F 100 (by decide)]; exact m3, rfl⟩, pf_wfu⟩, ?_, ?_, ?_, ?_, ?_, ?_⟩
  · unfold px_land
    rw [F 3 (by decide), F 104 (by decide)]
    refine ⟨c1, c5, by decide, c2, c6, by decide, c3, c7, by decide, by decide, c4.trans c8.symm, fun b hb => by omega, fun c hc => by omega, fun a b ha hb => ?_, fun h0 => by omega⟩
    rw [F (9 + a) (by omega), F (145 + a) (by omega), (p1 a ha b hb).1, (p1 a ha b hb).2]
    exact ⟨rfl, 0, by decide, rfl⟩
  · unfold px_lw
    rw [F 41 (by decide), F 43 (by decide), F 44 (by decide)]
    refine ⟨l1, by decide, fun k c hk => ?_⟩
    have kl := (List.getElem?_eq_some_iff.mp hk).1
    have e := l2 k kl
    rw [List.getD_eq_getElem?_getD, hk] at e
    exact e
  · unfold px_line
    rw [F 51 (by decide), F 100 (by decide)]
    exact ⟨by decide, m1, m2, fun k hk => by omega, fun i j _ hj => by omega⟩
  · unfold px_now px_sq
    rw [F 64 (by decide), F (64 + 1) (by decide), F (64 + 2) (by decide), F (64 + 3) (by decide), F 577 (by decide)]
    refine ⟨fun c hc => ⟨(n1 c hc).1.trans (n1 c hc).2.1.symm, 0, by decide, (n1 c hc).1⟩, fun c hc => (n1 c hc).2.2.1.trans (n1 c hc).2.2.2.1.symm, fun c hc => ⟨(n1 c hc).2.2.2.2.1.trans (n1 c hc).2.2.2.2.2.symm, Or.inr (Or.inl (n1 c hc).2.2.2.2.1)⟩, ⟨0, by decide, o1⟩, fun b hb => ?_, o3, o4.trans o5.symm, 0, by decide, o4, fun c hc => ⟨0, by decide, (n1 c hc).2.2.1⟩⟩
    rw [o1, pf_bt0 b hb, o2 b hb]
  · unfold px_hist
    rw [F 72 (by decide), F 100 (by decide)]
    exact ⟨by decide, q1, q2, by decide, q3, q4, q5, fun w hw => by omega, fun i hi => by omega⟩
  · unfold px_tape
    rw [F 0 (by decide), F 100 (by decide)]
    exact ⟨by decide, r1, r2, fun i hi => by omega⟩
  · rw [F 0 (by decide), F 102 (by decide)]
    exact ⟨r3, r4⟩
  · rw [F 0 (by decide), F 100 (by decide)]
    exact r5
theorem kz_J (w : (Nat → Int32) × (Nat → Int32)) : px_J (Fzz w kz_13) (Fzz w kz_13) := ⟨fun _ _ => rfl, _, _, _, _, _, _, _, _, kz_I w⟩
