-- the model's run
def pw_mst (s : pw_s) (h : ix_H) : Prop := h 100 40 = nI s.1.1 ∧ h 100 41 = nI s.1.2.1 ∧ h 100 37 = nI s.1.2.2 ∧ pw_mR s.2 (h 577)
def pw_mfr (h h' : ix_H) : Prop := (∀ a, a ≠ 100 → a ≠ 494 → a ≠ 495 → a ≠ 577 → a ≠ 579 → h' a = h a) ∧ ∀ j, j ≠ 37 → j ≠ 40 → j ≠ 41 → h' 100 j = h 100 j
theorem pw_mfr.rf {h : ix_H} : pw_mfr h h := ⟨fun _ _ _ _ _ _ => rfl, fun _ _ _ _ => rfl⟩
theorem pw_mfr.tr {h h1 h2 : ix_H} (a : pw_mfr h h1) (b : pw_mfr h1 h2) : pw_mfr h h2 := ⟨fun q q1 q2 q3 q4 q5 => (b.1 q q1 q2 q3 q4 q5).trans (a.1 q q1 q2 q3 q4 q5), fun j j1 j2 j3 => (b.2 j j1 j2 j3).trans (a.2 j j1 j2 j3)⟩
theorem pw_mE.fr {cs : List (Nat × Nat)} {N B T : Nat} {hd fd pt : Nat → Int32} {h h' : ix_H} (f : pw_mfr h h') (x : pw_mE cs N B T hd fd pt h) : pw_mE cs N B T hd fd pt h' := by
  obtain ⟨x1, x2, x3, x4, x5, x6, x7⟩ := x
  have e104 := f.1 104 (by decide) (by decide) (by decide) (by decide) (by decide)
  refine ⟨by rw [e104]; exact x1, x2, by rw [e104]; exact x3, fun b hb => by rw [f.1 (113 + b) (by omega) (by omega) (by omega) (by omega) (by omega)]; exact x4 b hb, fun c hc => by rw [f.1 (129 + c) (by omega) (by omega) (by omega) (by omega) (by omega)]; exact x5 c hc, ?_, x7⟩
  rcases x6 with ⟨l1, l2, l3, l4⟩ | ⟨l1, l2⟩
  · refine Or.inl ⟨by rw [f.2 20 (by decide) (by decide) (by decide)]; exact l1, l2, l3, fun k c hk => ?_⟩
    have kl := (List.getElem?_eq_some_iff.mp hk).1
    rw [f.1 (159 + k) (by omega) (by omega) (by omega) (by omega) (by omega)]; exact l4 k c hk
  · exact Or.inr ⟨by rw [f.2 20 (by decide) (by decide) (by decide)]; exact l1, l2⟩
def pw_mx (cs : List (Nat × Nat)) (N B T : Nat) (hd fd pt : Nat → Int32) (d i j : Nat) (P : ix_H → Prop) (D : pw_s → pw_s) : Prop := ∀ (h : ix_H) (s : pw_s) (Q : ix_R → Prop) (dep to : Nat) (g1 g4 : Value), d ≤ dep → pw_mE cs N B T hd fd pt h → P h → pw_so B s → pw_mst s h → j ≤ to → to ≤ 80 →
  (∀ h' g4', pw_mfr h h' → pw_mst (D s) h' → px_R px_E dep mo_206 [] 2 [.ref 100, g1, .int (nI to), .int (nI j), g4'] [] h' 0 Q) →
  (∀ h', pw_mfr h h' → pw_mst (D s) h' → (D s).1.1 = 200 → Q (.inl none, h', 0)) →
  px_R px_E dep mo_206 [] 2 [.ref 100, g1, .int (nI to), .int (nI i), g4] [] h 0 Q
section PW
variable {h : ix_H} {B N T : Nat} {X : pw_X} {cs : List (Nat × Nat)} {hd fd pt : Nat → Int32}
theorem pw_mx_id {d i : Nat} {P : ix_H → Prop} : pw_mx cs N B T hd fd pt d i i P (fun s => s) := fun h s Q dep to g1 g4 _ _ _ _ st _ _ H _ => H h g4 pw_mfr.rf st
theorem pw_mx_pr {d i k a b : Nat} (hd8 : 8 ≤ d) (v : pw_vk N B k a b) : pw_mx cs N B T hd fd pt d i (i + 1) (fun h => pw_row k a b (h (497 + i)) ∧ h (497 + i) 3 = nI (i + 1)) (pw_pr (pw_do cs N T hd fd pt k a b)) := by
  rintro h s Q dep to g1 g4 hdep E ⟨r, r3⟩ ⟨so1, so2, so3, so4⟩ ⟨c1, c2, c3, c4⟩ hjt hto H HS
  have k6 := v.1
  have si := px_sh497 i (by omega)
  refine w_il (j := 3) rfl rfl rfl ?_
  refine w_il (j := 4) rfl rfl rfl ?_
  refine w_geN (j := 5) rfl rfl (by omega) (by omega) (fun c => absurd c (fun c => by omega)) (fun _ => ?_)
  refine w_al (j := 6) rfl rfl rfl ?_
  first | refine w_gr (j := 7) rfl rfl (by first | assumption | rfl) (by first | assumption | rfl) rfl ?_ | refine w_gi (j := 7) rfl rfl (by first | assumption | rfl) (by first | assumption | rfl) rfl c1 ?_
  refine w_si (j := 8) (a := nI 200) rfl rfl (by decide) ?_
  unfold pw_pr at H HS
  by_cases c : s.1.1 < 200
  · rw [if_pos c] at H HS
    refine w_geN (j := 9) rfl rfl (by omega) (by omega) (fun c => absurd c (fun c => by omega)) (fun _ => ?_)
    refine w_al (j := 10) rfl rfl rfl ?_
    first | refine w_dupr (j := 11) rfl rfl ?_ | refine w_dupi (j := 11) rfl rfl ?_
    first | refine w_gr (j := 12) rfl rfl (by first | assumption | rfl) (by first | assumption | rfl) rfl ?_ | refine w_gi (j := 12) rfl rfl (by first | assumption | rfl) (by first | assumption | rfl) rfl c1 ?_
    refine w_ic (n := 1) (j := 13) rfl rfl ?_
    first | refine w_add0 (j := 14) rfl rfl ?_ | refine w_addN (j := 14) rfl rfl ?_ | refine w_add (j := 14) rfl rfl ?_
    refine w_pf (j := 15) rfl rfl (by first | assumption | rfl) (by first | assumption | rfl) rfl ?_
    have r0 : ix_up h 100 40 (nI (s.1.1 + 1)) (497 + i) 0 = nI k := by rw [px_up_na (by omega)]; exact r.1
    refine w_al (j := 16) rfl rfl rfl ?_
    first | refine w_gr (j := 17) rfl rfl (by first | assumption | rfl) (by first | assumption | rfl) rfl ?_ | refine w_gi (j := 17) rfl rfl (by first | assumption | rfl) (by first | assumption | rfl) rfl rfl ?_
    refine w_il (j := 18) rfl rfl rfl ?_
    refine w_aal (j := 19) rfl rfl (by first | assumption | rfl) rfl (by omega) rfl ?_
    refine w_ic (n := 0) (j := 20) rfl rfl ?_
    refine w_ial (j := 21) rfl rfl (by first | assumption | rfl) rfl (by omega) rfl r0 ?_
    refine w_bi (j := 22) (a := nI 7) rfl rfl (by decide) ?_
    refine w_neN (j := 23) rfl rfl (by omega) (by omega) (fun _ => ?_) (fun c => absurd c (fun c => by omega))
    refine w_al (j := 52) rfl rfl rfl ?_
    refine w_al (j := 53) rfl rfl rfl ?_
    first | refine w_gr (j := 54) rfl rfl (by first | assumption | rfl) (by first | assumption | rfl) rfl ?_ | refine w_gi (j := 54) rfl rfl (by first | assumption | rfl) (by first | assumption | rfl) rfl rfl ?_
    refine w_al (j := 55) rfl rfl rfl ?_
    first | refine w_gr (j := 56) rfl rfl (by first | assumption | rfl) (by first | assumption | rfl) rfl ?_ | refine w_gi (j := 56) rfl rfl (by first | assumption | rfl) (by first | assumption | rfl) rfl rfl ?_
    refine w_il (j := 57) rfl rfl rfl ?_
    refine w_aal (j := 58) rfl rfl (by first | assumption | rfl) rfl (by omega) rfl ?_
    have F1 : pw_mfr h (ix_up h 100 40 (nI (s.1.1 + 1))) := ⟨fun a a1 _ _ _ _ => ix_up_ne a1, fun j _ j40 _ => px_up_nk j40⟩
    refine w_cvPI (j := 59) rfl rfl rfl rfl (by first | assumption | rfl) rfl rfl (sp_205 (E.fr F1) (show i < 80 by omega) (by rw [ix_up_ne (by omega)]; exact r) v so4 (by rw [ix_up_ne (by decide)]; exact c4)) (Nat.ble_eq.mpr (by omega)) ?_
    rintro w h1 ⟨q1, q2, q3⟩
    subst q1
    have d1 : h1 100 41 = nI s.1.2.1 := by rw [q2 100 (by decide), px_up_nk (by decide)]; exact c2
    have d2 : h1 100 37 = nI s.1.2.2 := by rw [q2 100 (by decide), px_up_nk (by decide)]; exact c3
    have d0 : h1 100 40 = nI (s.1.1 + 1) := by rw [q2 100 (by decide), px_up_at]
    have F2 : pw_mfr h h1 := F1.tr ⟨fun a a1 a2 a3 a4 a5 => q2 a (by simp; omega), fun j _ _ _ => by rw [q2 100 (by decide)]⟩
    have fin : ∀ (x y : Nat), pw_mfr h (ix_up (ix_up h1 100 41 (nI x)) 100 37 (nI y)) := fun x y => F2.tr ⟨fun a a1 _ _ _ _ => by rw [ix_up_ne a1, ix_up_ne a1], fun j j1 j2 j3 => by rw [px_up_nk j1, px_up_nk j3]⟩
    have g3 : ∀ (x y : Nat), ix_up (ix_up h1 100 41 (nI x)) 100 37 (nI y) (497 + i) 3 = nI (i + 1) := fun x y => by rw [px_up_na (by omega), px_up_na (by omega), F2.1 _ (by omega) (by omega) (by omega) (by omega) (by omega)]; exact r3
    have m3 : ∀ (x y : Nat), pw_mR (pw_do cs N T hd fd pt k a b s.2).2 (ix_up (ix_up h1 100 41 (nI x)) 100 37 (nI y) 577) := fun x y => by rw [ix_up_ne (by decide), ix_up_ne (by decide)]; exact q3
    generalize hz : (pw_do cs N T hd fd pt k a b s.2).1 = z at H HS
    cases z with
    | true =>
      have d2' : ix_up h1 100 41 (nI (s.1.2.1 + 1)) 100 37 = nI s.1.2.2 := by rw [px_up_nk (by decide)]; exact d2
      refine w_iS (j := 60) rfl rfl rfl ?_
      refine w_al (j := 61) rfl rfl rfl ?_
      first | refine w_dupr (j := 62) rfl rfl ?_ | refine w_dupi (j := 62) rfl rfl ?_
      first | refine w_gr (j := 63) rfl rfl (by first | assumption | rfl) (by first | assumption | rfl) rfl ?_ | refine w_gi (j := 63) rfl rfl (by first | assumption | rfl) (by first | assumption | rfl) rfl d1 ?_
      refine w_iL (j := 64) rfl rfl rfl ?_
      refine w_eqB (j := 65) rfl rfl (fun c => absurd c (by simp)) (fun _ => ?_)
      refine w_ic (n := 1) (j := 66) rfl rfl ?_
      refine w_go rfl ?_
      first | refine w_add0 (j := 69) rfl rfl ?_ | refine w_addN (j := 69) rfl rfl ?_ | refine w_add (j := 69) rfl rfl ?_
      refine w_pf (j := 70) rfl rfl (by first | assumption | rfl) (by first | assumption | rfl) rfl ?_
      refine w_al (j := 71) rfl rfl rfl ?_
      first | refine w_dupr (j := 72) rfl rfl ?_ | refine w_dupi (j := 72) rfl rfl ?_
      first | refine w_gr (j := 73) rfl rfl (by first | assumption | rfl) (by first | assumption | rfl) rfl ?_ | refine w_gi (j := 73) rfl rfl (by first | assumption | rfl) (by first | assumption | rfl) rfl d2' ?_
      refine w_iL (j := 74) rfl rfl rfl ?_
      refine w_eqB (j := 75) rfl rfl (fun c => absurd c (by simp)) (fun _ => ?_)
      have g := g3 (s.1.2.1 + 1) (s.1.2.2 + 0)
      refine w_ic (n := 0) (j := 76) rfl rfl ?_
      refine w_go rfl ?_
      first | refine w_add0 (j := 79) rfl rfl ?_ | refine w_addN (j := 79) rfl rfl ?_ | refine w_add (j := 79) rfl rfl ?_
      refine w_pf (j := 80) rfl rfl (by first | assumption | rfl) (by first | assumption | rfl) rfl ?_
      refine w_al (j := 81) rfl rfl rfl ?_
      first | refine w_gr (j := 82) rfl rfl (by first | assumption | rfl) (by first | assumption | rfl) rfl ?_ | refine w_gi (j := 82) rfl rfl (by first | assumption | rfl) (by first | assumption | rfl) rfl rfl ?_
      refine w_il (j := 83) rfl rfl rfl ?_
      refine w_aal (j := 84) rfl rfl (by first | assumption | rfl) rfl (by omega) rfl ?_
      refine w_ic (n := 3) (j := 85) rfl rfl ?_
      refine w_ial (j := 86) rfl rfl (by first | assumption | rfl) rfl (by omega) rfl g ?_
      refine w_is (j := 87) rfl rfl rfl ?_
      refine w_go rfl ?_
      exact H _ _ (fin _ _) ⟨by rw [px_up_nk (by decide), px_up_nk (by decide)]; exact d0, by rw [px_up_nk (by decide), px_up_at]; rfl, by rw [px_up_at]; rfl, m3 _ _⟩
    | false =>
      have d2' : ix_up h1 100 41 (nI (s.1.2.1 + 0)) 100 37 = nI s.1.2.2 := by rw [px_up_nk (by decide)]; exact d2
      refine w_iS (j := 60) rfl rfl rfl ?_
      refine w_al (j := 61) rfl rfl rfl ?_
      first | refine w_dupr (j := 62) rfl rfl ?_ | refine w_dupi (j := 62) rfl rfl ?_
      first | refine w_gr (j := 63) rfl rfl (by first | assumption | rfl) (by first | assumption | rfl) rfl ?_ | refine w_gi (j := 63) rfl rfl (by first | assumption | rfl) (by first | assumption | rfl) rfl d1 ?_
      refine w_iL (j := 64) rfl rfl rfl ?_
      refine w_eqB (j := 65) rfl rfl (fun _ => ?_) (fun c => absurd c (by simp))
      refine w_ic (n := 0) (j := 68) rfl rfl ?_
      first | refine w_add0 (j := 69) rfl rfl ?_ | refine w_addN (j := 69) rfl rfl ?_ | refine w_add (j := 69) rfl rfl ?_
      refine w_pf (j := 70) rfl rfl (by first | assumption | rfl) (by first | assumption | rfl) rfl ?_
      refine w_al (j := 71) rfl rfl rfl ?_
      first | refine w_dupr (j := 72) rfl rfl ?_ | refine w_dupi (j := 72) rfl rfl ?_
      first | refine w_gr (j := 73) rfl rfl (by first | assumption | rfl) (by first | assumption | rfl) rfl ?_ | refine w_gi (j := 73) rfl rfl (by first | assumption | rfl) (by first | assumption | rfl) rfl d2' ?_
      refine w_iL (j := 74) rfl rfl rfl ?_
      refine w_eqB (j := 75) rfl rfl (fun _ => ?_) (fun c => absurd c (by simp))
      have g := g3 (s.1.2.1 + 0) (s.1.2.2 + 1)
      refine w_ic (n := 1) (j := 78) rfl rfl ?_
      first | refine w_add0 (j := 79) rfl rfl ?_ | refine w_addN (j := 79) rfl rfl ?_ | refine w_add (j := 79) rfl rfl ?_
      refine w_pf (j := 80) rfl rfl (by first | assumption | rfl) (by first | assumption | rfl) rfl ?_
      refine w_al (j := 81) rfl rfl rfl ?_
      first | refine w_gr (j := 82) rfl rfl (by first | assumption | rfl) (by first | assumption | rfl) rfl ?_ | refine w_gi (j := 82) rfl rfl (by first | assumption | rfl) (by first | assumption | rfl) rfl rfl ?_
      refine w_il (j := 83) rfl rfl rfl ?_
      refine w_aal (j := 84) rfl rfl (by first | assumption | rfl) rfl (by omega) rfl ?_
      refine w_ic (n := 3) (j := 85) rfl rfl ?_
      refine w_ial (j := 86) rfl rfl (by first | assumption | rfl) rfl (by omega) rfl g ?_
      refine w_is (j := 87) rfl rfl rfl ?_
      refine w_go rfl ?_
      exact H _ _ (fin _ _) ⟨by rw [px_up_nk (by decide), px_up_nk (by decide)]; exact d0, by rw [px_up_nk (by decide), px_up_at]; rfl, by rw [px_up_at]; rfl, m3 _ _⟩
  · rw [if_neg c] at H HS
    refine w_geN (j := 9) rfl rfl (by omega) (by omega) (fun _ => ?_) (fun c => absurd c (fun c => by omega))
    refine w_rt rfl ?_
    exact HS h pw_mfr.rf ⟨c1, c2, c3, c4⟩ (by omega)
end PW
