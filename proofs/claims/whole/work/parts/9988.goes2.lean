section PW
variable {h : ix_H} {B N T : Nat} {X : pw_X} {cs : List (Nat × Nat)} {hd fd pt : Nat → Int32}
-- a condition on the model's rows
def pw_qP (i j : Nat) (P : ix_H → Prop) : Prop := j ≤ 80 ∧ ∀ h h' : ix_H, (∀ k, i ≤ k → k < j → h' (497 + k) = h (497 + k)) → P h → P h'
theorem pw_qP.fr {i j : Nat} {P : ix_H → Prop} {h h' : ix_H} (p : pw_qP i j P) (f : pw_mfr h h') (x : P h) : P h' := p.2 h h' (fun k _ _ => f.1 _ (by omega) (by omega) (by omega) (by have := p.1; omega) (by have := p.1; omega)) x
theorem pw_mx_seq {d i j m : Nat} {P1 P2 : ix_H → Prop} {D1 D2 : pw_s → pw_s} (hjm : j ≤ m) (p2 : pw_qP j m P2) (hD1 : pw_D B D1) (hD2 : pw_D B D2) (x1 : pw_mx cs N B T hd fd pt d i j P1 D1) (x2 : pw_mx cs N B T hd fd pt d j m P2 D2) : pw_mx cs N B T hd fd pt d i m (fun h => P1 h ∧ P2 h) (fun s => D2 (D1 s)) := by
  rintro h s Q dep to g1 g4 hdep E ⟨q1, q2⟩ so st hto ht80 H HS
  obtain ⟨so1, le1⟩ := hD1.2 s so
  refine x1 h s Q dep to g1 g4 hdep E q1 so st (by omega) ht80 (fun h1 g4' f1 st1 => ?_) (fun h1 f1 st1 e1 => ?_)
  · exact x2 h1 (D1 s) Q dep to g1 g4' hdep (E.fr f1) (p2.fr f1 q2) so1 st1 hto ht80 (fun h2 g4'' f2 st2 => H h2 g4'' (f1.tr f2) st2) (fun h2 f2 st2 e2 => HS h2 (f1.tr f2) st2 e2)
  · have e3 := hD2.1 (D1 s) (by omega)
    refine HS h1 f1 ?_ ?_
    · show pw_mst (D2 (D1 s)) h1
      rw [e3]; exact st1
    · show (D2 (D1 s)).1.1 = 200
      rw [e3]; exact e1
-- goes over a piece
theorem pw_mgo {d i j : Nat} {P : ix_H → Prop} {D : pw_s → pw_s} {s : pw_s} (hj : j ≤ 80) (x : pw_mx cs N B T hd fd pt d i j P D) (E : pw_mE cs N B T hd fd pt h) (q : P h) (so : pw_so B s) (st : pw_mst s h) : px_PU (d + 1) 206 [.ref 100, .int (nI i), .int (nI j)] h (fun h' => pw_mfr h h' ∧ pw_mst (D s) h') := by
  refine px_M (M := mt_206) (ops := mo_206) tb_206 rfl rfl rfl rfl rfl ?_
  refine w_il (j := 1) rfl rfl rfl ?_
  refine w_is (j := 2) rfl rfl rfl ?_
  refine x h s _ d j _ _ (Nat.le_refl _) E q so st (Nat.le_refl _) hj (fun h1 g4' f1 st1 => ?_) (fun h1 f1 st1 e1 => ⟨_, rfl, f1, st1⟩)
  refine w_il (j := 3) rfl rfl rfl ?_
  refine w_il (j := 4) rfl rfl rfl ?_
  refine w_geN (j := 5) rfl rfl (by omega) (by omega) (fun _ => ?_) (fun c => absurd c (fun c => by omega))
  refine w_rt rfl ?_
  exact ⟨_, rfl, f1, st1⟩
theorem pw_mx_ag {d i j t : Nat} {P : ix_H → Prop} {D : pw_s → pw_s} (hij : i < j) (ht : t ≤ 40) (p : pw_qP (i + 1) j P) (hD : pw_D B D) (x : pw_mx cs N B T hd fd pt d (i + 1) j P D) : pw_mx cs N B T hd fd pt (d + 1) i j (fun h => P h ∧ h (497 + i) 0 = nI 7 ∧ h (497 + i) 1 = nI t ∧ h (497 + i) 3 = nI j) (pw_ag t D) := by
  rintro h s Q dep to g1 g4 hdep E ⟨q, r0, r1, r3⟩ ⟨so1, so2, so3, so4⟩ ⟨c1, c2, c3, c4⟩ hjt hto H HS
  have si := px_sh497 i (by omega)
  refine w_il (j := 3) rfl rfl rfl ?_
  refine w_il (j := 4) rfl rfl rfl ?_
  refine w_geN (j := 5) rfl rfl (by omega) (by omega) (fun c => absurd c (fun c => by omega)) (fun _ => ?_)
  refine w_al (j := 6) rfl rfl rfl ?_
  first | refine w_gr (j := 7) rfl rfl (by first | assumption | rfl) (by first | assumption | rfl) rfl ?_ | refine w_gi (j := 7) rfl rfl (by first | assumption | rfl) (by first | assumption | rfl) rfl c1 ?_
  refine w_si (j := 8) (a := nI 200) rfl rfl (by decide) ?_
  unfold pw_ag at H HS
  by_cases c : s.1.1 < 200
  rotate_left
  · rw [if_neg c] at H HS
    refine w_geN (j := 9) rfl rfl (by omega) (by omega) (fun _ => ?_) (fun c => absurd c (fun c => by omega))
    refine w_rt rfl ?_
    exact HS h pw_mfr.rf ⟨c1, c2, c3, c4⟩ (by omega)
  rw [if_pos c] at H HS
  refine w_geN (j := 9) rfl rfl (by omega) (by omega) (fun c => absurd c (fun c => by omega)) (fun _ => ?_)
  refine w_al (j := 10) rfl rfl rfl ?_
  first | refine w_dupr (j := 11) rfl rfl ?_ | refine w_dupi (j := 11) rfl rfl ?_
  first | refine w_gr (j := 12) rfl rfl (by first | assumption | rfl) (by first | assumption | rfl) rfl ?_ | refine w_gi (j := 12) rfl rfl (by first | assumption | rfl) (by first | assumption | rfl) rfl c1 ?_
  refine w_ic (n := 1) (j := 13) rfl rfl ?_
  first | refine w_add0 (j := 14) rfl rfl ?_ | refine w_addN (j := 14) rfl rfl ?_ | refine w_add (j := 14) rfl rfl ?_
  refine w_pf (j := 15) rfl rfl (by first | assumption | rfl) (by first | assumption | rfl) rfl ?_
  have F1 : pw_mfr h (ix_up h 100 40 (nI (s.1.1 + 1))) := ⟨fun a a1 _ _ _ _ => ix_up_ne a1, fun j _ j40 _ => px_up_nk j40⟩
  have r0' : ix_up h 100 40 (nI (s.1.1 + 1)) (497 + i) 0 = nI 7 := by rw [px_up_na (by omega)]; exact r0
  have so5 : pw_so B ((s.1.1 + 1, s.1.2), s.2) := ⟨by show s.1.1 + 1 ≤ 200; omega, by show s.1.2.1 ≤ s.1.1 + 1; omega, by show s.1.2.2 ≤ s.1.1 + 1; omega, so4⟩
  have st5 : pw_mst ((s.1.1 + 1, s.1.2), s.2) (ix_up h 100 40 (nI (s.1.1 + 1))) := ⟨px_up_at, by rw [px_up_nk (by decide)]; exact c2, by rw [px_up_nk (by decide)]; exact c3, by rw [ix_up_ne (by decide)]; exact c4⟩
  refine w_al (j := 16) rfl rfl rfl ?_
  first | refine w_gr (j := 17) rfl rfl (by first | assumption | rfl) (by first | assumption | rfl) rfl ?_ | refine w_gi (j := 17) rfl rfl (by first | assumption | rfl) (by first | assumption | rfl) rfl rfl ?_
  refine w_il (j := 18) rfl rfl rfl ?_
  refine w_aal (j := 19) rfl rfl (by first | assumption | rfl) rfl (by omega) rfl ?_
  refine w_ic (n := 0) (j := 20) rfl rfl ?_
  refine w_ial (j := 21) rfl rfl (by first | assumption | rfl) rfl (by omega) rfl r0' ?_
  refine w_bi (j := 22) (a := nI 7) rfl rfl (by decide) ?_
  refine w_neN (j := 23) rfl rfl (by omega) (by omega) (fun c => absurd c (fun z => z rfl)) (fun _ => ?_)
  refine w_ic (n := 0) (j := 24) rfl rfl ?_
  refine w_iS (j := 25) rfl rfl rfl ?_
  have ex : ∀ h1, pw_mfr h h1 → pw_mst (pw_it D t ((s.1.1 + 1, s.1.2), s.2)) h1 → ∀ g4', px_R px_E dep mo_206 [] 50 [.ref 100, g1, .int (nI to), .int (nI i), g4'] [] h1 0 Q := fun h1 f1 st1 g4' => by
    have r3' : h1 (497 + i) 3 = nI j := by rw [f1.1 _ (by omega) (by omega) (by omega) (by omega) (by omega)]; exact r3
    refine w_go rfl ?_
    refine w_al (j := 81) rfl rfl rfl ?_
    first | refine w_gr (j := 82) rfl rfl (by first | assumption | rfl) (by first | assumption | rfl) rfl ?_ | refine w_gi (j := 82) rfl rfl (by first | assumption | rfl) (by first | assumption | rfl) rfl rfl ?_
    refine w_il (j := 83) rfl rfl rfl ?_
    refine w_aal (j := 84) rfl rfl (by first | assumption | rfl) rfl (by omega) rfl ?_
    refine w_ic (n := 3) (j := 85) rfl rfl ?_
    refine w_ial (j := 86) rfl rfl (by first | assumption | rfl) rfl (by omega) rfl r3' ?_
    refine w_is (j := 87) rfl rfl rfl ?_
    refine w_go rfl ?_
    exact H h1 g4' f1 st1
  have lp : ∀ (m u : Nat) (h1 : ix_H) (s1 : pw_s), u + m = t → pw_mfr h h1 → pw_so B s1 → pw_mst s1 h1 → pw_it D m s1 = pw_it D t ((s.1.1 + 1, s.1.2), s.2) → px_R px_E dep mo_206 [] 25 [.ref 100, g1, .int (nI to), .int (nI i), .int (nI u)] [] h1 0 Q := by
    intro m
    induction m with
    | zero =>
      intro u h1 s1 hu f1 so1 st1 e
      have r1' : h1 (497 + i) 1 = nI t := by rw [f1.1 _ (by omega) (by omega) (by omega) (by omega) (by omega)]; exact r1
      rw [pw_it] at e
      refine w_iL (j := 26) rfl rfl rfl ?_
      refine w_al (j := 27) rfl rfl rfl ?_
      first | refine w_gr (j := 28) rfl rfl (by first | assumption | rfl) (by first | assumption | rfl) rfl ?_ | refine w_gi (j := 28) rfl rfl (by first | assumption | rfl) (by first | assumption | rfl) rfl rfl ?_
      refine w_il (j := 29) rfl rfl rfl ?_
      refine w_aal (j := 30) rfl rfl (by first | assumption | rfl) rfl (by omega) rfl ?_
      refine w_ic (n := 1) (j := 31) rfl rfl ?_
      refine w_ial (j := 32) rfl rfl (by first | assumption | rfl) rfl (by omega) rfl r1' ?_
      refine w_geN (j := 33) rfl rfl (by omega) (by omega) (fun _ => ?_) (fun c => absurd c (fun c => by omega))
      exact ex h1 f1 (by rw [← e]; exact st1) _
    | succ m ih =>
      intro u h1 s1 hu f1 so1 st1 e
      have r1' : h1 (497 + i) 1 = nI t := by rw [f1.1 _ (by omega) (by omega) (by omega) (by omega) (by omega)]; exact r1
      have r3' : h1 (497 + i) 3 = nI j := by rw [f1.1 _ (by omega) (by omega) (by omega) (by omega) (by omega)]; exact r3
      have b1 := st1.1
      have s200 := so1.1
      refine w_iL (j := 26) rfl rfl rfl ?_
      refine w_al (j := 27) rfl rfl rfl ?_
      first | refine w_gr (j := 28) rfl rfl (by first | assumption | rfl) (by first | assumption | rfl) rfl ?_ | refine w_gi (j := 28) rfl rfl (by first | assumption | rfl) (by first | assumption | rfl) rfl rfl ?_
      refine w_il (j := 29) rfl rfl rfl ?_
      refine w_aal (j := 30) rfl rfl (by first | assumption | rfl) rfl (by omega) rfl ?_
      refine w_ic (n := 1) (j := 31) rfl rfl ?_
      refine w_ial (j := 32) rfl rfl (by first | assumption | rfl) rfl (by omega) rfl r1' ?_
      refine w_geN (j := 33) rfl rfl (by omega) (by omega) (fun c => absurd c (fun c => by omega)) (fun _ => ?_)
      refine w_al (j := 34) rfl rfl rfl ?_
      first | refine w_gr (j := 35) rfl rfl (by first | assumption | rfl) (by first | assumption | rfl) rfl ?_ | refine w_gi (j := 35) rfl rfl (by first | assumption | rfl) (by first | assumption | rfl) rfl b1 ?_
      refine w_si (j := 36) (a := nI 200) rfl rfl (by decide) ?_
      refine w_geN (j := 37) rfl rfl (by omega) (by omega) (fun c2 => ?_) (fun c2 => ?_)
      ·
        have fx := pw_it_fix hD (m + 1) s1 (by omega)
        exact ex h1 f1 (by rw [← e, fx]; exact st1) _
      ·
        refine w_al (j := 38) rfl rfl rfl ?_
        refine w_il (j := 39) rfl rfl rfl ?_
        refine w_ic (n := 1) (j := 40) rfl rfl ?_
        first | refine w_add0 (j := 41) rfl rfl ?_ | refine w_addN (j := 41) rfl rfl ?_ | refine w_add (j := 41) rfl rfl ?_
        refine w_al (j := 42) rfl rfl rfl ?_
        first | refine w_gr (j := 43) rfl rfl (by first | assumption | rfl) (by first | assumption | rfl) rfl ?_ | refine w_gi (j := 43) rfl rfl (by first | assumption | rfl) (by first | assumption | rfl) rfl rfl ?_
        refine w_il (j := 44) rfl rfl rfl ?_
        refine w_aal (j := 45) rfl rfl (by first | assumption | rfl) rfl (by omega) rfl ?_
        refine w_ic (n := 3) (j := 46) rfl rfl ?_
        refine w_ial (j := 47) rfl rfl (by first | assumption | rfl) rfl (by omega) rfl r3' ?_
        refine w_cvPU (j := 48) rfl rfl rfl rfl (by first | assumption | rfl) rfl rfl (pw_mgo (by omega) x (E.fr f1) (p.fr f1 q) so1 st1) (Nat.ble_eq.mpr (by omega)) ?_
        rintro h2 ⟨f2, st2⟩
        first | refine w_incN (j := 49) rfl rfl rfl ?_ | refine w_inc (j := 49) rfl rfl rfl rfl ?_
        refine w_go rfl ?_
        exact ih (u + 1) h2 (D s1) (by omega) (f1.tr f2) (hD.2 s1 so1).1 st2 (by rw [pw_it] at e; exact e)
  exact lp t 0 _ _ (by omega) F1 so5 st5 rfl
end PW
