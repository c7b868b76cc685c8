-- what a piece of work does: begun, done, refused; the state
abbrev pw_s : Type := (Nat × Nat × Nat) × pw_X
def pw_pr (f : pw_X → Bool × pw_X) (s : pw_s) : pw_s := if s.1.1 < 200 then ((s.1.1 + 1, s.1.2.1 + (if (f s.2).1 = true then 1 else 0), s.1.2.2 + (if (f s.2).1 = true then 0 else 1)), (f s.2).2) else s
def pw_it (D : pw_s → pw_s) : Nat → pw_s → pw_s
  | 0, s => s
  | t + 1, s => pw_it D t (D s)
def pw_ag (t : Nat) (D : pw_s → pw_s) (s : pw_s) : pw_s := if s.1.1 < 200 then pw_it D t ((s.1.1 + 1, s.1.2), s.2) else s
def pw_so (B : Nat) (s : pw_s) : Prop := s.1.1 ≤ 200 ∧ s.1.2.1 ≤ s.1.1 ∧ s.1.2.2 ≤ s.1.1 ∧ pw_ok B s.2
def pw_D (B : Nat) (D : pw_s → pw_s) : Prop := (∀ s, 200 ≤ s.1.1 → D s = s) ∧ ∀ s, pw_so B s → pw_so B (D s) ∧ s.1.1 ≤ (D s).1.1
theorem pw_D_id {B : Nat} : pw_D B (fun s => s) := ⟨fun _ _ => rfl, fun _ so => ⟨so, Nat.le_refl _⟩⟩
theorem pw_D_seq {B : Nat} {D1 D2 : pw_s → pw_s} (h1 : pw_D B D1) (h2 : pw_D B D2) : pw_D B (fun s => D2 (D1 s)) := ⟨fun s hs => by show D2 (D1 s) = s; rw [h1.1 s hs, h2.1 s hs], fun s so => ⟨(h2.2 _ (h1.2 s so).1).1, Nat.le_trans (h1.2 s so).2 (h2.2 _ (h1.2 s so).1).2⟩⟩
theorem pw_D_pr {B : Nat} {f : pw_X → Bool × pw_X} (hf : ∀ X, pw_ok B X → pw_ok B (f X).2) : pw_D B (pw_pr f) := by
  refine ⟨fun s hs => if_neg (by omega), fun s so => ?_⟩
  obtain ⟨s1, s2, s3, s4⟩ := so
  unfold pw_pr
  by_cases c : s.1.1 < 200
  · rw [if_pos c]
    refine ⟨⟨by show s.1.1 + 1 ≤ 200; omega, ?_, ?_, hf _ s4⟩, by show s.1.1 ≤ s.1.1 + 1; omega⟩
    · show s.1.2.1 + (if (f s.2).1 = true then 1 else 0) ≤ s.1.1 + 1
      split <;> omega
    · show s.1.2.2 + (if (f s.2).1 = true then 0 else 1) ≤ s.1.1 + 1
      split <;> omega
  · rw [if_neg c]
    exact ⟨⟨s1, s2, s3, s4⟩, Nat.le_refl _⟩
theorem pw_it_so {B : Nat} {D : pw_s → pw_s} (hD : pw_D B D) : ∀ t s, pw_so B s → pw_so B (pw_it D t s) ∧ s.1.1 ≤ (pw_it D t s).1.1
  | 0, s, so => ⟨so, Nat.le_refl _⟩
  | t + 1, s, so => by
    obtain ⟨a, b⟩ := hD.2 s so
    obtain ⟨c, d⟩ := pw_it_so hD t (D s) a
    exact ⟨c, Nat.le_trans b d⟩
theorem pw_it_fix {B : Nat} {D : pw_s → pw_s} (hD : pw_D B D) : ∀ t s, 200 ≤ s.1.1 → pw_it D t s = s
  | 0, _, _ => rfl
  | t + 1, s, hs => by rw [pw_it, hD.1 s hs]; exact pw_it_fix hD t s hs
theorem pw_D_ag {B t : Nat} {D : pw_s → pw_s} (hD : pw_D B D) : pw_D B (pw_ag t D) := by
  refine ⟨fun s hs => if_neg (by omega), fun s so => ?_⟩
  obtain ⟨s1, s2, s3, s4⟩ := so
  unfold pw_ag
  by_cases c : s.1.1 < 200
  · rw [if_pos c]
    obtain ⟨a, b⟩ := pw_it_so hD t ((s.1.1 + 1, s.1.2), s.2) ⟨by show s.1.1 + 1 ≤ 200; omega, by show s.1.2.1 ≤ s.1.1 + 1; omega, by show s.1.2.2 ≤ s.1.1 + 1; omega, s4⟩
    exact ⟨a, Nat.le_trans (Nat.le_succ _) b⟩
  · rw [if_neg c]
    exact ⟨⟨s1, s2, s3, s4⟩, Nat.le_refl _⟩
-- the class's run
def pw_cst (s : pw_s) (h : ix_H) : Prop := h 57 5 = nI s.1.2.1 ∧ h 57 6 = nI s.1.2.2 ∧ pw_cR s.2 h
def pw_cfr (i j : Nat) (h h' : ix_H) : Prop := px_fr [42, 45, 57, 61, 63, 64, 65, 66, 67] h h' ∧ (∀ k, k ≠ 5 → k ≠ 6 → h' 57 k = h 57 k) ∧ ∀ k, k < i ∨ j ≤ k → h' 61 k = h 61 k
theorem pw_cfr.rf {i j : Nat} {h : ix_H} : pw_cfr i j h h := ⟨px_fr.rf, fun _ _ _ => rfl, fun _ _ => rfl⟩
theorem pw_cfr.tr {i j : Nat} {h h1 h2 : ix_H} (a : pw_cfr i j h h1) (b : pw_cfr i j h1 h2) : pw_cfr i j h h2 := ⟨a.1.tr b.1, fun k k5 k6 => (b.2.1 k k5 k6).trans (a.2.1 k k5 k6), fun k hk => (b.2.2 k hk).trans (a.2.2 k hk)⟩
theorem pw_cfr.wd {i j i' j' : Nat} {h h1 : ix_H} (a : pw_cfr i j h h1) (hi : i' ≤ i) (hj : j ≤ j') : pw_cfr i' j' h h1 := ⟨a.1, a.2.1, fun k hk => a.2.2 k (by omega)⟩
def pw_cx (cs : List (Nat × Nat)) (N B T : Nat) (hd fd pt : Nat → Int32) (i j : Nat) (P : ix_H → Prop) (D : pw_s → pw_s) : Prop := ∀ (h : ix_H) (s : pw_s) (tick : Nat) (Q : ix_R → Prop), pw_cE cs N B T hd fd pt h → P h → (∃ n, n ≤ 150 ∧ j ≤ n ∧ h 57 4 = nI n) → pw_so B s → pw_cst s h → tick ≤ 41 * s.1.1 →
  (∀ h' tick', pw_cfr i j h h' → pw_cst (D s) h' → tick' ≤ tick + 41 * ((D s).1.1 - s.1.1) → px_R px_E 6 mo_97 [] 12 [.ref 57, .ref 64, .ref 62, .int (nI (D s).1.1), .int (nI j), .int (nI tick')] [] h' 0 Q) →
  (∀ h', pw_cfr i j h h' → pw_cst (D s) h' → (D s).1.1 = 200 → Q (.inl none, h', 0)) →
  px_R px_E 6 mo_97 [] 12 [.ref 57, .ref 64, .ref 62, .int (nI s.1.1), .int (nI i), .int (nI tick)] [] h 0 Q
section PW
variable {h : ix_H} {B N T : Nat} {X : pw_X} {cs : List (Nat × Nat)} {hd fd pt : Nat → Int32}
theorem pw_cx_id {i : Nat} {P : ix_H → Prop} : pw_cx cs N B T hd fd pt i i P (fun s => s) := fun h s tick Q _ _ _ _ st _ H _ => H h tick pw_cfr.rf st (by omega)
theorem pw_cx_pr {i k a b : Nat} (hi : i < 150) (v : pw_vk N B k a b) : pw_cx cs N B T hd fd pt i (i + 1) (fun h => h 58 i = nI k ∧ h 59 i = nI a ∧ h 60 i = nI b) (pw_pr (pw_do cs N T hd fd pt k a b)) := by
  rintro h s tick Q E ⟨r1, r2, r3⟩ ⟨n, n1, n2, n4⟩ ⟨so1, so2, so3, so4⟩ ⟨c1, c2, c3⟩ ht H HS
  have k6 := v.1
  refine w_iL (j := 13) rfl rfl rfl ?_
  refine w_lc (j := 14) (a := nI 100000) rfl rfl (by decide) ?_
  refine w_geN (j := 15) rfl rfl (by omega) (by omega) (fun c => absurd c (fun c => by omega)) (fun _ => ?_)
  refine w_iL (j := 16) rfl rfl rfl ?_
  refine w_ltM (j := 17) rfl rfl (by omega) ?_
  refine w_iL (j := 18) rfl rfl rfl ?_
  refine w_al (j := 19) rfl rfl rfl ?_
  first | refine w_gr (j := 20) rfl rfl (by first | assumption | rfl) (by first | assumption | rfl) rfl ?_ | refine w_gi (j := 20) rfl rfl (by first | assumption | rfl) (by first | assumption | rfl) rfl n4 ?_
  refine w_geN (j := 21) rfl rfl (by omega) (by omega) (fun c => absurd c (fun c => by omega)) (fun _ => ?_)
  refine w_al (j := 22) rfl rfl rfl ?_
  first | refine w_gr (j := 23) rfl rfl (by first | assumption | rfl) (by first | assumption | rfl) rfl ?_ | refine w_gi (j := 23) rfl rfl (by first | assumption | rfl) (by first | assumption | rfl) rfl rfl ?_
  refine w_iL (j := 24) rfl rfl rfl ?_
  refine w_ial (j := 25) rfl rfl (by first | assumption | rfl) rfl (by omega) rfl r1 ?_
  refine w_bi (j := 26) (a := nI 8) rfl rfl (by decide) ?_
  refine w_neN (j := 27) rfl rfl (by omega) (by omega) (fun _ => ?_) (fun c => absurd c (fun c => by omega))
  refine w_il (j := 33) rfl rfl rfl ?_
  refine w_si (j := 34) (a := nI 200) rfl rfl (by decide) ?_
  unfold pw_pr at H HS
  by_cases c : s.1.1 < 200
  · rw [if_pos c] at H HS
    refine w_ltN (j := 35) rfl rfl (by omega) (by omega) (fun _ => ?_) (fun c => absurd c (fun c => by omega))
    first | refine w_incN (j := 37) rfl rfl rfl ?_ | refine w_inc (j := 37) rfl rfl rfl rfl ?_
    refine w_al (j := 38) rfl rfl rfl ?_
    first | refine w_gr (j := 39) rfl rfl (by first | assumption | rfl) (by first | assumption | rfl) rfl ?_ | refine w_gi (j := 39) rfl rfl (by first | assumption | rfl) (by first | assumption | rfl) rfl rfl ?_
    refine w_iL (j := 40) rfl rfl rfl ?_
    refine w_ial (j := 41) rfl rfl (by first | assumption | rfl) rfl (by omega) rfl r1 ?_
    refine w_bi (j := 42) (a := nI 7) rfl rfl (by decide) ?_
    refine w_neN (j := 43) rfl rfl (by omega) (by omega) (fun _ => ?_) (fun c => absurd c (fun c => by omega))
    refine w_al (j := 48) rfl rfl rfl ?_
    refine w_iL (j := 49) rfl rfl rfl ?_
    refine w_al (j := 50) rfl rfl rfl ?_
    refine w_al (j := 51) rfl rfl rfl ?_
    refine w_cvPI (j := 52) rfl rfl rfl rfl (by first | assumption | rfl) rfl rfl (sp_100 E hi r1 r2 r3 v so4 c3 c1 c2) rfl ?_
    rintro w h1 ⟨q1, q2, q3, q4, q5, q6⟩
    subst q1
    refine w_iS (j := 53) rfl rfl rfl ?_
    first | refine w_incN (j := 54) rfl rfl rfl ?_ | refine w_inc (j := 54) rfl rfl rfl rfl ?_
    refine w_go rfl ?_
    refine H h1 (tick + 1) ⟨q2.sub (by decide), q3, fun k _ => by rw [q2 61 (by decide)]⟩ ⟨q4, q5, q6⟩ ?_
    show tick + 1 ≤ tick + 41 * (s.1.1 + 1 - s.1.1)
    omega
  · rw [if_neg c] at H HS
    refine w_ltN (j := 35) rfl rfl (by omega) (by omega) (fun c => absurd c (fun c => by omega)) (fun _ => ?_)
    refine w_rt rfl ?_
    exact HS h pw_cfr.rf ⟨c1, c2, c3⟩ (by omega)
end PW
