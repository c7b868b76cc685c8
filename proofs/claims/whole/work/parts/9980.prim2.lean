def pw_k6 (cs : List (Nat × Nat)) (N : Nat) (fd pt : Nat → Int32) (X : pw_X) : Bool × pw_X := if X.1.2.2.2.2 < nI 300 then (true, (pf_yr cs N fd pt X.1, X.2)) else (false, X)
def pw_do (cs : List (Nat × Nat)) (N T : Nat) (hd fd pt : Nat → Int32) (k a b : Nat) (X : pw_X) : Bool × pw_X := if k = 0 then pw_k0 N hd a b X else if k = 1 then pw_k1 a X else if k = 2 then pw_k2 a X else if k = 3 then pw_k3 a X else if k = 4 then pw_k4 a b X else if k = 5 then pw_k5 T a X else pw_k6 cs N fd pt X
def pw_vk (N B k a b : Nat) : Prop := k ≤ 6 ∧ (k = 0 → a < N ∧ b < B) ∧ (k = 1 ∨ k = 2 → a < B) ∧ (k = 3 ∨ k = 4 ∨ k = 5 → a < N) ∧ (k = 4 → 1 ≤ b ∧ b ≤ 30)
def pw_cE (cs : List (Nat × Nat)) (N B T : Nat) (hd fd pt : Nat → Int32) (h : ix_H) : Prop := (h 3 7 = nI N ∧ N ≤ 8) ∧ (h 3 6 = nI B ∧ B ≤ 6) ∧ h 3 8 = nI T ∧ h 5 = hd ∧ h 4 = fd ∧ h 6 = pt ∧ px_lw h cs ∧ pf_wf cs 0 1
theorem pw_cE.of {cs : List (Nat × Nat)} {N B T : Nat} {hd fd pt : Nat → Int32} {h h' : ix_H} (e : ∀ a, (3 ≤ a ∧ a ≤ 6) ∨ a = 41 ∨ a = 43 ∨ a = 44 → h' a = h a) (x : pw_cE cs N B T hd fd pt h) : pw_cE cs N B T hd fd pt h' := by
  unfold pw_cE px_lw at x ⊢
  rw [e 3 (by omega), e 5 (by omega), e 4 (by omega), e 6 (by omega), e 41 (by omega), e 43 (by omega), e 44 (by omega)]
  exact x
def pw_ok (B : Nat) (X : pw_X) : Prop := pf_oS B X.1 ∧ ∃ y, y ≤ 300 ∧ X.1.2.2.2.2 = nI y ∧ ∀ c, c < 8 → ∃ q, q ≤ y ∧ X.1.2.1 c = nI q
section PW
variable {h : ix_H} {B N T : Nat} {X : pw_X} {cs : List (Nat × Nat)} {hd fd pt : Nat → Int32}
theorem sp_101 {i k a b : Nat} (E : pw_cE cs N B T hd fd pt h) (hi : i < 150) (r1 : h 58 i = nI k) (r2 : h 59 i = nI a) (r3 : h 60 i = nI b) (v : pw_vk N B k a b) (hk : k ≤ 5) (R : pw_cR X h) : px_PI 4 101 [.ref 57, .int (nI i), .ref 64] h (fun v h1 => v = px_b (pw_do cs N T hd fd pt k a b X).1 ∧ px_fr [64, 65, 66, 67] h h1 ∧ pw_cR (pw_do cs N T hd fd pt k a b X).2 h1) := by
  obtain ⟨⟨e1, e2⟩, ⟨e3, e4⟩, e5, e6, -⟩ := E
  obtain ⟨v1, v2, v3, v4, v5⟩ := v
  refine px_M (M := mt_101) (ops := mo_101) tb_101 rfl rfl rfl rfl rfl ?_
  refine w_al (j := 1) rfl rfl rfl ?_
  first | refine w_gr (j := 2) rfl rfl (by first | assumption | rfl) (by first | assumption | rfl) rfl ?_ | refine w_gi (j := 2) rfl rfl (by first | assumption | rfl) (by first | assumption | rfl) rfl rfl ?_
  refine w_il (j := 3) rfl rfl rfl ?_
  refine w_ial (j := 4) rfl rfl (by first | assumption | rfl) rfl (by omega) rfl r2 ?_
  refine w_is (j := 5) rfl rfl rfl ?_
  refine w_al (j := 6) rfl rfl rfl ?_
  first | refine w_gr (j := 7) rfl rfl (by first | assumption | rfl) (by first | assumption | rfl) rfl ?_ | refine w_gi (j := 7) rfl rfl (by first | assumption | rfl) (by first | assumption | rfl) rfl rfl ?_
  refine w_il (j := 8) rfl rfl rfl ?_
  refine w_ial (j := 9) rfl rfl (by first | assumption | rfl) rfl (by omega) rfl r1 ?_
  rcases (show k = 0 ∨ k = 1 ∨ k = 2 ∨ k = 3 ∨ k = 4 ∨ k = 5 by omega) with rfl | rfl | rfl | rfl | rfl | rfl
  ·
    refine w_swN (t := 10) rfl (by decide) (by omega) rfl ?_
    refine w_al (j := 11) rfl rfl rfl ?_
    refine w_il (j := 12) rfl rfl rfl ?_
    refine w_al (j := 13) rfl rfl rfl ?_
    first | refine w_gr (j := 14) rfl rfl (by first | assumption | rfl) (by first | assumption | rfl) rfl ?_ | refine w_gi (j := 14) rfl rfl (by first | assumption | rfl) (by first | assumption | rfl) rfl rfl ?_
    refine w_il (j := 15) rfl rfl rfl ?_
    refine w_ial (j := 16) rfl rfl (by first | assumption | rfl) rfl (by omega) rfl r3 ?_
    refine w_cvPI (j := 17) rfl rfl rfl rfl (by first | assumption | rfl) rfl rfl (sp_86 (hd := hd) e1 e2 e3 e4 (v2 rfl).1 (v2 rfl).2 (by rw [e6]) R) rfl ?_
    rintro w h1 ⟨q1, q2, q3⟩
    subst q1
    refine w_irB rfl (by first | exact Or.inl rfl | exact Or.inr rfl | exact px_b01 _) ?_
    exact ⟨_, _, rfl, rfl, q2, q3⟩
  ·
    refine w_swN (t := 18) rfl (by decide) (by omega) rfl ?_
    refine w_al (j := 19) rfl rfl rfl ?_
    refine w_il (j := 20) rfl rfl rfl ?_
    refine w_cvPI (j := 21) rfl rfl rfl rfl (by first | assumption | rfl) rfl rfl (sp_87 e3 e4 (v3 (Or.inl rfl)) R) rfl ?_
    rintro w h1 ⟨q1, q2, q3⟩
    subst q1
    refine w_irB rfl (by first | exact Or.inl rfl | exact Or.inr rfl | exact px_b01 _) ?_
    exact ⟨_, _, rfl, rfl, q2, q3⟩
  ·
    refine w_swN (t := 22) rfl (by decide) (by omega) rfl ?_
    refine w_al (j := 23) rfl rfl rfl ?_
    refine w_il (j := 24) rfl rfl rfl ?_
    refine w_cvPI (j := 25) rfl rfl rfl rfl (by first | assumption | rfl) rfl rfl (sp_88c e3 e4 (v3 (Or.inr rfl)) R) rfl ?_
    rintro w h1 ⟨q1, q2, q3⟩
    subst q1
    refine w_irB rfl (by first | exact Or.inl rfl | exact Or.inr rfl | exact px_b01 _) ?_
    exact ⟨_, _, rfl, rfl, q2, q3⟩
  ·
    refine w_swN (t := 26) rfl (by decide) (by omega) rfl ?_
    refine w_al (j := 27) rfl rfl rfl ?_
    refine w_il (j := 28) rfl rfl rfl ?_
    refine w_cvPI (j := 29) rfl rfl rfl rfl (by first | assumption | rfl) rfl rfl (sp_89c e1 e2 (v4 (Or.inl rfl)) R) rfl ?_
    rintro w h1 ⟨q1, q2, q3⟩
    subst q1
    refine w_irB rfl (by first | exact Or.inl rfl | exact Or.inr rfl | exact px_b01 _) ?_
    exact ⟨_, _, rfl, rfl, q2, q3⟩
  ·
    refine w_swN (t := 30) rfl (by decide) (by omega) rfl ?_
    refine w_al (j := 31) rfl rfl rfl ?_
    refine w_il (j := 32) rfl rfl rfl ?_
    refine w_al (j := 33) rfl rfl rfl ?_
    first | refine w_gr (j := 34) rfl rfl (by first | assumption | rfl) (by first | assumption | rfl) rfl ?_ | refine w_gi (j := 34) rfl rfl (by first | assumption | rfl) (by first | assumption | rfl) rfl rfl ?_
    refine w_il (j := 35) rfl rfl rfl ?_
    refine w_ial (j := 36) rfl rfl (by first | assumption | rfl) rfl (by omega) rfl r3 ?_
    refine w_cvPI (j := 37) rfl rfl rfl rfl (by first | assumption | rfl) rfl rfl (sp_90 e1 e2 (v4 (Or.inr (Or.inl rfl))) R) rfl ?_
    rintro w h1 ⟨q1, q2, q3⟩
    subst q1
    refine w_irB rfl (by first | exact Or.inl rfl | exact Or.inr rfl | exact px_b01 _) ?_
    exact ⟨_, _, rfl, rfl, q2, q3⟩
  ·
    refine w_swD rfl (by decide) (by decide) ?_
    refine w_al (j := 39) rfl rfl rfl ?_
    refine w_il (j := 40) rfl rfl rfl ?_
    refine w_cvPI (j := 41) rfl rfl rfl rfl (by first | assumption | rfl) rfl rfl (sp_91 e1 e2 e5 (v4 (Or.inr (Or.inr rfl))) R) rfl ?_
    rintro w h1 ⟨q1, q2, q3⟩
    subst q1
    refine w_irB rfl (by first | exact Or.inl rfl | exact Or.inr rfl | exact px_b01 _) ?_
    exact ⟨_, _, rfl, rfl, q2, q3⟩
end PW
