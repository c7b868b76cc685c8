section PW
variable {h : ix_H} {B N T : Nat} {X : pw_X} {cs : List (Nat × Nat)} {hd fd pt : Nat → Int32}
theorem pw_upd {f : Nat → Int32} {c d : Nat} {v : Int32} : upd f c v d = if d = c then v else f d := by
  by_cases e : d = c
  · rw [if_pos e, e, pk_us]
  · rw [if_neg e, pk_un e]
theorem pw_okpl {c : Nat} {v : Int32} (hv : v = -2 ∨ v = -1 ∨ ∃ b, b < B ∧ v = nI b) (ok : pw_ok B X) : pw_ok B ((X.1.1, X.1.2.1, upd X.1.2.2.1 c v, X.1.2.2.2), X.2) := by
  obtain ⟨⟨o1, o2, o3⟩, y⟩ := ok
  refine ⟨⟨o1, fun d hd => ?_, o3⟩, y⟩
  show upd X.1.2.2.1 c v d = -2 ∨ upd X.1.2.2.1 c v d = -1 ∨ ∃ b, b < B ∧ upd X.1.2.2.1 c v d = nI b
  rw [pw_upd]
  by_cases e : d = c
  · rw [if_pos e]; exact hv
  · rw [if_neg e]; exact o2 d hd
theorem pw_do_ok {k a b : Nat} (hB : B ≤ 6) (v : pw_vk N B k a b) (ok : pw_ok B X) : pw_ok B (pw_do cs N T hd fd pt k a b X).2 := by
  obtain ⟨v1, v2, v3, v4, v5⟩ := v
  have ok' := ok
  obtain ⟨⟨o1, o2, q, o3, o4⟩, y, y1, y2, y3⟩ := ok'
  rcases (show k = 0 ∨ k = 1 ∨ k = 2 ∨ k = 3 ∨ k = 4 ∨ k = 5 ∨ k = 6 by omega) with rfl | rfl | rfl | rfl | rfl | rfl | rfl
  · show pw_ok B (pw_k0 N hd a b X).2
    unfold pw_k0
    split
    · exact ok
    · exact pw_okpl (Or.inr (Or.inr ⟨b, (v2 rfl).2, rfl⟩)) ok
  · show pw_ok B (pw_k1 a X).2
    unfold pw_k1
    split
    · exact ok
    · obtain ⟨-, q', q1, q2⟩ := pw_bor q o3 a (by have := v3 (Or.inl rfl); omega)
      refine ⟨⟨o1, o2, q', q1, ?_⟩, y, y1, y2, y3⟩
      show X.1.2.2.2.1 ||| pf_bit a = nI q'
      rw [o4]; exact q2
  · show pw_ok B (pw_k2 a X).2
    unfold pw_k2
    split
    · obtain ⟨-, q', q1, q2⟩ := pw_ban q o3 a (by have := v3 (Or.inr rfl); omega)
      refine ⟨⟨o1, o2, q', q1, ?_⟩, y, y1, y2, y3⟩
      show X.1.2.2.2.1 &&& (pf_bit a ^^^ (-1)) = nI q'
      rw [o4]; exact q2
    · exact ok
  · show pw_ok B (pw_k3 a X).2
    unfold pw_k3
    split
    · exact pw_okpl (Or.inr (Or.inl rfl)) ok
    · exact ok
  · show pw_ok B (pw_k4 a b X).2
    unfold pw_k4
    split
    · exact ok
    · refine ⟨⟨fun d hd => ?_, o2, q, o3, o4⟩, y, y1, y2, y3⟩
      show ∃ q, q ≤ 99 ∧ upd X.1.1 a (if nI 99 < X.1.1 a + nI b then nI 99 else X.1.1 a + nI b) d = nI q
      rw [pw_upd]
      by_cases e : d = a
      · rw [if_pos e]
        subst e
        obtain ⟨s, s1, s2⟩ := o1 d hd
        have b30 := v5 rfl
        rw [s2, px_nadd]
        by_cases z : nI 99 < nI (s + b)
        · rw [if_pos z]; exact ⟨99, by decide, rfl⟩
        · rw [if_neg z]
          exact ⟨s + b, by rw [px_nlt (by decide) (by omega)] at z; omega, rfl⟩
      · rw [if_neg e]; exact o1 d hd
  · show pw_ok B (pw_k5 T a X).2
    unfold pw_k5
    split
    · exact pw_okpl (Or.inl rfl) ok
    · exact ok
  · show pw_ok B (pw_k6 cs N fd pt X).2
    unfold pw_k6
    split
    · rename_i z
      rw [y2, px_nlt (by omega) (by decide)] at z
      refine ⟨pf_yrO ok.1, y + 1, by omega, ?_, fun c hc => ?_⟩
      · show X.1.2.2.2.2 + nI 1 = nI (y + 1)
        rw [y2, px_nadd]
      · obtain ⟨g, g1, g2⟩ := y3 c hc
        show ∃ q, q ≤ y + 1 ∧ (if c < N ∧ X.1.2.2.1 c ≠ -2 then X.1.2.1 c + nI 1 else X.1.2.1 c) = nI q
        split
        · exact ⟨g + 1, by omega, by rw [g2, px_nadd]⟩
        · exact ⟨g, by omega, g2⟩
    · exact ok
theorem sp_100 {i k a b dn rf : Nat} (E : pw_cE cs N B T hd fd pt h) (hi : i < 150) (r1 : h 58 i = nI k) (r2 : h 59 i = nI a) (r3 : h 60 i = nI b) (v : pw_vk N B k a b) (ok : pw_ok B X) (R : pw_cR X h) (d1 : h 57 5 = nI dn) (d2 : h 57 6 = nI rf) : px_PI 6 100 [.ref 57, .int (nI i), .ref 64, .ref 62] h (fun w h1 => w = nI (i + 1) ∧ px_fr [42, 45, 57, 63, 64, 65, 66, 67] h h1 ∧ (∀ j, j ≠ 5 → j ≠ 6 → h1 57 j = h 57 j) ∧ h1 57 5 = nI (dn + if (pw_do cs N T hd fd pt k a b X).1 = true then 1 else 0) ∧ h1 57 6 = nI (rf + if (pw_do cs N T hd fd pt k a b X).1 = true then 0 else 1) ∧ pw_cR (pw_do cs N T hd fd pt k a b X).2 h1) := by
  have E' := E
  obtain ⟨⟨e1, e2⟩, ⟨e3, e4⟩, e5, e6, e7, e8, e9, e10⟩ := E
  have v1 := v.1
  have tail : ∀ (h1 : ix_H) (z : Bool) (X' : pw_X) (g3 : Value), px_fr [42, 45, 63, 64, 65, 66, 67] h h1 → pw_cR X' h1 → px_R px_E 5 mo_100 [] 30 [.ref 57, .int (nI i), .ref 64, g3, .int (px_b z)] [] h1 0 (fun r => ∃ w h2, r = (.inl (some (.int w)), h2, 0) ∧ w = nI (i + 1) ∧ px_fr [42, 45, 57, 63, 64, 65, 66, 67] h h2 ∧ (∀ j, j ≠ 5 → j ≠ 6 → h2 57 j = h 57 j) ∧ h2 57 5 = nI (dn + if z = true then 1 else 0) ∧ h2 57 6 = nI (rf + if z = true then 0 else 1) ∧ pw_cR X' h2) := by
    intro h1 z X' g3 F R1
    have d1' : h1 57 5 = nI dn := by rw [F 57 (by decide)]; exact d1
    have d2' : h1 57 6 = nI rf := by rw [F 57 (by decide)]; exact d2
    have fin : ∀ x y : Int32, pw_cR X' (ix_up (ix_up h1 57 5 x) 57 6 y) := fun x y => by
      obtain ⟨⟨q1, q2, q3, q4, q5⟩, q6⟩ := R1
      exact ⟨⟨fun c hc => by rw [px_up_na (by decide), px_up_na (by decide)]; exact q1 c hc, fun c hc => by rw [px_up_na (by decide), px_up_na (by decide)]; exact q2 c hc, fun c hc => by rw [px_up_na (by decide), px_up_na (by decide)]; exact q3 c hc, by rw [px_up_na (by decide), px_up_na (by decide)]; exact q4, by rw [px_up_na (by decide), px_up_na (by decide)]; exact q5⟩, by rw [px_up_na (by decide), px_up_na (by decide)]; exact q6⟩
    have fr : ∀ x y : Int32, px_fr [42, 45, 57, 63, 64, 65, 66, 67] h (ix_up (ix_up h1 57 5 x) 57 6 y) := fun x y => ((F.sub (by decide)).up (by decide)).up (by decide)
    have fj : ∀ (x y : Int32) (j : Nat), j ≠ 5 → j ≠ 6 → ix_up (ix_up h1 57 5 x) 57 6 y 57 j = h 57 j := fun x y j j5 j6 => by rw [px_up_nk j6, px_up_nk j5, F 57 (by decide)]
    cases z with
    | true =>
      refine w_al (j := 31) rfl rfl rfl ?_
      first | refine w_dupr (j := 32) rfl rfl ?_ | refine w_dupi (j := 32) rfl rfl ?_
      first | refine w_gr (j := 33) rfl rfl (by first | assumption | rfl) (by first | assumption | rfl) rfl ?_ | refine w_gi (j := 33) rfl rfl (by first | assumption | rfl) (by first | assumption | rfl) rfl d1' ?_
      refine w_iL (j := 34) rfl rfl rfl ?_
      refine w_eqB (j := 35) rfl rfl (fun c => absurd c (by simp)) (fun _ => ?_)
      refine w_ic (n := 1) (j := 36) rfl rfl ?_
      refine w_go rfl ?_
      first | refine w_add0 (j := 39) rfl rfl ?_ | refine w_addN (j := 39) rfl rfl ?_ | refine w_add (j := 39) rfl rfl ?_
      refine w_pf (j := 40) rfl rfl (by first | assumption | rfl) (by first | assumption | rfl) rfl ?_
      have d2'' : ix_up h1 57 5 (nI (dn + 1)) 57 6 = nI rf := by rw [px_up_nk (by decide)]; exact d2'
      refine w_al (j := 41) rfl rfl rfl ?_
      first | refine w_dupr (j := 42) rfl rfl ?_ | refine w_dupi (j := 42) rfl rfl ?_
      first | refine w_gr (j := 43) rfl rfl (by first | assumption | rfl) (by first | assumption | rfl) rfl ?_ | refine w_gi (j := 43) rfl rfl (by first | assumption | rfl) (by first | assumption | rfl) rfl d2'' ?_
      refine w_iL (j := 44) rfl rfl rfl ?_
      refine w_eqB (j := 45) rfl rfl (fun c => absurd c (by simp)) (fun _ => ?_)
      refine w_ic (n := 0) (j := 46) rfl rfl ?_
      refine w_go rfl ?_
      first | refine w_add0 (j := 49) rfl rfl ?_ | refine w_addN (j := 49) rfl rfl ?_ | refine w_add (j := 49) rfl rfl ?_
      refine w_pf (j := 50) rfl rfl (by first | assumption | rfl) (by first | assumption | rfl) rfl ?_
      refine w_il (j := 51) rfl rfl rfl ?_
      refine w_ic (n := 1) (j := 52) rfl rfl ?_
      first | refine w_add0 (j := 53) rfl rfl ?_ | refine w_addN (j := 53) rfl rfl ?_ | refine w_add (j := 53) rfl rfl ?_
      refine w_ir rfl ?_
      exact ⟨_, _, rfl, rfl, fr _ _, fj _ _, by rw [px_up_nk (by decide), px_up_at]; rfl, by rw [px_up_at]; rfl, fin _ _⟩
    | false =>
      refine w_al (j := 31) rfl rfl rfl ?_
      first | refine w_dupr (j := 32) rfl rfl ?_ | refine w_dupi (j := 32) rfl rfl ?_
      first | refine w_gr (j := 33) rfl rfl (by first | assumption | rfl) (by first | assumption | rfl) rfl ?_ | refine w_gi (j := 33) rfl rfl (by first | assumption | rfl) (by first | assumption | rfl) rfl d1' ?_
      refine w_iL (j := 34) rfl rfl rfl ?_
      refine w_eqB (j := 35) rfl rfl (fun _ => ?_) (fun c => absurd c (by simp))
      refine w_ic (n := 0) (j := 38) rfl rfl ?_
      first | refine w_add0 (j := 39) rfl rfl ?_ | refine w_addN (j := 39) rfl rfl ?_ | refine w_add (j := 39) rfl rfl ?_
      refine w_pf (j := 40) rfl rfl (by first | assumption | rfl) (by first | assumption | rfl) rfl ?_
      have d2'' : ix_up h1 57 5 (nI (dn + 0)) 57 6 = nI rf := by rw [px_up_nk (by decide)]; exact d2'
      refine w_al (j := 41) rfl rfl rfl ?_
      first | refine w_dupr (j := 42) rfl rfl ?_ | refine w_dupi (j := 42) rfl rfl ?_
      first | refine w_gr (j := 43) rfl rfl (by first | assumption | rfl) (by first | assumption | rfl) rfl ?_ | refine w_gi (j := 43) rfl rfl (by first | assumption | rfl) (by first | assumption | rfl) rfl d2'' ?_
      refine w_iL (j := 44) rfl rfl rfl ?_
      refine w_eqB (j := 45) rfl rfl (fun _ => ?_) (fun c => absurd c (by simp))
      refine w_ic (n := 1) (j := 48) rfl rfl ?_
      first | refine w_add0 (j := 49) rfl rfl ?_ | refine w_addN (j := 49) rfl rfl ?_ | refine w_add (j := 49) rfl rfl ?_
      refine w_pf (j := 50) rfl rfl (by first | assumption | rfl) (by first | assumption | rfl) rfl ?_
      refine w_il (j := 51) rfl rfl rfl ?_
      refine w_ic (n := 1) (j := 52) rfl rfl ?_
      first | refine w_add0 (j := 53) rfl rfl ?_ | refine w_addN (j := 53) rfl rfl ?_ | refine w_add (j := 53) rfl rfl ?_
      refine w_ir rfl ?_
      exact ⟨_, _, rfl, rfl, fr _ _, fj _ _, by rw [px_up_nk (by decide), px_up_at]; rfl, by rw [px_up_at]; rfl, fin _ _⟩
  have q5 : h 64 6 = X.1.2.2.2.2 := R.1.2.2.2.2
  refine px_M (M := mt_100) (ops := mo_100) tb_100 rfl rfl rfl rfl rfl ?_
  refine w_al (j := 1) rfl rfl rfl ?_
  first | refine w_gr (j := 2) rfl rfl (by first | assumption | rfl) (by first | assumption | rfl) rfl ?_ | refine w_gi (j := 2) rfl rfl (by first | assumption | rfl) (by first | assumption | rfl) rfl rfl ?_
  refine w_il (j := 3) rfl rfl rfl ?_
  refine w_ial (j := 4) rfl rfl (by first | assumption | rfl) rfl (by omega) rfl r1 ?_
  refine w_bi (j := 5) (a := nI 6) rfl rfl (by decide) ?_
  by_cases k6 : k = 6
  rotate_left
  ·
    refine w_neN (j := 6) rfl rfl (by omega) (by omega) (fun _ => ?_) (fun c => absurd c (fun c => by omega))
    refine w_al (j := 15) rfl rfl rfl ?_
    refine w_il (j := 16) rfl rfl rfl ?_
    refine w_al (j := 17) rfl rfl rfl ?_
    refine w_cvPI (j := 18) rfl rfl rfl rfl (by first | assumption | rfl) rfl rfl (sp_101 E' hi r1 r2 r3 v (by omega) R) rfl ?_
    rintro w h1 ⟨q1, q2, q3⟩
    subst q1
    have r1' : h1 58 i = nI k := by rw [q2 58 (by decide)]; exact r1
    refine w_iS (j := 19) rfl rfl rfl ?_
    refine w_iL (j := 20) rfl rfl rfl ?_
    refine w_eqB (j := 21) rfl rfl (fun c => ?_) (fun c => ?_)
    ·
      exact tail h1 _ _ _ (q2.sub (by decide)) q3
    ·
      refine w_al (j := 22) rfl rfl rfl ?_
      first | refine w_gr (j := 23) rfl rfl (by first | assumption | rfl) (by first | assumption | rfl) rfl ?_ | refine w_gi (j := 23) rfl rfl (by first | assumption | rfl) (by first | assumption | rfl) rfl rfl ?_
      refine w_il (j := 24) rfl rfl rfl ?_
      refine w_ial (j := 25) rfl rfl (by first | assumption | rfl) rfl (by omega) rfl r1' ?_
      refine w_bi (j := 26) (a := nI 6) rfl rfl (by decide) ?_
      refine w_neN (j := 27) rfl rfl (by omega) (by omega) (fun _ => ?_) (fun c => absurd c (fun c => by omega))
      exact tail h1 _ _ _ (q2.sub (by decide)) q3
  · subst k6
    refine w_neN (j := 6) rfl rfl (by omega) (by omega) (fun c => absurd c (fun z => z rfl)) (fun _ => ?_)
    show px_R _ _ _ _ _ _ _ _ _ (fun r => ∃ w h2, r = _ ∧ w = nI (i + 1) ∧ px_fr [42, 45, 57, 63, 64, 65, 66, 67] h h2 ∧ (∀ j, j ≠ 5 → j ≠ 6 → h2 57 j = h 57 j) ∧ h2 57 5 = nI (dn + if (pw_k6 cs N fd pt X).1 = true then 1 else 0) ∧ h2 57 6 = nI (rf + if (pw_k6 cs N fd pt X).1 = true then 0 else 1) ∧ pw_cR (pw_k6 cs N fd pt X).2 h2)
    unfold pw_k6
    refine w_al (j := 7) rfl rfl rfl ?_
    first | refine w_gr (j := 8) rfl rfl (by first | assumption | rfl) (by first | assumption | rfl) rfl ?_ | refine w_gi (j := 8) rfl rfl (by first | assumption | rfl) (by first | assumption | rfl) rfl q5 ?_
    refine w_si (j := 9) (a := nI 300) rfl rfl (by decide) ?_
    refine w_ge (j := 10) rfl rfl (fun d => ?_) (fun d => ?_)
    ·
      rw [if_neg (px_not_lt.mpr d)]
      refine w_ic (n := 0) (j := 13) rfl rfl ?_
      refine w_go rfl ?_
      refine w_iS (j := 19) rfl rfl rfl ?_
      refine w_iL (j := 20) rfl rfl rfl ?_
      refine w_eqM (j := 21) rfl rfl (by omega) (fun _ => ?_) (fun c => absurd c (fun c => by omega))
      exact tail h false _ _ px_fr.rf R
    ·
      rw [if_pos d]
      refine w_ic (n := 1) (j := 11) rfl rfl ?_
      refine w_go rfl ?_
      refine w_iS (j := 19) rfl rfl rfl ?_
      refine w_iL (j := 20) rfl rfl rfl ?_
      refine w_eqM (j := 21) rfl rfl (by omega) (fun c => absurd c (fun c => by omega)) (fun _ => ?_)
      refine w_al (j := 22) rfl rfl rfl ?_
      first | refine w_gr (j := 23) rfl rfl (by first | assumption | rfl) (by first | assumption | rfl) rfl ?_ | refine w_gi (j := 23) rfl rfl (by first | assumption | rfl) (by first | assumption | rfl) rfl rfl ?_
      refine w_il (j := 24) rfl rfl rfl ?_
      refine w_ial (j := 25) rfl rfl (by first | assumption | rfl) rfl (by omega) rfl r1 ?_
      refine w_bi (j := 26) (a := nI 6) rfl rfl (by decide) ?_
      refine w_neN (j := 27) rfl rfl (by omega) (by omega) (fun c => absurd c (fun z => z rfl)) (fun _ => ?_)
      refine w_al (j := 28) rfl rfl rfl ?_
      refine w_al (j := 29) rfl rfl rfl ?_
      refine w_cvPU (j := 30) rfl rfl rfl rfl (by first | assumption | rfl) rfl rfl (px_pass (fd := fd) (pt := pt) px_St64 e1 e2 e3 e4 e9 e10 e7 e8 R.1 ok.1) rfl ?_
      rintro h1 ⟨f1, f2, f3⟩
      exact tail h1 true (pf_yr cs N fd pt X.1, X.2) _ (f1.sub (by decide)) ⟨f2, f3.trans R.2⟩
end PW
