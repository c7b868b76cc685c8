section HD
variable {h : ix_H} {tx : Nat → Nat} {n p pc o k : Nat} {pl : Int32}
def hF (h h' : ix_H) : Prop := (∀ a, a ≠ 100 → ¬ (488 ≤ a ∧ a ≤ 493) → h' a = h a) ∧ ∀ j, 8 < j ∨ j ≤ 3 ∨ j = 7 → h' 100 j = h 100 j
theorem px_f1.hF {h h' : ix_H} (f : px_f1 h h') : hF h h' := ⟨fun a ha _ => f.1 a ha, fun j hj => f.2 j (by omega) (by omega) (by omega) (by omega)⟩
def hQ (h : ix_H) (K PL : Nat) (ls : List (Nat × Nat)) (r : ix_R) : Prop := ∃ v h', r = (.inl (some (.int v)), h', 0) ∧ v = (if K = 0 then nI ls.length else nI K - nI 10) ∧ (∀ a, a ≠ 100 → ¬ (488 ≤ a ∧ a ≤ 493) → ¬ (481 ≤ a ∧ a ≤ 486 ∧ K = 0) → h' a = h a) ∧ (∀ j, (8 < j ∧ (j ≠ 35 ∨ K ≠ 0)) ∨ j ≤ 2 ∨ j = 7 → h' 100 j = h 100 j) ∧ h' 100 3 = (if K = 0 then -1 else nI PL) ∧ (K = 0 → h' 100 35 = nI ls.length ∧ ∀ q c, ls[q]? = some c → h' (481 + q) 0 = nI c.1 ∧ h' (481 + q) 1 = nI c.2)
theorem hQ.fr {h h1 : ix_H} {K PL : Nat} {ls : List (Nat × Nat)} {r : ix_R} (f : hF h h1) (q : hQ h1 K PL ls r) : hQ h K PL ls r := by
  obtain ⟨v, h', e, q1, q2, q3, q4, q5⟩ := q
  refine ⟨v, h', e, q1, fun a a1 a2 a3 => (q2 a a1 a2 a3).trans (f.1 a a1 a2), fun j hj => (q3 j hj).trans (f.2 j (by omega)), q4, q5⟩
theorem gh_83 {f PL m : Nat} {w : Int32} {g3 g4 g5 : Value} {ls : List (Nat × Nat)} (hf : f ≠ 0) (r : px_mr h tx n p f (nI PL) o) : px_R px_E 3 mo_194 [] 83 [.ref 100, .int w, .int (nI m), g3, g4, g5] [] h 0 (hQ h f PL ls) := by
  have r5 := r.2.2.2.2.1
  have f3 := r.2.2.2.2.2.1
  refine w_al (j := 84) rfl rfl rfl ?_
  first | refine w_gr (j := 85) rfl rfl (by first | assumption | rfl) (by first | assumption | rfl) rfl ?_ | refine w_gi (j := 85) rfl rfl (by first | assumption | rfl) (by first | assumption | rfl) rfl r5 ?_
  refine w_neM (j := 86) rfl rfl (by omega) (fun _ => ?_) (fun c => absurd c (fun c => by omega))
  refine w_al (j := 102) rfl rfl rfl ?_
  refine w_cvPU (j := 103) rfl rfl rfl rfl (by first | assumption | rfl) rfl rfl (sp_161 r) rfl ?_
  rintro h1 ⟨u1, u2⟩
  have s5 := u2.2.2.2.2.1
  have s6 := u2.2.2.2.2.2.2.1
  refine w_go rfl ?_
  refine w_al (j := 28) rfl rfl rfl ?_
  first | refine w_gr (j := 29) rfl rfl (by first | assumption | rfl) (by first | assumption | rfl) rfl ?_ | refine w_gi (j := 29) rfl rfl (by first | assumption | rfl) (by first | assumption | rfl) rfl s5 ?_
  refine w_neM (j := 30) rfl rfl (by omega) (fun _ => ?_) (fun c => absurd c (fun c => by omega))
  refine w_al (j := 105) rfl rfl rfl ?_
  first | refine w_gr (j := 106) rfl rfl (by first | assumption | rfl) (by first | assumption | rfl) rfl ?_ | refine w_gi (j := 106) rfl rfl (by first | assumption | rfl) (by first | assumption | rfl) rfl s5 ?_
  refine w_eqM (j := 107) rfl rfl (by omega) (fun c => absurd c (fun c => by omega)) (fun _ => ?_)
  refine w_al (j := 108) rfl rfl rfl ?_
  refine w_cvI (j := 109) rfl rfl rfl rfl (by first | assumption | rfl) rfl rfl (sp_174) rfl ?_
  rw [s5, s6]
  refine w_ir rfl ?_
  refine hQ.fr u1.hF ⟨_, _, rfl, by rw [if_neg hf], fun a a1 _ _ => ix_up_ne a1, fun j hj => px_up_nk (by omega), ?_, fun z => absurd z hf⟩
  rw [px_up_at, if_neg hf]
theorem gh_75 {f PL m : Nat} {w : Int32} {g3 g4 g5 : Value} {ls : List (Nat × Nat)} (hf : f ≠ 0) (r : px_mr h tx n p f (nI PL) o) : px_R px_E 3 mo_194 [] 75 [.ref 100, .int w, .int (nI m), g3, g4, g5] [] h 0 (hQ h f PL ls) := by
  refine w_al (j := 76) rfl rfl rfl ?_
  refine w_ic (n := 0) (j := 77) rfl rfl ?_
  refine w_bi (j := 78) (a := nI 99) rfl rfl (by decide) ?_
  refine w_cvI (j := 79) rfl rfl rfl rfl (by first | assumption | rfl) rfl rfl (sp_165x hf r) rfl ?_
  refine w_iS (j := 80) rfl rfl rfl ?_
  refine w_al (j := 81) rfl rfl rfl ?_
  refine w_bi (j := 82) (a := nI 59) rfl rfl (by decide) ?_
  refine w_cvU (j := 83) rfl rfl rfl rfl (by first | assumption | rfl) rfl rfl (sp_171x hf r) rfl ?_
  exact gh_83 hf r
theorem gh_45 {f PL m : Nat} {w : Int32} {g3 g4 : Value} {ls : List (Nat × Nat)} (hf : f ≠ 0) (hm : m ≤ 6) (r : px_mr h tx n p f (nI PL) o) : ∀ j c, c + j = m → px_R px_E 3 mo_194 [] 45 [.ref 100, .int w, .int (nI m), g3, g4, .int (nI c)] [] h 0 (hQ h f PL ls) := by
  have r5 := r.2.2.2.2.1
  have f3 := r.2.2.2.2.2.1
  intro j
  induction j with
  | zero =>
    intro c hc
    refine w_iL (j := 46) rfl rfl rfl ?_
    refine w_il (j := 47) rfl rfl rfl ?_
    refine w_geN (j := 48) rfl rfl (by omega) (by omega) (fun _ => ?_) (fun c => absurd c (fun c => by omega))
    refine w_al (j := 66) rfl rfl rfl ?_
    first | refine w_gr (j := 67) rfl rfl (by first | assumption | rfl) (by first | assumption | rfl) rfl ?_ | refine w_gi (j := 67) rfl rfl (by first | assumption | rfl) (by first | assumption | rfl) rfl r5 ?_
    refine w_neM (j := 68) rfl rfl (by omega) (fun _ => ?_) (fun c => absurd c (fun c => by omega))
    exact gh_75 hf r
  | succ j ih =>
    intro c hc
    refine w_iL (j := 46) rfl rfl rfl ?_
    refine w_il (j := 47) rfl rfl rfl ?_
    refine w_geN (j := 48) rfl rfl (by omega) (by omega) (fun c => absurd c (fun c => by omega)) (fun _ => ?_)
    refine w_al (j := 49) rfl rfl rfl ?_
    first | refine w_gr (j := 50) rfl rfl (by first | assumption | rfl) (by first | assumption | rfl) rfl ?_ | refine w_gi (j := 50) rfl rfl (by first | assumption | rfl) (by first | assumption | rfl) rfl r5 ?_
    refine w_neM (j := 51) rfl rfl (by omega) (fun _ => ?_) (fun c => absurd c (fun c => by omega))
    first | refine w_incN (j := 64) rfl rfl rfl ?_ | refine w_inc (j := 64) rfl rfl rfl rfl ?_
    refine w_go rfl ?_
    exact ih (c + 1) (by omega)
def gh_rl (h : ix_H) (ls : List (Nat × Nat)) : Prop := ls.length ≤ 6 ∧ ∀ q c, ls[q]? = some c → h (488 + q) 0 = nI c.1 ∧ h (488 + q) 1 = nI c.2 ∧ c.1 ≤ 40
theorem gh_rl.of {h h' : ix_H} {ls : List (Nat × Nat)} (e : ∀ a, 488 ≤ a → a ≤ 493 → h' a = h a) (x : gh_rl h ls) : gh_rl h' ls := ⟨x.1, fun q c hq => by
  have := (List.getElem?_eq_some_iff.mp hq).1
  have := x.1
  rw [e (488 + q) (by omega) (by omega)]
  exact x.2 q c hq⟩
-- the model's loop from here ends so
def gH (tx : Nat → Nat) (n : Nat) (ls : List (Nat × Nat)) (s K PL : Nat) (ls' : List (Nat × Nat)) : Prop := ∀ (h : ix_H) (w : Int32) (g3 g4 g5 : Value), px_mr h tx n s 0 (-1) 0 → gh_rl h ls → px_R px_E 3 mo_194 [] 27 [.ref 100, .int w, .int (nI ls.length), g3, g4, g5] [] h 0 (hQ h K PL ls')
theorem px_sh487 : ∀ k, k < 6 → ix_sh (487 + 1 + k) = (1, 2, 0) := by decide
theorem px_sh480 : ∀ k, k < 6 → ix_sh (480 + 1 + k) = (1, 2, 0) := by decide
theorem px_sh488 : ∀ k, k < 6 → ix_sh (488 + k) = (1, 2, 0) := by decide
theorem gH1 {ls : List (Nat × Nat)} {s PL : Nat} (hs : ¬ s < n) : gH tx n ls s 0 PL ls := by
  intro h w g3 g4 g5 r rl
  have r2 := r.2.1
  have r4 := r.2.2.1
  have r3 := r.2.2.2.1
  have n6 := r.1.1
  have r5 := r.2.2.2.2.1
  have l6 := rl.1
  refine w_al (j := 28) rfl rfl rfl ?_
  first | refine w_gr (j := 29) rfl rfl (by first | assumption | rfl) (by first | assumption | rfl) rfl ?_ | refine w_gi (j := 29) rfl rfl (by first | assumption | rfl) (by first | assumption | rfl) rfl r5 ?_
  refine w_neM (j := 30) rfl rfl (by omega) (fun c => absurd c (fun c => by omega)) (fun _ => ?_)
  refine w_al (j := 31) rfl rfl rfl ?_
  first | refine w_gr (j := 32) rfl rfl (by first | assumption | rfl) (by first | assumption | rfl) rfl ?_ | refine w_gi (j := 32) rfl rfl (by first | assumption | rfl) (by first | assumption | rfl) rfl r4 ?_
  refine w_al (j := 33) rfl rfl rfl ?_
  first | refine w_gr (j := 34) rfl rfl (by first | assumption | rfl) (by first | assumption | rfl) rfl ?_ | refine w_gi (j := 34) rfl rfl (by first | assumption | rfl) (by first | assumption | rfl) rfl r2 ?_
  refine w_geN (j := 35) rfl rfl (by omega) (by omega) (fun _ => ?_) (fun c => absurd c (fun c => by omega))
  refine w_al (j := 105) rfl rfl rfl ?_
  first | refine w_gr (j := 106) rfl rfl (by first | assumption | rfl) (by first | assumption | rfl) rfl ?_ | refine w_gi (j := 106) rfl rfl (by first | assumption | rfl) (by first | assumption | rfl) rfl r5 ?_
  refine w_eqM (j := 107) rfl rfl (by omega) (fun _ => ?_) (fun c => absurd c (fun c => by omega))
  refine w_al (j := 111) rfl rfl rfl ?_
  refine w_im (j := 112) rfl rfl ?_
  refine w_pf (j := 113) rfl rfl (by first | assumption | rfl) (by first | assumption | rfl) rfl ?_
  refine w_al (j := 114) rfl rfl rfl ?_
  refine w_il (j := 115) rfl rfl rfl ?_
  refine w_pf (j := 116) rfl rfl (by first | assumption | rfl) (by first | assumption | rfl) rfl ?_
  refine w_al (j := 117) rfl rfl rfl ?_
  first | refine w_gr (j := 118) rfl rfl (by first | assumption | rfl) (by first | assumption | rfl) rfl ?_ | refine w_gi (j := 118) rfl rfl (by first | assumption | rfl) (by first | assumption | rfl) rfl rfl ?_
  refine w_al (j := 119) rfl rfl rfl ?_
  first | refine w_gr (j := 120) rfl rfl (by first | assumption | rfl) (by first | assumption | rfl) rfl ?_ | refine w_gi (j := 120) rfl rfl (by first | assumption | rfl) (by first | assumption | rfl) rfl rfl ?_
  refine w_il (j := 121) rfl rfl rfl ?_
  refine w_csPU (j := 122) rfl rfl rfl rfl rfl (sp_178 (N := 6) (l := 2) rfl rfl px_sh487 px_sh480 rfl rfl rl.1 (Or.inr (by decide))) rfl ?_
  rintro h1 ⟨u1, u2⟩
  refine w_il (j := 123) rfl rfl rfl ?_
  refine w_ir rfl ?_
  refine ⟨_, _, rfl, by rw [if_pos rfl], fun a a1 a2 a3 => ?_, fun j hj => ?_, ?_, fun _ => ⟨?_, fun q c hq => ?_⟩⟩
  · rw [u1 a (by omega), ix_up_ne a1, ix_up_ne a1]
  · rw [u1 100 (by omega), px_up_nk (by omega), px_up_nk (by omega)]
  · rw [u1 100 (by omega), px_up_nk (by decide), px_up_at, if_pos rfl]
  · rw [u1 100 (by omega), px_up_at]
  · have := (List.getElem?_eq_some_iff.mp hq).1
    have e := rl.2 q c hq
    have a0 := u2 q this 0 (by decide)
    have a1 := u2 q this 1 (by decide)
    rw [ix_up_ne (by omega), ix_up_ne (by omega)] at a0 a1
    exact ⟨a0.trans e.1, a1.trans e.2.1⟩
theorem gH2 {ls ls' : List (Nat × Nat)} {s : Nat} (hs : s < n) (hk : gx_nk tx n 0 41 s ≠ 0) : gH tx n ls s (gx_nk tx n 0 41 s) (gx_sk tx n s) ls' := by
  intro h w g3 g4 g5 r rl
  have r2 := r.2.1
  have r4 := r.2.2.1
  have n6 := r.1.1
  have r5 := r.2.2.2.2.1
  refine w_al (j := 28) rfl rfl rfl ?_
  first | refine w_gr (j := 29) rfl rfl (by first | assumption | rfl) (by first | assumption | rfl) rfl ?_ | refine w_gi (j := 29) rfl rfl (by first | assumption | rfl) (by first | assumption | rfl) rfl r5 ?_
  refine w_neM (j := 30) rfl rfl (by omega) (fun c => absurd c (fun c => by omega)) (fun _ => ?_)
  refine w_al (j := 31) rfl rfl rfl ?_
  first | refine w_gr (j := 32) rfl rfl (by first | assumption | rfl) (by first | assumption | rfl) rfl ?_ | refine w_gi (j := 32) rfl rfl (by first | assumption | rfl) (by first | assumption | rfl) rfl r4 ?_
  refine w_al (j := 33) rfl rfl rfl ?_
  first | refine w_gr (j := 34) rfl rfl (by first | assumption | rfl) (by first | assumption | rfl) rfl ?_ | refine w_gi (j := 34) rfl rfl (by first | assumption | rfl) (by first | assumption | rfl) rfl r2 ?_
  refine w_geN (j := 35) rfl rfl (by omega) (by omega) (fun c => absurd c (fun c => by omega)) (fun _ => ?_)
  refine w_al (j := 36) rfl rfl rfl ?_
  first | refine w_gr (j := 37) rfl rfl (by first | assumption | rfl) (by first | assumption | rfl) rfl ?_ | refine w_gi (j := 37) rfl rfl (by first | assumption | rfl) (by first | assumption | rfl) rfl r4 ?_
  refine w_is (j := 38) rfl rfl rfl ?_
  refine w_al (j := 39) rfl rfl rfl ?_
  refine w_ic (n := 0) (j := 40) rfl rfl ?_
  refine w_bi (j := 41) (a := nI 40) rfl rfl (by decide) ?_
  refine w_cvPI (j := 42) rfl rfl rfl rfl (by first | assumption | rfl) rfl rfl (sp_165 (lo := 0) (H := 41) (by decide) (px_hiN (a := 40) (by decide)) (by decide) r) rfl ?_
  rintro v h1 ⟨q1, q2, q3⟩
  rw [if_neg hk] at q3
  refine w_iS (j := 43) rfl rfl rfl ?_
  refine w_ic (n := 0) (j := 44) rfl rfl ?_
  refine w_iS (j := 45) rfl rfl rfl ?_
  exact px_mono (gh_45 hk rl.1 q3 ls.length 0 (by omega)) (fun r q => hQ.fr q2.hF q)
theorem gh_dup {ls ls' : List (Nat × Nat)} {a s q0 : Nat} {c0 : Nat × Nat} {w : Int32} (ha : a ≤ 40) (rl : gh_rl h ls) (h0 : ls[q0]? = some c0) (e0 : c0.1 = a) (e1 : ∀ (q : Nat) (c : Nat × Nat), q < q0 → ls[q]? = some c → c.1 ≠ a) (r : px_mr h tx n p 0 (-1) 0) : ∀ j c, c + j = q0 → px_R px_E 3 mo_194 [] 45 [.ref 100, .int w, .int (nI ls.length), .int (nI s), .int (nI a), .int (nI c)] [] h 0 (hQ h 2 s ls') := by
  have hq := (List.getElem?_eq_some_iff.mp h0).1
  have l6 := rl.1
  have r5 := r.2.2.2.2.1
  intro j
  induction j with
  | zero =>
    intro c hc
    rw [show c = q0 by omega]
    have sx := px_sh488 q0 (by omega)
    obtain ⟨v0, v1, v2⟩ := rl.2 q0 c0 h0
    rw [e0] at v0
    refine w_iL (j := 46) rfl rfl rfl ?_
    refine w_il (j := 47) rfl rfl rfl ?_
    refine w_geN (j := 48) rfl rfl (by omega) (by omega) (fun c => absurd c (fun c => by omega)) (fun _ => ?_)
    refine w_al (j := 49) rfl rfl rfl ?_
    first | refine w_gr (j := 50) rfl rfl (by first | assumption | rfl) (by first | assumption | rfl) rfl ?_ | refine w_gi (j := 50) rfl rfl (by first | assumption | rfl) (by first | assumption | rfl) rfl r5 ?_
    refine w_neM (j := 51) rfl rfl (by omega) (fun c => absurd c (fun c => by omega)) (fun _ => ?_)
    refine w_al (j := 52) rfl rfl rfl ?_
    first | refine w_gr (j := 53) rfl rfl (by first | assumption | rfl) (by first | assumption | rfl) rfl ?_ | refine w_gi (j := 53) rfl rfl (by first | assumption | rfl) (by first | assumption | rfl) rfl rfl ?_
    refine w_iL (j := 54) rfl rfl rfl ?_
    refine w_aal (j := 55) rfl rfl (by first | assumption | rfl) rfl (by omega) rfl ?_
    refine w_ic (n := 0) (j := 56) rfl rfl ?_
    refine w_ial (j := 57) rfl rfl (by first | assumption | rfl) rfl (by omega) rfl v0 ?_
    refine w_iL (j := 58) rfl rfl rfl ?_
    refine w_neN (j := 59) rfl rfl (by omega) (by omega) (fun c => absurd c (fun z => z rfl)) (fun _ => ?_)
    refine w_al (j := 60) rfl rfl rfl ?_
    refine w_ic (n := 2) (j := 61) rfl rfl ?_
    refine w_il (j := 62) rfl rfl rfl ?_
    refine w_cvPU (j := 63) rfl rfl rfl rfl (by first | assumption | rfl) rfl rfl (sp_162 (kd := 2) (by decide) r) rfl ?_
    rintro h1 ⟨u1, u2⟩
    rw [if_pos rfl, if_pos rfl] at u2
    first | refine w_incN (j := 64) rfl rfl rfl ?_ | refine w_inc (j := 64) rfl rfl rfl rfl ?_
    refine w_go rfl ?_
    exact px_mono (gh_45 (by decide) rl.1 u2 (ls.length - (q0 + 1)) (q0 + 1) (by omega)) (fun r q => hQ.fr u1.hF q)
  | succ j ih =>
    intro c hc
    have hc2 : c < ls.length := by omega
    have sx := px_sh488 c (by omega)
    have hg := List.getElem?_eq_getElem hc2
    obtain ⟨v0, v1, v2⟩ := rl.2 c _ hg
    have ne := e1 c _ (by omega) hg
    refine w_iL (j := 46) rfl rfl rfl ?_
    refine w_il (j := 47) rfl rfl rfl ?_
    refine w_geN (j := 48) rfl rfl (by omega) (by omega) (fun c => absurd c (fun c => by omega)) (fun _ => ?_)
    refine w_al (j := 49) rfl rfl rfl ?_
    first | refine w_gr (j := 50) rfl rfl (by first | assumption | rfl) (by first | assumption | rfl) rfl ?_ | refine w_gi (j := 50) rfl rfl (by first | assumption | rfl) (by first | assumption | rfl) rfl r5 ?_
    refine w_neM (j := 51) rfl rfl (by omega) (fun c => absurd c (fun c => by omega)) (fun _ => ?_)
    refine w_al (j := 52) rfl rfl rfl ?_
    first | refine w_gr (j := 53) rfl rfl (by first | assumption | rfl) (by first | assumption | rfl) rfl ?_ | refine w_gi (j := 53) rfl rfl (by first | assumption | rfl) (by first | assumption | rfl) rfl rfl ?_
    refine w_iL (j := 54) rfl rfl rfl ?_
    refine w_aal (j := 55) rfl rfl (by first | assumption | rfl) rfl (by omega) rfl ?_
    refine w_ic (n := 0) (j := 56) rfl rfl ?_
    refine w_ial (j := 57) rfl rfl (by first | assumption | rfl) rfl (by omega) rfl v0 ?_
    refine w_iL (j := 58) rfl rfl rfl ?_
    refine w_neN (j := 59) rfl rfl (by omega) (by omega) (fun _ => ?_) (fun c => absurd c (fun z => ne z))
    first | refine w_incN (j := 64) rfl rfl rfl ?_ | refine w_inc (j := 64) rfl rfl rfl rfl ?_
    refine w_go rfl ?_
    exact ih (c + 1) (by omega)
theorem gh_nd {Q : ix_R → Prop} {ls : List (Nat × Nat)} {a : Nat} {w : Int32} {g3 : Value} (ha : a ≤ 40) (rl : gh_rl h ls) (e1 : ∀ (q : Nat) (c : Nat × Nat), ls[q]? = some c → c.1 ≠ a) (r : px_mr h tx n p 0 (-1) 0) (H : px_R px_E 3 mo_194 [] 68 [.ref 100, .int w, .int (nI ls.length), g3, .int (nI a), .int (nI ls.length)] [] h 0 Q) : ∀ j c, c + j = ls.length → px_R px_E 3 mo_194 [] 45 [.ref 100, .int w, .int (nI ls.length), g3, .int (nI a), .int (nI c)] [] h 0 Q := by
  have l6 := rl.1
  have r5 := r.2.2.2.2.1
  intro j
  induction j with
  | zero =>
    intro c hc
    rw [show c = ls.length by omega]
    refine w_iL (j := 46) rfl rfl rfl ?_
    refine w_il (j := 47) rfl rfl rfl ?_
    refine w_geN (j := 48) rfl rfl (by omega) (by omega) (fun _ => ?_) (fun c => absurd c (fun c => by omega))
    refine w_al (j := 66) rfl rfl rfl ?_
    first | refine w_gr (j := 67) rfl rfl (by first | assumption | rfl) (by first | assumption | rfl) rfl ?_ | refine w_gi (j := 67) rfl rfl (by first | assumption | rfl) (by first | assumption | rfl) rfl r5 ?_
    refine w_neM (j := 68) rfl rfl (by omega) (fun c => absurd c (fun c => by omega)) (fun _ => ?_)
    exact H
  | succ j ih =>
    intro c hc
    have hc2 : c < ls.length := by omega
    have sx := px_sh488 c (by omega)
    have hg := List.getElem?_eq_getElem hc2
    obtain ⟨v0, v1, v2⟩ := rl.2 c _ hg
    have ne := e1 c _ hg
    refine w_iL (j := 46) rfl rfl rfl ?_
    refine w_il (j := 47) rfl rfl rfl ?_
    refine w_geN (j := 48) rfl rfl (by omega) (by omega) (fun c => absurd c (fun c => by omega)) (fun _ => ?_)
    refine w_al (j := 49) rfl rfl rfl ?_
    first | refine w_gr (j := 50) rfl rfl (by first | assumption | rfl) (by first | assumption | rfl) rfl ?_ | refine w_gi (j := 50) rfl rfl (by first | assumption | rfl) (by first | assumption | rfl) rfl r5 ?_
    refine w_neM (j := 51) rfl rfl (by omega) (fun c => absurd c (fun c => by omega)) (fun _ => ?_)
    refine w_al (j := 52) rfl rfl rfl ?_
    first | refine w_gr (j := 53) rfl rfl (by first | assumption | rfl) (by first | assumption | rfl) rfl ?_ | refine w_gi (j := 53) rfl rfl (by first | assumption | rfl) (by first | assumption | rfl) rfl rfl ?_
    refine w_iL (j := 54) rfl rfl rfl ?_
    refine w_aal (j := 55) rfl rfl (by first | assumption | rfl) rfl (by omega) rfl ?_
    refine w_ic (n := 0) (j := 56) rfl rfl ?_
    refine w_ial (j := 57) rfl rfl (by first | assumption | rfl) rfl (by omega) rfl v0 ?_
    refine w_iL (j := 58) rfl rfl rfl ?_
    refine w_neN (j := 59) rfl rfl (by omega) (by omega) (fun _ => ?_) (fun c => absurd c (fun z => ne z))
    first | refine w_incN (j := 64) rfl rfl rfl ?_ | refine w_inc (j := 64) rfl rfl rfl rfl ?_
    refine w_go rfl ?_
    exact ih (c + 1) (by omega)
theorem gx_nv41 {lo H s : Nat} (hk : gx_nk tx n lo H s = 0) : lo ≤ gx_nv tx n s ∧ gx_nv tx n s < H := by
  unfold gx_nk at hk
  unfold gx_nv
  split at hk
  · omega
  · split at hk
    · assumption
    · omega
theorem gH3 {ls ls' : List (Nat × Nat)} {s q0 : Nat} {c0 : Nat × Nat} (hs : s < n) (hk : gx_nk tx n 0 41 s = 0) (h0 : ls[q0]? = some c0) (e0 : c0.1 = gx_nv tx n s) (e1 : ∀ (q : Nat) (c : Nat × Nat), q < q0 → ls[q]? = some c → c.1 ≠ gx_nv tx n s) : gH tx n ls s 2 s ls' := by
  intro h w g3 g4 g5 r rl
  have r2 := r.2.1
  have r4 := r.2.2.1
  have n6 := r.1.1
  have r5 := r.2.2.2.2.1
  have nv := gx_nv41 hk
  refine w_al (j := 28) rfl rfl rfl ?_
  first | refine w_gr (j := 29) rfl rfl (by first | assumption | rfl) (by first | assumption | rfl) rfl ?_ | refine w_gi (j := 29) rfl rfl (by first | assumption | rfl) (by first | assumption | rfl) rfl r5 ?_
  refine w_neM (j := 30) rfl rfl (by omega) (fun c => absurd c (fun c => by omega)) (fun _ => ?_)
  refine w_al (j := 31) rfl rfl rfl ?_
  first | refine w_gr (j := 32) rfl rfl (by first | assumption | rfl) (by first | assumption | rfl) rfl ?_ | refine w_gi (j := 32) rfl rfl (by first | assumption | rfl) (by first | assumption | rfl) rfl r4 ?_
  refine w_al (j := 33) rfl rfl rfl ?_
  first | refine w_gr (j := 34) rfl rfl (by first | assumption | rfl) (by first | assumption | rfl) rfl ?_ | refine w_gi (j := 34) rfl rfl (by first | assumption | rfl) (by first | assumption | rfl) rfl r2 ?_
  refine w_geN (j := 35) rfl rfl (by omega) (by omega) (fun c => absurd c (fun c => by omega)) (fun _ => ?_)
  refine w_al (j := 36) rfl rfl rfl ?_
  first | refine w_gr (j := 37) rfl rfl (by first | assumption | rfl) (by first | assumption | rfl) rfl ?_ | refine w_gi (j := 37) rfl rfl (by first | assumption | rfl) (by first | assumption | rfl) rfl r4 ?_
  refine w_is (j := 38) rfl rfl rfl ?_
  refine w_al (j := 39) rfl rfl rfl ?_
  refine w_ic (n := 0) (j := 40) rfl rfl ?_
  refine w_bi (j := 41) (a := nI 40) rfl rfl (by decide) ?_
  refine w_cvPI (j := 42) rfl rfl rfl rfl (by first | assumption | rfl) rfl rfl (sp_165 (lo := 0) (H := 41) (by decide) (px_hiN (a := 40) (by decide)) (by decide) r) rfl ?_
  rintro v h1 ⟨q1, q2, q3⟩
  rw [if_pos hk] at q1
  rw [hk, if_pos rfl] at q3
  subst q1
  refine w_iS (j := 43) rfl rfl rfl ?_
  refine w_ic (n := 0) (j := 44) rfl rfl ?_
  refine w_iS (j := 45) rfl rfl rfl ?_
  exact px_mono (gh_dup (by omega) (rl.of (fun a _ _ => q2.1 a (by omega))) h0 e0 e1 q3 q0 0 (by omega)) (fun r q => hQ.fr q2.hF q)
-- a good age that stands in no line yet
theorem gh_68 {K PL : Nat} {ls ls' : List (Nat × Nat)} {s : Nat} (hs : s < n) (hk : gx_nk tx n 0 41 s = 0) (e1 : ∀ (q : Nat) (c : Nat × Nat), ls[q]? = some c → c.1 ≠ gx_nv tx n s) (H : ∀ (h : ix_H) (w : Int32), gh_rl h ls → px_mr h tx n (gx_ne tx n s) 0 (-1) 0 → px_R px_E 3 mo_194 [] 68 [.ref 100, .int w, .int (nI ls.length), .int (nI s), .int (nI (gx_nv tx n s)), .int (nI ls.length)] [] h 0 (hQ h K PL ls')) : gH tx n ls s K PL ls' := by
  intro h w g3 g4 g5 r rl
  have r2 := r.2.1
  have r4 := r.2.2.1
  have n6 := r.1.1
  have r5 := r.2.2.2.2.1
  have nv := gx_nv41 hk
  refine w_al (j := 28) rfl rfl rfl ?_
  first | refine w_gr (j := 29) rfl rfl (by first | assumption | rfl) (by first | assumption | rfl) rfl ?_ | refine w_gi (j := 29) rfl rfl (by first | assumption | rfl) (by first | assumption | rfl) rfl r5 ?_
  refine w_neM (j := 30) rfl rfl (by omega) (fun c => absurd c (fun c => by omega)) (fun _ => ?_)
  refine w_al (j := 31) rfl rfl rfl ?_
  first | refine w_gr (j := 32) rfl rfl (by first | assumption | rfl) (by first | assumption | rfl) rfl ?_ | refine w_gi (j := 32) rfl rfl (by first | assumption | rfl) (by first | assumption | rfl) rfl r4 ?_
  refine w_al (j := 33) rfl rfl rfl ?_
  first | refine w_gr (j := 34) rfl rfl (by first | assumption | rfl) (by first | assumption | rfl) rfl ?_ | refine w_gi (j := 34) rfl rfl (by first | assumption | rfl) (by first | assumption | rfl) rfl r2 ?_
  refine w_geN (j := 35) rfl rfl (by omega) (by omega) (fun c => absurd c (fun c => by omega)) (fun _ => ?_)
  refine w_al (j := 36) rfl rfl rfl ?_
  first | refine w_gr (j := 37) rfl rfl (by first | assumption | rfl) (by first | assumption | rfl) rfl ?_ | refine w_gi (j := 37) rfl rfl (by first | assumption | rfl) (by first | assumption | rfl) rfl r4 ?_
  refine w_is (j := 38) rfl rfl rfl ?_
  refine w_al (j := 39) rfl rfl rfl ?_
  refine w_ic (n := 0) (j := 40) rfl rfl ?_
  refine w_bi (j := 41) (a := nI 40) rfl rfl (by decide) ?_
  refine w_cvPI (j := 42) rfl rfl rfl rfl (by first | assumption | rfl) rfl rfl (sp_165 (lo := 0) (H := 41) (by decide) (px_hiN (a := 40) (by decide)) (by decide) r) rfl ?_
  rintro v h1 ⟨q1, q2, q3⟩
  rw [if_pos hk] at q1
  rw [hk, if_pos rfl] at q3
  subst q1
  have rl1 := rl.of (fun a _ _ => q2.1 a (by omega))
  refine w_iS (j := 43) rfl rfl rfl ?_
  refine w_ic (n := 0) (j := 44) rfl rfl ?_
  refine w_iS (j := 45) rfl rfl rfl ?_
  exact px_mono (gh_nd (by omega) rl1 e1 q3 (H h1 w rl1 q3) ls.length 0 (by omega)) (fun r q => hQ.fr q2.hF q)
theorem gH4 {ls ls' : List (Nat × Nat)} {s : Nat} (hs : s < n) (hk : gx_nk tx n 0 41 s = 0) (e1 : ∀ (q : Nat) (c : Nat × Nat), ls[q]? = some c → c.1 ≠ gx_nv tx n s) (l6 : ls.length = 6) : gH tx n ls s 3 s ls' := by
  refine gh_68 hs hk e1 (fun h w rl r => ?_)
  refine w_il (j := 69) rfl rfl rfl ?_
  refine w_bi (j := 70) (a := nI 6) rfl rfl (by decide) ?_
  refine w_neN (j := 71) rfl rfl (by omega) (by omega) (fun c => absurd c (fun z => z l6)) (fun _ => ?_)
  refine w_al (j := 72) rfl rfl rfl ?_
  refine w_ic (n := 3) (j := 73) rfl rfl ?_
  refine w_il (j := 74) rfl rfl rfl ?_
  refine w_cvPU (j := 75) rfl rfl rfl rfl (by first | assumption | rfl) rfl rfl (sp_162 (kd := 3) (by decide) r) rfl ?_
  rintro h1 ⟨u1, u2⟩
  rw [if_pos rfl, if_pos rfl] at u2
  exact px_mono (gh_75 (by decide) u2) (fun r q => hQ.fr u1.hF q)
theorem gH5 {ls ls' : List (Nat × Nat)} {s : Nat} (hs : s < n) (hk : gx_nk tx n 0 41 s = 0) (e1 : ∀ (q : Nat) (c : Nat × Nat), ls[q]? = some c → c.1 ≠ gx_nv tx n s) (l6 : ls.length < 6) (hk2 : gx_nk tx n 0 100 (gx_ne tx n s) ≠ 0) : gH tx n ls s (gx_nk tx n 0 100 (gx_ne tx n s)) (gx_sk tx n (gx_ne tx n s)) ls' := by
  refine gh_68 hs hk e1 (fun h w rl r => ?_)
  refine w_il (j := 69) rfl rfl rfl ?_
  refine w_bi (j := 70) (a := nI 6) rfl rfl (by decide) ?_
  refine w_neN (j := 71) rfl rfl (by omega) (by omega) (fun _ => ?_) (fun c => absurd c (fun c => by omega))
  refine w_al (j := 76) rfl rfl rfl ?_
  refine w_ic (n := 0) (j := 77) rfl rfl ?_
  refine w_bi (j := 78) (a := nI 99) rfl rfl (by decide) ?_
  refine w_cvPI (j := 79) rfl rfl rfl rfl (by first | assumption | rfl) rfl rfl (sp_165 (lo := 0) (H := 100) (by decide) (px_hiN (a := 99) (by decide)) (by decide) r) rfl ?_
  rintro v h1 ⟨q1, q2, q3⟩
  rw [if_neg hk2] at q3
  refine w_iS (j := 80) rfl rfl rfl ?_
  refine w_al (j := 81) rfl rfl rfl ?_
  refine w_bi (j := 82) (a := nI 59) rfl rfl (by decide) ?_
  refine w_cvU (j := 83) rfl rfl rfl rfl (by first | assumption | rfl) rfl rfl (sp_171x hk2 q3) rfl ?_
  exact px_mono (gh_83 hk2 q3) (fun r q => hQ.fr q2.hF q)
theorem gH6 {ls ls' : List (Nat × Nat)} {s : Nat} (hs : s < n) (hk : gx_nk tx n 0 41 s = 0) (e1 : ∀ (q : Nat) (c : Nat × Nat), ls[q]? = some c → c.1 ≠ gx_nv tx n s) (l6 : ls.length < 6) (hk2 : gx_nk tx n 0 100 (gx_ne tx n s) = 0) (hz : ¬ (gx_sk tx n (gx_ne tx n (gx_ne tx n s)) < n ∧ tx (gx_sk tx n (gx_ne tx n (gx_ne tx n s))) = 59)) : gH tx n ls s 1 (gx_sk tx n (gx_ne tx n (gx_ne tx n s))) ls' := by
  refine gh_68 hs hk e1 (fun h w rl r => ?_)
  refine w_il (j := 69) rfl rfl rfl ?_
  refine w_bi (j := 70) (a := nI 6) rfl rfl (by decide) ?_
  refine w_neN (j := 71) rfl rfl (by omega) (by omega) (fun _ => ?_) (fun c => absurd c (fun c => by omega))
  refine w_al (j := 76) rfl rfl rfl ?_
  refine w_ic (n := 0) (j := 77) rfl rfl ?_
  refine w_bi (j := 78) (a := nI 99) rfl rfl (by decide) ?_
  refine w_cvPI (j := 79) rfl rfl rfl rfl (by first | assumption | rfl) rfl rfl (sp_165 (lo := 0) (H := 100) (by decide) (px_hiN (a := 99) (by decide)) (by decide) r) rfl ?_
  rintro v h1 ⟨q1, q2, q3⟩
  rw [hk2, if_pos rfl] at q3
  refine w_iS (j := 80) rfl rfl rfl ?_
  refine w_al (j := 81) rfl rfl rfl ?_
  refine w_bi (j := 82) (a := nI 59) rfl rfl (by decide) ?_
  refine w_cvPU (j := 83) rfl rfl rfl rfl (by first | assumption | rfl) rfl rfl (sp_171 (c := 59) (by decide) q3) rfl ?_
  rintro h2 ⟨u1, u2⟩
  rw [if_neg hz] at u2
  exact px_mono (gh_83 (by decide) u2) (fun r q => hQ.fr (q2.tr u1).hF q)
theorem gH7 {ls ls' : List (Nat × Nat)} {s K PL : Nat} (hs : s < n) (hk : gx_nk tx n 0 41 s = 0) (e1 : ∀ (q : Nat) (c : Nat × Nat), ls[q]? = some c → c.1 ≠ gx_nv tx n s) (l6 : ls.length < 6) (hk2 : gx_nk tx n 0 100 (gx_ne tx n s) = 0) (hz : gx_sk tx n (gx_ne tx n (gx_ne tx n s)) < n ∧ tx (gx_sk tx n (gx_ne tx n (gx_ne tx n s))) = 59) (D : gH tx n (ls ++ [(gx_nv tx n s, gx_nv tx n (gx_ne tx n s))]) (gx_sk tx n (gx_sk tx n (gx_ne tx n (gx_ne tx n s)) + 1)) K PL ls') : gH tx n ls s K PL ls' := by
  refine gh_68 hs hk e1 (fun h w rl r => ?_)
  have nv := gx_nv41 hk
  refine w_il (j := 69) rfl rfl rfl ?_
  refine w_bi (j := 70) (a := nI 6) rfl rfl (by decide) ?_
  refine w_neN (j := 71) rfl rfl (by omega) (by omega) (fun _ => ?_) (fun c => absurd c (fun c => by omega))
  refine w_al (j := 76) rfl rfl rfl ?_
  refine w_ic (n := 0) (j := 77) rfl rfl ?_
  refine w_bi (j := 78) (a := nI 99) rfl rfl (by decide) ?_
  refine w_cvPI (j := 79) rfl rfl rfl rfl (by first | assumption | rfl) rfl rfl (sp_165 (lo := 0) (H := 100) (by decide) (px_hiN (a := 99) (by decide)) (by decide) r) rfl ?_
  rintro v h1 ⟨q1, q2, q3⟩
  rw [if_pos hk2] at q1
  rw [hk2, if_pos rfl] at q3
  subst q1
  refine w_iS (j := 80) rfl rfl rfl ?_
  refine w_al (j := 81) rfl rfl rfl ?_
  refine w_bi (j := 82) (a := nI 59) rfl rfl (by decide) ?_
  refine w_cvPU (j := 83) rfl rfl rfl rfl (by first | assumption | rfl) rfl rfl (sp_171 (c := 59) (by decide) q3) rfl ?_
  rintro h2 ⟨u1, u2⟩
  rw [if_pos hz] at u2
  have u5 := u2.2.2.2.2.1
  have sx := px_sh488 ls.length l6
  refine w_al (j := 84) rfl rfl rfl ?_
  first | refine w_gr (j := 85) rfl rfl (by first | assumption | rfl) (by first | assumption | rfl) rfl ?_ | refine w_gi (j := 85) rfl rfl (by first | assumption | rfl) (by first | assumption | rfl) rfl u5 ?_
  refine w_neM (j := 86) rfl rfl (by omega) (fun c => absurd c (fun c => by omega)) (fun _ => ?_)
  refine w_al (j := 87) rfl rfl rfl ?_
  first | refine w_gr (j := 88) rfl rfl (by first | assumption | rfl) (by first | assumption | rfl) rfl ?_ | refine w_gi (j := 88) rfl rfl (by first | assumption | rfl) (by first | assumption | rfl) rfl rfl ?_
  refine w_il (j := 89) rfl rfl rfl ?_
  refine w_aal (j := 90) rfl rfl (by first | assumption | rfl) rfl (by omega) rfl ?_
  refine w_ic (n := 0) (j := 91) rfl rfl ?_
  refine w_iL (j := 92) rfl rfl rfl ?_
  refine w_ias (j := 93) rfl rfl (by first | assumption | rfl) rfl (by omega) rfl ?_
  refine w_al (j := 94) rfl rfl rfl ?_
  first | refine w_gr (j := 95) rfl rfl (by first | assumption | rfl) (by first | assumption | rfl) rfl ?_ | refine w_gi (j := 95) rfl rfl (by first | assumption | rfl) (by first | assumption | rfl) rfl rfl ?_
  refine w_il (j := 96) rfl rfl rfl ?_
  refine w_aal (j := 97) rfl rfl (by first | assumption | rfl) rfl (by omega) rfl ?_
  refine w_ic (n := 1) (j := 98) rfl rfl ?_
  refine w_iL (j := 99) rfl rfl rfl ?_
  refine w_ias (j := 100) rfl rfl (by first | assumption | rfl) rfl (by omega) rfl ?_
  first | refine w_incN (j := 101) rfl rfl rfl ?_ | refine w_inc (j := 101) rfl rfl rfl rfl ?_
  refine w_al (j := 102) rfl rfl rfl ?_
  have u3 : px_mr (ix_up (ix_up h2 (488 + ls.length) 0 (nI (gx_nv tx n s))) (488 + ls.length) 1 (nI (gx_nv tx n (gx_ne tx n s)))) tx n (gx_sk tx n (gx_ne tx n (gx_ne tx n s)) + 1) 0 (-1) 0 := u2.of (by rw [ix_up_ne (by omega), ix_up_ne (by omega)]) (by rw [ix_up_ne (by omega), ix_up_ne (by omega)]) (fun j _ => by rw [ix_up_ne (by omega), ix_up_ne (by omega)])
  refine w_cvPU (j := 103) rfl rfl rfl rfl (by first | assumption | rfl) rfl rfl (sp_161 u3) rfl ?_
  rintro h3 ⟨v1, v2⟩
  refine w_go rfl ?_
  have F : hF h h3 := by
    have F1 := (q2.tr u1).hF
    have F2 := v1.hF
    refine ⟨fun a a1 a2 => ?_, fun j hj => ?_⟩
    · rw [F2.1 a a1 a2, ix_up_ne (by omega), ix_up_ne (by omega)]; exact F1.1 a a1 a2
    · rw [F2.2 j hj, ix_up_ne (by omega), ix_up_ne (by omega)]; exact F1.2 j hj
  have rl3 : gh_rl h3 (ls ++ [(gx_nv tx n s, gx_nv tx n (gx_ne tx n s))]) := by
    refine ⟨by rw [List.length_append, List.length_singleton]; omega, fun q c hq => ?_⟩
    rw [v1.1 _ (by omega)]
    by_cases e : q < ls.length
    · rw [List.getElem?_append_left e] at hq
      rw [ix_up_ne (by omega), ix_up_ne (by omega), u1.1 _ (by omega), q2.1 _ (by omega)]
      exact rl.2 q c hq
    · rw [List.getElem?_append_right (by omega)] at hq
      have : q = ls.length := by
        have := (List.getElem?_eq_some_iff.mp hq).1
        rw [List.length_singleton] at this
        omega
      subst this
      rw [Nat.sub_self] at hq
      cases hq
      exact ⟨by rw [px_up_nk (by decide), px_up_at], px_up_at, by show gx_nv tx n s ≤ 40; omega⟩
  have D1 := D h3 w (.int (nI s)) (.int (nI (gx_nv tx n s))) (.int (nI (gx_nv tx n (gx_ne tx n s)))) v2 rl3
  rw [List.length_append, List.length_singleton] at D1
  exact px_mono D1 (fun r q => hQ.fr F q)
end HD
