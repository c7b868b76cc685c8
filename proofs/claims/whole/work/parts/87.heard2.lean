section HD
variable {h : ix_H} {tx : Nat → Nat} {n p pc o k : Nat} {pl : Int32}
def gh_cl (h : ix_H) (ls : List (Nat × Nat)) : Prop := h 54 2 = nI ls.length ∧ ls.length ≤ 6 ∧ (∀ (q : Nat) (c : Nat × Nat), ls[q]? = some c → h 55 q = nI c.1 ∧ h 56 q = nI c.2 ∧ c.1 ≤ 40 ∧ c.2 ≤ 99) ∧ ∀ (i j : Nat) (ci cj : Nat × Nat), i < j → ls[i]? = some ci → ls[j]? = some cj → ci.1 ≠ cj.1
theorem gh_cl.of {h h' : ix_H} {ls : List (Nat × Nat)} (e1 : h' 54 = h 54) (e2 : h' 55 = h 55) (e3 : h' 56 = h 56) (x : gh_cl h ls) : gh_cl h' ls := by
  unfold gh_cl at x ⊢
  rw [e1, e2, e3]
  exact x
def gh_cq (h : ix_H) (tx : Nat → Nat) (n : Nat) (ls : List (Nat × Nat)) (s : Nat) (r : ix_R) : Prop := ∃ K PL ls' h', r = (.inl none, h', 0) ∧ gH tx n ls s K PL ls' ∧ px_fr [2, 54, 55, 56] h h' ∧ (K ≠ 0 → px_rf h' tx n 0 K (nI PL)) ∧ (K = 0 → (∃ p pc, px_rd h' tx n p pc 0 0 (-1)) ∧ gh_cl h' ls')
theorem gh_cq.fr {h h1 : ix_H} {ls ls1 : List (Nat × Nat)} {s s1 : Nat} {r : ix_R} (f : px_fr [2, 54, 55, 56] h h1) (g : ∀ K PL ls', gH tx n ls1 s1 K PL ls' → gH tx n ls s K PL ls') (q : gh_cq h1 tx n ls1 s1 r) : gh_cq h tx n ls s r := by
  obtain ⟨K, PL, ls', h', e, D, f1, q1, q2⟩ := q
  exact ⟨K, PL, ls', h', e, g _ _ _ D, f.tr f1, q1, q2⟩
theorem ch_5f {PL m s : Nat} {g3 g4 : Value} {ls ls' : List (Nat × Nat)} (hm : m ≤ 7) (r : px_rf h tx n 0 k (nI PL)) (D : gH tx n ls s k PL ls') : px_R px_E 3 mo_12 [] 5 [.ref 54, .ref 2, .int (nI m), g3, g4] [] h 0 (gh_cq h tx n ls s) := by
  have fin : gh_cq h tx n ls s (.inl none, h, 0) := ⟨k, PL, ls', h, rfl, D, px_fr.rf, fun _ => r, fun z => absurd z r.1⟩
  refine w_il (j := 6) rfl rfl rfl ?_
  refine w_bi (j := 7) (a := nI 6) rfl rfl (by decide) ?_
  refine w_gtN (j := 8) rfl rfl (by omega) (by omega) (fun c => ?_) (fun c => ?_)
  ·
    refine w_rt rfl ?_
    exact fin
  ·
    refine w_al (j := 9) rfl rfl rfl ?_
    refine w_cvPI (j := 10) rfl rfl rfl rfl (by first | assumption | rfl) rfl rfl (sp_61f r) rfl ?_
    rintro v h1 ⟨rfl, rfl⟩
    refine w_eqB (j := 11) rfl rfl (fun _ => ?_) (fun c => absurd c (by simp))
    refine w_rt rfl ?_
    exact fin
theorem ch_35f {PL m s : Nat} {g3 g4 : Value} {ls ls' : List (Nat × Nat)} (hm : m ≤ 6) (r : px_rf h tx n 0 k (nI PL)) (D : gH tx n ls s k PL ls') : px_R px_E 3 mo_12 [] 35 [.ref 54, .ref 2, .int (nI m), g3, g4] [] h 0 (gh_cq h tx n ls s) := by
  refine w_al (j := 36) rfl rfl rfl ?_
  refine w_bi (j := 37) (a := nI 59) rfl rfl (by decide) ?_
  refine w_cvPU (j := 38) rfl rfl rfl rfl (by first | assumption | rfl) rfl rfl (sp_63f (c := 59) (by decide) r) rfl ?_
  rintro h1 ⟨u1, u2⟩
  refine w_al (j := 39) rfl rfl rfl ?_
  refine w_cvI (j := 40) rfl rfl rfl rfl (by first | assumption | rfl) rfl rfl (sp_56f u2) rfl ?_
  refine w_neB (j := 41) rfl rfl (fun _ => ?_) (fun c => absurd c (by simp))
  first | refine w_incN (j := 64) rfl rfl rfl ?_ | refine w_inc (j := 64) rfl rfl rfl rfl ?_
  refine w_go rfl ?_
  exact px_mono (ch_5f (by omega) u2 D) (fun r q => gh_cq.fr (u1.sub (by decide)) (fun _ _ _ z => z) q)
theorem ch_30f {PL m s : Nat} {g3 g4 : Value} {ls ls' : List (Nat × Nat)} (hm : m ≤ 6) (r : px_rf h tx n 0 k (nI PL)) (D : gH tx n ls s k PL ls') : px_R px_E 3 mo_12 [] 30 [.ref 54, .ref 2, .int (nI m), g3, g4] [] h 0 (gh_cq h tx n ls s) := by
  refine w_al (j := 31) rfl rfl rfl ?_
  refine w_ic (n := 0) (j := 32) rfl rfl ?_
  refine w_bi (j := 33) (a := nI 99) rfl rfl (by decide) ?_
  refine w_cvPI (j := 34) rfl rfl rfl rfl (by first | assumption | rfl) rfl rfl (sp_64f (lo := 0) (H := 100) (by decide) (px_hiN (a := 99) (by decide)) (by decide) r) rfl ?_
  rintro v h1 ⟨u1, u2, u3⟩
  refine w_iS (j := 35) rfl rfl rfl ?_
  exact px_mono (ch_35f hm u2 D) (fun r q => gh_cq.fr (u1.sub (by decide)) (fun _ _ _ z => z) q)
theorem ch_24f {PL m s : Nat} {g3 g4 : Value} {ls ls' : List (Nat × Nat)} (hm : m ≤ 6) (r : px_rf h tx n 0 k (nI PL)) (D : gH tx n ls s k PL ls') : px_R px_E 3 mo_12 [] 24 [.ref 54, .ref 2, .int (nI m), g3, g4] [] h 0 (gh_cq h tx n ls s) := by
  refine w_il (j := 25) rfl rfl rfl ?_
  refine w_bi (j := 26) (a := nI 6) rfl rfl (by decide) ?_
  refine w_neN (j := 27) rfl rfl (by omega) (by omega) (fun c => ?_) (fun c => ?_)
  ·
    exact ch_30f hm r D
  ·
    refine w_al (j := 28) rfl rfl rfl ?_
    refine w_ic (n := 3) (j := 29) rfl rfl ?_
    refine w_cvPU (j := 30) rfl rfl rfl rfl (by first | assumption | rfl) rfl rfl (sp_59f (kd := 3) (by decide) r) rfl ?_
    rintro h1 ⟨u1, u2⟩
    exact px_mono (ch_30f hm u2 D) (fun r q => gh_cq.fr (u1.sub (by decide)) (fun _ _ _ z => z) q)
theorem gh_cl_snoc {h1 : ix_H} {ls : List (Nat × Nat)} {a b : Nat} (cl : gh_cl h1 ls) (l6 : ls.length < 6) (ha : a ≤ 40) (hb : b ≤ 99) (e1 : ∀ (q : Nat) (c : Nat × Nat), ls[q]? = some c → c.1 ≠ a) {h' : ix_H} (x1 : h' 54 2 = nI (ls.length + 1)) (x2 : ∀ q, h' 55 q = if q = ls.length then nI a else h1 55 q) (x3 : ∀ q, h' 56 q = if q = ls.length then nI b else h1 56 q) : gh_cl h' (ls ++ [(a, b)]) := by
  have get : ∀ (q : Nat) (c : Nat × Nat), (ls ++ [(a, b)])[q]? = some c → (q < ls.length ∧ ls[q]? = some c) ∨ (q = ls.length ∧ c = (a, b)) := by
    intro q c hq
    by_cases e : q < ls.length
    · rw [List.getElem?_append_left e] at hq
      exact Or.inl ⟨e, hq⟩
    · rw [List.getElem?_append_right (by omega)] at hq
      have : q = ls.length := by
        have := (List.getElem?_eq_some_iff.mp hq).1
        rw [List.length_singleton] at this
        omega
      subst this
      rw [Nat.sub_self] at hq
      cases hq
      exact Or.inr ⟨rfl, rfl⟩
  refine ⟨by rw [x1, List.length_append, List.length_singleton], by rw [List.length_append, List.length_singleton]; omega, fun q c hq => ?_, fun i j ci cj hij hi hj => ?_⟩
  · rcases get q c hq with ⟨z1, z2⟩ | ⟨z1, z2⟩
    · rw [x2, x3, if_neg (by omega), if_neg (by omega)]; exact cl.2.2.1 q c z2
    · subst z2
      rw [x2, x3, if_pos z1, if_pos z1]; exact ⟨rfl, rfl, ha, hb⟩
  · rcases get i ci hi with ⟨z1, z2⟩ | ⟨z1, z2⟩
    · rcases get j cj hj with ⟨y1, y2⟩ | ⟨y1, y2⟩
      · exact cl.2.2.2 i j ci cj hij z2 y2
      · subst y2; exact e1 i ci z2
    · rcases get j cj hj with ⟨y1, y2⟩ | ⟨y1, y2⟩ <;> omega
theorem ch_body {ls : List (Nat × Nat)} {g3 g4 : Value} (r : px_rd h tx n p pc 0 0 (-1)) (cl : gh_cl h ls) (IH : ls.length < 6 → ∀ (v : Nat × Nat) (h : ix_H) (p pc : Nat) (g3 g4 : Value), px_rd h tx n p pc 0 0 (-1) → gh_cl h (ls ++ [v]) → px_R px_E 3 mo_12 [] 5 [.ref 54, .ref 2, .int (nI (ls.length + 1)), g3, g4] [] h 0 (gh_cq h tx n (ls ++ [v]) (gx_sk tx n p))) : px_R px_E 3 mo_12 [] 5 [.ref 54, .ref 2, .int (nI ls.length), g3, g4] [] h 0 (gh_cq h tx n ls (gx_sk tx n p)) := by
  have l6 := cl.2.1
  have s1 := gx_sk_sk (tx := tx) r.2.2.2.1
  refine w_il (j := 6) rfl rfl rfl ?_
  refine w_bi (j := 7) (a := nI 6) rfl rfl (by decide) ?_
  refine w_gtN (j := 8) rfl rfl (by omega) (by omega) (fun c => absurd c (fun c => by omega)) (fun _ => ?_)
  refine w_al (j := 9) rfl rfl rfl ?_
  refine w_cvPI (j := 10) rfl rfl rfl rfl (by first | assumption | rfl) rfl rfl (sp_61 r) rfl ?_
  rintro v h1 ⟨q1, q2, q3⟩
  rw [if_pos rfl] at q3
  subst q1
  have cl1 : gh_cl h1 ls := cl.of (q2 54 (by decide)) (q2 55 (by decide)) (q2 56 (by decide))
  by_cases hs : gx_sk tx n p < n
  rotate_left
  · rw [decide_eq_false (fun z => hs z.2)]
    refine w_eqB (j := 11) rfl rfl (fun _ => ?_) (fun c => absurd c (by simp))
    refine w_rt rfl ?_
    exact ⟨0, 0, ls, _, rfl, gH1 hs, q2.sub (by decide), fun z => absurd rfl z, fun _ => ⟨⟨_, _, q3⟩, cl1⟩⟩
  rw [decide_eq_true ⟨rfl, hs⟩]
  refine px_mono (Q := gh_cq h1 tx n ls (gx_sk tx n p)) ?_ (fun r q => gh_cq.fr (q2.sub (by decide)) (fun _ _ _ z => z) q)
  clear q2 cl r
  generalize gx_sk tx n p = s at q3 hs s1 ⊢
  have c54 := cl1.1
  refine w_eqB (j := 11) rfl rfl (fun c => absurd c (by simp)) (fun _ => ?_)
  refine w_al (j := 12) rfl rfl rfl ?_
  refine w_ic (n := 0) (j := 13) rfl rfl ?_
  refine w_bi (j := 14) (a := nI 40) rfl rfl (by decide) ?_
  refine w_cvPI (j := 15) rfl rfl rfl rfl (by first | assumption | rfl) rfl rfl (sp_64 (lo := 0) (H := 41) (by decide) (px_hiN (a := 40) (by decide)) (by decide) q3) rfl ?_
  rintro v h2 ⟨u1, u2, u3⟩
  have cl2 : gh_cl h2 ls := cl1.of (u2 54 (by decide)) (u2 55 (by decide)) (u2 56 (by decide))
  refine px_mono (Q := gh_cq h2 tx n ls s) ?_ (fun r q => gh_cq.fr (u2.sub (by decide)) (fun _ _ _ z => z) q)
  subst u1
  refine w_is (j := 16) rfl rfl rfl ?_
  refine w_al (j := 17) rfl rfl rfl ?_
  refine w_il (j := 18) rfl rfl rfl ?_
  refine w_cvPI (j := 19) rfl rfl rfl rfl (by first | assumption | rfl) rfl rfl (sp_11 (L := ls.length) px_Hd54 cl2.1 l6) rfl ?_
  rintro v h3 ⟨w1, w2⟩
  subst w1
  refine w_im (j := 20) rfl rfl ?_
  by_cases hk : gx_nk tx n 0 41 s = 0
  rotate_left
  · rw [if_neg hk, if_neg hk] at u3
    have rf : px_rf h3 tx n 0 (gx_nk tx n 0 41 s) (nI (gx_sk tx n s)) := ⟨hk, _, _, by simpa [gx_fk, gx_fp] using u3⟩
    refine w_eq (j := 21) rfl rfl (fun c => ?_) (fun c => ?_)
    · exact ch_24f l6 rf (gH2 (ls' := ls) hs hk)
    refine w_al (j := 22) rfl rfl rfl ?_
    refine w_ic (n := 2) (j := 23) rfl rfl ?_
    refine w_cvPU (j := 24) rfl rfl rfl rfl (by first | assumption | rfl) rfl rfl (sp_59f (kd := 2) (by decide) rf) rfl ?_
    rintro h4 ⟨x1, x2⟩
    exact px_mono (ch_24f l6 x2 (gH2 (ls' := ls) hs hk)) (fun r q => gh_cq.fr (x1.sub (by decide)) (fun _ _ _ z => z) q)
  have nv := gx_nv41 hk
  rw [if_pos hk, if_pos hk] at u3
  rw [show min (gx_nv tx n s) 1000000 = gx_nv tx n s by omega] at w2 ⊢
  rcases w2 with ⟨q0, w3, w4, w5, w6⟩ | ⟨w3, w4⟩
  · have hg := List.getElem?_eq_getElem w3
    obtain ⟨v1, v2, v3, v4⟩ := cl2.2.2.1 q0 _ hg
    have e0 : ls[q0].1 = gx_nv tx n s := (px_neq (by omega) (by omega)).mp (v1.symm.trans w4)
    have vne : v ≠ -1 := by
      rw [w5]
      show h3 56 q0 ≠ -1
      rw [v2]
      exact px_nm1 (by omega)
    refine w_eq (j := 21) rfl rfl (fun c => absurd c vne) (fun _ => ?_)
    refine w_al (j := 22) rfl rfl rfl ?_
    refine w_ic (n := 2) (j := 23) rfl rfl ?_
    refine w_cvPU (j := 24) rfl rfl rfl rfl (by first | assumption | rfl) rfl rfl (sp_59 (kd := 2) (by decide) u3) rfl ?_
    rintro h4 ⟨x1, x2⟩
    refine px_mono (ch_24f (k := 2) (ls' := ls) (PL := gx_sk tx n s) l6 ⟨by decide, _, _, by simpa [gx_fk, gx_fp] using x2⟩ ?_) (fun r q => gh_cq.fr (x1.sub (by decide)) (fun _ _ _ z => z) q)
    rw [s1]
    refine gH3 (ls' := ls) hs hk hg e0 (fun q c hq hc e => ?_)
    obtain ⟨y1, y2, y3, y4⟩ := cl2.2.2.1 q c hc
    exact w6 q hq (by rw [← e]; exact y1)
  · have nd : ∀ (q : Nat) (c : Nat × Nat), ls[q]? = some c → c.1 ≠ gx_nv tx n s := fun q c hc e => by
      obtain ⟨y1, y2, y3, y4⟩ := cl2.2.2.1 q c hc
      exact w4 q (List.getElem?_eq_some_iff.mp hc).1 (by rw [← e]; exact y1)
    refine w_eq (j := 21) rfl rfl (fun _ => ?_) (fun c => absurd c (fun z => z w3))
    refine w_il (j := 25) rfl rfl rfl ?_
    refine w_bi (j := 26) (a := nI 6) rfl rfl (by decide) ?_
    refine w_neN (j := 27) rfl rfl (by omega) (by omega) (fun c6 => ?_) (fun c6 => ?_)
    rotate_left
    ·
      refine w_al (j := 28) rfl rfl rfl ?_
      refine w_ic (n := 3) (j := 29) rfl rfl ?_
      refine w_cvPU (j := 30) rfl rfl rfl rfl (by first | assumption | rfl) rfl rfl (sp_59 (kd := 3) (by decide) u3) rfl ?_
      rintro h4 ⟨x1, x2⟩
      refine px_mono (ch_30f (k := 3) (ls' := ls) (PL := gx_sk tx n s) l6 ⟨by decide, _, _, by simpa [gx_fk, gx_fp] using x2⟩ ?_) (fun r q => gh_cq.fr (x1.sub (by decide)) (fun _ _ _ z => z) q)
      rw [s1]
      exact gH4 (ls' := ls) hs hk nd c6
    have l5 : ls.length < 6 := by omega
    refine w_al (j := 31) rfl rfl rfl ?_
    refine w_ic (n := 0) (j := 32) rfl rfl ?_
    refine w_bi (j := 33) (a := nI 99) rfl rfl (by decide) ?_
    refine w_cvPI (j := 34) rfl rfl rfl rfl (by first | assumption | rfl) rfl rfl (sp_64 (lo := 0) (H := 100) (by decide) (px_hiN (a := 99) (by decide)) (by decide) u3) rfl ?_
    rintro v2 h4 ⟨x1, x2, x3⟩
    subst x1
    have cl4 : gh_cl h4 ls := cl2.of (x2 54 (by decide)) (x2 55 (by decide)) (x2 56 (by decide))
    refine px_mono (Q := gh_cq h4 tx n ls s) ?_ (fun r q => gh_cq.fr (x2.sub (by decide)) (fun _ _ _ z => z) q)
    by_cases hk2 : gx_nk tx n 0 100 (gx_ne tx n s) = 0
    rotate_left
    · rw [if_neg hk2, if_neg hk2] at x3
      refine w_iS (j := 35) rfl rfl rfl ?_
      exact ch_35f l6 ⟨hk2, _, _, by simpa [gx_fk, gx_fp] using x3⟩ (gH5 (ls' := ls) hs hk nd l5 hk2)
    rw [if_pos hk2, if_pos hk2] at x3
    have nv2 := gx_nv41 hk2
    refine w_iS (j := 35) rfl rfl rfl ?_
    refine w_al (j := 36) rfl rfl rfl ?_
    refine w_bi (j := 37) (a := nI 59) rfl rfl (by decide) ?_
    refine w_cvPU (j := 38) rfl rfl rfl rfl (by first | assumption | rfl) rfl rfl (sp_63 (c := 59) (by decide) x3) rfl ?_
    rintro h5 ⟨y1, y2⟩
    refine px_mono (Q := gh_cq h5 tx n ls s) ?_ (fun r q => gh_cq.fr (y1.sub (by decide)) (fun _ _ _ z => z) q)
    by_cases hz : gx_sk tx n (gx_ne tx n (gx_ne tx n s)) < n ∧ tx (gx_sk tx n (gx_ne tx n (gx_ne tx n s))) = 59
    rotate_left
    · rw [if_neg hz] at y2
      have rf : px_rf h5 tx n 0 1 (nI (gx_sk tx n (gx_ne tx n (gx_ne tx n s)))) := ⟨by decide, _, _, by simpa [gx_fk, gx_fp] using y2⟩
      refine w_al (j := 39) rfl rfl rfl ?_
      refine w_cvI (j := 40) rfl rfl rfl rfl (by first | assumption | rfl) rfl rfl (sp_56f rf) rfl ?_
      refine w_neB (j := 41) rfl rfl (fun _ => ?_) (fun c => absurd c (by simp))
      first | refine w_incN (j := 64) rfl rfl rfl ?_ | refine w_inc (j := 64) rfl rfl rfl rfl ?_
      refine w_go rfl ?_
      exact ch_5f (by omega) rf (gH6 (ls' := ls) hs hk nd l5 hk2 hz)
    rw [if_pos hz] at y2
    have cl5 : gh_cl h5 ls := cl4.of (y1 54 (by decide)) (y1 55 (by decide)) (y1 56 (by decide))
    have c5 := cl5.1
    refine w_al (j := 39) rfl rfl rfl ?_
    refine w_cvI (j := 40) rfl rfl rfl rfl (by first | assumption | rfl) rfl rfl (sp_56 y2) rfl ?_
    rw [decide_eq_false (fun z => z rfl)]
    refine w_neB (j := 41) rfl rfl (fun c => absurd c (by simp)) (fun _ => ?_)
    refine w_al (j := 42) rfl rfl rfl ?_
    first | refine w_gr (j := 43) rfl rfl (by first | assumption | rfl) (by first | assumption | rfl) rfl ?_ | refine w_gi (j := 43) rfl rfl (by first | assumption | rfl) (by first | assumption | rfl) rfl c5 ?_
    refine w_bi (j := 44) (a := nI 6) rfl rfl (by decide) ?_
    refine w_geN (j := 45) rfl rfl (by omega) (by omega) (fun c => absurd c (fun c => by omega)) (fun _ => ?_)
    refine w_al (j := 46) rfl rfl rfl ?_
    first | refine w_gr (j := 47) rfl rfl (by first | assumption | rfl) (by first | assumption | rfl) rfl ?_ | refine w_gi (j := 47) rfl rfl (by first | assumption | rfl) (by first | assumption | rfl) rfl rfl ?_
    refine w_al (j := 48) rfl rfl rfl ?_
    first | refine w_gr (j := 49) rfl rfl (by first | assumption | rfl) (by first | assumption | rfl) rfl ?_ | refine w_gi (j := 49) rfl rfl (by first | assumption | rfl) (by first | assumption | rfl) rfl c5 ?_
    refine w_il (j := 50) rfl rfl rfl ?_
    refine w_ias (j := 51) rfl rfl (by first | assumption | rfl) rfl (by omega) rfl ?_
    have c5' : ix_up h5 55 ls.length (nI (gx_nv tx n s)) 54 2 = nI ls.length := by rw [px_up_na (by decide)]; exact c5
    rw [show min (gx_nv tx n (gx_ne tx n s)) 1000000 = gx_nv tx n (gx_ne tx n s) by omega]
    refine w_al (j := 52) rfl rfl rfl ?_
    first | refine w_gr (j := 53) rfl rfl (by first | assumption | rfl) (by first | assumption | rfl) rfl ?_ | refine w_gi (j := 53) rfl rfl (by first | assumption | rfl) (by first | assumption | rfl) rfl rfl ?_
    refine w_al (j := 54) rfl rfl rfl ?_
    first | refine w_gr (j := 55) rfl rfl (by first | assumption | rfl) (by first | assumption | rfl) rfl ?_ | refine w_gi (j := 55) rfl rfl (by first | assumption | rfl) (by first | assumption | rfl) rfl c5' ?_
    refine w_iL (j := 56) rfl rfl rfl ?_
    refine w_ias (j := 57) rfl rfl (by first | assumption | rfl) rfl (by omega) rfl ?_
    have c5'' : ix_up (ix_up h5 55 ls.length (nI (gx_nv tx n s))) 56 ls.length (nI (gx_nv tx n (gx_ne tx n s))) 54 2 = nI ls.length := by rw [px_up_na (by decide)]; exact c5'
    refine w_al (j := 58) rfl rfl rfl ?_
    first | refine w_dupr (j := 59) rfl rfl ?_ | refine w_dupi (j := 59) rfl rfl ?_
    first | refine w_gr (j := 60) rfl rfl (by first | assumption | rfl) (by first | assumption | rfl) rfl ?_ | refine w_gi (j := 60) rfl rfl (by first | assumption | rfl) (by first | assumption | rfl) rfl c5'' ?_
    refine w_ic (n := 1) (j := 61) rfl rfl ?_
    first | refine w_add0 (j := 62) rfl rfl ?_ | refine w_addN (j := 62) rfl rfl ?_ | refine w_add (j := 62) rfl rfl ?_
    refine w_pf (j := 63) rfl rfl (by first | assumption | rfl) (by first | assumption | rfl) rfl ?_
    first | refine w_incN (j := 64) rfl rfl rfl ?_ | refine w_inc (j := 64) rfl rfl rfl rfl ?_
    refine w_go rfl ?_
    have F : px_fr [2, 54, 55, 56] h5 (ix_up (ix_up (ix_up h5 55 ls.length (nI (gx_nv tx n s))) 56 ls.length (nI (gx_nv tx n (gx_ne tx n s)))) 54 2 (nI (ls.length + 1))) := by
      repeat first | exact px_fr.rf | refine px_fr.up ?_ (by decide)
    refine px_mono (IH l5 (gx_nv tx n s, gx_nv tx n (gx_ne tx n s)) _ _ _ _ _ (y2.fr (S := [54, 55, 56]) ?_ (by decide) (by decide) (by decide)) (gh_cl_snoc cl5 l5 (by omega) (by omega) nd px_up_at (fun q => ?_) (fun q => ?_))) (fun r q => gh_cq.fr F (fun _ _ _ z => gH7 hs hk nd l5 hk2 hz z) q)
    · repeat first | exact px_fr.rf | refine px_fr.up ?_ (by decide)
    · rw [px_up_na (by decide), px_up_na (by decide)]
      by_cases e : q = ls.length
      · rw [if_pos e, e, px_up_at]
      · rw [if_neg e, px_up_nk e]
    · rw [px_up_na (by decide)]
      by_cases e : q = ls.length
      · rw [if_pos e, e, px_up_at]
      · rw [if_neg e, px_up_nk e, px_up_na (by decide)]
theorem ch_loop : ∀ (j : Nat) (ls : List (Nat × Nat)) (h : ix_H) (p pc : Nat) (g3 g4 : Value), ls.length + j = 6 → px_rd h tx n p pc 0 0 (-1) → gh_cl h ls → px_R px_E 3 mo_12 [] 5 [.ref 54, .ref 2, .int (nI ls.length), g3, g4] [] h 0 (gh_cq h tx n ls (gx_sk tx n p)) := by
  intro j
  induction j with
  | zero => exact fun ls h p pc g3 g4 hj r cl => ch_body r cl (fun z => absurd z (by omega))
  | succ j ih =>
    intro ls h p pc g3 g4 hj r cl
    refine ch_body r cl (fun z v h p pc g3 g4 r cl => ?_)
    have := ih (ls ++ [v]) h p pc g3 g4 (by rw [List.length_append, List.length_singleton]; omega) r cl
    rw [List.length_append, List.length_singleton] at this
    exact this
theorem sp_12 (r : px_rd h tx n p pc 0 0 (-1)) : px_T px_E 4 12 [.ref 54, .ref 2] h (gh_cq h tx n [] (gx_sk tx n p)) := by
  refine px_M (M := mt_12) (ops := mo_12) tb_12 rfl rfl rfl rfl rfl ?_
  refine w_al (j := 1) rfl rfl rfl ?_
  refine w_ic (n := 0) (j := 2) rfl rfl ?_
  refine w_pf (j := 3) rfl rfl (by first | assumption | rfl) (by first | assumption | rfl) rfl ?_
  refine w_ic (n := 0) (j := 4) rfl rfl ?_
  refine w_is (j := 5) rfl rfl rfl ?_
  refine px_mono (ch_loop (tx := tx) (n := n) 6 [] _ p pc .null .null rfl (r.fr (S := [54]) (px_fr.rf.up (by decide)) (by decide) (by decide) (by decide)) ⟨px_up_at, by decide, fun q c hq => ?_, fun i j ci cj _ hi => ?_⟩) (fun r q => gh_cq.fr (px_fr.rf.up (by decide)) (fun _ _ _ z => z) q)
  · cases hq
  · cases hi
end HD
