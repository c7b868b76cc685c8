def pf_ws (f : Nat → Nat) (n : Nat) : (Nat → Nat) × Nat := px_fold (fun i s => (fun j => if j = f i then s.1 j + 1 else s.1 j, max s.2 (s.1 (f i) + 1))) n (fun _ => 0, 0)
theorem pf_ws_s {f : Nat → Nat} {n : Nat} : pf_ws f (n + 1) = (fun j => if j = f n then (pf_ws f n).1 j + 1 else (pf_ws f n).1 j, max (pf_ws f n).2 ((pf_ws f n).1 (f n) + 1)) := rfl
theorem pf_ws_le {f : Nat → Nat} : ∀ n, (∀ j, (pf_ws f n).1 j ≤ n) ∧ (pf_ws f n).2 ≤ n
  | 0 => ⟨fun _ => Nat.le_refl _, Nat.le_refl _⟩
  | n + 1 => by
    obtain ⟨h1, h2⟩ := pf_ws_le (f := f) n
    rw [pf_ws_s]
    refine ⟨fun j => ?_, ?_⟩
    · have := h1 j
      show (if j = f n then _ else _) ≤ _
      split <;> omega
    · have := h1 (f n)
      show max _ _ ≤ _
      omega
theorem pf_ws_congr {f g : Nat → Nat} {n : Nat} (e : ∀ i, i < n → f i = g i) : pf_ws f n = pf_ws g n := px_fold_congr n _ (fun i s hi => by rw [e i hi])
def pf_qq (h : ix_H) (cs : List (Nat × Nat)) (l : List (Nat × Nat)) (a i : Nat) : Nat := (pf_sA h cs (l.getD i (0, 0)).1 (l.getD i (0, 0)).2 a).toNatClampNeg
def pf_td (h : ix_H) (L a : Nat) : Bool := !decide (∀ k, k < L → h 52 k ≠ nI a)
def pf_l1 (h : ix_H) (cs : List (Nat × Nat)) (L : Nat) (l : List (Nat × Nat)) (a : Nat) (s : Int32 × Int32) : Int32 × Int32 := if pf_td h L a = true then s else if s.1 = -1 ∨ nI (pf_ws (pf_qq h cs l a) l.length).2 < s.2 then (nI a, nI (pf_ws (pf_qq h cs l a) l.length).2) else s
def pf_lis (h : ix_H) (cs : List (Nat × Nat)) (L : Nat) (l : List (Nat × Nat)) (x : Int32) (n : Nat) : Int32 × Int32 := px_fold (pf_l1 h cs L l) n (-1, x)
section LI
variable {h : ix_H} {B N T L W I t : Nat} {cs : List (Nat × Nat)}
theorem pf_td_f {a : Nat} (e : ∀ k, k < L → h 52 k ≠ nI a) : pf_td h L a = false := by unfold pf_td; rw [decide_eq_true e]; rfl
theorem pf_td_t {a k : Nat} (hk : k < L) (e : h 52 k = nI a) : pf_td h L a = true := by unfold pf_td; rw [decide_eq_false (fun q => q k hk e)]; rfl
theorem pf_lis_eq {l : List (Nat × Nat)} (ln : px_line h L) (x y : Int32) : pf_lis h cs L l x 41 = pf_lis h cs L l y 41 := by
  have key := px_fold_rel (f := pf_l1 h cs L l) (g := pf_l1 h cs L l) (P := fun a s t => a ≤ 41 → (s.1 = t.1 ∧ (s.1 ≠ -1 → s = t) ∧ (s.1 = -1 → pf_ca h L a = a))) 41 (-1, x) (-1, y) (fun _ => ⟨rfl, fun q => absurd rfl q, fun _ => pf_cnt_0 L (fun k _ => decide_eq_false (Nat.not_lt_zero _))⟩) ?_
  · obtain ⟨k1, k2, k3⟩ := key (Nat.le_refl _)
    by_cases e : (px_fold (pf_l1 h cs L l) 41 (-1, x)).1 = -1
    · have h1 := k3 e
      have h2 : pf_ca h L 41 ≤ L := pf_cnt_le _ L
      have h3 := ln.1
      omega
    · exact k2 e
  · intro a s t ha hP ha2
    obtain ⟨p1, p2, p3⟩ := hP (by omega)
    unfold pf_l1
    by_cases ht : ∀ k, k < L → h 52 k ≠ nI a
    · rw [pf_td_f ht, if_neg (show ¬ false = true by decide), if_neg (show ¬ false = true by decide)]
      by_cases e : s.1 = -1
      · rw [if_pos (Or.inl e), if_pos (Or.inl (by rw [← p1]; exact e))]
        exact ⟨rfl, fun _ => rfl, fun q => absurd q (px_nm1 (by omega))⟩
      · have e2 := p2 e
        subst e2
        refine ⟨rfl, fun _ => rfl, fun q => ?_⟩
        split at q
        · exact absurd q (px_nm1 (by omega))
        · exact absurd q e
    · have : ∃ k, k < L ∧ h 52 k = nI a := by
        apply Classical.byContradiction
        intro q
        exact ht (fun k hk e => q ⟨k, hk, e⟩)
      obtain ⟨k, hk, e⟩ := this
      rw [pf_td_t hk e, if_pos rfl, if_pos rfl]
      refine ⟨p1, p2, fun q => ?_⟩
      rw [pf_ca_told ln hk e (by omega), p3 q]
theorem pf_qq_at {l : List (Nat × Nat)} {i a : Nat} {p : Nat × Nat} (hi : l[i]? = some p) : pf_qq h cs l a i = (pf_sA h cs p.1 p.2 a).toNatClampNeg := by
  unfold pf_qq
  rw [List.getD_eq_getElem?_getD, hi]
  rfl
theorem sp_8 {n : Nat} {f : Nat → Nat} (hn : n ≤ 48) (e7 : h 81 7 = nI n) (ef : ∀ i, i < n → f i ≤ 99 ∧ h 84 i = nI (f i)) : px_PI 1 8 [.ref 81] h (fun v h1 => v = nI (pf_ws f n).2 ∧ px_fr [85] h h1) := by
  refine px_M (M := mt_8) (ops := mo_8) tb_8 rfl rfl rfl rfl rfl ?_
  refine w_ic (n := 0) (j := 1) rfl rfl ?_
  refine w_is (j := 2) rfl rfl rfl ?_
  refine px_forI (fun c ls h1 => (∃ g1 g2, ls = [.ref 81, .int (nI c), g1, g2]) ∧ px_fr [85] h h1 ∧ ∀ j, j < c → h1 85 j = nI 0) 100 ?_ ?_ ⟨⟨_, _, rfl⟩, px_fr.rf, fun j hj => by omega⟩
  · rintro c _ h1 hc ⟨⟨g1, g2, rfl⟩, fr, ez⟩ H
    refine w_il (j := 3) rfl rfl rfl ?_
    refine w_bi (j := 4) (a := nI 99) rfl rfl (by decide) ?_
    refine w_gtN (j := 5) rfl rfl (by omega) (by omega) (fun c => absurd c (fun c => by omega)) (fun _ => ?_)
    refine w_al (j := 6) rfl rfl rfl ?_
    first | refine w_gr (j := 7) rfl rfl (by first | assumption | rfl) (by first | assumption | rfl) rfl ?_ | refine w_gi (j := 7) rfl rfl (by first | assumption | rfl) (by first | assumption | rfl) rfl rfl ?_
    refine w_il (j := 8) rfl rfl rfl ?_
    refine w_ic (n := 0) (j := 9) rfl rfl ?_
    refine w_ias (j := 10) rfl rfl (by first | assumption | rfl) rfl (by omega) rfl ?_
    first | refine w_incN (j := 11) rfl rfl rfl ?_ | refine w_inc (j := 11) rfl rfl rfl rfl ?_
    refine w_go rfl ?_
    refine H _ _ ⟨⟨_, _, rfl⟩, fr.up (by decide), fun j hj => ?_⟩
    by_cases hjc : j = c
    · subst hjc; rw [px_up_at]
    · rw [px_up_nk hjc]; exact ez j (by omega)
  · rintro _ h1 ⟨⟨g1, g2, rfl⟩, fr, ez⟩
    refine w_il (j := 3) rfl rfl rfl ?_
    refine w_bi (j := 4) (a := nI 99) rfl rfl (by decide) ?_
    refine w_gtN (j := 5) rfl rfl (by omega) (by omega) (fun _ => ?_) (fun c => absurd c (fun c => by omega))
    refine w_ic (n := 0) (j := 13) rfl rfl ?_
    refine w_is (j := 14) rfl rfl rfl ?_
    refine w_ic (n := 0) (j := 15) rfl rfl ?_
    refine w_is (j := 16) rfl rfl rfl ?_
    refine px_forI (fun i ls h2 => (∃ g, ls = [.ref 81, .int (nI (pf_ws f i).2), .int (nI i), g]) ∧ px_fr [85] h h2 ∧ ∀ j, j < 100 → h2 85 j = nI ((pf_ws f i).1 j)) n ?_ ?_ ⟨⟨_, rfl⟩, fr, fun j hj => ez j hj⟩
    · rintro i _ h2 hi ⟨⟨g, rfl⟩, fr2, et⟩ H
      have e72 := px_f3 fr2 e7 (by decide)
      obtain ⟨f1, f2⟩ := ef i hi
      have f3 := px_f3 fr2 f2 (by decide)
      have b1 := (pf_ws_le (f := f) i).1 (f i)
      have b2 := (pf_ws_le (f := f) i).2
      have t1 := et (f i) (by omega)
      have t2 : ix_up h2 85 (f i) (nI ((pf_ws f i).1 (f i) + 1)) 85 (f i) = nI ((pf_ws f i).1 (f i) + 1) := px_up_at
      refine w_il (j := 17) rfl rfl rfl ?_
      refine w_al (j := 18) rfl rfl rfl ?_
      first | refine w_gr (j := 19) rfl rfl (by first | assumption | rfl) (by first | assumption | rfl) rfl ?_ | refine w_gi (j := 19) rfl rfl (by first | assumption | rfl) (by first | assumption | rfl) rfl e72 ?_
      refine w_geN (j := 20) rfl rfl (by omega) (by omega) (fun c => absurd c (fun c => by omega)) (fun _ => ?_)
      refine w_al (j := 21) rfl rfl rfl ?_
      first | refine w_gr (j := 22) rfl rfl (by first | assumption | rfl) (by first | assumption | rfl) rfl ?_ | refine w_gi (j := 22) rfl rfl (by first | assumption | rfl) (by first | assumption | rfl) rfl rfl ?_
      refine w_il (j := 23) rfl rfl rfl ?_
      refine w_ial (j := 24) rfl rfl (by first | assumption | rfl) rfl (by omega) rfl f3 ?_
      refine w_is (j := 25) rfl rfl rfl ?_
      refine w_il (j := 26) rfl rfl rfl ?_
      refine w_ltM (j := 27) rfl rfl (by omega) ?_
      refine w_il (j := 28) rfl rfl rfl ?_
      refine w_bi (j := 29) (a := nI 99) rfl rfl (by decide) ?_
      refine w_gtN (j := 30) rfl rfl (by omega) (by omega) (fun c => absurd c (fun c => by omega)) (fun _ => ?_)
      refine w_al (j := 31) rfl rfl rfl ?_
      first | refine w_gr (j := 32) rfl rfl (by first | assumption | rfl) (by first | assumption | rfl) rfl ?_ | refine w_gi (j := 32) rfl rfl (by first | assumption | rfl) (by first | assumption | rfl) rfl rfl ?_
      refine w_il (j := 33) rfl rfl rfl ?_
      refine w_dup2 (j := 34) rfl rfl ?_
      refine w_ial (j := 35) rfl rfl (by first | assumption | rfl) rfl (by omega) rfl t1 ?_
      refine w_ic (n := 1) (j := 36) rfl rfl ?_
      first | refine w_add0 (j := 37) rfl rfl ?_ | refine w_addN (j := 37) rfl rfl ?_ | refine w_add (j := 37) rfl rfl ?_
      refine w_ias (j := 38) rfl rfl (by first | assumption | rfl) rfl (by omega) rfl ?_
      refine w_il (j := 39) rfl rfl rfl ?_
      refine w_al (j := 40) rfl rfl rfl ?_
      first | refine w_gr (j := 41) rfl rfl (by first | assumption | rfl) (by first | assumption | rfl) rfl ?_ | refine w_gi (j := 41) rfl rfl (by first | assumption | rfl) (by first | assumption | rfl) rfl rfl ?_
      refine w_il (j := 42) rfl rfl rfl ?_
      refine w_ial (j := 43) rfl rfl (by first | assumption | rfl) rfl (by omega) rfl t2 ?_
      refine w_max (j := 44) rfl rfl rfl ?_
      rw [px_nmax (by omega) (by omega)]
      refine w_is (j := 45) rfl rfl rfl ?_
      first | refine w_incN (j := 46) rfl rfl rfl ?_ | refine w_inc (j := 46) rfl rfl rfl rfl ?_
      refine w_go rfl ?_
      refine H _ _ ⟨⟨_, rfl⟩, fr2.up (by decide), fun j hj => ?_⟩
      show ix_up h2 85 (f i) _ 85 j = nI (if j = f i then (pf_ws f i).1 j + 1 else (pf_ws f i).1 j)
      by_cases hjf : j = f i
      · subst hjf; rw [px_up_at, if_pos rfl]
      · rw [px_up_nk hjf, if_neg hjf]; exact et j hj
    · rintro _ h2 ⟨⟨g, rfl⟩, fr2, et⟩
      have e72 := px_f3 fr2 e7 (by decide)
      refine w_il (j := 17) rfl rfl rfl ?_
      refine w_al (j := 18) rfl rfl rfl ?_
      first | refine w_gr (j := 19) rfl rfl (by first | assumption | rfl) (by first | assumption | rfl) rfl ?_ | refine w_gi (j := 19) rfl rfl (by first | assumption | rfl) (by first | assumption | rfl) rfl e72 ?_
      refine w_geN (j := 20) rfl rfl (by omega) (by omega) (fun _ => ?_) (fun c => absurd c (fun c => by omega))
      refine w_il (j := 48) rfl rfl rfl ?_
      refine w_ir rfl ?_
      exact ⟨_, _, rfl, rfl, fr2⟩
theorem sp_7 {n a : Nat} {f : Nat → Nat} (hn : n ≤ 48) (e7 : h 81 7 = nI n) (ef : ∀ i, i < n → f i ≤ 99 ∧ h 84 i = nI (f i)) : px_PU 2 7 [.ref 81, .int (nI a)] h (fun h1 => px_fr [81, 85] h h1 ∧ (∀ j, j ≠ 8 → j ≠ 9 → h1 81 j = h 81 j) ∧ (h1 81 8, h1 81 9) = if h 81 8 = -1 ∨ nI (pf_ws f n).2 < h 81 9 then (nI a, nI (pf_ws f n).2) else (h 81 8, h 81 9)) := by
  refine px_M (M := mt_7) (ops := mo_7) tb_7 rfl rfl rfl rfl rfl ?_
  refine w_al (j := 1) rfl rfl rfl ?_
  refine w_cvPI (j := 2) rfl rfl rfl rfl (by first | assumption | rfl) rfl rfl (sp_8 hn e7 ef) rfl ?_
  rintro v h1 ⟨q1, q2⟩
  subst q1
  have e8 : h1 81 8 = h 81 8 := by rw [q2 81 (by decide)]
  have e9 : h1 81 9 = h 81 9 := by rw [q2 81 (by decide)]
  have fin : ∀ (c : h 81 8 = -1 ∨ nI (pf_ws f n).2 < h 81 9), px_R px_E 1 mo_7 [] 11 [.ref 81, .int (nI a), .int (nI (pf_ws f n).2)] [] h1 0 (fun r => ∃ h', r = (.inl none, h', 0) ∧ px_fr [81, 85] h h' ∧ (∀ j, j ≠ 8 → j ≠ 9 → h' 81 j = h 81 j) ∧ (h' 81 8, h' 81 9) = if h 81 8 = -1 ∨ nI (pf_ws f n).2 < h 81 9 then (nI a, nI (pf_ws f n).2) else (h 81 8, h 81 9)) := by
    intro c
    refine w_al (j := 12) rfl rfl rfl ?_
    refine w_il (j := 13) rfl rfl rfl ?_
    refine w_pf (j := 14) rfl rfl (by first | assumption | rfl) (by first | assumption | rfl) rfl ?_
    refine w_al (j := 15) rfl rfl rfl ?_
    refine w_il (j := 16) rfl rfl rfl ?_
    refine w_pf (j := 17) rfl rfl (by first | assumption | rfl) (by first | assumption | rfl) rfl ?_
    refine w_rt rfl ?_
    refine ⟨_, rfl, ((q2.sub (by decide)).up (by decide)).up (by decide), fun j j1 j2 => ?_, ?_⟩
    · rw [px_up_nk j2, px_up_nk j1, q2 81 (by decide)]
    · rw [if_pos c, px_up_at, px_up_nk (by decide), px_up_at]
  refine w_is (j := 3) rfl rfl rfl ?_
  refine w_al (j := 4) rfl rfl rfl ?_
  first | refine w_gr (j := 5) rfl rfl (by first | assumption | rfl) (by first | assumption | rfl) rfl ?_ | refine w_gi (j := 5) rfl rfl (by first | assumption | rfl) (by first | assumption | rfl) rfl e8 ?_
  refine w_im (j := 6) rfl rfl ?_
  refine w_eq (j := 7) rfl rfl (fun d1 => ?_) (fun d1 => ?_)
  · exact fin (Or.inl d1)
  refine w_il (j := 8) rfl rfl rfl ?_
  refine w_al (j := 9) rfl rfl rfl ?_
  first | refine w_gr (j := 10) rfl rfl (by first | assumption | rfl) (by first | assumption | rfl) rfl ?_ | refine w_gi (j := 10) rfl rfl (by first | assumption | rfl) (by first | assumption | rfl) rfl e9 ?_
  refine w_ge (j := 11) rfl rfl (fun d2 => ?_) (fun d2 => ?_)
  rotate_left
  · exact fin (Or.inr d2)
  refine w_rt rfl ?_
  refine ⟨_, rfl, q2.sub (by decide), fun j j1 j2 => by rw [q2 81 (by decide)], ?_⟩
  rw [if_neg (fun q => q.elim d1 (fun z => px_not_lt.mpr d2 z)), e8, e9]
def px_wg (h h3 : ix_H) (cs : List (Nat × Nat)) (l : List (Nat × Nat)) (a : Nat) (s : Int32 × Int32) : Prop := px_gl h h3 l ∧ (h3 81 8, h3 81 9) = s ∧ ∀ i p, l[i]? = some p → h3 84 i = pf_sA h cs p.1 p.2 a
theorem px_wgf {h3 : ix_H} {l : List (Nat × Nat)} {a : Nat} {s : Int32 × Int32} (hI : px_I h B N T cs L W I t) (mem : ∀ p, p ∈ l → p.1 < N ∧ p.2 < B) (R : px_wg h h3 cs l a s) : ∀ i, i < l.length → pf_qq h cs l a i ≤ 99 ∧ h3 84 i = nI (pf_qq h cs l a i) := by
  intro i hi
  have e : l[i]? = some l[i] := List.getElem?_eq_getElem hi
  obtain ⟨m1, m2⟩ := mem _ (List.getElem_mem hi)
  obtain ⟨q, hq1, hq2, eq⟩ := (hI.1.2.2.2.2.2.2.2.2.2.2.2.2.1 _ m1).2.2.2
  obtain ⟨q', h1, h2⟩ := pf_sAN (cs := cs) (b := l[i].2) hq2 eq a
  rw [pf_qq_at e, R.2.2 i _ e, h2, nI_clamp (by omega)]
  exact ⟨h1, rfl⟩
theorem sp_6 {h2 : ix_H} {l : List (Nat × Nat)} (hI : px_I h B N T cs L W I t) (mem : ∀ p, p ∈ l → p.1 < N ∧ p.2 < B) (len : l.length ≤ 48) (R : px_gl h h2 l) : px_PU 8 6 [.ref 81, .ref 51] h2 (fun h3 => px_kp h h3 ∧ (h3 81 8, h3 81 9) = pf_lis h cs L l (nI 0) 41) := by
  have hI' := hI
  obtain ⟨⟨l1, l2, l3, l4, l5, l6, l7, l8, l9⟩, lw, ln, nw, -⟩ := hI
  obtain ⟨k2, e4, e7, ea⟩ := R
  refine px_M (M := mt_6) (ops := mo_6) tb_6 rfl rfl rfl rfl rfl ?_
  refine w_al (j := 1) rfl rfl rfl ?_
  refine w_im (j := 2) rfl rfl ?_
  refine w_pf (j := 3) rfl rfl (by first | assumption | rfl) (by first | assumption | rfl) rfl ?_
  refine w_al (j := 4) rfl rfl rfl ?_
  refine w_ic (n := 0) (j := 5) rfl rfl ?_
  refine w_pf (j := 6) rfl rfl (by first | assumption | rfl) (by first | assumption | rfl) rfl ?_
  refine w_ic (n := 0) (j := 7) rfl rfl ?_
  refine w_is (j := 8) rfl rfl rfl ?_
  refine px_forI (fun c ls h3 => (∃ g, ls = [.ref 81, .ref 51, .int (nI c), g]) ∧ px_gl h h3 l ∧ (h3 81 8, h3 81 9) = (-1, nI 0) ∧ ∀ i p, i < c → l[i]? = some p → h3 84 i = pf_sA h cs p.1 p.2 0) l.length ?_ ?_ ⟨⟨_, rfl⟩, ⟨(k2.up (by decide) (by decide)).up (by decide) (by decide), ?_, ?_, fun i p hi => ?_⟩, ?_, fun i p hi => by omega⟩
  · rintro c _ h3 hc ⟨⟨g, rfl⟩, ⟨k3, e43, e73, ea3⟩, es, e0⟩ H
    have ec : l[c]? = some l[c] := List.getElem?_eq_getElem hc
    obtain ⟨m1, m2⟩ := mem _ (List.getElem_mem hc)
    generalize l[c] = p at ec m1 m2
    have ep := (ea3 c p ec).1
    have e7p : h3 7 p.1 = h 7 p.1 := by rw [k3.1 7 (by decide)]
    refine w_il (j := 9) rfl rfl rfl ?_
    refine w_al (j := 10) rfl rfl rfl ?_
    first | refine w_gr (j := 11) rfl rfl (by first | assumption | rfl) (by first | assumption | rfl) rfl ?_ | refine w_gi (j := 11) rfl rfl (by first | assumption | rfl) (by first | assumption | rfl) rfl e73 ?_
    refine w_geN (j := 12) rfl rfl (by omega) (by omega) (fun c => absurd c (fun c => by omega)) (fun _ => ?_)
    refine w_al (j := 13) rfl rfl rfl ?_
    first | refine w_gr (j := 14) rfl rfl (by first | assumption | rfl) (by first | assumption | rfl) rfl ?_ | refine w_gi (j := 14) rfl rfl (by first | assumption | rfl) (by first | assumption | rfl) rfl rfl ?_
    refine w_il (j := 15) rfl rfl rfl ?_
    refine w_al (j := 16) rfl rfl rfl ?_
    first | refine w_gr (j := 17) rfl rfl (by first | assumption | rfl) (by first | assumption | rfl) rfl ?_ | refine w_gi (j := 17) rfl rfl (by first | assumption | rfl) (by first | assumption | rfl) rfl rfl ?_
    first | refine w_gr (j := 18) rfl rfl (by first | assumption | rfl) (by first | assumption | rfl) rfl ?_ | refine w_gi (j := 18) rfl rfl (by first | assumption | rfl) (by first | assumption | rfl) rfl rfl ?_
    refine w_al (j := 19) rfl rfl rfl ?_
    first | refine w_gr (j := 20) rfl rfl (by first | assumption | rfl) (by first | assumption | rfl) rfl ?_ | refine w_gi (j := 20) rfl rfl (by first | assumption | rfl) (by first | assumption | rfl) rfl rfl ?_
    refine w_il (j := 21) rfl rfl rfl ?_
    refine w_ial (j := 22) rfl rfl (by first | assumption | rfl) rfl (by omega) rfl ep ?_
    refine w_ial (j := 23) rfl rfl (by first | assumption | rfl) rfl (by omega) rfl e7p ?_
    refine w_ias (j := 24) rfl rfl (by first | assumption | rfl) rfl (by omega) rfl ?_
    first | refine w_incN (j := 25) rfl rfl rfl ?_ | refine w_inc (j := 25) rfl rfl rfl rfl ?_
    refine w_go rfl ?_
    refine H _ _ ⟨⟨_, rfl⟩, ⟨k3.up (by decide) (fun e => absurd e (by decide)), ?_, ?_, fun i q hi => ?_⟩, ?_, fun i q hi hiq => ?_⟩
    · rw [px_up_na (by decide)]; exact e43
    · rw [px_up_na (by decide)]; exact e73
    · rw [ix_up_ne (by decide), ix_up_ne (by decide)]; exact ea3 i q hi
    · rw [px_up_na (by decide), px_up_na (by decide)]; exact es
    · by_cases hic : i = c
      · subst hic
        rw [ec] at hiq
        cases hiq
        rw [px_up_at]
        rfl
      · rw [px_up_nk hic]; exact e0 i q (by omega) hiq
  · rintro _ h3 ⟨⟨g, rfl⟩, R3, es, e0⟩
    have e73 := R3.2.2.1
    refine w_il (j := 9) rfl rfl rfl ?_
    refine w_al (j := 10) rfl rfl rfl ?_
    first | refine w_gr (j := 11) rfl rfl (by first | assumption | rfl) (by first | assumption | rfl) rfl ?_ | refine w_gi (j := 11) rfl rfl (by first | assumption | rfl) (by first | assumption | rfl) rfl e73 ?_
    refine w_geN (j := 12) rfl rfl (by omega) (by omega) (fun _ => ?_) (fun c => absurd c (fun c => by omega))
    refine w_ic (n := 0) (j := 27) rfl rfl ?_
    refine w_is (j := 28) rfl rfl rfl ?_
    refine px_forI (fun a ls h4 => (∃ g, ls = [.ref 81, .ref 51, .int (nI a), g]) ∧ px_wg h h4 cs l a (pf_lis h cs L l (nI 0) a)) 41 ?_ ?_ ⟨⟨_, rfl⟩, R3, es, fun i p hi => e0 i p ((List.getElem?_eq_some_iff.mp hi).1) hi⟩
    · rintro a _ h4 ha ⟨⟨g, rfl⟩, R4⟩ H
      have I4 := hI'.kp R4.1.1
      have eL : h4 51 2 = nI L := I4.2.2.1.2.1
      have st : pf_lis h cs L l (nI 0) (a + 1) = pf_l1 h cs L l a (pf_lis h cs L l (nI 0) a) := rfl
      rw [st] at H
      generalize pf_lis h cs L l (nI 0) a = s at R4 H
      have nxt : ∀ h5, px_wg h h5 cs l a (pf_l1 h cs L l a s) → px_R px_E 7 mo_6 [] 39 [.ref 81, .ref 51, .int (nI a), g] [] h5 0 (fun r => ∃ h', r = (.inl none, h', 0) ∧ px_kp h h' ∧ (h' 81 8, h' 81 9) = pf_lis h cs L l (nI 0) 41) := by
        intro h5 R5
        refine w_ic (n := 0) (j := 40) rfl rfl ?_
        refine w_is (j := 41) rfl rfl rfl ?_
        refine px_forI (fun c ls h6 => ls = [.ref 81, .ref 51, .int (nI a), .int (nI c)] ∧ px_gl h h6 l ∧ (h6 81 8, h6 81 9) = pf_l1 h cs L l a s ∧ ∀ i p, l[i]? = some p → h6 84 i = pf_sA h cs p.1 p.2 (if i < c then a + 1 else a)) l.length ?_ ?_ ⟨rfl, R5.1, R5.2.1, R5.2.2⟩
        · rintro c _ h6 hc ⟨rfl, ⟨k6, e46, e76, ea6⟩, es6, e06⟩ H2
          have ec : l[c]? = some l[c] := List.getElem?_eq_getElem hc
          obtain ⟨m1, m2⟩ := mem _ (List.getElem_mem hc)
          generalize l[c] = p at ec m1 m2
          obtain ⟨ep1, ep2⟩ := ea6 c p ec
          have e8 := e06 c p ec
          rw [if_neg (by omega)] at e8
          refine w_il (j := 42) rfl rfl rfl ?_
          refine w_al (j := 43) rfl rfl rfl ?_
          first | refine w_gr (j := 44) rfl rfl (by first | assumption | rfl) (by first | assumption | rfl) rfl ?_ | refine w_gi (j := 44) rfl rfl (by first | assumption | rfl) (by first | assumption | rfl) rfl e76 ?_
          refine w_geN (j := 45) rfl rfl (by omega) (by omega) (fun c => absurd c (fun c => by omega)) (fun _ => ?_)
          refine w_al (j := 46) rfl rfl rfl ?_
          first | refine w_gr (j := 47) rfl rfl (by first | assumption | rfl) (by first | assumption | rfl) rfl ?_ | refine w_gi (j := 47) rfl rfl (by first | assumption | rfl) (by first | assumption | rfl) rfl rfl ?_
          refine w_il (j := 48) rfl rfl rfl ?_
          refine w_al (j := 49) rfl rfl rfl ?_
          refine w_al (j := 50) rfl rfl rfl ?_
          first | refine w_gr (j := 51) rfl rfl (by first | assumption | rfl) (by first | assumption | rfl) rfl ?_ | refine w_gi (j := 51) rfl rfl (by first | assumption | rfl) (by first | assumption | rfl) rfl rfl ?_
          refine w_il (j := 52) rfl rfl rfl ?_
          refine w_ial (j := 53) rfl rfl (by first | assumption | rfl) rfl (by omega) rfl ep1 ?_
          refine w_al (j := 54) rfl rfl rfl ?_
          first | refine w_gr (j := 55) rfl rfl (by first | assumption | rfl) (by first | assumption | rfl) rfl ?_ | refine w_gi (j := 55) rfl rfl (by first | assumption | rfl) (by first | assumption | rfl) rfl rfl ?_
          refine w_il (j := 56) rfl rfl rfl ?_
          refine w_ial (j := 57) rfl rfl (by first | assumption | rfl) rfl (by omega) rfl ep2 ?_
          refine w_al (j := 58) rfl rfl rfl ?_
          first | refine w_gr (j := 59) rfl rfl (by first | assumption | rfl) (by first | assumption | rfl) rfl ?_ | refine w_gi (j := 59) rfl rfl (by first | assumption | rfl) (by first | assumption | rfl) rfl rfl ?_
          refine w_il (j := 60) rfl rfl rfl ?_
          refine w_ial (j := 61) rfl rfl (by first | assumption | rfl) rfl (by omega) rfl e8 ?_
          refine w_il (j := 62) rfl rfl rfl ?_
          refine w_cvPI (j := 63) rfl rfl rfl rfl (by first | assumption | rfl) rfl rfl (sp_5 hI' k6 e46 m1 m2) rfl ?_
          rintro v h7 ⟨q1, q2, q3⟩
          subst q1
          refine w_ias (j := 64) rfl rfl (by first | assumption | rfl) rfl (by omega) rfl ?_
          first | refine w_incN (j := 65) rfl rfl rfl ?_ | refine w_inc (j := 65) rfl rfl rfl rfl ?_
          refine w_go rfl ?_
          refine H2 _ _ ⟨rfl, ⟨(k6.fr q2 (by decide)).up (by decide) (fun e => absurd e (by decide)), ?_, ?_, fun i q hi => ?_⟩, ?_, fun i q hi => ?_⟩
          · rw [px_up_na (by decide)]; exact q3
          · rw [px_up_na (by decide), q2 81 (by decide)]; exact e76
          · rw [ix_up_ne (by decide), ix_up_ne (by decide), q2 82 (by decide), q2 83 (by decide)]; exact ea6 i q hi
          · rw [px_up_na (by decide), px_up_na (by decide), q2 81 (by decide)]; exact es6
          · by_cases hic : i = c
            · subst hic
              rw [ec] at hi
              cases hi
              rw [px_up_at, if_pos (by omega)]
              rfl
            · rw [px_up_nk hic, q2 84 (by decide), e06 i q hi]
              by_cases h1 : i < c
              · rw [if_pos h1, if_pos (by omega)]
              · rw [if_neg h1, if_neg (by omega)]
        · rintro _ h6 ⟨rfl, R6, es6, e06⟩
          have e76 := R6.2.2.1
          refine w_il (j := 42) rfl rfl rfl ?_
          refine w_al (j := 43) rfl rfl rfl ?_
          first | refine w_gr (j := 44) rfl rfl (by first | assumption | rfl) (by first | assumption | rfl) rfl ?_ | refine w_gi (j := 44) rfl rfl (by first | assumption | rfl) (by first | assumption | rfl) rfl e76 ?_
          refine w_geN (j := 45) rfl rfl (by omega) (by omega) (fun _ => ?_) (fun c => absurd c (fun c => by omega))
          first | refine w_incN (j := 67) rfl rfl rfl ?_ | refine w_inc (j := 67) rfl rfl rfl rfl ?_
          refine w_go rfl ?_
          refine H _ _ ⟨⟨_, rfl⟩, R6, es6, fun i p hi => ?_⟩
          have := e06 i p hi
          rw [if_pos ((List.getElem?_eq_some_iff.mp hi).1)] at this
          exact this
      have e52 := R4.1.1.1 52 (by decide)
      refine w_il (j := 29) rfl rfl rfl ?_
      refine w_bi (j := 30) (a := nI 40) rfl rfl (by decide) ?_
      refine w_gtN (j := 31) rfl rfl (by omega) (by omega) (fun c => absurd c (fun c => by omega)) (fun _ => ?_)
      refine w_al (j := 32) rfl rfl rfl ?_
      refine w_il (j := 33) rfl rfl rfl ?_
      refine w_cvPI (j := 34) rfl rfl rfl rfl (by first | assumption | rfl) rfl rfl (sp_11 px_Hd51 eL ln.1) rfl ?_
      rintro v h5 ⟨q1, q2⟩
      subst q1
      rw [show h5 (51 + 1) = h 52 from e52] at q2
      rcases q2 with ⟨k, hk, q3, q4, -⟩ | ⟨q3, q4⟩
      · obtain ⟨s0, hs0, es0⟩ := (ln.2.2.2.1 k hk).2.2.2
        have vn : v ≠ -1 := by
          rw [q4, show h5 (51 + 2) = h 53 from R4.1.1.1 53 (by decide), es0]
          exact px_nm1 (by omega)
        refine w_im (j := 35) rfl rfl ?_
        refine w_ne (j := 36) rfl rfl (fun _ => ?_) (fun c => absurd c (fun q => vn q))
        refine nxt _ ?_
        rw [pf_l1, pf_td_t hk q3, if_pos rfl]
        exact R4
      · subst q3
        refine w_im (j := 35) rfl rfl ?_
        refine w_ne (j := 36) rfl rfl (fun c => absurd c (fun q => q rfl)) (fun _ => ?_)
        refine w_al (j := 37) rfl rfl rfl ?_
        refine w_il (j := 38) rfl rfl rfl ?_
        refine w_cvPU (j := 39) rfl rfl rfl rfl (by first | assumption | rfl) rfl rfl (sp_7 len R4.1.2.2.1 (px_wgf hI' mem R4)) rfl ?_
        rintro h6 ⟨r1, r2, r3⟩
        refine nxt _ ⟨⟨R4.1.1.fr r1 (by decide), ?_, ?_, fun i p hi => ?_⟩, ?_, fun i p hi => ?_⟩
        · rw [r1 86 (by decide)]; exact R4.1.2.1
        · rw [r2 7 (by decide) (by decide)]; exact R4.1.2.2.1
        · rw [r1 82 (by decide), r1 83 (by decide)]; exact R4.1.2.2.2 i p hi
        · rw [r3, pf_l1, pf_td_f q4, if_neg (show ¬ false = true by decide), ← R4.2.1]
        · rw [r1 84 (by decide)]; exact R4.2.2 i p hi
    · rintro _ h4 ⟨⟨g, rfl⟩, R4⟩
      refine w_il (j := 29) rfl rfl rfl ?_
      refine w_bi (j := 30) (a := nI 40) rfl rfl (by decide) ?_
      refine w_gtN (j := 31) rfl rfl (by omega) (by omega) (fun _ => ?_) (fun c => absurd c (fun c => by omega))
      refine w_rt rfl ?_
      exact ⟨_, rfl, R4.1.1, R4.2.1⟩
  · rw [px_up_na (by decide), px_up_na (by decide)]; exact e4
  · rw [px_up_nk (by decide), px_up_nk (by decide)]; exact e7
  · rw [ix_up_ne (by decide), ix_up_ne (by decide), ix_up_ne (by decide), ix_up_ne (by decide)]; exact ea i p hi
  · rw [px_up_nk (by decide), px_up_at, px_up_at]
def pf_lsn (h : ix_H) (cs : List (Nat × Nat)) (L B N m : Nat) : Int32 := if m = 0 then (pf_lis h cs L (pf_pl (pf_fit h cs L) B N) (nI 0) 41).1 else (pf_lis h cs L (pf_pl (pf_fit h cs L) B N) (nI 0) 41).2
theorem C_listen {w : Int32} (hI : px_I h B N T cs L W I t) : px_CO 9 124 [.ref 0, .int w] h (fun v h1 => ∃ m, m ≤ 1 ∧ w = nI m ∧ v = pf_lsn h cs L B N m ∧ px_kp h h1) (fun x h1 => x = 0 ∧ ¬ (nI 0 ≤ w ∧ w ≤ nI 1) ∧ h1 = px_hX 0 h) := by
  have l3 := hI.1.2.2.1
  have l6 := hI.1.2.2.2.2.2.1
  have len := pf_pl_len (G := pf_fit h cs L) l3 N
  refine px_M (M := mt_124) (ops := mo_124) tb_124 rfl rfl rfl rfl rfl ?_
  refine w_al (j := 1) rfl rfl rfl ?_
  refine w_il (j := 2) rfl rfl rfl ?_
  refine w_ic (n := 0) (j := 3) rfl rfl ?_
  refine w_ic (n := 1) (j := 4) rfl rfl ?_
  refine w_chk (j := 5) rfl rfl rfl rfl (by first | assumption | rfl) rfl rfl (sp_147) rfl (fun c2 => ?_) (fun c2 => ?_)
  · exact Or.inr ⟨_, _, rfl, rfl, c2, rfl⟩
  obtain ⟨m, hm, rfl⟩ := px_bnd2 (by decide) c2
  refine w_al (j := 6) rfl rfl rfl ?_
  first | refine w_gr (j := 7) rfl rfl (by first | assumption | rfl) (by first | assumption | rfl) rfl ?_ | refine w_gi (j := 7) rfl rfl (by first | assumption | rfl) (by first | assumption | rfl) rfl rfl ?_
  refine w_al (j := 8) rfl rfl rfl ?_
  first | refine w_gr (j := 9) rfl rfl (by first | assumption | rfl) (by first | assumption | rfl) rfl ?_ | refine w_gi (j := 9) rfl rfl (by first | assumption | rfl) (by first | assumption | rfl) rfl rfl ?_
  refine w_al (j := 10) rfl rfl rfl ?_
  first | refine w_gr (j := 11) rfl rfl (by first | assumption | rfl) (by first | assumption | rfl) rfl ?_ | refine w_gi (j := 11) rfl rfl (by first | assumption | rfl) (by first | assumption | rfl) rfl rfl ?_
  refine w_cvPU (j := 12) rfl rfl rfl rfl (by first | assumption | rfl) rfl rfl (sp_3 hI) rfl ?_
  rintro h1 R
  refine w_al (j := 13) rfl rfl rfl ?_
  first | refine w_gr (j := 14) rfl rfl (by first | assumption | rfl) (by first | assumption | rfl) rfl ?_ | refine w_gi (j := 14) rfl rfl (by first | assumption | rfl) (by first | assumption | rfl) rfl rfl ?_
  refine w_al (j := 15) rfl rfl rfl ?_
  first | refine w_gr (j := 16) rfl rfl (by first | assumption | rfl) (by first | assumption | rfl) rfl ?_ | refine w_gi (j := 16) rfl rfl (by first | assumption | rfl) (by first | assumption | rfl) rfl rfl ?_
  refine w_cvPU (j := 17) rfl rfl rfl rfl (by first | assumption | rfl) rfl rfl (sp_6 hI (pf_pl_mem N) (by omega) R) rfl ?_
  rintro h2 ⟨k2, e2⟩
  have e8 := congrArg Prod.fst e2
  have e9 := congrArg Prod.snd e2
  refine w_il (j := 18) rfl rfl rfl ?_
  obtain rfl | rfl : m = 0 ∨ m = 1 := by omega
  ·
    refine w_neM (j := 19) rfl rfl (by omega) (fun c => absurd c (fun c => by omega)) (fun _ => ?_)
    refine w_al (j := 20) rfl rfl rfl ?_
    first | refine w_gr (j := 21) rfl rfl (by first | assumption | rfl) (by first | assumption | rfl) rfl ?_ | refine w_gi (j := 21) rfl rfl (by first | assumption | rfl) (by first | assumption | rfl) rfl rfl ?_
    first | refine w_gr (j := 22) rfl rfl (by first | assumption | rfl) (by first | assumption | rfl) rfl ?_ | refine w_gi (j := 22) rfl rfl (by first | assumption | rfl) (by first | assumption | rfl) rfl rfl ?_
    refine w_go rfl ?_
    refine w_ir rfl ?_
    exact Or.inl ⟨_, _, rfl, 0, hm, rfl, e8, k2⟩
  ·
    refine w_neM (j := 19) rfl rfl (by omega) (fun _ => ?_) (fun c => absurd c (fun c => by omega))
    refine w_al (j := 24) rfl rfl rfl ?_
    first | refine w_gr (j := 25) rfl rfl (by first | assumption | rfl) (by first | assumption | rfl) rfl ?_ | refine w_gi (j := 25) rfl rfl (by first | assumption | rfl) (by first | assumption | rfl) rfl rfl ?_
    first | refine w_gr (j := 26) rfl rfl (by first | assumption | rfl) (by first | assumption | rfl) rfl ?_ | refine w_gi (j := 26) rfl rfl (by first | assumption | rfl) (by first | assumption | rfl) rfl rfl ?_
    refine w_ir rfl ?_
    exact Or.inl ⟨_, _, rfl, 1, hm, rfl, e9, k2⟩
theorem sp_230 {a : Nat} (ln : px_line h L) : px_V 1 230 [.ref 100, .int (nI a)] h (some (.int (px_b (pf_td h L a)))) h := by
  have L6 := ln.1
  have eL := ln.2.2.1
  refine px_M (M := mt_230) (ops := mo_230) tb_230 rfl rfl rfl rfl rfl ?_
  refine w_ic (n := 0) (j := 1) rfl rfl ?_
  refine w_is (j := 2) rfl rfl rfl ?_
  refine px_forI (fun k ls h1 => h1 = h ∧ ls = [.ref 100, .int (nI a), .int (nI k)] ∧ ∀ j, j < k → h 52 j ≠ nI a) L ?_ ?_ ⟨rfl, rfl, fun j hj => by omega⟩
  · rintro k _ h1 hk ⟨rfl, rfl, hj⟩ H
    have s481 := sh_481 k (by omega)
    have e0 : h1 (481 + k) 0 = h1 52 k := (ln.2.2.2.1 k hk).1.symm
    refine w_il (j := 3) rfl rfl rfl ?_
    refine w_al (j := 4) rfl rfl rfl ?_
    first | refine w_gr (j := 5) rfl rfl (by first | assumption | rfl) (by first | assumption | rfl) rfl ?_ | refine w_gi (j := 5) rfl rfl (by first | assumption | rfl) (by first | assumption | rfl) rfl eL ?_
    refine w_geN (j := 6) rfl rfl (by omega) (by omega) (fun c => absurd c (fun c => by omega)) (fun _ => ?_)
    refine w_al (j := 7) rfl rfl rfl ?_
    first | refine w_gr (j := 8) rfl rfl (by first | assumption | rfl) (by first | assumption | rfl) rfl ?_ | refine w_gi (j := 8) rfl rfl (by first | assumption | rfl) (by first | assumption | rfl) rfl rfl ?_
    refine w_il (j := 9) rfl rfl rfl ?_
    refine w_aal (j := 10) rfl rfl (by first | assumption | rfl) rfl (by omega) rfl ?_
    refine w_ic (n := 0) (j := 11) rfl rfl ?_
    refine w_ial (j := 12) rfl rfl (by first | assumption | rfl) rfl (by omega) rfl e0 ?_
    refine w_il (j := 13) rfl rfl rfl ?_
    refine w_ne (j := 14) rfl rfl (fun c1 => ?_) (fun c1 => ?_)
    ·
      first | refine w_incN (j := 17) rfl rfl rfl ?_ | refine w_inc (j := 17) rfl rfl rfl rfl ?_
      refine w_go rfl ?_
      refine H _ _ ⟨rfl, rfl, fun j hj2 => ?_⟩
      by_cases e : j = k
      · rw [e]; exact c1
      · exact hj j (by omega)
    ·
      refine w_ic (n := 1) (j := 15) rfl rfl ?_
      refine w_irB rfl (by first | exact Or.inl rfl | exact Or.inr rfl | exact px_b01 _) ?_
      exact px_ri (by rw [pf_td_t hk c1]; rfl)
  · rintro _ h1 ⟨rfl, rfl, hj⟩
    refine w_il (j := 3) rfl rfl rfl ?_
    refine w_al (j := 4) rfl rfl rfl ?_
    first | refine w_gr (j := 5) rfl rfl (by first | assumption | rfl) (by first | assumption | rfl) rfl ?_ | refine w_gi (j := 5) rfl rfl (by first | assumption | rfl) (by first | assumption | rfl) rfl eL ?_
    refine w_geN (j := 6) rfl rfl (by omega) (by omega) (fun _ => ?_) (fun c => absurd c (fun c => by omega))
    refine w_ic (n := 0) (j := 19) rfl rfl ?_
    refine w_irB rfl (by first | exact Or.inl rfl | exact Or.inr rfl | exact px_b01 _) ?_
    exact px_ri (by rw [pf_td_f hj]; rfl)
end LI
