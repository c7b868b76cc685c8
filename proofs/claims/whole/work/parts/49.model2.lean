def px_Rw (r : Nat) : Prop := ix_sh r = (1, 32, 0) ∧ 577 ≤ r ∧ r ≤ 578
theorem px_Rw577 : px_Rw 577 := by unfold px_Rw; decide
theorem px_Rw578 : px_Rw 578 := by unfold px_Rw; decide
theorem pf_ct_fold (p : Nat → Int32) (v w : Int32) : ∀ N, px_fold (fun k s => s + (if p k = v then nI 1 else nI 0)) N w = nI (pf_ct p v N) + w
  | 0 => by show w = nI 0 + w; rw [show nI 0 = 0 from rfl, Int32.zero_add]
  | N + 1 => by
    rw [px_fold, pf_ct_fold p v w N, pf_ct]
    by_cases hp : p N = v
    · rw [if_pos hp, if_pos hp, ← px_nadd, Int32.add_comm, Int32.add_assoc]
    · rw [if_neg hp, if_neg hp, Nat.zero_add]
      show _ + 0 = _
      rw [Int32.add_zero]
theorem sp_196 {h : ix_H} {r c N : Nat} (hr : px_Rw r) (hN : h 104 1 = nI N) (hN8 : N ≤ 8) (hc : c < 8) : px_V 1 196 [.ref 100, .ref r, .int (nI c)] h (some (.int (nI (pf_ct (h r) (h r c) N) - nI 1))) h := by
  obtain ⟨r1, r2, r3⟩ := hr
  refine px_M (M := mt_196) (ops := mo_196) tb_196 rfl rfl rfl rfl rfl ?_
  refine w_im (j := 1) rfl rfl ?_
  refine w_is (j := 2) rfl rfl rfl ?_
  refine w_ic (n := 0) (j := 3) rfl rfl ?_
  refine w_iS (j := 4) rfl rfl rfl ?_
  refine px_for (fun k s => [.ref 100, .ref r, .int (nI c), .int s, .int (nI k)]) (fun _ => h) (fun k s => s + (if h r k = h r c then nI 1 else nI 0)) N (-1) (fun _ _ => True) trivial (fun _ _ _ _ => trivial) ?_ ?_
  · intro k s hk _ H
    refine w_iL (j := 5) rfl rfl rfl ?_
    refine w_al (j := 6) rfl rfl rfl ?_
    first | refine w_gr (j := 7) rfl rfl (by first | assumption | rfl) (by first | assumption | rfl) rfl ?_ | refine w_gi (j := 7) rfl rfl (by first | assumption | rfl) (by first | assumption | rfl) rfl rfl ?_
    refine w_ic (n := 1) (j := 8) rfl rfl ?_
    refine w_ial (j := 9) rfl rfl (by first | assumption | rfl) rfl (by omega) rfl hN ?_
    refine w_geN (j := 10) rfl rfl (by omega) (by omega) (fun c => absurd c (fun c => by omega)) (fun _ => ?_)
    refine w_il (j := 11) rfl rfl rfl ?_
    refine w_al (j := 12) rfl rfl rfl ?_
    refine w_ic (n := 0) (j := 13) rfl rfl ?_
    refine w_iL (j := 14) rfl rfl rfl ?_
    first | refine w_add0 (j := 15) rfl rfl ?_ | refine w_addN (j := 15) rfl rfl ?_ | refine w_add (j := 15) rfl rfl ?_
    refine w_ial (j := 16) rfl rfl (by first | assumption | rfl) rfl (by omega) rfl rfl ?_
    refine w_al (j := 17) rfl rfl rfl ?_
    refine w_ic (n := 0) (j := 18) rfl rfl ?_
    refine w_il (j := 19) rfl rfl rfl ?_
    first | refine w_add0 (j := 20) rfl rfl ?_ | refine w_addN (j := 20) rfl rfl ?_ | refine w_add (j := 20) rfl rfl ?_
    refine w_ial (j := 21) rfl rfl (by first | assumption | rfl) rfl (by omega) rfl rfl ?_
    refine w_ne (j := 22) rfl rfl (fun c1 => ?_) (fun c1 => ?_)
    ·
      refine w_ic (n := 0) (j := 25) rfl rfl ?_
      first | refine w_add0 (j := 26) rfl rfl ?_ | refine w_addN (j := 26) rfl rfl ?_ | refine w_add (j := 26) rfl rfl ?_
      refine w_is (j := 27) rfl rfl rfl ?_
      first | refine w_incN (j := 28) rfl rfl rfl ?_ | refine w_inc (j := 28) rfl rfl rfl rfl ?_
      refine w_go rfl ?_
      rw [if_neg c1] at H
      exact H
    ·
      refine w_ic (n := 1) (j := 23) rfl rfl ?_
      refine w_go rfl ?_
      first | refine w_add0 (j := 26) rfl rfl ?_ | refine w_addN (j := 26) rfl rfl ?_ | refine w_add (j := 26) rfl rfl ?_
      refine w_is (j := 27) rfl rfl rfl ?_
      first | refine w_incN (j := 28) rfl rfl rfl ?_ | refine w_inc (j := 28) rfl rfl rfl rfl ?_
      refine w_go rfl ?_
      rw [if_pos c1] at H
      exact H
  · intro _
    refine w_iL (j := 5) rfl rfl rfl ?_
    refine w_al (j := 6) rfl rfl rfl ?_
    first | refine w_gr (j := 7) rfl rfl (by first | assumption | rfl) (by first | assumption | rfl) rfl ?_ | refine w_gi (j := 7) rfl rfl (by first | assumption | rfl) (by first | assumption | rfl) rfl rfl ?_
    refine w_ic (n := 1) (j := 8) rfl rfl ?_
    refine w_ial (j := 9) rfl rfl (by first | assumption | rfl) rfl (by omega) rfl hN ?_
    refine w_geN (j := 10) rfl rfl (by omega) (by omega) (fun _ => ?_) (fun c => absurd c (fun c => by omega))
    refine w_il (j := 30) rfl rfl rfl ?_
    refine w_ir rfl ?_
    exact px_ri (by rw [pf_ct_fold, ← Int32.sub_eq_add_neg]; rfl)
theorem sp_197 {h : ix_H} {r N : Nat} {b : Int32} (hr : px_Rw r) (hN : h 104 1 = nI N) (hN8 : N ≤ 8) : px_V 1 197 [.ref 100, .ref r, .int b] h (some (.int (nI (pf_ct (h r) b N)))) h := by
  obtain ⟨r1, r2, r3⟩ := hr
  refine px_M (M := mt_197) (ops := mo_197) tb_197 rfl rfl rfl rfl rfl ?_
  refine w_ic (n := 0) (j := 1) rfl rfl ?_
  refine w_is (j := 2) rfl rfl rfl ?_
  refine w_ic (n := 0) (j := 3) rfl rfl ?_
  refine w_iS (j := 4) rfl rfl rfl ?_
  refine px_for (fun k s => [.ref 100, .ref r, .int b, .int s, .int (nI k)]) (fun _ => h) (fun k s => s + (if h r k = b then nI 1 else nI 0)) N (nI 0) (fun _ _ => True) trivial (fun _ _ _ _ => trivial) ?_ ?_
  · intro k s hk _ H
    refine w_iL (j := 5) rfl rfl rfl ?_
    refine w_al (j := 6) rfl rfl rfl ?_
    first | refine w_gr (j := 7) rfl rfl (by first | assumption | rfl) (by first | assumption | rfl) rfl ?_ | refine w_gi (j := 7) rfl rfl (by first | assumption | rfl) (by first | assumption | rfl) rfl rfl ?_
    refine w_ic (n := 1) (j := 8) rfl rfl ?_
    refine w_ial (j := 9) rfl rfl (by first | assumption | rfl) rfl (by omega) rfl hN ?_
    refine w_geN (j := 10) rfl rfl (by omega) (by omega) (fun c => absurd c (fun c => by omega)) (fun _ => ?_)
    refine w_il (j := 11) rfl rfl rfl ?_
    refine w_al (j := 12) rfl rfl rfl ?_
    refine w_ic (n := 0) (j := 13) rfl rfl ?_
    refine w_iL (j := 14) rfl rfl rfl ?_
    first | refine w_add0 (j := 15) rfl rfl ?_ | refine w_addN (j := 15) rfl rfl ?_ | refine w_add (j := 15) rfl rfl ?_
    refine w_ial (j := 16) rfl rfl (by first | assumption | rfl) rfl (by omega) rfl rfl ?_
    refine w_il (j := 17) rfl rfl rfl ?_
    refine w_ne (j := 18) rfl rfl (fun c1 => ?_) (fun c1 => ?_)
    ·
      refine w_ic (n := 0) (j := 21) rfl rfl ?_
      first | refine w_add0 (j := 22) rfl rfl ?_ | refine w_addN (j := 22) rfl rfl ?_ | refine w_add (j := 22) rfl rfl ?_
      refine w_is (j := 23) rfl rfl rfl ?_
      first | refine w_incN (j := 24) rfl rfl rfl ?_ | refine w_inc (j := 24) rfl rfl rfl rfl ?_
      refine w_go rfl ?_
      rw [if_neg c1] at H
      exact H
    ·
      refine w_ic (n := 1) (j := 19) rfl rfl ?_
      refine w_go rfl ?_
      first | refine w_add0 (j := 22) rfl rfl ?_ | refine w_addN (j := 22) rfl rfl ?_ | refine w_add (j := 22) rfl rfl ?_
      refine w_is (j := 23) rfl rfl rfl ?_
      first | refine w_incN (j := 24) rfl rfl rfl ?_ | refine w_inc (j := 24) rfl rfl rfl rfl ?_
      refine w_go rfl ?_
      rw [if_pos c1] at H
      exact H
  · intro _
    refine w_iL (j := 5) rfl rfl rfl ?_
    refine w_al (j := 6) rfl rfl rfl ?_
    first | refine w_gr (j := 7) rfl rfl (by first | assumption | rfl) (by first | assumption | rfl) rfl ?_ | refine w_gi (j := 7) rfl rfl (by first | assumption | rfl) (by first | assumption | rfl) rfl rfl ?_
    refine w_ic (n := 1) (j := 8) rfl rfl ?_
    refine w_ial (j := 9) rfl rfl (by first | assumption | rfl) rfl (by omega) rfl hN ?_
    refine w_geN (j := 10) rfl rfl (by omega) (by omega) (fun _ => ?_) (fun c => absurd c (fun c => by omega))
    refine w_il (j := 26) rfl rfl rfl ?_
    refine w_ir rfl ?_
    exact px_ri (by rw [pf_ct_fold]; show _ + 0 = _; rw [Int32.add_zero])
theorem px_mw.fr {S : List Nat} {h h' : ix_H} {cs : List (Nat × Nat)} (hl : px_mw h cs) (hf : px_fr S h h') (hS : 100 ∉ S ∧ ∀ a, 159 ≤ a → a < 319 → a ∉ S) : px_mw h' cs := by
  have e1 := hf 100 hS.1
  rcases hl with ⟨l1, l2, l3, l4⟩ | ⟨l1, l2⟩
  · refine Or.inl ⟨by rw [e1]; exact l1, l2, l3, fun k c hk => ?_⟩
    have hkk : k < cs.length := (List.getElem?_eq_some_iff.mp hk).1
    rw [hf (159 + k) (hS.2 _ (by omega) (by omega))]
    exact l4 k c hk
  · exact Or.inr ⟨by rw [e1]; exact l1, l2⟩
theorem sp_198 {h : ix_H} {cs : List (Nat × Nat)} {f m t s p a b y : Int32} (hl : px_mw h cs) (hw : pf_wf cs 0 1) : px_PI 4 198 [.ref 100, .int f, .int m, .int t, .int s, .int p, .int a, .int b, .int y] h (fun v h' => v = pf_ev cs (pf_gv f m t s p a b y) ∧ px_fr [494, 495] h h') := by
  refine px_M (M := mt_198) (ops := mo_198) tb_198 rfl rfl rfl rfl rfl ?_
  refine w_al (j := 1) rfl rfl rfl ?_
  first | refine w_gr (j := 2) rfl rfl (by first | assumption | rfl) (by first | assumption | rfl) rfl ?_ | refine w_gi (j := 2) rfl rfl (by first | assumption | rfl) (by first | assumption | rfl) rfl rfl ?_
  refine w_ic (n := 0) (j := 3) rfl rfl ?_
  refine w_il (j := 4) rfl rfl rfl ?_
  refine w_ias (j := 5) rfl rfl (by first | assumption | rfl) rfl (by omega) rfl ?_
  refine w_al (j := 6) rfl rfl rfl ?_
  first | refine w_gr (j := 7) rfl rfl (by first | assumption | rfl) (by first | assumption | rfl) rfl ?_ | refine w_gi (j := 7) rfl rfl (by first | assumption | rfl) (by first | assumption | rfl) rfl rfl ?_
  refine w_ic (n := 1) (j := 8) rfl rfl ?_
  refine w_il (j := 9) rfl rfl rfl ?_
  refine w_ias (j := 10) rfl rfl (by first | assumption | rfl) rfl (by omega) rfl ?_
  refine w_al (j := 11) rfl rfl rfl ?_
  first | refine w_gr (j := 12) rfl rfl (by first | assumption | rfl) (by first | assumption | rfl) rfl ?_ | refine w_gi (j := 12) rfl rfl (by first | assumption | rfl) (by first | assumption | rfl) rfl rfl ?_
  refine w_ic (n := 2) (j := 13) rfl rfl ?_
  refine w_il (j := 14) rfl rfl rfl ?_
  refine w_ias (j := 15) rfl rfl (by first | assumption | rfl) rfl (by omega) rfl ?_
  refine w_al (j := 16) rfl rfl rfl ?_
  first | refine w_gr (j := 17) rfl rfl (by first | assumption | rfl) (by first | assumption | rfl) rfl ?_ | refine w_gi (j := 17) rfl rfl (by first | assumption | rfl) (by first | assumption | rfl) rfl rfl ?_
  refine w_ic (n := 3) (j := 18) rfl rfl ?_
  refine w_iL (j := 19) rfl rfl rfl ?_
  refine w_ias (j := 20) rfl rfl (by first | assumption | rfl) rfl (by omega) rfl ?_
  refine w_al (j := 21) rfl rfl rfl ?_
  first | refine w_gr (j := 22) rfl rfl (by first | assumption | rfl) (by first | assumption | rfl) rfl ?_ | refine w_gi (j := 22) rfl rfl (by first | assumption | rfl) (by first | assumption | rfl) rfl rfl ?_
  refine w_ic (n := 4) (j := 23) rfl rfl ?_
  refine w_iL (j := 24) rfl rfl rfl ?_
  refine w_ias (j := 25) rfl rfl (by first | assumption | rfl) rfl (by omega) rfl ?_
  refine w_al (j := 26) rfl rfl rfl ?_
  first | refine w_gr (j := 27) rfl rfl (by first | assumption | rfl) (by first | assumption | rfl) rfl ?_ | refine w_gi (j := 27) rfl rfl (by first | assumption | rfl) (by first | assumption | rfl) rfl rfl ?_
  refine w_ic (n := 5) (j := 28) rfl rfl ?_
  refine w_iL (j := 29) rfl rfl rfl ?_
  refine w_ias (j := 30) rfl rfl (by first | assumption | rfl) rfl (by omega) rfl ?_
  refine w_al (j := 31) rfl rfl rfl ?_
  first | refine w_gr (j := 32) rfl rfl (by first | assumption | rfl) (by first | assumption | rfl) rfl ?_ | refine w_gi (j := 32) rfl rfl (by first | assumption | rfl) (by first | assumption | rfl) rfl rfl ?_
  refine w_bi (j := 33) (a := nI 6) rfl rfl (by decide) ?_
  refine w_iL (j := 34) rfl rfl rfl ?_
  refine w_ias (j := 35) rfl rfl (by first | assumption | rfl) rfl (by omega) rfl ?_
  refine w_al (j := 36) rfl rfl rfl ?_
  first | refine w_gr (j := 37) rfl rfl (by first | assumption | rfl) (by first | assumption | rfl) rfl ?_ | refine w_gi (j := 37) rfl rfl (by first | assumption | rfl) (by first | assumption | rfl) rfl rfl ?_
  refine w_bi (j := 38) (a := nI 7) rfl rfl (by decide) ?_
  refine w_iL (j := 39) rfl rfl rfl ?_
  refine w_ias (j := 40) rfl rfl (by first | assumption | rfl) rfl (by omega) rfl ?_
  refine w_al (j := 41) rfl rfl rfl ?_
  refine w_cvPI (j := 42) rfl rfl rfl rfl (by first | assumption | rfl) rfl rfl (sp_191 (px_mw.fr (S := [494, 495]) hl (by repeat first | exact px_fr.rf | refine px_fr.up ?_ (by decide)) (by constructor; decide; intro a h1 h2; simp; omega)) hw) rfl ?_
  rintro v h9 ⟨e1, f1⟩
  refine w_ir rfl ?_
  refine ⟨_, _, rfl, ?_, ?_⟩
  · subst e1
    refine pf_ev_congr ?_ hw
    intro j hj
    obtain rfl | rfl | rfl | rfl | rfl | rfl | rfl | rfl : j = 0 ∨ j = 1 ∨ j = 2 ∨ j = 3 ∨ j = 4 ∨ j = 5 ∨ j = 6 ∨ j = 7 := by omega
    all_goals simp [ix_up, pf_gv]
  · refine px_fr.tr ?_ (f1.sub (by decide))
    repeat first | exact px_fr.rf | refine px_fr.up ?_ (by decide)
theorem pf_cl_nn (v : Int32) : ¬ pf_cl v < 0 := by
  unfold pf_cl
  generalize (if nI 99 < v then nI 99 else v) = w
  by_cases h1 : nI 0 < w
  · rw [if_pos h1]
    rw [Int32.lt_iff_toInt_lt] at h1 ⊢
    have : (nI 0).toInt = 0 := nI_toInt (by decide)
    rw [Int32.toInt_zero]
    omega
  · rw [if_neg h1]
    decide
theorem pf_li_eq {cs : List (Nat × Nat)} {f m t s p a b y : Int32} : pf_ls2 s (pf_ev cs (pf_gv f m t s p a b y)) = pf_li cs f m t s p a b y := by
  unfold pf_li pf_ls2
  by_cases hs : s = 0
  · rw [if_pos hs, hs]
    by_cases h1 : 0 < pf_ev cs (pf_gv f m t 0 p a b y)
    · rw [if_pos h1]; rfl
    · rw [if_neg h1]
      have h2 : ¬ pf_ev cs (pf_gv f m t 0 p a b y) < 0 := pf_cl_nn _
      apply Int32.toInt_inj.mp
      rw [Int32.lt_iff_toInt_lt, Int32.toInt_zero] at h1 h2
      rw [show (nI 0).toInt = 0 from nI_toInt (by decide)]
      omega
  · rw [if_neg hs]
theorem sp_199 {h : ix_H} {cs : List (Nat × Nat)} {r b c : Nat} {m s a y : Int32} (hr : px_Rw r) (hb : b < 6) (hc : c < 8) (hl : px_mw h cs) (hw : pf_wf cs 0 1) : px_PI 5 199 [.ref 100, .ref r, .int (nI c), .int (nI b), .int m, .int s, .int a, .int y] h (fun v h' => v = pf_li cs (h (113 + b) 0) m (h r (24 + b)) s (h (129 + c) 0) a (nI b) y ∧ px_fr [494, 495] h h') := by
  obtain ⟨r1, r2, r3⟩ := hr
  have s1 := sh_113 b hb
  have s2 := sh_129 c hc
  refine px_M (M := mt_199) (ops := mo_199) tb_199 rfl rfl rfl rfl rfl ?_
  refine w_iL (j := 1) rfl rfl rfl ?_
  refine w_al (j := 2) rfl rfl rfl ?_
  refine w_al (j := 3) rfl rfl rfl ?_
  first | refine w_gr (j := 4) rfl rfl (by first | assumption | rfl) (by first | assumption | rfl) rfl ?_ | refine w_gi (j := 4) rfl rfl (by first | assumption | rfl) (by first | assumption | rfl) rfl rfl ?_
  refine w_il (j := 5) rfl rfl rfl ?_
  refine w_aal (j := 6) rfl rfl (by first | assumption | rfl) rfl (by omega) rfl ?_
  refine w_ic (n := 0) (j := 7) rfl rfl ?_
  refine w_ial (j := 8) rfl rfl (by first | assumption | rfl) rfl (by omega) rfl rfl ?_
  refine w_iL (j := 9) rfl rfl rfl ?_
  refine w_al (j := 10) rfl rfl rfl ?_
  refine w_bi (j := 11) (a := nI 24) rfl rfl (by decide) ?_
  refine w_il (j := 12) rfl rfl rfl ?_
  first | refine w_add0 (j := 13) rfl rfl ?_ | refine w_addN (j := 13) rfl rfl ?_ | refine w_add (j := 13) rfl rfl ?_
  refine w_ial (j := 14) rfl rfl (by first | assumption | rfl) rfl (by omega) rfl rfl ?_
  refine w_iL (j := 15) rfl rfl rfl ?_
  refine w_al (j := 16) rfl rfl rfl ?_
  first | refine w_gr (j := 17) rfl rfl (by first | assumption | rfl) (by first | assumption | rfl) rfl ?_ | refine w_gi (j := 17) rfl rfl (by first | assumption | rfl) (by first | assumption | rfl) rfl rfl ?_
  refine w_il (j := 18) rfl rfl rfl ?_
  refine w_aal (j := 19) rfl rfl (by first | assumption | rfl) rfl (by omega) rfl ?_
  refine w_ic (n := 0) (j := 20) rfl rfl ?_
  refine w_ial (j := 21) rfl rfl (by first | assumption | rfl) rfl (by omega) rfl rfl ?_
  refine w_iL (j := 22) rfl rfl rfl ?_
  refine w_il (j := 23) rfl rfl rfl ?_
  refine w_iL (j := 24) rfl rfl rfl ?_
  refine w_cvPI (j := 25) rfl rfl rfl rfl (by first | assumption | rfl) rfl rfl (sp_198 hl hw) rfl ?_
  rintro v h9 ⟨e1, f1⟩
  refine w_csI (j := 26) rfl rfl rfl rfl rfl (sp_156) rfl ?_
  refine w_ir rfl ?_
  exact ⟨_, _, rfl, by rw [e1, pf_li_eq], f1⟩
def px_mpl (h : ix_H) (r B : Nat) : Prop := ∀ c, c < 8 → h r c = -2 ∨ h r c = -1 ∨ ∃ b, b < B ∧ h r c = nI b
def pf_rr (h : ix_H) (a k n : Nat) : Nat → Int32 := fun j => if j < n then h (a + j) k else 0
theorem pf_rr_lt {h : ix_H} {a k n j : Nat} (hj : j < n) : pf_rr h a k n j = h (a + j) k := if_pos hj
theorem pf_rr_fr {S : List Nat} {h h' : ix_H} {a k n : Nat} (f : px_fr S h h') (hS : ∀ j, j < n → a + j ∉ S) : pf_rr h' a k n = pf_rr h a k n := by
  funext j
  unfold pf_rr
  split
  · rename_i hj
    rw [f _ (hS j hj)]
  · rfl
def pf_sh (f : Nat → Int32) (o : Nat) : Nat → Int32 := fun j => f (o + j)
theorem sp_200 {h : ix_H} {r c N B : Nat} {cs : List (Nat × Nat)} (hr : px_Rw r) (hc : c < 8) (hN : h 104 1 = nI N) (hN8 : N ≤ 8) (hB6 : B ≤ 6) (hp : px_mpl h r B) (hl : px_mw h cs) (hw : pf_wf cs 0 1) : px_PI 6 200 [.ref 100, .ref r, .int (nI c)] h (fun v h' => v = pf_ls cs N (pf_rr h 113 0 6) (pf_rr h 129 0 8) (pf_sh (h r) 8) (pf_sh (h r) 16) (h r) (pf_sh (h r) 24) (h r 31) c ∧ px_fr [494, 495] h h') := by
  have hr' := hr
  obtain ⟨r1, r2, r3⟩ := hr
  refine px_M (M := mt_200) (ops := mo_200) tb_200 rfl rfl rfl rfl rfl ?_
  refine w_al (j := 1) rfl rfl rfl ?_
  refine w_ic (n := 0) (j := 2) rfl rfl ?_
  refine w_il (j := 3) rfl rfl rfl ?_
  first | refine w_add0 (j := 4) rfl rfl ?_ | refine w_addN (j := 4) rfl rfl ?_ | refine w_add (j := 4) rfl rfl ?_
  refine w_ial (j := 5) rfl rfl (by first | assumption | rfl) rfl (by omega) rfl rfl ?_
  refine w_is (j := 6) rfl rfl rfl ?_
  refine w_al (j := 7) rfl rfl rfl ?_
  refine w_bi (j := 8) (a := nI 8) rfl rfl (by decide) ?_
  refine w_il (j := 9) rfl rfl rfl ?_
  first | refine w_add0 (j := 10) rfl rfl ?_ | refine w_addN (j := 10) rfl rfl ?_ | refine w_add (j := 10) rfl rfl ?_
  refine w_ial (j := 11) rfl rfl (by first | assumption | rfl) rfl (by omega) rfl rfl ?_
  refine w_iS (j := 12) rfl rfl rfl ?_
  refine w_il (j := 13) rfl rfl rfl ?_
  refine w_bi (j := 14) (a := (-2)) rfl rfl (by decide) ?_
  refine w_ne (j := 15) rfl rfl (fun c1 => ?_) (fun c1 => ?_)
  ·
    refine w_il (j := 18) rfl rfl rfl ?_
    refine w_im (j := 19) rfl rfl ?_
    refine w_ne (j := 20) rfl rfl (fun c2 => ?_) (fun c2 => ?_)
    ·
      rcases hp c hc with h1 | h1 | ⟨b, hb, h1⟩
      · exact absurd h1 c1
      · exact absurd h1 c2
      ·
        rw [h1]
        refine w_al (j := 27) rfl rfl rfl ?_
        refine w_al (j := 28) rfl rfl rfl ?_
        refine w_il (j := 29) rfl rfl rfl ?_
        refine w_il (j := 30) rfl rfl rfl ?_
        refine w_al (j := 31) rfl rfl rfl ?_
        refine w_al (j := 32) rfl rfl rfl ?_
        refine w_il (j := 33) rfl rfl rfl ?_
        refine w_cvI (j := 34) rfl rfl rfl rfl (by first | assumption | rfl) rfl rfl (sp_196 hr' hN hN8 hc) rfl ?_
        refine w_iL (j := 35) rfl rfl rfl ?_
        refine w_al (j := 36) rfl rfl rfl ?_
        refine w_bi (j := 37) (a := nI 16) rfl rfl (by decide) ?_
        refine w_il (j := 38) rfl rfl rfl ?_
        first | refine w_add0 (j := 39) rfl rfl ?_ | refine w_addN (j := 39) rfl rfl ?_ | refine w_add (j := 39) rfl rfl ?_
        refine w_ial (j := 40) rfl rfl (by first | assumption | rfl) rfl (by omega) rfl rfl ?_
        refine w_al (j := 41) rfl rfl rfl ?_
        refine w_bi (j := 42) (a := nI 31) rfl rfl (by decide) ?_
        refine w_ial (j := 43) rfl rfl (by first | assumption | rfl) rfl (by omega) rfl rfl ?_
        refine w_cvPI (j := 44) rfl rfl rfl rfl (by first | assumption | rfl) rfl rfl (sp_199 (b := b) hr' (by omega) hc hl hw) rfl ?_
        rintro v h9 ⟨e1, f1⟩
        refine w_ir rfl ?_
        refine ⟨_, _, rfl, ?_, f1⟩
        rw [e1, pf_ls, if_neg c1, if_neg c2, h1, nI_clamp (by omega), pf_rr_lt (by omega), pf_rr_lt (by omega)]
        rfl
    ·
      refine w_iL (j := 21) rfl rfl rfl ?_
      refine w_iL (j := 22) rfl rfl rfl ?_
      refine w_ic (n := 2) (j := 23) rfl rfl ?_
      refine w_div (j := 24) rfl rfl (by first | decide | assumption) ?_
      first | refine w_subN (j := 25) rfl rfl (by omega) ?_ | refine w_sub (j := 25) rfl rfl ?_
      refine w_go rfl ?_
      refine w_ir rfl ?_
      exact ⟨_, _, rfl, by rw [pf_ls, if_neg c1, if_pos c2]; rfl, px_fr.rf⟩
  ·
    refine w_ic (n := 0) (j := 16) rfl rfl ?_
    refine w_ir rfl ?_
    exact ⟨_, _, rfl, by rw [pf_ls, if_pos c1], px_fr.rf⟩
theorem sp_201 {h : ix_H} {r N B : Nat} {cs : List (Nat × Nat)} (hr : px_Rw r) (hN : h 104 1 = nI N) (hN8 : N ≤ 8) (hB6 : B ≤ 6) (hp : px_mpl h r B) (hl : px_mw h cs) (hw : pf_wf cs 0 1) : px_PU 7 201 [.ref 100, .ref r] h (fun h' => px_fr [494, 495, 579, r] h h' ∧ (∀ c, c < 8 → h' r (8 + c) = if c < N then h r (8 + c) - pf_ls cs N (pf_rr h 113 0 6) (pf_rr h 129 0 8) (pf_sh (h r) 8) (pf_sh (h r) 16) (h r) (pf_sh (h r) 24) (h r 31) c else h r (8 + c)) ∧ (∀ c, c < 8 → h' r (16 + c) = if c < N ∧ h r c ≠ -2 then h r (16 + c) + nI 1 else h r (16 + c)) ∧ (∀ j, (j < 8 ∨ (24 ≤ j ∧ j ≠ 31)) → h' r j = h r j) ∧ h' r 31 = h r 31 + nI 1) := by
  have hr' := hr
  obtain ⟨r1, r2, r3⟩ := hr
  generalize hL : pf_ls cs N (pf_rr h 113 0 6) (pf_rr h 129 0 8) (pf_sh (h r) 8) (pf_sh (h r) 16) (h r) (pf_sh (h r) 24) (h r 31) = L
  refine px_M (M := mt_201) (ops := mo_201) tb_201 rfl rfl rfl rfl rfl ?_
  refine w_ic (n := 0) (j := 1) rfl rfl ?_
  refine w_is (j := 2) rfl rfl rfl ?_
  refine px_forI (fun c ls h1 => ls = [.ref 100, .ref r, .int (nI c)] ∧ px_fr [494, 495, 579] h h1 ∧ ∀ j, j < c → h1 579 j = L j) N ?_ ?_ ⟨rfl, px_fr.rf, fun j hj => by omega⟩
  · rintro c _ h1 hc ⟨rfl, fr, ha⟩ H
    have e7 := px_f3 fr hN (by decide)
    have rr := fr r (by simp; omega)
    have q1 : pf_rr h1 113 0 6 = pf_rr h 113 0 6 := pf_rr_fr fr (by intro j hj; simp; omega)
    have q2 : pf_rr h1 129 0 8 = pf_rr h 129 0 8 := pf_rr_fr fr (by intro j hj; simp; omega)
    refine w_il (j := 3) rfl rfl rfl ?_
    refine w_al (j := 4) rfl rfl rfl ?_
    first | refine w_gr (j := 5) rfl rfl (by first | assumption | rfl) (by first | assumption | rfl) rfl ?_ | refine w_gi (j := 5) rfl rfl (by first | assumption | rfl) (by first | assumption | rfl) rfl rfl ?_
    refine w_ic (n := 1) (j := 6) rfl rfl ?_
    refine w_ial (j := 7) rfl rfl (by first | assumption | rfl) rfl (by omega) rfl e7 ?_
    refine w_geN (j := 8) rfl rfl (by omega) (by omega) (fun c => absurd c (fun c => by omega)) (fun _ => ?_)
    refine w_al (j := 9) rfl rfl rfl ?_
    first | refine w_gr (j := 10) rfl rfl (by first | assumption | rfl) (by first | assumption | rfl) rfl ?_ | refine w_gi (j := 10) rfl rfl (by first | assumption | rfl) (by first | assumption | rfl) rfl rfl ?_
    refine w_il (j := 11) rfl rfl rfl ?_
    refine w_al (j := 12) rfl rfl rfl ?_
    refine w_al (j := 13) rfl rfl rfl ?_
    refine w_il (j := 14) rfl rfl rfl ?_
    refine w_cvPI (j := 15) rfl rfl rfl rfl (by first | assumption | rfl) rfl rfl (sp_200 hr' (by omega) e7 hN8 hB6 (by unfold px_mpl; rw [rr]; exact hp) (hl.fr fr (by constructor; decide; intro a h1 h2; simp; omega)) hw) rfl ?_
    rintro v h9 ⟨e1, f1⟩
    refine w_ias (j := 16) rfl rfl (by first | assumption | rfl) rfl (by omega) rfl ?_
    first | refine w_incN (j := 17) rfl rfl rfl ?_ | refine w_inc (j := 17) rfl rfl rfl rfl ?_
    refine w_go rfl ?_
    refine H _ _ ⟨rfl, (fr.tr (f1.sub (by decide))).up (by decide), fun j hj => ?_⟩
    by_cases hjc : j = c
    · subst hjc
      rw [px_up_at, e1, rr, q1, q2, hL]
    · rw [px_up_nk hjc, f1 579 (by decide)]
      exact ha j (by omega)
  · rintro _ h1 ⟨rfl, fr, ha⟩
    have e7 := px_f3 fr hN (by decide)
    have rr := fr r (by simp; omega)
    refine w_il (j := 3) rfl rfl rfl ?_
    refine w_al (j := 4) rfl rfl rfl ?_
    first | refine w_gr (j := 5) rfl rfl (by first | assumption | rfl) (by first | assumption | rfl) rfl ?_ | refine w_gi (j := 5) rfl rfl (by first | assumption | rfl) (by first | assumption | rfl) rfl rfl ?_
    refine w_ic (n := 1) (j := 6) rfl rfl ?_
    refine w_ial (j := 7) rfl rfl (by first | assumption | rfl) rfl (by omega) rfl e7 ?_
    refine w_geN (j := 8) rfl rfl (by omega) (by omega) (fun _ => ?_) (fun c => absurd c (fun c => by omega))
    refine w_ic (n := 0) (j := 19) rfl rfl ?_
    refine w_is (j := 20) rfl rfl rfl ?_
    refine px_forI (fun c ls h2 => ls = [.ref 100, .ref r, .int (nI c)] ∧ px_fr [494, 495, 579, r] h h2 ∧ (∀ j, j < N → h2 579 j = L j) ∧ (∀ j, j < 8 → h2 r (8 + j) = if j < c then h r (8 + j) - L j else h r (8 + j)) ∧ (∀ j, j < 8 → h2 r (16 + j) = if j < c ∧ h r j ≠ -2 then h r (16 + j) + nI 1 else h r (16 + j)) ∧ ∀ j, (j < 8 ∨ 24 ≤ j) → h2 r j = h r j) N ?_ ?_ ⟨rfl, fr.sub (by simp), ha, ?_, ?_, ?_⟩
    · rintro c _ h2 hc ⟨rfl, f2, ha2, hb2, hc2, hd2⟩ H
      have e72 : h2 104 1 = nI N := px_f3 f2 hN (by simp; omega)
      have k1 : (579 : Nat) ≠ r := by omega
      refine w_il (j := 21) rfl rfl rfl ?_
      refine w_al (j := 22) rfl rfl rfl ?_
      first | refine w_gr (j := 23) rfl rfl (by first | assumption | rfl) (by first | assumption | rfl) rfl ?_ | refine w_gi (j := 23) rfl rfl (by first | assumption | rfl) (by first | assumption | rfl) rfl rfl ?_
      refine w_ic (n := 1) (j := 24) rfl rfl ?_
      refine w_ial (j := 25) rfl rfl (by first | assumption | rfl) rfl (by omega) rfl e72 ?_
      refine w_geN (j := 26) rfl rfl (by omega) (by omega) (fun c => absurd c (fun c => by omega)) (fun _ => ?_)
      refine w_al (j := 27) rfl rfl rfl ?_
      refine w_bi (j := 28) (a := nI 8) rfl rfl (by decide) ?_
      refine w_il (j := 29) rfl rfl rfl ?_
      first | refine w_add0 (j := 30) rfl rfl ?_ | refine w_addN (j := 30) rfl rfl ?_ | refine w_add (j := 30) rfl rfl ?_
      refine w_dup2 (j := 31) rfl rfl ?_
      refine w_ial (j := 32) rfl rfl (by first | assumption | rfl) rfl (by omega) rfl rfl ?_
      refine w_al (j := 33) rfl rfl rfl ?_
      first | refine w_gr (j := 34) rfl rfl (by first | assumption | rfl) (by first | assumption | rfl) rfl ?_ | refine w_gi (j := 34) rfl rfl (by first | assumption | rfl) (by first | assumption | rfl) rfl rfl ?_
      refine w_il (j := 35) rfl rfl rfl ?_
      refine w_ial (j := 36) rfl rfl (by first | assumption | rfl) rfl (by omega) rfl rfl ?_
      first | refine w_subN (j := 37) rfl rfl (by omega) ?_ | refine w_sub (j := 37) rfl rfl ?_
      refine w_ias (j := 38) rfl rfl (by first | assumption | rfl) rfl (by omega) rfl ?_
      refine w_al (j := 39) rfl rfl rfl ?_
      refine w_bi (j := 40) (a := nI 16) rfl rfl (by decide) ?_
      refine w_il (j := 41) rfl rfl rfl ?_
      first | refine w_add0 (j := 42) rfl rfl ?_ | refine w_addN (j := 42) rfl rfl ?_ | refine w_add (j := 42) rfl rfl ?_
      refine w_dup2 (j := 43) rfl rfl ?_
      refine w_ial (j := 44) rfl rfl (by first | assumption | rfl) rfl (by omega) rfl rfl ?_
      refine w_al (j := 45) rfl rfl rfl ?_
      refine w_ic (n := 0) (j := 46) rfl rfl ?_
      refine w_il (j := 47) rfl rfl rfl ?_
      first | refine w_add0 (j := 48) rfl rfl ?_ | refine w_addN (j := 48) rfl rfl ?_ | refine w_add (j := 48) rfl rfl ?_
      refine w_ial (j := 49) rfl rfl (by first | assumption | rfl) rfl (by omega) rfl rfl ?_
      refine w_bi (j := 50) (a := (-2)) rfl rfl (by decide) ?_
      have ep : ix_up h2 r (8 + c) (h2 r (8 + c) - h2 579 c) r c = h r c := by rw [px_up_nk (by omega)]; exact hd2 c (by omega)
      refine w_ne (j := 51) rfl rfl (fun c1 => ?_) (fun c1 => ?_)
      ·
        rw [ep] at c1
        refine w_ic (n := 1) (j := 54) rfl rfl ?_
        first | refine w_add0 (j := 55) rfl rfl ?_ | refine w_addN (j := 55) rfl rfl ?_ | refine w_add (j := 55) rfl rfl ?_
        refine w_ias (j := 56) rfl rfl (by first | assumption | rfl) rfl (by omega) rfl ?_
        first | refine w_incN (j := 57) rfl rfl rfl ?_ | refine w_inc (j := 57) rfl rfl rfl rfl ?_
        refine w_go rfl ?_
        refine H _ _ ⟨rfl, (f2.up (by simp)).up (by simp), fun j hj => ?_, fun j hj => ?_, fun j hj => ?_, fun j hj => ?_⟩
        · rw [px_up_na k1, px_up_na k1]; exact ha2 j hj
        · rw [px_up_nk (by omega)]
          by_cases hj2 : j = c
          · subst hj2
            rw [px_up_at, if_pos (by omega), ha2 j hc, hb2 j hj, if_neg (by omega)]
          · rw [px_up_nk (by omega), hb2 j hj]
            by_cases h5 : j < c
            · rw [if_pos h5, if_pos (by omega)]
            · rw [if_neg h5, if_neg (by omega)]
        · by_cases hj2 : j = c
          · subst hj2
            rw [px_up_at, px_up_nk (by omega), hc2 j hj, if_neg (by omega), if_pos ⟨by omega, c1⟩]
          · rw [px_up_nk (by omega), px_up_nk (by omega), hc2 j hj]
            by_cases h5 : j < c ∧ h r j ≠ -2
            · rw [if_pos h5, if_pos ⟨by omega, h5.2⟩]
            · rw [if_neg h5, if_neg (fun q => h5 ⟨by omega, q.2⟩)]
        · rw [px_up_nk (by omega), px_up_nk (by omega)]
          exact hd2 j hj
      ·
        rw [ep] at c1
        refine w_ic (n := 0) (j := 52) rfl rfl ?_
        refine w_go rfl ?_
        first | refine w_add0 (j := 55) rfl rfl ?_ | refine w_addN (j := 55) rfl rfl ?_ | refine w_add (j := 55) rfl rfl ?_
        refine w_ias (j := 56) rfl rfl (by first | assumption | rfl) rfl (by omega) rfl ?_
        first | refine w_incN (j := 57) rfl rfl rfl ?_ | refine w_inc (j := 57) rfl rfl rfl rfl ?_
        refine w_go rfl ?_
        refine H _ _ ⟨rfl, (f2.up (by simp)).up (by simp), fun j hj => ?_, fun j hj => ?_, fun j hj => ?_, fun j hj => ?_⟩
        · rw [px_up_na k1, px_up_na k1]; exact ha2 j hj
        · rw [px_up_nk (by omega)]
          by_cases hj2 : j = c
          · subst hj2
            rw [px_up_at, if_pos (by omega), ha2 j hc, hb2 j hj, if_neg (by omega)]
          · rw [px_up_nk (by omega), hb2 j hj]
            by_cases h5 : j < c
            · rw [if_pos h5, if_pos (by omega)]
            · rw [if_neg h5, if_neg (by omega)]
        · by_cases hj2 : j = c
          · subst hj2
            rw [px_up_at, px_up_nk (by omega), hc2 j hj, if_neg (by omega), if_neg (fun q => q.2 c1)]
            show _ + 0 = _
            rw [Int32.add_zero]
          · rw [px_up_nk (by omega), px_up_nk (by omega), hc2 j hj]
            by_cases h5 : j < c ∧ h r j ≠ -2
            · rw [if_pos h5, if_pos ⟨by omega, h5.2⟩]
            · rw [if_neg h5, if_neg (fun q => h5 ⟨by omega, q.2⟩)]
        · rw [px_up_nk (by omega), px_up_nk (by omega)]
          exact hd2 j hj
    · rintro _ h2 ⟨rfl, f2, ha2, hb2, hc2, hd2⟩
      have e72 : h2 104 1 = nI N := px_f3 f2 hN (by simp; omega)
      refine w_il (j := 21) rfl rfl rfl ?_
      refine w_al (j := 22) rfl rfl rfl ?_
      first | refine w_gr (j := 23) rfl rfl (by first | assumption | rfl) (by first | assumption | rfl) rfl ?_ | refine w_gi (j := 23) rfl rfl (by first | assumption | rfl) (by first | assumption | rfl) rfl rfl ?_
      refine w_ic (n := 1) (j := 24) rfl rfl ?_
      refine w_ial (j := 25) rfl rfl (by first | assumption | rfl) rfl (by omega) rfl e72 ?_
      refine w_geN (j := 26) rfl rfl (by omega) (by omega) (fun _ => ?_) (fun c => absurd c (fun c => by omega))
      refine w_al (j := 59) rfl rfl rfl ?_
      refine w_bi (j := 60) (a := nI 31) rfl rfl (by decide) ?_
      refine w_dup2 (j := 61) rfl rfl ?_
      refine w_ial (j := 62) rfl rfl (by first | assumption | rfl) rfl (by omega) rfl rfl ?_
      refine w_ic (n := 1) (j := 63) rfl rfl ?_
      first | refine w_add0 (j := 64) rfl rfl ?_ | refine w_addN (j := 64) rfl rfl ?_ | refine w_add (j := 64) rfl rfl ?_
      refine w_ias (j := 65) rfl rfl (by first | assumption | rfl) rfl (by omega) rfl ?_
      refine w_rt rfl ?_
      refine ⟨_, rfl, f2.up (by simp), fun j hj => ?_, fun j hj => ?_, fun j hj => ?_, ?_⟩
      · rw [px_up_nk (by omega)]; exact hb2 j hj
      · rw [px_up_nk (by omega)]; exact hc2 j hj
      · rw [px_up_nk (by omega)]; exact hd2 j (by omega)
      · rw [px_up_at, hd2 31 (by omega)]
    · intro j hj
      rw [rr, if_neg (by omega)]
    · intro j hj
      rw [rr, if_neg (by omega)]
    · intro j hj
      rw [rr]
