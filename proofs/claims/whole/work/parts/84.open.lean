section OP
variable {h : ix_H} {tx : Nat → Nat} {n p pc o k : Nat} {pl : Int32}
theorem px_tx.le {m : Nat} (x : px_tx h tx n) (hm : m ≤ n) : px_tx h tx m := ⟨by have := x.1; omega, fun i hi => x.2 i (by omega)⟩
theorem px_tapeX {t : Nat} (x : px_tape h t) : ∃ tx, px_tx h tx t := by
  obtain ⟨t1, t2, t3, t4⟩ := x
  refine ⟨fun i => (h 101 i).toInt.toNat, t1, fun i hi => ?_⟩
  obtain ⟨q, q1, q2, q3⟩ := t4 i hi
  have e : (h 101 i).toInt.toNat = q := by
    rw [q2]
    have : ∀ q, q < 256 → (nI q).toInt.toNat = q := by decide +kernel
    exact this q q1
  simp only [e]
  exact ⟨q1, q3, q2⟩
theorem sp_57 (r : px_rd h tx n p pc o k pl) : px_V 1 57 [.ref 2] h (some (.int (nI k))) h := by
  obtain ⟨t, r1, r2, r3, r4, r5, r6, r7, r8, r9, r10⟩ := r
  refine px_M (M := mt_57) (ops := mo_57) tb_57 rfl rfl rfl rfl rfl ?_
  refine w_al (j := 1) rfl rfl rfl ?_
  first | refine w_gr (j := 2) rfl rfl (by first | assumption | rfl) (by first | assumption | rfl) rfl ?_ | refine w_gi (j := 2) rfl rfl (by first | assumption | rfl) (by first | assumption | rfl) rfl r8 ?_
  refine w_ir rfl ?_
  rfl
theorem sp_58 (r : px_rd h tx n p pc o k pl) : px_V 1 58 [.ref 2] h (some (.int pl)) h := by
  obtain ⟨t, r1, r2, r3, r4, r5, r6, r7, r8, r9, r10⟩ := r
  refine px_M (M := mt_58) (ops := mo_58) tb_58 rfl rfl rfl rfl rfl ?_
  refine w_al (j := 1) rfl rfl rfl ?_
  first | refine w_gr (j := 2) rfl rfl (by first | assumption | rfl) (by first | assumption | rfl) rfl ?_ | refine w_gi (j := 2) rfl rfl (by first | assumption | rfl) (by first | assumption | rfl) rfl rfl ?_
  refine w_ir rfl ?_
  rw [r10]
theorem sp_55 {q : Nat} (X : px_tx h tx q) : px_PU 1 55 [.ref 2, .int (nI q)] h (fun h1 => px_fr [2] h h1 ∧ px_rd h1 tx q 0 0 0 0 (-1)) := by
  have q6 := X.1
  refine px_M (M := mt_55) (ops := mo_55) tb_55 rfl rfl rfl rfl rfl ?_
  refine w_al (j := 1) rfl rfl rfl ?_
  refine w_ic (n := 0) (j := 2) rfl rfl ?_
  refine w_il (j := 3) rfl rfl rfl ?_
  refine w_al (j := 4) rfl rfl rfl ?_
  first | refine w_gr (j := 5) rfl rfl (by first | assumption | rfl) (by first | assumption | rfl) rfl ?_ | refine w_gi (j := 5) rfl rfl (by first | assumption | rfl) (by first | assumption | rfl) rfl rfl ?_
  refine w_alen (j := 6) rfl rfl (by first | assumption | rfl) (by decide) ?_
  refine w_min (j := 7) rfl rfl rfl ?_
  rw [if_neg (show ¬ nI 600 < nI q by rw [px_nlt (by decide) (by omega)]; omega)]
  refine w_max (j := 8) rfl rfl rfl ?_
  rw [show (if nI 0 < nI q then nI q else nI 0) = nI q by
    by_cases z : q = 0
    · subst z; rfl
    · rw [if_pos ((px_nlt (by decide) (by omega)).mpr (by omega))]]
  refine w_pf (j := 9) rfl rfl (by first | assumption | rfl) (by first | assumption | rfl) rfl ?_
  refine w_al (j := 10) rfl rfl rfl ?_
  refine w_ic (n := 0) (j := 11) rfl rfl ?_
  refine w_pf (j := 12) rfl rfl (by first | assumption | rfl) (by first | assumption | rfl) rfl ?_
  refine w_al (j := 13) rfl rfl rfl ?_
  refine w_ic (n := 0) (j := 14) rfl rfl ?_
  refine w_pf (j := 15) rfl rfl (by first | assumption | rfl) (by first | assumption | rfl) rfl ?_
  refine w_al (j := 16) rfl rfl rfl ?_
  refine w_ic (n := 0) (j := 17) rfl rfl ?_
  refine w_pf (j := 18) rfl rfl (by first | assumption | rfl) (by first | assumption | rfl) rfl ?_
  refine w_al (j := 19) rfl rfl rfl ?_
  refine w_ic (n := 0) (j := 20) rfl rfl ?_
  refine w_pf (j := 21) rfl rfl (by first | assumption | rfl) (by first | assumption | rfl) rfl ?_
  refine w_al (j := 22) rfl rfl rfl ?_
  refine w_im (j := 23) rfl rfl ?_
  refine w_pf (j := 24) rfl rfl (by first | assumption | rfl) (by first | assumption | rfl) rfl ?_
  refine w_rt rfl ?_
  refine ⟨_, rfl, ?_, ?_⟩
  · repeat first | exact px_fr.rf | refine px_fr.up ?_ (by decide)
  · refine ⟨X.of ?_ ?_, ?_, ?_, Nat.zero_le _, ?_, Nat.le_refl _, ?_, Nat.zero_le _, ?_, Nat.zero_le _, ?_⟩
    · rw [ix_up_ne (by decide), ix_up_ne (by decide), ix_up_ne (by decide), ix_up_ne (by decide), ix_up_ne (by decide), ix_up_ne (by decide)]
    · rw [ix_up_ne (by decide), ix_up_ne (by decide), ix_up_ne (by decide), ix_up_ne (by decide), ix_up_ne (by decide), ix_up_ne (by decide)]
    · rw [px_up_nk (by decide), px_up_nk (by decide), px_up_nk (by decide), px_up_nk (by decide), px_up_nk (by decide), px_up_at]
    · rw [px_up_nk (by decide), px_up_nk (by decide), px_up_nk (by decide), px_up_nk (by decide), px_up_at]
    · rw [px_up_nk (by decide), px_up_nk (by decide), px_up_nk (by decide), px_up_at]
    · rw [px_up_nk (by decide), px_up_nk (by decide), px_up_at]
    · rw [px_up_nk (by decide), px_up_at]
    · rw [px_up_at]
theorem sp_109 {t m : Nat} {w : Int32} (h16 : h 0 16 = nI t) (X : px_tx h tx t) (hm : m ≤ 600) : px_T px_E 3 109 [.ref 0, .int w, .int (nI m)] h (fun r => (∃ q h1, q ≤ m ∧ q ≤ t ∧ w = nI q ∧ r = (.inl none, h1, 0) ∧ px_fr [0, 2] h h1 ∧ (∀ j, j ≠ 16 → h1 0 j = h 0 j) ∧ h1 0 16 = nI 0 ∧ px_rd h1 tx q 0 0 0 0 (-1)) ∨ (¬ (0 ≤ w ∧ w ≤ nI m ∧ w ≤ nI t) ∧ r = (.inr 0, px_hX 0 h, 1))) := by
  have t6 := X.1
  refine px_M (M := mt_109) (ops := mo_109) tb_109 rfl rfl rfl rfl rfl ?_
  have bad : ¬ (0 ≤ w ∧ w ≤ nI m ∧ w ≤ nI t) → px_R px_E 2 mo_109 [] 12 [.ref 0, .int w, .int (nI m)] [.ref 0] h 0 (fun r => (∃ q h1, q ≤ m ∧ q ≤ t ∧ w = nI q ∧ r = (.inl none, h1, 0) ∧ px_fr [0, 2] h h1 ∧ (∀ j, j ≠ 16 → h1 0 j = h 0 j) ∧ h1 0 16 = nI 0 ∧ px_rd h1 tx q 0 0 0 0 (-1)) ∨ (¬ (0 ≤ w ∧ w ≤ nI m ∧ w ≤ nI t) ∧ r = (.inr 0, px_hX 0 h, 1))) := by
    intro g
    refine w_ic (n := 0) (j := 13) rfl rfl ?_
    refine w_chk (j := 14) rfl rfl rfl rfl (by first | assumption | rfl) rfl rfl (sp_146 (b := false)) rfl (fun c => ?_) (fun c => ?_)
    · exact Or.inr ⟨g, rfl⟩
    · cases c
  refine w_al (j := 1) rfl rfl rfl ?_
  refine w_il (j := 2) rfl rfl rfl ?_
  refine w_ltZ (j := 3) rfl rfl (fun c1 => ?_) (fun c1 => ?_)
  · exact bad (fun z => px_not_lt.mpr z.1 c1)
  refine w_il (j := 4) rfl rfl rfl ?_
  refine w_il (j := 5) rfl rfl rfl ?_
  refine w_gt (j := 6) rfl rfl (fun c2 => ?_) (fun c2 => ?_)
  · exact bad (fun z => px_not_lt.mpr z.2.1 c2)
  refine w_il (j := 7) rfl rfl rfl ?_
  refine w_al (j := 8) rfl rfl rfl ?_
  first | refine w_gr (j := 9) rfl rfl (by first | assumption | rfl) (by first | assumption | rfl) rfl ?_ | refine w_gi (j := 9) rfl rfl (by first | assumption | rfl) (by first | assumption | rfl) rfl h16 ?_
  refine w_gt (j := 10) rfl rfl (fun c3 => ?_) (fun c3 => ?_)
  · exact bad (fun z => px_not_lt.mpr z.2.2 c3)
  refine w_ic (n := 1) (j := 11) rfl rfl ?_
  refine w_go rfl ?_
  refine w_chk (j := 14) rfl rfl rfl rfl (by first | assumption | rfl) rfl rfl (sp_146 (b := true)) rfl (fun c => ?_) (fun c => ?_)
  · exact absurd rfl c
  obtain ⟨e, q31⟩ := px_nof c1
  generalize w.toNatClampNeg = q at e q31
  subst e
  rw [px_nle (by omega) (by omega)] at c2 c3
  have X1 : px_tx (ix_up h 0 16 (nI 0)) tx q := (X.le c3).of (ix_up_ne (by decide)) (ix_up_ne (by decide))
  refine w_al (j := 15) rfl rfl rfl ?_
  refine w_ic (n := 0) (j := 16) rfl rfl ?_
  refine w_pf (j := 17) rfl rfl (by first | assumption | rfl) (by first | assumption | rfl) rfl ?_
  refine w_al (j := 18) rfl rfl rfl ?_
  first | refine w_gr (j := 19) rfl rfl (by first | assumption | rfl) (by first | assumption | rfl) rfl ?_ | refine w_gi (j := 19) rfl rfl (by first | assumption | rfl) (by first | assumption | rfl) rfl rfl ?_
  refine w_il (j := 20) rfl rfl rfl ?_
  refine w_cvPU (j := 21) rfl rfl rfl rfl (by first | assumption | rfl) rfl rfl (sp_55 X1) rfl ?_
  rintro h1 ⟨u1, u2⟩
  refine w_rt rfl ?_
  refine Or.inl ⟨q, h1, c2, c3, rfl, rfl, (px_fr.rf.up (by decide)).tr (u1.sub (by decide)), fun j hj => ?_, ?_, u2⟩
  · rw [u1 0 (by decide), px_up_nk hj]
  · rw [u1 0 (by decide), px_up_at]
theorem sp_110 (r : px_rd h tx n p pc o k pl) : px_PI 2 110 [.ref 0] h (fun v h1 => v = px_b (decide (k ≠ 0)) ∧ h1 = ix_up h 0 17 (if k = 0 then -1 else pl)) := by
  have r' : ∀ v, px_rd (ix_up h 0 17 v) tx n p pc o k pl := fun v => ⟨r.1.of (ix_up_ne (by decide)) (ix_up_ne (by decide)), by rw [ix_up_ne (by decide)]; exact r.2⟩
  refine px_M (M := mt_110) (ops := mo_110) tb_110 rfl rfl rfl rfl rfl ?_
  refine w_al (j := 1) rfl rfl rfl ?_
  refine w_al (j := 2) rfl rfl rfl ?_
  first | refine w_gr (j := 3) rfl rfl (by first | assumption | rfl) (by first | assumption | rfl) rfl ?_ | refine w_gi (j := 3) rfl rfl (by first | assumption | rfl) (by first | assumption | rfl) rfl rfl ?_
  refine w_cvI (j := 4) rfl rfl rfl rfl (by first | assumption | rfl) rfl rfl (sp_56 r) rfl ?_
  by_cases hk : k = 0
  · rw [decide_eq_false (fun z => z hk), if_pos hk]
    refine w_eqB (j := 5) rfl rfl (fun _ => ?_) (fun c => absurd c (by simp))
    refine w_im (j := 10) rfl rfl ?_
    refine w_pf (j := 11) rfl rfl (by first | assumption | rfl) (by first | assumption | rfl) rfl ?_
    refine w_al (j := 12) rfl rfl rfl ?_
    first | refine w_gr (j := 13) rfl rfl (by first | assumption | rfl) (by first | assumption | rfl) rfl ?_ | refine w_gi (j := 13) rfl rfl (by first | assumption | rfl) (by first | assumption | rfl) rfl rfl ?_
    refine w_cvI (j := 14) rfl rfl rfl rfl (by first | assumption | rfl) rfl rfl (sp_56 (r' (-1))) rfl ?_
    rw [decide_eq_false (fun z => z hk)]
    refine w_irB rfl (by first | exact Or.inl rfl | exact Or.inr rfl | exact px_b01 _) ?_
    exact ⟨_, _, rfl, rfl, rfl⟩
  · rw [decide_eq_true hk, if_neg hk]
    refine w_eqB (j := 5) rfl rfl (fun c => absurd c (by simp)) (fun _ => ?_)
    refine w_al (j := 6) rfl rfl rfl ?_
    first | refine w_gr (j := 7) rfl rfl (by first | assumption | rfl) (by first | assumption | rfl) rfl ?_ | refine w_gi (j := 7) rfl rfl (by first | assumption | rfl) (by first | assumption | rfl) rfl rfl ?_
    refine w_cvI (j := 8) rfl rfl rfl rfl (by first | assumption | rfl) rfl rfl (sp_58 r) rfl ?_
    refine w_go rfl ?_
    refine w_pf (j := 11) rfl rfl (by first | assumption | rfl) (by first | assumption | rfl) rfl ?_
    refine w_al (j := 12) rfl rfl rfl ?_
    first | refine w_gr (j := 13) rfl rfl (by first | assumption | rfl) (by first | assumption | rfl) rfl ?_ | refine w_gi (j := 13) rfl rfl (by first | assumption | rfl) (by first | assumption | rfl) rfl rfl ?_
    refine w_cvI (j := 14) rfl rfl rfl rfl (by first | assumption | rfl) rfl rfl (sp_56 (r' pl)) rfl ?_
    rw [decide_eq_true hk]
    refine w_irB rfl (by first | exact Or.inl rfl | exact Or.inr rfl | exact px_b01 _) ?_
    exact ⟨_, _, rfl, rfl, rfl⟩
theorem w_opn {D : Nat} {ops : List ix_Op} {i j : Nat} {ls st st' : List Value} {h : ix_H} {k : Nat} {Q : ix_R → Prop} {pc len x z : Nat} {tl : List Nat} {v : Int32} {n p e c D' : Nat} {vs : List Value} {g : Prop} {P : ix_H → Prop} (ho : ops[i]? = some (pc, len, .invokevirtual c, x, 0, z, tl, v)) (hj : i + 1 = j) (hv : (st.take z).reverse = .ref n :: vs) (hd : st.drop z = st') (hs' : ix_sh n = (5, p, e)) (ht : tl = [p]) (hyz : (Nat.blt 0 4 && Nat.ble z st.length && Nat.ble (st'.map fun v => v.category).sum 8) = true) (T : px_T px_E D' x (.ref n :: vs) h (fun r => (∃ h1, r = (.inl none, h1, 0) ∧ P h1) ∨ (g ∧ r = (.inr 0, px_hX 0 h, 1)))) (hD : Nat.ble D' D = true)
    (HX : g → Q (.inr 0, px_hX 0 h, k + 1)) (H : ∀ h1, P h1 → px_R px_E D ops [] j ls st' h1 k Q) : px_R px_E D ops [] i ls st h k Q :=
  w_cvQ ho hj hv hd hs' ht hyz (px_lift T hD) (fun u' h' k' hq => by
    rcases hq with ⟨h1, e9, hg⟩ | ⟨hg, e9⟩
    · cases e9; exact H _ hg
    · cases e9) (fun u' h' k' hq => by
    rcases hq with ⟨h1, e9, hg⟩ | ⟨hg, e9⟩
    · cases e9
    · cases e9; exact Or.inl ⟨rfl, rfl, HX hg⟩)
def px_op (h : ix_H) (tx : Nat → Nat) (t m : Nat) (w : Int32) (h1 : ix_H) : Prop := ∃ q, q ≤ m ∧ q ≤ t ∧ w = nI q ∧ px_fr [0, 2] h h1 ∧ (∀ j, j ≠ 16 → h1 0 j = h 0 j) ∧ h1 0 16 = nI 0 ∧ px_rd h1 tx q 0 0 0 0 (-1)
theorem sp_109p {t m : Nat} {w : Int32} (h16 : h 0 16 = nI t) (X : px_tx h tx t) (hm : m ≤ 600) : px_T px_E 3 109 [.ref 0, .int w, .int (nI m)] h (fun r => (∃ h1, r = (.inl none, h1, 0) ∧ px_op h tx t m w h1) ∨ (¬ (0 ≤ w ∧ w ≤ nI m ∧ w ≤ nI t) ∧ r = (.inr 0, px_hX 0 h, 1))) := by
  obtain ⟨r, hr, F⟩ := sp_109 (w := w) h16 X hm
  refine ⟨r, ?_, F⟩
  rcases hr with ⟨q, h1, a1, a2, a3, a4, a5⟩ | z
  · exact Or.inl ⟨h1, a4, q, a1, a2, a3, a5⟩
  · exact Or.inr z
-- the model's start
def px_f2 (h h' : ix_H) : Prop := (∀ a, a ≠ 100 → h' a = h a) ∧ ∀ j, 8 < j ∨ j = 0 ∨ j = 3 → h' 100 j = h 100 j
theorem sp_173 {q : Nat} (X : px_tx h tx q) : px_PU 3 173 [.ref 100, .int (nI q)] h (fun h1 => px_f2 h h1 ∧ h1 100 1 = nI 0 ∧ h1 100 7 = nI 0 ∧ px_mr h1 tx q (gx_sk tx q 0) 0 (-1) 0) := by
  have q6 := X.1
  refine px_M (M := mt_173) (ops := mo_173) tb_173 rfl rfl rfl rfl rfl ?_
  refine w_al (j := 1) rfl rfl rfl ?_
  refine w_ic (n := 0) (j := 2) rfl rfl ?_
  refine w_pf (j := 3) rfl rfl (by first | assumption | rfl) (by first | assumption | rfl) rfl ?_
  refine w_al (j := 4) rfl rfl rfl ?_
  refine w_il (j := 5) rfl rfl rfl ?_
  refine w_pf (j := 6) rfl rfl (by first | assumption | rfl) (by first | assumption | rfl) rfl ?_
  refine w_al (j := 7) rfl rfl rfl ?_
  refine w_ic (n := 0) (j := 8) rfl rfl ?_
  refine w_pf (j := 9) rfl rfl (by first | assumption | rfl) (by first | assumption | rfl) rfl ?_
  refine w_al (j := 10) rfl rfl rfl ?_
  refine w_ic (n := 0) (j := 11) rfl rfl ?_
  refine w_pf (j := 12) rfl rfl (by first | assumption | rfl) (by first | assumption | rfl) rfl ?_
  refine w_al (j := 13) rfl rfl rfl ?_
  refine w_im (j := 14) rfl rfl ?_
  refine w_pf (j := 15) rfl rfl (by first | assumption | rfl) (by first | assumption | rfl) rfl ?_
  refine w_al (j := 16) rfl rfl rfl ?_
  refine w_ic (n := 0) (j := 17) rfl rfl ?_
  refine w_pf (j := 18) rfl rfl (by first | assumption | rfl) (by first | assumption | rfl) rfl ?_
  refine w_al (j := 19) rfl rfl rfl ?_
  refine w_ic (n := 0) (j := 20) rfl rfl ?_
  refine w_pf (j := 21) rfl rfl (by first | assumption | rfl) (by first | assumption | rfl) rfl ?_
  refine w_al (j := 22) rfl rfl rfl ?_
  have R : px_mr (ix_up (ix_up (ix_up (ix_up (ix_up (ix_up (ix_up h 100 1 (nI 0)) 100 2 (nI q)) 100 4 (nI 0)) 100 5 (nI 0)) 100 6 (-1)) 100 7 (nI 0)) 100 8 (nI 0)) tx q 0 0 (-1) 0 := by
    refine ⟨X.of ?_ ?_, ?_, ?_, Nat.zero_le _, ?_, Nat.zero_le _, ?_, ?_, Nat.zero_le _⟩
    · repeat rw [ix_up_ne (by decide)]
    · repeat rw [ix_up_ne (by decide)]
    · rw [px_up_nk (by decide), px_up_nk (by decide), px_up_nk (by decide), px_up_nk (by decide), px_up_nk (by decide), px_up_at]
    · rw [px_up_nk (by decide), px_up_nk (by decide), px_up_nk (by decide), px_up_nk (by decide), px_up_at]
    · rw [px_up_nk (by decide), px_up_nk (by decide), px_up_nk (by decide), px_up_at]
    · rw [px_up_nk (by decide), px_up_nk (by decide), px_up_at]
    · rw [px_up_at]
  refine w_cvPU (j := 23) rfl rfl rfl rfl (by first | assumption | rfl) rfl rfl (sp_161 R) rfl ?_
  rintro h1 ⟨u1, u2⟩
  refine w_rt rfl ?_
  refine ⟨_, rfl, ⟨fun a ha => ?_, fun j hj => ?_⟩, ?_, ?_, u2⟩
  · rw [u1.1 a ha]
    repeat rw [ix_up_ne ha]
  · rw [u1.2 j (by omega) (by omega) (by omega) (by omega)]
    rw [px_up_nk (by omega), px_up_nk (by omega), px_up_nk (by omega), px_up_nk (by omega), px_up_nk (by omega), px_up_nk (by omega), px_up_nk (by omega)]
  · rw [u1.2 1 (by decide) (by decide) (by decide) (by decide), px_up_nk (by decide), px_up_nk (by decide), px_up_nk (by decide), px_up_nk (by decide), px_up_nk (by decide), px_up_nk (by decide), px_up_at]
  · rw [u1.2 7 (by decide) (by decide) (by decide) (by decide), px_up_nk (by decide), px_up_at]
-- rows laid
theorem sp_178 {x y m l N : Nat} (hx : ix_sh x = (3, N, x + 1)) (hy : ix_sh y = (3, N, y + 1)) (hxr : ∀ k, k < N → ix_sh (x + 1 + k) = (1, l, 0)) (hyr : ∀ k, k < N → ix_sh (y + 1 + k) = (1, l, 0)) (hN : Nat.blt N 2147483648 = true) (hl : Nat.blt l 2147483648 = true) (hm : m ≤ N) (hxy : x + N < y ∨ y + N < x) : px_PU 1 178 [.ref x, .ref y, .int (nI m)] h (fun h1 => (∀ a, a < y + 1 ∨ y + 1 + m ≤ a → h1 a = h a) ∧ ∀ k, k < m → ∀ i, i < l → h1 (y + 1 + k) i = h (x + 1 + k) i) := by
  have n1 := Nat.blt_eq.mp hN
  have n2 := Nat.blt_eq.mp hl
  refine px_M (M := mt_178) (ops := mo_178) tb_178 rfl rfl rfl rfl rfl ?_
  refine w_ic (n := 0) (j := 1) rfl rfl ?_
  refine w_is (j := 2) rfl rfl rfl ?_
  refine px_forI (fun c ls h1 => (∃ g, ls = [.ref x, .ref y, .int (nI m), .int (nI c), g]) ∧ (∀ a, a < y + 1 ∨ y + 1 + c ≤ a → h1 a = h a) ∧ ∀ k, k < c → ∀ i, i < l → h1 (y + 1 + k) i = h (x + 1 + k) i) m ?_ ?_ ⟨⟨_, rfl⟩, fun _ _ => rfl, fun k hk => by omega⟩
  · rintro c _ h1 hc ⟨⟨g, rfl⟩, e1, e2⟩ H
    have sy := hyr c (by omega)
    have sx := hxr c (by omega)
    refine w_il (j := 3) rfl rfl rfl ?_
    refine w_il (j := 4) rfl rfl rfl ?_
    refine w_geN (j := 5) rfl rfl (by omega) (by omega) (fun c => absurd c (fun c => by omega)) (fun _ => ?_)
    refine w_ic (n := 0) (j := 6) rfl rfl ?_
    refine w_iS (j := 7) rfl rfl rfl ?_
    refine px_forI (fun i ls h2 => ls = [.ref x, .ref y, .int (nI m), .int (nI c), .int (nI i)] ∧ (∀ a, a ≠ y + 1 + c → h2 a = h1 a) ∧ ∀ i', i' < i → h2 (y + 1 + c) i' = h (x + 1 + c) i') l ?_ ?_ ⟨rfl, fun _ _ => rfl, fun k hk => by omega⟩
    · rintro i _ h2 hi ⟨rfl, f1, f2⟩ H2
      refine w_iL (j := 8) rfl rfl rfl ?_
      refine w_al (j := 9) rfl rfl rfl ?_
      refine w_il (j := 10) rfl rfl rfl ?_
      refine w_aal (j := 11) rfl rfl hy rfl (by omega) hN ?_
      refine w_alen (j := 12) rfl rfl (by first | assumption | rfl) (by decide) ?_
      refine w_geN (j := 13) rfl rfl (by omega) (by omega) (fun c => absurd c (fun c => by omega)) (fun _ => ?_)
      refine w_al (j := 14) rfl rfl rfl ?_
      refine w_il (j := 15) rfl rfl rfl ?_
      refine w_aal (j := 16) rfl rfl hy rfl (by omega) hN ?_
      refine w_iL (j := 17) rfl rfl rfl ?_
      refine w_al (j := 18) rfl rfl rfl ?_
      refine w_il (j := 19) rfl rfl rfl ?_
      refine w_aal (j := 20) rfl rfl hx rfl (by omega) hN ?_
      refine w_iL (j := 21) rfl rfl rfl ?_
      refine w_ial (j := 22) rfl rfl sx rfl hi hl rfl ?_
      refine w_ias (j := 23) rfl rfl sy rfl hi hl ?_
      first | refine w_incN (j := 24) rfl rfl rfl ?_ | refine w_inc (j := 24) rfl rfl rfl rfl ?_
      refine w_go rfl ?_
      refine H2 _ _ ⟨rfl, fun a ha => ?_, fun i' hi' => ?_⟩
      · rw [ix_up_ne ha]; exact f1 a ha
      · by_cases e : i' = i
        · subst e
          rw [px_up_at, f1 _ (by omega), e1 _ (by omega)]
        · rw [px_up_nk e]; exact f2 i' (by omega)
    · rintro _ h2 ⟨rfl, f1, f2⟩
      refine w_iL (j := 8) rfl rfl rfl ?_
      refine w_al (j := 9) rfl rfl rfl ?_
      refine w_il (j := 10) rfl rfl rfl ?_
      refine w_aal (j := 11) rfl rfl hy rfl (by omega) hN ?_
      refine w_alen (j := 12) rfl rfl (by first | assumption | rfl) (by decide) ?_
      refine w_geN (j := 13) rfl rfl (by omega) (by omega) (fun _ => ?_) (fun c => absurd c (fun c => by omega))
      first | refine w_incN (j := 26) rfl rfl rfl ?_ | refine w_inc (j := 26) rfl rfl rfl rfl ?_
      refine w_go rfl ?_
      refine H _ _ ⟨⟨_, rfl⟩, fun a ha => ?_, fun k hk i hi => ?_⟩
      · rw [f1 a (by omega)]; exact e1 a (by omega)
      · by_cases e : k = c
        · subst e; exact f2 i hi
        · rw [f1 _ (by omega)]; exact e2 k (by omega) i hi
  · rintro _ h1 ⟨⟨g, rfl⟩, e1, e2⟩
    refine w_il (j := 3) rfl rfl rfl ?_
    refine w_il (j := 4) rfl rfl rfl ?_
    refine w_geN (j := 5) rfl rfl (by omega) (by omega) (fun _ => ?_) (fun c => absurd c (fun c => by omega))
    refine w_rt rfl ?_
    exact ⟨_, rfl, e1, e2⟩
end OP
