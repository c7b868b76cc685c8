theorem px_savC {f f' : Nat → Int32} {o o' : Nat} {m m' : Nat → Int32} {B : Nat} (e : ∀ j, j < 27 → f' (o' + j) = f (o + j)) (em : ∀ j, j < 32 → m' j = m j) (s : px_sav f o m B) : px_sav f' o' m' B := by
  unfold px_sav at s ⊢
  refine px_sq_congr (fun c hc => ?_) (fun c hc => ?_) (fun c hc => ?_) (e 24 (by decide)) (e 25 (by decide)) (e 26 (by decide)) em s
  · exact e c (by omega)
  · show f' (o' + 8 + c) = f (o + 8 + c)
    rw [Nat.add_assoc, Nat.add_assoc]; exact e (8 + c) (by omega)
  · show f' (o' + 16 + c) = f (o + 16 + c)
    rw [Nat.add_assoc, Nat.add_assoc]; exact e (16 + c) (by omega)
section IM
variable {h : ix_H} {B N T L W I t : Nat} {cs : List (Nat × Nat)}
theorem P_image {f : ix_H} (hJ : px_J f h) : px_PI 6 142 [.ref 0] h (fun v h1 => px_PI 6 255 [.ref 100] h1 (fun w h2 => v = w ∧ h2 100 0 = nI 0 ∧ px_J f h2)) := by
  obtain ⟨hf, B, N, T, cs, L, W, I, t, hI⟩ := hJ
  have hI' := hI
  obtain ⟨ld, lw, ln, nw, hi, tp, ct, fp⟩ := hI
  obtain ⟨i1, i2, i3, i4, i5, i6, i7, i8, i9⟩ := hi
  by_cases hW : I = 3
  · subst hW
    have c16 : px_V 3 17 [.ref 72, .ref 64] h (some (.int (px_b false))) h := by
      refine px_M (M := mt_17) (ops := mo_17) tb_17 rfl rfl rfl rfl rfl ?_
      refine w_al (j := 1) rfl rfl rfl ?_
      first | refine w_gr (j := 2) rfl rfl (by first | assumption | rfl) (by first | assumption | rfl) rfl ?_ | refine w_gi (j := 2) rfl rfl (by first | assumption | rfl) (by first | assumption | rfl) rfl i5 ?_
      refine w_ic (n := 3) (j := 3) rfl rfl ?_
      refine w_ltN (j := 4) rfl rfl (by omega) (by omega) (fun c => absurd c (fun c => by omega)) (fun _ => ?_)
      refine w_ic (n := 0) (j := 5) rfl rfl ?_
      refine w_irB rfl (by first | exact Or.inl rfl | exact Or.inr rfl | exact px_b01 _) ?_
      rfl
    refine px_M (M := mt_142) (ops := mo_142) tb_142 rfl rfl rfl rfl rfl ?_
    refine w_al (j := 1) rfl rfl rfl ?_
    first | refine w_gr (j := 2) rfl rfl (by first | assumption | rfl) (by first | assumption | rfl) rfl ?_ | refine w_gi (j := 2) rfl rfl (by first | assumption | rfl) (by first | assumption | rfl) rfl rfl ?_
    refine w_al (j := 3) rfl rfl rfl ?_
    first | refine w_gr (j := 4) rfl rfl (by first | assumption | rfl) (by first | assumption | rfl) rfl ?_ | refine w_gi (j := 4) rfl rfl (by first | assumption | rfl) (by first | assumption | rfl) rfl rfl ?_
    refine w_cvI (j := 5) rfl rfl rfl rfl (by first | assumption | rfl) rfl rfl (c16) rfl ?_
    refine w_eqB (j := 6) rfl rfl (fun _ => ?_) (fun c => absurd c (by simp))
    refine w_im (j := 11) rfl rfl ?_
    refine w_ir rfl ?_
    refine ⟨_, _, rfl, ?_⟩
    have hI := hI'
    refine px_M (M := mt_255) (ops := mo_255) tb_255 rfl rfl rfl rfl rfl ?_
    refine w_al (j := 1) rfl rfl rfl ?_
    refine w_ic (n := 0) (j := 2) rfl rfl ?_
    refine w_pf (j := 3) rfl rfl (by first | assumption | rfl) (by first | assumption | rfl) rfl ?_
    obtain ⟨I1, k1, t0⟩ := px_thr (v := nI 0) hI
    generalize ix_up h 100 0 (nI 0) = h1 at I1 k1 t0 ⊢
    have i3' : h1 100 38 = nI 3 := (k1.2 38 (by decide)).trans i6
    refine w_al (j := 4) rfl rfl rfl ?_
    first | refine w_gr (j := 5) rfl rfl (by first | assumption | rfl) (by first | assumption | rfl) rfl ?_ | refine w_gi (j := 5) rfl rfl (by first | assumption | rfl) (by first | assumption | rfl) rfl i3' ?_
    refine w_ic (n := 3) (j := 6) rfl rfl ?_
    refine w_neN (j := 7) rfl rfl (by omega) (by omega) (fun c => absurd c (fun c => by omega)) (fun _ => ?_)
    refine w_im (j := 8) rfl rfl ?_
    refine w_ir rfl ?_
    exact ⟨_, _, rfl, rfl, t0, fun a ha => (k1.1 a (pf_pers_i (by omega))).trans (hf a ha), _, _, _, _, _, _, _, _, I1⟩
  · have hI3 : I < 3 := by omega
    have c16 : px_PI 3 17 [.ref 72, .ref 64] h (fun v h1 => v = px_b true ∧ px_fr [72, 74, 75] h h1 ∧ h1 72 = upd (h 72) 4 (nI (I + 1)) ∧ h1 75 = upd (h 75) I (nI W) ∧ (∀ j, j < 459 * I → h1 74 j = h 74 j) ∧ (∀ m, (∀ j, j < 32 → m j = h 577 j) → px_sav (h1 74) (459 * I) m B) ∧ ∀ w m, w < W → (∀ j, j < 32 → m j = h (581 + w) j) → px_sav (h1 74) (459 * I + 27 + 27 * w) m B) := by
      refine px_M (M := mt_17) (ops := mo_17) tb_17 rfl rfl rfl rfl rfl ?_
      refine w_al (j := 1) rfl rfl rfl ?_
      first | refine w_gr (j := 2) rfl rfl (by first | assumption | rfl) (by first | assumption | rfl) rfl ?_ | refine w_gi (j := 2) rfl rfl (by first | assumption | rfl) (by first | assumption | rfl) rfl i5 ?_
      refine w_ic (n := 3) (j := 3) rfl rfl ?_
      refine w_ltN (j := 4) rfl rfl (by omega) (by omega) (fun _ => ?_) (fun c => absurd c (fun c => by omega))
      refine w_al (j := 7) rfl rfl rfl ?_
      first | refine w_gr (j := 8) rfl rfl (by first | assumption | rfl) (by first | assumption | rfl) rfl ?_ | refine w_gi (j := 8) rfl rfl (by first | assumption | rfl) (by first | assumption | rfl) rfl i5 ?_
      refine w_si (j := 9) (a := nI 459) rfl rfl (by decide) ?_
      first | refine w_mulN (j := 10) rfl rfl ?_ | refine w_mul (j := 10) rfl rfl ?_
      refine w_is (j := 11) rfl rfl rfl ?_
      refine w_al (j := 12) rfl rfl rfl ?_
      refine w_al (j := 13) rfl rfl rfl ?_
      first | refine w_gr (j := 14) rfl rfl (by first | assumption | rfl) (by first | assumption | rfl) rfl ?_ | refine w_gi (j := 14) rfl rfl (by first | assumption | rfl) (by first | assumption | rfl) rfl rfl ?_
      refine w_il (j := 15) rfl rfl rfl ?_
      rw [Nat.mul_comm I 459]
      refine w_cvPU (j := 16) rfl rfl rfl rfl (by first | assumption | rfl) rfl rfl (sp_75 (l := 1377) (o := 459 * I) (by decide) rfl (by omega) (by decide)) rfl ?_
      rintro h1 q1
      obtain ⟨q0, q1, q2, q3, q4, q5, q6, q7⟩ := q1
      have i5' := px_f3 q0 i5 (by decide)
      have i2' := px_f3 q0 i2 (by decide)
      refine w_al (j := 17) rfl rfl rfl ?_
      first | refine w_gr (j := 18) rfl rfl (by first | assumption | rfl) (by first | assumption | rfl) rfl ?_ | refine w_gi (j := 18) rfl rfl (by first | assumption | rfl) (by first | assumption | rfl) rfl rfl ?_
      refine w_ic (n := 0) (j := 19) rfl rfl ?_
      refine w_al (j := 20) rfl rfl rfl ?_
      first | refine w_gr (j := 21) rfl rfl (by first | assumption | rfl) (by first | assumption | rfl) rfl ?_ | refine w_gi (j := 21) rfl rfl (by first | assumption | rfl) (by first | assumption | rfl) rfl rfl ?_
      refine w_il (j := 22) rfl rfl rfl ?_
      refine w_bi (j := 23) (a := nI 27) rfl rfl (by decide) ?_
      first | refine w_add0 (j := 24) rfl rfl ?_ | refine w_addN (j := 24) rfl rfl ?_ | refine w_add (j := 24) rfl rfl ?_
      refine w_si (j := 25) (a := nI 432) rfl rfl (by decide) ?_
      refine w_ac (j := 26) rfl rfl (by first | assumption | rfl) (by first | assumption | rfl) rfl rfl rfl rfl rfl (by omega) (by omega) rfl ?_
      have e4 : ix_cpy h1 73 0 74 (459 * I + 27) 432 72 = h 72 := by rw [px_cpy_na (by decide), q0 72 (by decide)]
      have e44 : ix_cpy h1 73 0 74 (459 * I + 27) 432 72 4 = nI I := by rw [e4]; exact i5
      have e43 : ix_cpy h1 73 0 74 (459 * I + 27) 432 72 3 = nI W := by rw [e4]; exact i2
      refine w_al (j := 27) rfl rfl rfl ?_
      first | refine w_gr (j := 28) rfl rfl (by first | assumption | rfl) (by first | assumption | rfl) rfl ?_ | refine w_gi (j := 28) rfl rfl (by first | assumption | rfl) (by first | assumption | rfl) rfl rfl ?_
      refine w_al (j := 29) rfl rfl rfl ?_
      first | refine w_gr (j := 30) rfl rfl (by first | assumption | rfl) (by first | assumption | rfl) rfl ?_ | refine w_gi (j := 30) rfl rfl (by first | assumption | rfl) (by first | assumption | rfl) rfl e44 ?_
      refine w_al (j := 31) rfl rfl rfl ?_
      first | refine w_gr (j := 32) rfl rfl (by first | assumption | rfl) (by first | assumption | rfl) rfl ?_ | refine w_gi (j := 32) rfl rfl (by first | assumption | rfl) (by first | assumption | rfl) rfl e43 ?_
      refine w_ias (j := 33) rfl rfl (by first | assumption | rfl) rfl (by omega) rfl ?_
      have e45 : ix_up (ix_cpy h1 73 0 74 (459 * I + 27) 432) 75 I (nI W) 72 4 = nI I := by rw [px_up_na (by decide)]; exact e44
      refine w_al (j := 34) rfl rfl rfl ?_
      first | refine w_dupr (j := 35) rfl rfl ?_ | refine w_dupi (j := 35) rfl rfl ?_
      first | refine w_gr (j := 36) rfl rfl (by first | assumption | rfl) (by first | assumption | rfl) rfl ?_ | refine w_gi (j := 36) rfl rfl (by first | assumption | rfl) (by first | assumption | rfl) rfl e45 ?_
      refine w_ic (n := 1) (j := 37) rfl rfl ?_
      first | refine w_add0 (j := 38) rfl rfl ?_ | refine w_addN (j := 38) rfl rfl ?_ | refine w_add (j := 38) rfl rfl ?_
      refine w_pf (j := 39) rfl rfl (by first | assumption | rfl) (by first | assumption | rfl) rfl ?_
      refine w_ic (n := 1) (j := 40) rfl rfl ?_
      refine w_irB rfl (by first | exact Or.inl rfl | exact Or.inr rfl | exact px_b01 _) ?_
      refine ⟨_, _, rfl, rfl, ?_, ?_, ?_, fun j hj => ?_, fun m hm => ?_, fun w m hw hm => ?_⟩
      · refine px_fr.tr (q0.sub (by decide)) ?_
        repeat first | exact px_fr.rf | refine px_fr.up ?_ (by decide) | refine px_fr.row ?_ (by decide)
      · rw [ix_up_eq, ix_up_ne (by decide), e4]
      · rw [ix_up_ne (by decide), ix_up_eq, px_cpy_na (by decide), q0 75 (by decide)]
      · rw [px_up_na (by decide), px_up_na (by decide), px_cpy_out (by omega), q7 j (by omega)]
      · have sv : px_sq (h 65) (h 66) (h 67) (h 64 4) (h 64 5) (h 64 6) (h 577) B 300 := nw
        have z : ∀ j, j < 459 * I + 27 → ix_up (ix_up (ix_cpy h1 73 0 74 (459 * I + 27) 432) 75 I (nI W)) 72 4 (nI (I + 1)) 74 j = h1 74 j := fun j hj => by rw [px_up_na (by decide), px_up_na (by decide), px_cpy_out (by omega)]
        unfold px_sav
        refine px_sq_congr (fun c hc => ?_) (fun c hc => ?_) (fun c hc => ?_) ?_ ?_ ?_ hm sv
        · rw [← q1 c hc]; exact z _ (by omega)
        · rw [← q2 c hc]; exact z _ (by omega)
        · rw [← q3 c hc]; exact z _ (by omega)
        · rw [← q4]; exact z _ (by omega)
        · rw [← q5]; exact z _ (by omega)
        · rw [← q6]; exact z _ (by omega)
      · refine px_savC (fun j hj => ?_) hm (i8 w hw)
        rw [px_up_na (by decide), px_up_na (by decide), px_cpy_in (by omega) (by omega), q0 73 (by decide)]
        congr 1
        omega
    refine px_M (M := mt_142) (ops := mo_142) tb_142 rfl rfl rfl rfl rfl ?_
    refine w_al (j := 1) rfl rfl rfl ?_
    first | refine w_gr (j := 2) rfl rfl (by first | assumption | rfl) (by first | assumption | rfl) rfl ?_ | refine w_gi (j := 2) rfl rfl (by first | assumption | rfl) (by first | assumption | rfl) rfl rfl ?_
    refine w_al (j := 3) rfl rfl rfl ?_
    first | refine w_gr (j := 4) rfl rfl (by first | assumption | rfl) (by first | assumption | rfl) rfl ?_ | refine w_gi (j := 4) rfl rfl (by first | assumption | rfl) (by first | assumption | rfl) rfl rfl ?_
    refine w_cvPI (j := 5) rfl rfl rfl rfl (by first | assumption | rfl) rfl rfl (c16) rfl ?_
    rintro v1 h1 ⟨e1, f1, e72, e75, e74, s1, s2⟩
    subst e1
    refine w_eqB (j := 6) rfl rfl (fun c => absurd c (by simp)) (fun _ => ?_)
    have e724 : h1 72 4 = nI (I + 1) := by rw [e72]; rfl
    refine w_al (j := 7) rfl rfl rfl ?_
    first | refine w_gr (j := 8) rfl rfl (by first | assumption | rfl) (by first | assumption | rfl) rfl ?_ | refine w_gi (j := 8) rfl rfl (by first | assumption | rfl) (by first | assumption | rfl) rfl rfl ?_
    first | refine w_gr (j := 9) rfl rfl (by first | assumption | rfl) (by first | assumption | rfl) rfl ?_ | refine w_gi (j := 9) rfl rfl (by first | assumption | rfl) (by first | assumption | rfl) rfl e724 ?_
    refine w_go rfl ?_
    refine w_ir rfl ?_
    refine ⟨_, _, rfl, ?_⟩
    have g38 : ix_up h1 100 0 (nI 0) 100 38 = nI I := by rw [px_up_nk (by decide), f1 100 (by decide)]; exact i6
    have s598 := sh_598 I hI3
    refine px_M (M := mt_255) (ops := mo_255) tb_255 rfl rfl rfl rfl rfl ?_
    refine w_al (j := 1) rfl rfl rfl ?_
    refine w_ic (n := 0) (j := 2) rfl rfl ?_
    refine w_pf (j := 3) rfl rfl (by first | assumption | rfl) (by first | assumption | rfl) rfl ?_
    refine w_al (j := 4) rfl rfl rfl ?_
    first | refine w_gr (j := 5) rfl rfl (by first | assumption | rfl) (by first | assumption | rfl) rfl ?_ | refine w_gi (j := 5) rfl rfl (by first | assumption | rfl) (by first | assumption | rfl) rfl g38 ?_
    refine w_ic (n := 3) (j := 6) rfl rfl ?_
    refine w_neN (j := 7) rfl rfl (by omega) (by omega) (fun _ => ?_) (fun c => absurd c (fun c => by omega))
    refine w_al (j := 10) rfl rfl rfl ?_
    refine w_al (j := 11) rfl rfl rfl ?_
    first | refine w_gr (j := 12) rfl rfl (by first | assumption | rfl) (by first | assumption | rfl) rfl ?_ | refine w_gi (j := 12) rfl rfl (by first | assumption | rfl) (by first | assumption | rfl) rfl rfl ?_
    refine w_al (j := 13) rfl rfl rfl ?_
    first | refine w_gr (j := 14) rfl rfl (by first | assumption | rfl) (by first | assumption | rfl) rfl ?_ | refine w_gi (j := 14) rfl rfl (by first | assumption | rfl) (by first | assumption | rfl) rfl g38 ?_
    refine w_aal (j := 15) rfl rfl (by first | assumption | rfl) rfl (by omega) rfl ?_
    refine w_ic (n := 0) (j := 16) rfl rfl ?_
    refine w_cvPU (j := 17) rfl rfl rfl rfl (by first | assumption | rfl) rfl rfl (sp_254f s598 (by omega)) rfl ?_
    rintro h3 ⟨r1, r2, r3, r4⟩
    have g38' : h3 100 38 = nI I := (r2 38 (by decide)).trans g38
    refine w_al (j := 18) rfl rfl rfl ?_
    first | refine w_dupr (j := 19) rfl rfl ?_ | refine w_dupi (j := 19) rfl rfl ?_
    first | refine w_gr (j := 20) rfl rfl (by first | assumption | rfl) (by first | assumption | rfl) rfl ?_ | refine w_gi (j := 20) rfl rfl (by first | assumption | rfl) (by first | assumption | rfl) rfl g38' ?_
    refine w_ic (n := 1) (j := 21) rfl rfl ?_
    first | refine w_add0 (j := 22) rfl rfl ?_ | refine w_addN (j := 22) rfl rfl ?_ | refine w_add (j := 22) rfl rfl ?_
    refine w_pf (j := 23) rfl rfl (by first | assumption | rfl) (by first | assumption | rfl) rfl ?_
    refine w_al (j := 24) rfl rfl rfl ?_
    first | refine w_gr (j := 25) rfl rfl (by first | assumption | rfl) (by first | assumption | rfl) rfl ?_ | refine w_gi (j := 25) rfl rfl (by first | assumption | rfl) (by first | assumption | rfl) rfl px_up_at ?_
    refine w_ir rfl ?_
    have r1' : ∀ q, q ≠ 598 + I → q ≠ 100 → ix_up h3 100 38 (nI (I + 1)) q = h1 q := fun q q1 q2 => by rw [ix_up_ne q2, r1 q q1 q2, ix_up_ne q2]
    have R : ∀ a, a ≠ 100 → a ≠ 598 + I → a ∉ [72, 74, 75] → ix_up h3 100 38 (nI (I + 1)) a = h a := fun a a1 a2 a3 => by rw [r1' a a2 a1, f1 a a3]
    have R100 : ∀ j, j ≠ 0 → j ≠ 38 → j ≠ 39 → ix_up h3 100 38 (nI (I + 1)) 100 j = h 100 j := fun j j0 j1 j2 => by rw [px_up_nk j1, r2 j j2, px_up_nk j0, f1 100 (by decide)]
    refine ⟨_, _, rfl, rfl, by rw [px_up_nk (by decide), r2 0 (by decide), px_up_at], fun a ha => (R a (by omega) (by omega) (by simp; omega)).trans (hf a ha), B, N, T, cs, L, W, I + 1, t, ?_, ?_, ?_, ?_, ?_, ?_, ?_, ?_⟩
    · exact ld.of (fun a h1 h2 => R a (by omega) (by omega) (by simp; omega)) (fun a h1 h2 => R a (by omega) (by omega) (by simp; omega))
    · exact lw.of (fun a h1 h2 h3 => R a (by omega) (by omega) (by simp; omega)) (R100 _ (by decide) (by decide) (by decide)) (fun a h1 h2 => R a (by omega) (by omega) (by simp; omega))
    · exact ln.of (fun a h1 h2 => R a (by omega) (by omega) (by simp; omega)) (R100 _ (by decide) (by decide) (by decide)) (fun a h1 h2 => R a (by omega) (by omega) (by simp; omega))
    · exact px_nowO (fun a h1 h2 => R a (by omega) (by omega) (by simp; omega)) (R 577 (by decide) (by omega) (by decide)) nw
    · unfold px_hist
      rw [r1' 72 (by omega) (by decide), e72, R 73 (by decide) (by omega) (by decide), r1' 74 (by omega) (by decide), r1' 75 (by omega) (by decide), e75, R100 36 (by decide) (by decide) (by decide), R100 37 (by decide) (by decide) (by decide), px_up_at]
      have rI : ∀ j, j < 545 → ix_up h3 100 38 (nI (I + 1)) (598 + I) j = pf_im h j := fun j hj => by
        rw [px_up_na (by omega), r4 j hj]
        unfold pf_im
        rw [px_up_nk (by decide), f1 100 (by decide), ix_up_ne (by decide), f1 577 (by decide)]
        by_cases h1' : j = 0
        · rw [if_pos h1', if_pos h1']
        · rw [if_neg h1', if_neg h1']
          by_cases h2' : j < 33
          · rw [if_pos h2', if_pos h2']
          · rw [if_neg h2', if_neg h2', ix_up_ne (by omega), f1 _ (by simp; omega)]
      refine ⟨i1, i2, i3, by omega, rfl, rfl, i7, fun w hw => ?_, fun i hi => ?_⟩
      · rw [R (581 + w) (by omega) (by omega) (by simp; omega)]; exact i8 w hw
      · by_cases hiI : i = I
        · subst hiI
          refine ⟨s1 _ (fun j hj => ?_), W, i1, pk_us, ?_, fun w hw => s2 w _ hw (fun j hj => ?_)⟩
          · show ix_up h3 100 38 (nI (i + 1)) (598 + i) (1 + j) = _
            rw [rI _ (by omega), pf_im1 hj]
          · rw [rI 0 (by decide)]; exact i3
          · show ix_up h3 100 38 (nI (i + 1)) (598 + i) (33 + 32 * w + j) = _
            rw [rI _ (by omega), pf_im2 hj]
        · obtain ⟨j1, V, j2, j3, j4, j5⟩ := i9 i (by omega)
          have eR := R (598 + i) (by omega) (by omega) (by simp; omega)
          rw [eR]
          refine ⟨px_savC (fun j hj => e74 _ (by omega)) (fun _ _ => rfl) j1, V, j2, by rw [pk_un hiI]; exact j3, j4, fun w hw => px_savC (fun j hj => e74 _ (by omega)) (fun _ _ => rfl) (j5 w hw)⟩
    · exact tp.of (by rw [R 0 (by decide) (by omega) (by decide)]) (R 1 (by decide) (by omega) (by decide)) (R 101 (by decide) (by omega) (by decide)) (R100 _ (by decide) (by decide) (by decide))
    · rw [R 0 (by decide) (by omega) (by decide), R 102 (by decide) (by omega) (by decide)]; exact ct
    · rw [R 0 (by decide) (by omega) (by decide), R100 3 (by decide) (by decide) (by decide)]; exact fp
theorem P_restore {f : ix_H} (hJ : px_J f h) : px_PI 6 143 [.ref 0] h (fun v h1 => px_PI 6 256 [.ref 100] h1 (fun w h2 => v = w ∧ h2 100 0 = nI 0 ∧ px_J f h2)) := by
  obtain ⟨hf, B, N, T, cs, L, W, I, t, hI⟩ := hJ
  have hI' := hI
  obtain ⟨ld, lw, ln, nw, hi, tp, ct, fp⟩ := hI
  obtain ⟨i1, i2, i3, i4, i5, i6, i7, i8, i9⟩ := hi
  by_cases hW : I = 0
  · subst hW
    have c16 : px_V 3 18 [.ref 72, .ref 64] h (some (.int (px_b false))) h := by
      refine px_M (M := mt_18) (ops := mo_18) tb_18 rfl rfl rfl rfl rfl ?_
      refine w_al (j := 1) rfl rfl rfl ?_
      first | refine w_gr (j := 2) rfl rfl (by first | assumption | rfl) (by first | assumption | rfl) rfl ?_ | refine w_gi (j := 2) rfl rfl (by first | assumption | rfl) (by first | assumption | rfl) rfl i5 ?_
      refine w_gtM (j := 3) rfl rfl (by omega) (fun c => absurd c (fun c => by omega)) (fun _ => ?_)
      refine w_ic (n := 0) (j := 4) rfl rfl ?_
      refine w_irB rfl (by first | exact Or.inl rfl | exact Or.inr rfl | exact px_b01 _) ?_
      rfl
    refine px_M (M := mt_143) (ops := mo_143) tb_143 rfl rfl rfl rfl rfl ?_
    refine w_al (j := 1) rfl rfl rfl ?_
    first | refine w_gr (j := 2) rfl rfl (by first | assumption | rfl) (by first | assumption | rfl) rfl ?_ | refine w_gi (j := 2) rfl rfl (by first | assumption | rfl) (by first | assumption | rfl) rfl rfl ?_
    refine w_al (j := 3) rfl rfl rfl ?_
    first | refine w_gr (j := 4) rfl rfl (by first | assumption | rfl) (by first | assumption | rfl) rfl ?_ | refine w_gi (j := 4) rfl rfl (by first | assumption | rfl) (by first | assumption | rfl) rfl rfl ?_
    refine w_cvI (j := 5) rfl rfl rfl rfl (by first | assumption | rfl) rfl rfl (c16) rfl ?_
    refine w_eqB (j := 6) rfl rfl (fun _ => ?_) (fun c => absurd c (by simp))
    refine w_im (j := 11) rfl rfl ?_
    refine w_ir rfl ?_
    refine ⟨_, _, rfl, ?_⟩
    have hI := hI'
    refine px_M (M := mt_256) (ops := mo_256) tb_256 rfl rfl rfl rfl rfl ?_
    refine w_al (j := 1) rfl rfl rfl ?_
    refine w_ic (n := 0) (j := 2) rfl rfl ?_
    refine w_pf (j := 3) rfl rfl (by first | assumption | rfl) (by first | assumption | rfl) rfl ?_
    obtain ⟨I1, k1, t0⟩ := px_thr (v := nI 0) hI
    generalize ix_up h 100 0 (nI 0) = h1 at I1 k1 t0 ⊢
    have i3' : h1 100 38 = nI 0 := (k1.2 38 (by decide)).trans i6
    refine w_al (j := 4) rfl rfl rfl ?_
    first | refine w_gr (j := 5) rfl rfl (by first | assumption | rfl) (by first | assumption | rfl) rfl ?_ | refine w_gi (j := 5) rfl rfl (by first | assumption | rfl) (by first | assumption | rfl) rfl i3' ?_
    refine w_neM (j := 6) rfl rfl (by omega) (fun c => absurd c (fun c => by omega)) (fun _ => ?_)
    refine w_im (j := 7) rfl rfl ?_
    refine w_ir rfl ?_
    exact ⟨_, _, rfl, rfl, t0, fun a ha => (k1.1 a (pf_pers_i (by omega))).trans (hf a ha), _, _, _, _, _, _, _, _, I1⟩
  · obtain ⟨i, rfl⟩ : ∃ i, I = i + 1 := ⟨I - 1, by omega⟩
    obtain ⟨j1, V, j2, j3, j4, j5⟩ := i9 i (by omega)
    have c16 : px_PI 3 18 [.ref 72, .ref 64] h (fun v h1 => v = px_b true ∧ px_fr [64, 65, 66, 67, 72, 73] h h1 ∧ h1 72 = upd (upd (upd (h 72) 4 (nI i)) 3 (nI V)) 5 (nI 0) ∧ (∀ h2, (∀ a, 64 ≤ a → a ≤ 67 → h2 a = h1 a) → (∀ j, j < 32 → h2 577 j = h (598 + i) (1 + j)) → px_now h2 64 577 B 300) ∧ ∀ j, j < 432 → h1 73 j = h 74 (459 * i + 27 + j)) := by
      refine px_M (M := mt_18) (ops := mo_18) tb_18 rfl rfl rfl rfl rfl ?_
      refine w_al (j := 1) rfl rfl rfl ?_
      first | refine w_gr (j := 2) rfl rfl (by first | assumption | rfl) (by first | assumption | rfl) rfl ?_ | refine w_gi (j := 2) rfl rfl (by first | assumption | rfl) (by first | assumption | rfl) rfl i5 ?_
      refine w_gtM (j := 3) rfl rfl (by omega) (fun _ => ?_) (fun c => absurd c (fun c => by omega))
      refine w_al (j := 6) rfl rfl rfl ?_
      first | refine w_dupr (j := 7) rfl rfl ?_ | refine w_dupi (j := 7) rfl rfl ?_
      first | refine w_gr (j := 8) rfl rfl (by first | assumption | rfl) (by first | assumption | rfl) rfl ?_ | refine w_gi (j := 8) rfl rfl (by first | assumption | rfl) (by first | assumption | rfl) rfl i5 ?_
      refine w_ic (n := 1) (j := 9) rfl rfl ?_
      first | refine w_subN (j := 10) rfl rfl (by omega) ?_ | refine w_sub (j := 10) rfl rfl ?_
      refine w_pf (j := 11) rfl rfl (by first | assumption | rfl) (by first | assumption | rfl) rfl ?_
      rw [Nat.add_sub_cancel]
      refine w_al (j := 12) rfl rfl rfl ?_
      first | refine w_gr (j := 13) rfl rfl (by first | assumption | rfl) (by first | assumption | rfl) rfl ?_ | refine w_gi (j := 13) rfl rfl (by first | assumption | rfl) (by first | assumption | rfl) rfl px_up_at ?_
      refine w_si (j := 14) (a := nI 459) rfl rfl (by decide) ?_
      first | refine w_mulN (j := 15) rfl rfl ?_ | refine w_mul (j := 15) rfl rfl ?_
      refine w_is (j := 16) rfl rfl rfl ?_
      refine w_al (j := 17) rfl rfl rfl ?_
      refine w_al (j := 18) rfl rfl rfl ?_
      first | refine w_gr (j := 19) rfl rfl (by first | assumption | rfl) (by first | assumption | rfl) rfl ?_ | refine w_gi (j := 19) rfl rfl (by first | assumption | rfl) (by first | assumption | rfl) rfl rfl ?_
      refine w_il (j := 20) rfl rfl rfl ?_
      rw [Nat.mul_comm i 459]
      refine w_cvPU (j := 21) rfl rfl rfl rfl (by first | assumption | rfl) rfl rfl (sp_76 (l := 1377) (o := 459 * i) (by decide) rfl (by omega) (by decide)) rfl ?_
      rintro h1 q1
      have q1' := q1
      obtain ⟨q0, q1, q2, q3, q4, q5, q6⟩ := q1
      have g72 : h1 72 = upd (h 72) 4 (nI i) := by rw [q0 72 (by decide), ix_up_eq]
      have g724 : ix_cpy h1 74 (459 * i + 27) 73 0 432 72 4 = nI i := by rw [px_cpy_na (by decide), g72]; rfl
      have g75 : ix_cpy h1 74 (459 * i + 27) 73 0 432 75 i = nI V := by rw [px_cpy_na (by decide), q0 75 (by decide), px_up_na (by decide)]; exact j3
      refine w_al (j := 22) rfl rfl rfl ?_
      first | refine w_gr (j := 23) rfl rfl (by first | assumption | rfl) (by first | assumption | rfl) rfl ?_ | refine w_gi (j := 23) rfl rfl (by first | assumption | rfl) (by first | assumption | rfl) rfl rfl ?_
      refine w_il (j := 24) rfl rfl rfl ?_
      refine w_bi (j := 25) (a := nI 27) rfl rfl (by decide) ?_
      first | refine w_add0 (j := 26) rfl rfl ?_ | refine w_addN (j := 26) rfl rfl ?_ | refine w_add (j := 26) rfl rfl ?_
      refine w_al (j := 27) rfl rfl rfl ?_
      first | refine w_gr (j := 28) rfl rfl (by first | assumption | rfl) (by first | assumption | rfl) rfl ?_ | refine w_gi (j := 28) rfl rfl (by first | assumption | rfl) (by first | assumption | rfl) rfl rfl ?_
      refine w_ic (n := 0) (j := 29) rfl rfl ?_
      refine w_si (j := 30) (a := nI 432) rfl rfl (by decide) ?_
      refine w_ac (j := 31) rfl rfl (by first | assumption | rfl) (by first | assumption | rfl) rfl rfl rfl rfl rfl (by omega) (by omega) rfl ?_
      refine w_al (j := 32) rfl rfl rfl ?_
      refine w_al (j := 33) rfl rfl rfl ?_
      first | refine w_gr (j := 34) rfl rfl (by first | assumption | rfl) (by first | assumption | rfl) rfl ?_ | refine w_gi (j := 34) rfl rfl (by first | assumption | rfl) (by first | assumption | rfl) rfl rfl ?_
      refine w_al (j := 35) rfl rfl rfl ?_
      first | refine w_gr (j := 36) rfl rfl (by first | assumption | rfl) (by first | assumption | rfl) rfl ?_ | refine w_gi (j := 36) rfl rfl (by first | assumption | rfl) (by first | assumption | rfl) rfl g724 ?_
      refine w_ial (j := 37) rfl rfl (by first | assumption | rfl) rfl (by omega) rfl g75 ?_
      refine w_pf (j := 38) rfl rfl (by first | assumption | rfl) (by first | assumption | rfl) rfl ?_
      refine w_al (j := 39) rfl rfl rfl ?_
      refine w_ic (n := 0) (j := 40) rfl rfl ?_
      refine w_pf (j := 41) rfl rfl (by first | assumption | rfl) (by first | assumption | rfl) rfl ?_
      refine w_ic (n := 1) (j := 42) rfl rfl ?_
      refine w_irB rfl (by first | exact Or.inl rfl | exact Or.inr rfl | exact px_b01 _) ?_
      refine ⟨_, _, rfl, rfl, ?_, ?_, fun h2 e2 em => ?_, fun j hj => ?_⟩
      · refine px_fr.tr (px_fr.rf.up (k := 4) (v := nI i) (x := 72) (by decide)) (px_fr.tr (q0.sub (by decide)) ?_)
        repeat first | exact px_fr.rf | refine px_fr.up ?_ (by decide) | refine px_fr.row ?_ (by decide)
      · rw [ix_up_eq, ix_up_eq, px_cpy_na (by decide), g72]
      · refine px_savL (h := ix_up h 72 4 (nI i)) (d := 74) (o := 459 * i) q1' (m := pf_sh (h (598 + i)) 1) ?_ (fun a a1 a2 => ?_) em
        · rw [ix_up_ne (by decide)]; exact j1
        · rw [e2 a a1 a2, ix_up_ne (by omega), ix_up_ne (by omega), px_cpy_na (by omega)]
      · rw [px_up_na (by decide), px_up_na (by decide), px_cpy_in (by omega) (by omega), q0 74 (by decide), ix_up_ne (by decide), Nat.sub_zero]
    refine px_M (M := mt_143) (ops := mo_143) tb_143 rfl rfl rfl rfl rfl ?_
    refine w_al (j := 1) rfl rfl rfl ?_
    first | refine w_gr (j := 2) rfl rfl (by first | assumption | rfl) (by first | assumption | rfl) rfl ?_ | refine w_gi (j := 2) rfl rfl (by first | assumption | rfl) (by first | assumption | rfl) rfl rfl ?_
    refine w_al (j := 3) rfl rfl rfl ?_
    first | refine w_gr (j := 4) rfl rfl (by first | assumption | rfl) (by first | assumption | rfl) rfl ?_ | refine w_gi (j := 4) rfl rfl (by first | assumption | rfl) (by first | assumption | rfl) rfl rfl ?_
    refine w_cvPI (j := 5) rfl rfl rfl rfl (by first | assumption | rfl) rfl rfl (c16) rfl ?_
    rintro v1 h1 ⟨e1, f1, e72, nx, e73⟩
    subst e1
    refine w_eqB (j := 6) rfl rfl (fun c => absurd c (by simp)) (fun _ => ?_)
    have e724 : h1 72 4 = nI i := by rw [e72]; rfl
    refine w_al (j := 7) rfl rfl rfl ?_
    first | refine w_gr (j := 8) rfl rfl (by first | assumption | rfl) (by first | assumption | rfl) rfl ?_ | refine w_gi (j := 8) rfl rfl (by first | assumption | rfl) (by first | assumption | rfl) rfl rfl ?_
    first | refine w_gr (j := 9) rfl rfl (by first | assumption | rfl) (by first | assumption | rfl) rfl ?_ | refine w_gi (j := 9) rfl rfl (by first | assumption | rfl) (by first | assumption | rfl) rfl e724 ?_
    refine w_go rfl ?_
    refine w_ir rfl ?_
    refine ⟨_, _, rfl, ?_⟩
    have g38 : ix_up h1 100 0 (nI 0) 100 38 = nI (i + 1) := by rw [px_up_nk (by decide), f1 100 (by decide)]; exact i6
    have s598 := sh_598 i (by omega)
    refine px_M (M := mt_256) (ops := mo_256) tb_256 rfl rfl rfl rfl rfl ?_
    refine w_al (j := 1) rfl rfl rfl ?_
    refine w_ic (n := 0) (j := 2) rfl rfl ?_
    refine w_pf (j := 3) rfl rfl (by first | assumption | rfl) (by first | assumption | rfl) rfl ?_
    refine w_al (j := 4) rfl rfl rfl ?_
    first | refine w_gr (j := 5) rfl rfl (by first | assumption | rfl) (by first | assumption | rfl) rfl ?_ | refine w_gi (j := 5) rfl rfl (by first | assumption | rfl) (by first | assumption | rfl) rfl g38 ?_
    refine w_neM (j := 6) rfl rfl (by omega) (fun _ => ?_) (fun c => absurd c (fun c => by omega))
    refine w_al (j := 9) rfl rfl rfl ?_
    first | refine w_dupr (j := 10) rfl rfl ?_ | refine w_dupi (j := 10) rfl rfl ?_
    first | refine w_gr (j := 11) rfl rfl (by first | assumption | rfl) (by first | assumption | rfl) rfl ?_ | refine w_gi (j := 11) rfl rfl (by first | assumption | rfl) (by first | assumption | rfl) rfl g38 ?_
    refine w_ic (n := 1) (j := 12) rfl rfl ?_
    first | refine w_subN (j := 13) rfl rfl (by omega) ?_ | refine w_sub (j := 13) rfl rfl ?_
    refine w_pf (j := 14) rfl rfl (by first | assumption | rfl) (by first | assumption | rfl) rfl ?_
    rw [Nat.add_sub_cancel]
    generalize hh : ix_up (ix_up h1 100 0 (nI 0)) 100 38 (nI i) = h2
    have e2 : ∀ a, a ≠ 100 → h2 a = h1 a := fun a ha => by rw [← hh, ix_up_ne ha, ix_up_ne ha]
    have e38 : h2 100 38 = nI i := by rw [← hh, px_up_at]
    have e0 : h2 100 0 = nI 0 := by rw [← hh, px_up_nk (by decide), px_up_at]
    have ej : ∀ j, j ≠ 0 → j ≠ 38 → h2 100 j = h 100 j := fun j j0 j1 => by rw [← hh, px_up_nk j1, px_up_nk j0, f1 100 (by decide)]
    refine w_al (j := 15) rfl rfl rfl ?_
    refine w_al (j := 16) rfl rfl rfl ?_
    first | refine w_gr (j := 17) rfl rfl (by first | assumption | rfl) (by first | assumption | rfl) rfl ?_ | refine w_gi (j := 17) rfl rfl (by first | assumption | rfl) (by first | assumption | rfl) rfl rfl ?_
    refine w_al (j := 18) rfl rfl rfl ?_
    first | refine w_gr (j := 19) rfl rfl (by first | assumption | rfl) (by first | assumption | rfl) rfl ?_ | refine w_gi (j := 19) rfl rfl (by first | assumption | rfl) (by first | assumption | rfl) rfl e38 ?_
    refine w_aal (j := 20) rfl rfl (by first | assumption | rfl) rfl (by omega) rfl ?_
    refine w_ic (n := 1) (j := 21) rfl rfl ?_
    refine w_cvPU (j := 22) rfl rfl rfl rfl (by first | assumption | rfl) rfl rfl (sp_254t s598 (by omega)) rfl ?_
    rintro h3 ⟨r1, r2, r3, r4, r5, r6⟩
    refine w_al (j := 23) rfl rfl rfl ?_
    refine w_ic (n := 0) (j := 24) rfl rfl ?_
    refine w_pf (j := 25) rfl rfl rfl rfl rfl ?_
    have e383 : ix_up h3 100 37 (nI 0) 100 38 = nI i := by rw [px_up_nk (by decide), r2 38 (by decide) (by decide)]; exact e38
    refine w_al (j := 26) rfl rfl rfl ?_
    first | refine w_gr (j := 27) rfl rfl (by first | assumption | rfl) (by first | assumption | rfl) rfl ?_ | refine w_gi (j := 27) rfl rfl (by first | assumption | rfl) (by first | assumption | rfl) rfl e383 ?_
    refine w_ir rfl ?_
    have ea : ∀ j, h2 (598 + i) j = h (598 + i) j := fun j => by rw [e2 _ (by omega), f1 _ (by simp; omega)]
    have R : ∀ a, a ≠ 100 → a ≠ 577 → (a < 581 ∨ 596 < a) → a ∉ [64, 65, 66, 67, 72, 73] → ix_up h3 100 37 (nI 0) a = h a := fun a a1 a2 a3 a4 => by rw [ix_up_ne a1, r1 a a2 a1 a3, e2 a a1, f1 a a4]
    have R100 : ∀ j, j ≠ 0 → j ≠ 36 → j ≠ 37 → j ≠ 38 → j ≠ 39 → ix_up h3 100 37 (nI 0) 100 j = h 100 j := fun j j0 j1 j2 j3 j4 => by rw [px_up_nk j2, r2 j j4 j1, ej j j0 j3]
    refine ⟨_, _, rfl, rfl, by rw [px_up_nk (by decide), r2 0 (by decide) (by decide)]; exact e0, fun a ha => (R a (by omega) (by omega) (by omega) (by simp; omega)).trans (hf a ha), B, N, T, cs, L, V, i, t, ?_, ?_, ?_, ?_, ?_, ?_, ?_, ?_⟩
    · exact ld.of (fun a h1 h2 => R a (by omega) (by omega) (by omega) (by simp; omega)) (fun a h1 h2 => R a (by omega) (by omega) (by omega) (by simp; omega))
    · exact lw.of (fun a h1 h2 h3 => R a (by omega) (by omega) (by omega) (by simp; omega)) (R100 _ (by decide) (by decide) (by decide) (by decide) (by decide)) (fun a h1 h2 => R a (by omega) (by omega) (by omega) (by simp; omega))
    · exact ln.of (fun a h1 h2 => R a (by omega) (by omega) (by omega) (by simp; omega)) (R100 _ (by decide) (by decide) (by decide) (by decide) (by decide)) (fun a h1 h2 => R a (by omega) (by omega) (by omega) (by simp; omega))
    · refine nx _ (fun a h1 h2 => ?_) (fun j hj => ?_)
      · rw [ix_up_ne (by omega), r1 a (by omega) (by omega) (by omega), e2 a (by omega)]
      · rw [px_up_na (by decide), r5 j hj (by omega), ea]
    · have z72 : ix_up h3 100 37 (nI 0) 72 = upd (upd (upd (h 72) 4 (nI i)) 3 (nI V)) 5 (nI 0) := by rw [ix_up_ne (by decide), r1 72 (by decide) (by decide) (by decide), e2 72 (by decide), e72]
      have z73 : ix_up h3 100 37 (nI 0) 73 = h1 73 := by rw [ix_up_ne (by decide), r1 73 (by decide) (by decide) (by decide), e2 73 (by decide)]
      unfold px_hist
      rw [z72, z73, R 74 (by decide) (by decide) (by decide) (by decide), R 75 (by decide) (by decide) (by decide) (by decide), px_up_at, e383, px_up_nk (by decide), r4 (by decide), ea]
      refine ⟨j2, rfl, j4, by omega, rfl, rfl, rfl, fun w hw => ?_, fun i' hi' => ?_⟩
      · refine px_savC (fun j hj => ?_) (fun j hj => ?_) (j5 w hw)
        · rw [e73 _ (by omega)]; congr 1; omega
        · rw [px_up_na (by omega), r6 w j (by omega) hj (by omega), ea]
          rfl
      · rw [R (598 + i') (by omega) (by omega) (by omega) (by simp; omega)]; exact i9 i' (by omega)
    · exact tp.of (by rw [R 0 (by decide) (by decide) (by decide) (by decide)]) (R 1 (by decide) (by decide) (by decide) (by decide)) (R 101 (by decide) (by decide) (by decide) (by decide)) (R100 _ (by decide) (by decide) (by decide) (by decide) (by decide))
    · rw [R 0 (by decide) (by decide) (by decide) (by decide), R 102 (by decide) (by decide) (by decide) (by decide)]; exact ct
    · rw [R 0 (by decide) (by decide) (by decide) (by decide), R100 3 (by decide) (by decide) (by decide) (by decide) (by decide)]; exact fp
end IM
