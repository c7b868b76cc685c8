theorem px_up_same {h : ix_H} {a k : Nat} {v : Int32} (e : h a k = v) : ix_up h a k v = h := by
  funext i j
  unfold ix_up
  split
  · split
    · rename_i h1 h2; rw [h1, h2, e]
    · rfl
  · rfl
section CE
variable {h : ix_H} {B N T L W I t : Nat} {cs : List (Nat × Nat)}
theorem pf_cen_kp {h h' : ix_H} {sd q m : Int32} {y : Nat} (k : px_kp h h') : pf_cen h' cs B N sd q m y = pf_cen h cs B N sd q m y := by
  unfold pf_cen pf_cy pf_cS
  rw [k.1 4 (by decide), k.1 6 (by decide), k.1 64 (by decide), show h' (64 + 1) = h (64 + 1) from k.1 65 (by decide), show h' (64 + 2) = h (64 + 2) from k.1 66 (by decide), show h' (64 + 3) = h (64 + 3) from k.1 67 (by decide)]
def px_me (h h1 : ix_H) (Z : px_Z) : Prop := px_kp h h1 ∧ h1 100 0 = h 100 0 ∧ h1 100 47 = Z.1 ∧ h1 100 48 = Z.2.1 ∧ h1 100 49 = Z.2.2.1 ∧ pf_mR Z.2.2.2 (h1 578)
theorem px_mes {h1 : ix_H} {Z : px_Z} {s : Int32} (R : px_me h h1 Z) : px_me h (ix_up h1 100 47 s) (s, Z.2) := by
  obtain ⟨k, e0, e2, e3, e4, R1⟩ := R
  refine ⟨k.up (by decide) (fun _ => by decide), ?_, px_up_at, ?_, ?_, ?_⟩
  · rw [px_up_nk (by decide)]; exact e0
  · rw [px_up_nk (by decide)]; exact e3
  · rw [px_up_nk (by decide)]; exact e4
  · rw [ix_up_ne (by decide)]; exact R1
theorem px_mel {h1 : ix_H} {Z : px_Z} {c : Nat} {s v : Int32} (R : px_me h h1 Z) (hs : h1 100 47 = s) (hv : v = Z.2.1 + nI 1) (hc : c < 8) : px_me h (ix_up (ix_up h1 578 c (-1)) 100 48 v) (s, Z.2.1 + nI 1, Z.2.2.1, pf_lo c Z.2.2.2) := by
  obtain ⟨k, e0, e2, e3, e4, R1, R2, R3, R4, R5⟩ := R
  refine ⟨(k.up (by decide) (fun e => absurd e (by decide))).up (by decide) (fun _ => by decide), ?_, ?_, ?_, ?_, fun j hj => ?_, fun j hj => ?_, fun j hj => ?_, fun j hj => ?_, ?_⟩
  · rw [px_up_nk (by decide), px_up_na (by decide)]; exact e0
  · rw [px_up_nk (by decide), px_up_na (by decide)]; exact hs
  · rw [px_up_at]; exact hv
  · rw [px_up_nk (by decide), px_up_na (by decide)]; exact e4
  · rw [px_up_na (by decide), px_up_nk (by omega)]; exact R1 j hj
  · rw [px_up_na (by decide), px_up_nk (by omega)]; exact R2 j hj
  · rw [px_up_na (by decide)]
    show ix_up h1 578 c (-1) 578 j = if j = c then -1 else _
    by_cases hjc : j = c
    · subst hjc; rw [px_up_at, if_pos rfl]
    · rw [px_up_nk hjc, if_neg hjc]; exact R3 j hj
  · rw [px_up_na (by decide), px_up_nk (by omega)]; exact R4 j hj
  · rw [px_up_na (by decide), px_up_nk (by omega)]; exact R5
theorem px_meb {h1 : ix_H} {Z : px_Z} {b : Nat} {s v u : Int32} (ok : pf_oS B Z.2.2.2) (R : px_me h h1 Z) (hs : h1 100 47 = s) (hv : v = Z.2.2.1 + nI 1) (hb : b < 6) : px_me h (ix_up (ix_up (ix_up h1 578 (24 + b) (nI 0)) 578 30 u) 100 49 v) (s, Z.2.1, Z.2.2.1 + nI 1, pf_ba b Z.2.2.2) := by
  obtain ⟨k, e0, e2, e3, e4, R1, R2, R3, R4, R5⟩ := R
  refine ⟨((k.up (by decide) (fun e => absurd e (by decide))).up (by decide) (fun e => absurd e (by decide))).up (by decide) (fun _ => by decide), ?_, ?_, ?_, ?_, fun j hj => ?_, fun j hj => ?_, fun j hj => ?_, fun j hj => ?_, ?_⟩
  · rw [px_up_nk (by decide), px_up_na (by decide), px_up_na (by decide)]; exact e0
  · rw [px_up_nk (by decide), px_up_na (by decide), px_up_na (by decide)]; exact hs
  · rw [px_up_nk (by decide), px_up_na (by decide), px_up_na (by decide)]; exact e3
  · rw [px_up_at]; exact hv
  · rw [px_up_na (by decide), px_up_nk (by omega), px_up_nk (by omega)]; exact R1 j hj
  · rw [px_up_na (by decide), px_up_nk (by omega), px_up_nk (by omega)]; exact R2 j hj
  · rw [px_up_na (by decide), px_up_nk (by omega), px_up_nk (by omega)]; exact R3 j hj
  · obtain ⟨q, hq, eq⟩ := ok.2.2
    rw [px_up_na (by decide), px_up_nk (by omega)]
    show ix_up h1 578 (24 + b) (nI 0) 578 (24 + j) = pf_bt (Z.2.2.2.2.2.2.1 &&& (pf_bit b ^^^ (-1))) j
    rw [eq, (pf_btT q hq b hb).2 j hj]
    by_cases hjb : j = b
    · subst hjb; rw [px_up_at, if_pos rfl]
    · rw [px_up_nk (by omega), if_neg hjb, R4 j hj, eq]
  · rw [px_up_na (by decide), px_up_nk (by omega), px_up_nk (by omega)]; exact R5
theorem px_bt01 : ∀ q, q < 64 → ∀ b, b < 6 → pf_bt (nI q) b = nI 0 ∨ pf_bt (nI q) b = nI 1 := by decide +kernel
theorem sp_249 {sd q m : Int32} {y : Nat} (hI : px_I h B N T cs L W I t) (hy : y ≤ 96) : px_PU 8 249 [.ref 100, .int sd, .int (nI y), .int q, .int m] h (fun h2 => px_me h h2 (pf_cen h cs B N sd q m y)) := by
  refine px_M (M := mt_249) (ops := mo_249) tb_249 rfl rfl rfl rfl rfl ?_
  refine w_al (j := 1) rfl rfl rfl ?_
  first | refine w_gr (j := 2) rfl rfl (by first | assumption | rfl) (by first | assumption | rfl) rfl ?_ | refine w_gi (j := 2) rfl rfl (by first | assumption | rfl) (by first | assumption | rfl) rfl rfl ?_
  refine w_al (j := 3) rfl rfl rfl ?_
  first | refine w_gr (j := 4) rfl rfl (by first | assumption | rfl) (by first | assumption | rfl) rfl ?_ | refine w_gi (j := 4) rfl rfl (by first | assumption | rfl) (by first | assumption | rfl) rfl rfl ?_
  refine w_csPU (j := 5) rfl rfl rfl rfl rfl (px_mt0 (cs := cs) (N := N) hI.2.2.2.1) rfl ?_
  rintro h1 R
  refine w_al (j := 6) rfl rfl rfl ?_
  refine w_il (j := 7) rfl rfl rfl ?_
  refine w_pf (j := 8) rfl rfl (by first | assumption | rfl) (by first | assumption | rfl) rfl ?_
  refine w_al (j := 9) rfl rfl rfl ?_
  refine w_ic (n := 0) (j := 10) rfl rfl ?_
  refine w_pf (j := 11) rfl rfl (by first | assumption | rfl) (by first | assumption | rfl) rfl ?_
  refine w_al (j := 12) rfl rfl rfl ?_
  refine w_ic (n := 0) (j := 13) rfl rfl ?_
  refine w_pf (j := 14) rfl rfl (by first | assumption | rfl) (by first | assumption | rfl) rfl ?_
  refine w_ic (n := 0) (j := 15) rfl rfl ?_
  refine w_iS (j := 16) rfl rfl rfl ?_
  refine px_forI (fun c ls h2 => ls = [.ref 100, .int sd, .int (nI y), .int q, .int m, .int (nI c)] ∧ px_me h h2 (pf_cen h cs B N sd q m c)) y ?_ ?_ ⟨rfl, ((px_mtk px_kp.rf R |>.up (by decide) (fun _ => by decide)).up (by decide) (fun _ => by decide)).up (by decide) (fun _ => by decide), ?_, rfl, rfl, rfl, ?_⟩
  · rintro c _ h2 hc ⟨rfl, R⟩ H
    have ok := pf_cenO (sd := sd) (q := q) (m := m) hI c
    have ez : pf_cen h cs B N sd q m (c + 1) = pf_cy h cs B N q m (pf_cen h cs B N sd q m c) := rfl
    rw [ez] at H
    generalize pf_cen h cs B N sd q m c = Z at R H ok
    have hB6 := hI.1.2.2.1
    have p3 : ∀ h3, px_me h h3 (pf_c2 B m (pf_c1 N q Z)) → px_R px_E 7 mo_249 [] 75 [.ref 100, .int sd, .int (nI y), .int q, .int m, .int (nI c)] [] h3 0 (fun r => ∃ h', r = (.inl none, h', 0) ∧ px_me h h' (pf_cen h cs B N sd q m y)) := by
      intro h3 R3
      have I3 := hI.kp R3.1
      obtain ⟨⟨l1, l2, l3, l4, l5, l6, l7, l8, l9, l10, l11, l12, l13, l14, l15⟩, lw, -, nw, -⟩ := I3
      have q4 := R3.1.1 4 (by decide)
      have q6 := R3.1.1 6 (by decide)
      refine w_al (j := 76) rfl rfl rfl ?_
      refine w_al (j := 77) rfl rfl rfl ?_
      first | refine w_gr (j := 78) rfl rfl (by first | assumption | rfl) (by first | assumption | rfl) rfl ?_ | refine w_gi (j := 78) rfl rfl (by first | assumption | rfl) (by first | assumption | rfl) rfl rfl ?_
      refine w_cvPU (j := 79) rfl rfl rfl rfl (by first | assumption | rfl) rfl rfl (px_passM (B := B) (fd := h 4) (pt := h 6) px_Rw578 l5 l6 l3 lw.2.1 lw.2.2 (fun b hb => by rw [← q4]; exact (l12 b hb).1.symm) (fun c hc => by rw [← q6]; exact (l13 c hc).1.symm) R3.2.2.2.2.2 (pf_c2O hB6 (pf_c1O ok))) rfl ?_
      rintro h4 ⟨f1, f2, f3⟩
      first | refine w_incN (j := 80) rfl rfl rfl ?_ | refine w_inc (j := 80) rfl rfl rfl rfl ?_
      refine w_go rfl ?_
      have e100 := f1 100 (by decide)
      refine H _ _ ⟨rfl, R3.1.fr f1 (by decide), ?_, ?_, ?_, ?_, f2⟩
      · rw [e100]; exact R3.2.1
      · rw [e100]; exact R3.2.2.1
      · rw [e100]; exact R3.2.2.2.1
      · rw [e100]; exact R3.2.2.2.2.1
    have p2 : ∀ h3, px_me h h3 (pf_c1 N q Z) → px_R px_E 7 mo_249 [] 47 [.ref 100, .int sd, .int (nI y), .int q, .int m, .int (nI c)] [] h3 0 (fun r => ∃ h', r = (.inl none, h', 0) ∧ px_me h h' (pf_cen h cs B N sd q m y)) := by
      intro h3 R3
      have ok1 := pf_c1O (N := N) (q := q) ok
      generalize pf_c1 N q Z = Z1 at R3 p3 ok1
      have d16 := pf_dv_lt (pf_sd Z1.1)
      refine w_al (j := 48) rfl rfl rfl ?_
      refine w_bi (j := 49) (a := nI 16) rfl rfl (by decide) ?_
      refine w_cvI (j := 50) rfl rfl rfl rfl (by first | assumption | rfl) rfl rfl (sp_248 (by decide) (by decide)) rfl ?_
      rw [R3.2.2.1]
      have R4 := px_mes (s := pf_sd Z1.1) R3
      have I4 := hI.kp R4.1
      obtain ⟨⟨l1, l2, l3, l4, l5, l6, l7, l8, l9⟩, lw, -, nw, -⟩ := I4
      refine w_iL (j := 51) rfl rfl rfl ?_
      refine w_ge (j := 52) rfl rfl (fun d1 => ?_) (fun d1 => ?_)
      ·
        refine p3 _ ?_
        rw [pf_c2, if_neg (fun z => px_not_lt.mpr d1 z.1)]
        exact R4
      refine w_al (j := 53) rfl rfl rfl ?_
      first | refine w_gr (j := 54) rfl rfl (by first | assumption | rfl) (by first | assumption | rfl) rfl ?_ | refine w_gi (j := 54) rfl rfl (by first | assumption | rfl) (by first | assumption | rfl) rfl rfl ?_
      refine w_ic (n := 0) (j := 55) rfl rfl ?_
      refine w_ial (j := 56) rfl rfl (by first | assumption | rfl) rfl (by omega) rfl l2 ?_
      refine w_leM (j := 57) rfl rfl (by omega) (fun d2 => ?_) (fun d2 => ?_)
      ·
        refine p3 _ ?_
        rw [pf_c2, if_neg (fun z => by omega)]
        exact R4
      refine w_al (j := 58) rfl rfl rfl ?_
      first | refine w_dupr (j := 59) rfl rfl ?_ | refine w_dupi (j := 59) rfl rfl ?_
      first | refine w_gr (j := 60) rfl rfl (by first | assumption | rfl) (by first | assumption | rfl) rfl ?_ | refine w_gi (j := 60) rfl rfl (by first | assumption | rfl) (by first | assumption | rfl) rfl rfl ?_
      refine w_al (j := 61) rfl rfl rfl ?_
      first | refine w_gr (j := 62) rfl rfl (by first | assumption | rfl) (by first | assumption | rfl) rfl ?_ | refine w_gi (j := 62) rfl rfl (by first | assumption | rfl) (by first | assumption | rfl) rfl rfl ?_
      refine w_al (j := 63) rfl rfl rfl ?_
      refine w_al (j := 64) rfl rfl rfl ?_
      first | refine w_gr (j := 65) rfl rfl (by first | assumption | rfl) (by first | assumption | rfl) rfl ?_ | refine w_gi (j := 65) rfl rfl (by first | assumption | rfl) (by first | assumption | rfl) rfl rfl ?_
      refine w_ic (n := 0) (j := 66) rfl rfl ?_
      refine w_ial (j := 67) rfl rfl (by first | assumption | rfl) rfl (by omega) rfl l2 ?_
      refine w_cvI (j := 68) rfl rfl rfl rfl (by first | assumption | rfl) rfl rfl (sp_248 (k := B) d2 (by omega)) rfl ?_
      rw [px_up_at]
      have R5 := px_mes (s := pf_sd (pf_sd Z1.1)) R4
      have bl := Nat.mod_lt (pf_dv (pf_sd (pf_sd Z1.1))) d2
      generalize hb : pf_dv (pf_sd (pf_sd Z1.1)) % B = b at bl ⊢
      refine w_csI (j := 69) rfl rfl rfl rfl rfl (sp_202 px_Rw578 (by omega)) rfl ?_
      have e2 : (pf_c2 B m Z1) = pf_c2b B (pf_sd (pf_sd Z1.1)) Z1 := by rw [pf_c2, if_pos ⟨d1, d2⟩]
      rw [e2] at p3
      have e9 : ix_up h3 100 47 (pf_sd Z1.1) 100 49 = Z1.2.2.1 := R4.2.2.2.2.1
      rw [e9]
      by_cases d3 : ix_up (ix_up h3 100 47 (pf_sd Z1.1)) 100 47 (pf_sd (pf_sd Z1.1)) 578 (24 + b) ≠ 0
      · rw [decide_eq_true d3, if_pos d3]
        have d4 : pf_bt Z1.2.2.2.2.2.2.1 b ≠ 0 := by rw [← R5.2.2.2.2.2.2.2.2.1 b (by omega)]; exact d3
        refine w_eqB (j := 70) rfl rfl (fun c => absurd c (by simp)) (fun _ => ?_)
        refine w_ic (n := 1) (j := 71) rfl rfl ?_
        refine w_go rfl ?_
        first | refine w_add0 (j := 74) rfl rfl ?_ | refine w_addN (j := 74) rfl rfl ?_ | refine w_add (j := 74) rfl rfl ?_
        refine w_pf (j := 75) rfl rfl (by first | assumption | rfl) (by first | assumption | rfl) rfl ?_
        refine p3 _ ?_
        rw [pf_c2b, hb, if_pos d4]
        have R6 := px_meb (Z := (pf_sd (pf_sd Z1.1), Z1.2)) (s := pf_sd (pf_sd Z1.1)) (b := b) (u := ix_up (ix_up h3 100 47 (pf_sd Z1.1)) 100 47 (pf_sd (pf_sd Z1.1)) 578 30 + nI 1) (v := Z1.2.2.1 + nI 1) ok1 R5 px_up_at rfl (by omega)
        exact R6
      · rw [decide_eq_false d3, if_neg d3]
        have d4 : ¬ pf_bt Z1.2.2.2.2.2.2.1 b ≠ 0 := by rw [← R5.2.2.2.2.2.2.2.2.1 b (by omega)]; exact d3
        refine w_eqB (j := 70) rfl rfl (fun _ => ?_) (fun c => absurd c (by simp))
        refine w_ic (n := 0) (j := 73) rfl rfl ?_
        refine w_add (j := 74) rfl rfl ?_
        rw [show Z1.2.2.1 + nI 0 = Z1.2.2.1 from Int32.add_zero _]
        refine w_pf (j := 75) rfl rfl (by first | assumption | rfl) (by first | assumption | rfl) rfl ?_
        rw [px_up_same (h := ix_up (ix_up h3 100 47 (pf_sd Z1.1)) 100 47 (pf_sd (pf_sd Z1.1))) R5.2.2.2.2.1]
        refine p3 _ ?_
        rw [pf_c2b, hb, if_neg d4]
        exact R5
    have I2 := hI.kp R.1
    obtain ⟨⟨l1, l2, l3, l4, l5, l6, l7, l8, l9⟩, lw, -, nw, -⟩ := I2
    have d16 := pf_dv_lt (pf_sd Z.1)
    refine w_iL (j := 17) rfl rfl rfl ?_
    refine w_il (j := 18) rfl rfl rfl ?_
    refine w_geN (j := 19) rfl rfl (by omega) (by omega) (fun c => absurd c (fun c => by omega)) (fun _ => ?_)
    refine w_al (j := 20) rfl rfl rfl ?_
    refine w_bi (j := 21) (a := nI 16) rfl rfl (by decide) ?_
    refine w_cvI (j := 22) rfl rfl rfl rfl (by first | assumption | rfl) rfl rfl (sp_248 (by decide) (by decide)) rfl ?_
    rw [R.2.2.1]
    have R4 := px_mes (s := pf_sd Z.1) R
    have I4 := hI.kp R4.1
    obtain ⟨⟨l1, l2, l3, l4, l5, l6, l7, l8, l9⟩, lw, -, nw, -⟩ := I4
    refine w_il (j := 23) rfl rfl rfl ?_
    refine w_ge (j := 24) rfl rfl (fun d1 => ?_) (fun d1 => ?_)
    ·
      refine p2 _ ?_
      rw [pf_c1, if_neg (fun z => px_not_lt.mpr d1 z.1)]
      exact R4
    refine w_al (j := 25) rfl rfl rfl ?_
    first | refine w_gr (j := 26) rfl rfl (by first | assumption | rfl) (by first | assumption | rfl) rfl ?_ | refine w_gi (j := 26) rfl rfl (by first | assumption | rfl) (by first | assumption | rfl) rfl rfl ?_
    refine w_ic (n := 1) (j := 27) rfl rfl ?_
    refine w_ial (j := 28) rfl rfl (by first | assumption | rfl) rfl (by omega) rfl l5 ?_
    refine w_leM (j := 29) rfl rfl (by omega) (fun d2 => ?_) (fun d2 => ?_)
    ·
      refine p2 _ ?_
      rw [pf_c1, if_neg (fun z => by omega)]
      exact R4
    refine w_al (j := 30) rfl rfl rfl ?_
    first | refine w_dupr (j := 31) rfl rfl ?_ | refine w_dupi (j := 31) rfl rfl ?_
    first | refine w_gr (j := 32) rfl rfl (by first | assumption | rfl) (by first | assumption | rfl) rfl ?_ | refine w_gi (j := 32) rfl rfl (by first | assumption | rfl) (by first | assumption | rfl) rfl rfl ?_
    refine w_al (j := 33) rfl rfl rfl ?_
    first | refine w_gr (j := 34) rfl rfl (by first | assumption | rfl) (by first | assumption | rfl) rfl ?_ | refine w_gi (j := 34) rfl rfl (by first | assumption | rfl) (by first | assumption | rfl) rfl rfl ?_
    refine w_al (j := 35) rfl rfl rfl ?_
    refine w_al (j := 36) rfl rfl rfl ?_
    first | refine w_gr (j := 37) rfl rfl (by first | assumption | rfl) (by first | assumption | rfl) rfl ?_ | refine w_gi (j := 37) rfl rfl (by first | assumption | rfl) (by first | assumption | rfl) rfl rfl ?_
    refine w_ic (n := 1) (j := 38) rfl rfl ?_
    refine w_ial (j := 39) rfl rfl (by first | assumption | rfl) rfl (by omega) rfl l5 ?_
    refine w_cvI (j := 40) rfl rfl rfl rfl (by first | assumption | rfl) rfl rfl (sp_248 (k := N) d2 (by omega)) rfl ?_
    rw [px_up_at]
    have R5 := px_mes (s := pf_sd (pf_sd Z.1)) R4
    have bl := Nat.mod_lt (pf_dv (pf_sd (pf_sd Z.1))) d2
    generalize hb : pf_dv (pf_sd (pf_sd Z.1)) % N = b at bl ⊢
    refine w_csI (j := 41) rfl rfl rfl rfl rfl (sp_203 px_Rw578 (by omega)) rfl ?_
    have e2 : (pf_c1 N q Z) = pf_c1b N (pf_sd (pf_sd Z.1)) Z := by rw [pf_c1, if_pos ⟨d1, d2⟩]
    rw [e2] at p2
    have e9 : ix_up h2 100 47 (pf_sd Z.1) 100 48 = Z.2.1 := R4.2.2.2.1
    rw [e9]
    by_cases d3 : 0 ≤ ix_up (ix_up h2 100 47 (pf_sd Z.1)) 100 47 (pf_sd (pf_sd Z.1)) 578 b
    · rw [decide_eq_true d3, if_pos d3]
      have d4 : 0 ≤ Z.2.2.2.2.2.1 b := by rw [← R5.2.2.2.2.2.2.2.1 b (by omega)]; exact d3
      refine w_eqB (j := 42) rfl rfl (fun c => absurd c (by simp)) (fun _ => ?_)
      refine w_ic (n := 1) (j := 43) rfl rfl ?_
      refine w_go rfl ?_
      first | refine w_add0 (j := 46) rfl rfl ?_ | refine w_addN (j := 46) rfl rfl ?_ | refine w_add (j := 46) rfl rfl ?_
      refine w_pf (j := 47) rfl rfl (by first | assumption | rfl) (by first | assumption | rfl) rfl ?_
      refine p2 _ ?_
      rw [pf_c1b, hb, if_pos d4]
      have R6 := px_mel (Z := (pf_sd (pf_sd Z.1), Z.2)) (s := pf_sd (pf_sd Z.1)) (c := b) (v := Z.2.1 + nI 1) R5 px_up_at rfl (by omega)
      exact R6
    · rw [decide_eq_false d3, if_neg d3]
      have d4 : ¬ 0 ≤ Z.2.2.2.2.2.1 b := by rw [← R5.2.2.2.2.2.2.2.1 b (by omega)]; exact d3
      refine w_eqB (j := 42) rfl rfl (fun _ => ?_) (fun c => absurd c (by simp))
      refine w_ic (n := 0) (j := 45) rfl rfl ?_
      refine w_add (j := 46) rfl rfl ?_
      rw [show Z.2.1 + nI 0 = Z.2.1 from Int32.add_zero _]
      refine w_pf (j := 47) rfl rfl (by first | assumption | rfl) (by first | assumption | rfl) rfl ?_
      rw [px_up_same (h := ix_up (ix_up h2 100 47 (pf_sd Z.1)) 100 47 (pf_sd (pf_sd Z.1))) R5.2.2.2.1]
      refine p2 _ ?_
      rw [pf_c1b, hb, if_neg d4]
      exact R5
  · rintro _ h2 ⟨rfl, R⟩
    refine w_iL (j := 17) rfl rfl rfl ?_
    refine w_il (j := 18) rfl rfl rfl ?_
    refine w_geN (j := 19) rfl rfl (by omega) (by omega) (fun _ => ?_) (fun c => absurd c (fun c => by omega))
    refine w_rt rfl ?_
    exact ⟨_, rfl, R⟩
  · rw [px_up_nk (by decide), px_up_nk (by decide), px_up_nk (by decide), px_mt9 R]
  · rw [ix_up_ne (by decide), ix_up_ne (by decide), ix_up_ne (by decide)]
    exact R.2
-- century
def pf_ok3 (a b c : Int32) : Prop := (nI 1 ≤ a ∧ a ≤ nI 96) ∧ (nI 0 ≤ b ∧ b ≤ nI 16) ∧ nI 0 ≤ c ∧ c ≤ nI 16
theorem sp_141 {a b c : Int32} : px_CK 3 141 [.ref 0, .int a, .int b, .int c] h (pf_ok3 a b c) 0 := by
  refine px_M (M := mt_141) (ops := mo_141) tb_141 rfl rfl rfl rfl rfl ?_
  refine w_al (j := 1) rfl rfl rfl ?_
  refine w_il (j := 2) rfl rfl rfl ?_
  refine w_ic (n := 1) (j := 3) rfl rfl ?_
  refine w_bi (j := 4) (a := nI 96) rfl rfl (by decide) ?_
  refine w_chk (j := 5) rfl rfl rfl rfl (by first | assumption | rfl) rfl rfl (sp_147) rfl (fun c1 => ?_) (fun c1 => ?_)
  · exact Or.inr ⟨fun q => c1 q.1, rfl⟩
  refine w_al (j := 6) rfl rfl rfl ?_
  refine w_il (j := 7) rfl rfl rfl ?_
  refine w_ic (n := 0) (j := 8) rfl rfl ?_
  refine w_bi (j := 9) (a := nI 16) rfl rfl (by decide) ?_
  refine w_chk (j := 10) rfl rfl rfl rfl (by first | assumption | rfl) rfl rfl (sp_147) rfl (fun c2 => ?_) (fun c2 => ?_)
  · exact Or.inr ⟨fun q => c2 q.2.1, rfl⟩
  refine w_al (j := 11) rfl rfl rfl ?_
  refine w_il (j := 12) rfl rfl rfl ?_
  refine w_ic (n := 0) (j := 13) rfl rfl ?_
  refine w_bi (j := 14) (a := nI 16) rfl rfl (by decide) ?_
  refine w_chk (j := 15) rfl rfl rfl rfl (by first | assumption | rfl) rfl rfl (sp_147) rfl (fun c3 => ?_) (fun c3 => ?_)
  · exact Or.inr ⟨fun q => c3 q.2.2, rfl⟩
  refine w_rt rfl ?_
  exact Or.inl ⟨⟨c1, c2, c3⟩, rfl⟩
theorem sp_250 {a b c : Int32} : px_PI 2 250 [.int a, .int b, .int c] h (fun v h1 => h1 = h ∧ ∃ d, v = px_b d ∧ (d = true ↔ pf_ok3 a b c)) := by
  refine px_M (M := mt_250) (ops := mo_250) tb_250 rfl rfl rfl rfl rfl ?_
  refine w_il (j := 1) rfl rfl rfl ?_
  refine w_ic (n := 1) (j := 2) rfl rfl ?_
  refine w_bi (j := 3) (a := nI 96) rfl rfl (by decide) ?_
  refine w_csI (j := 4) rfl rfl rfl rfl rfl (sp_155) rfl ?_
  by_cases c1 : nI 1 ≤ a ∧ a ≤ nI 96
  rw [decide_eq_true c1]
  rotate_left
  · rw [decide_eq_false c1]
    refine w_eqB (j := 5) rfl rfl (fun _ => ?_) (fun c => absurd c (by simp))
    refine w_ic (n := 0) (j := 18) rfl rfl ?_
    refine w_irB rfl (by first | exact Or.inl rfl | exact Or.inr rfl | exact px_b01 _) ?_
    exact ⟨_, _, rfl, rfl, false, rfl, ⟨fun q => (by cases q), fun q => absurd q.1 c1⟩⟩
  refine w_eqB (j := 5) rfl rfl (fun c => absurd c (by simp)) (fun _ => ?_)
  refine w_il (j := 6) rfl rfl rfl ?_
  refine w_ic (n := 0) (j := 7) rfl rfl ?_
  refine w_bi (j := 8) (a := nI 16) rfl rfl (by decide) ?_
  refine w_csI (j := 9) rfl rfl rfl rfl rfl (sp_155) rfl ?_
  by_cases c2 : nI 0 ≤ b ∧ b ≤ nI 16
  rw [decide_eq_true c2]
  rotate_left
  · rw [decide_eq_false c2]
    refine w_eqB (j := 10) rfl rfl (fun _ => ?_) (fun c => absurd c (by simp))
    refine w_ic (n := 0) (j := 18) rfl rfl ?_
    refine w_irB rfl (by first | exact Or.inl rfl | exact Or.inr rfl | exact px_b01 _) ?_
    exact ⟨_, _, rfl, rfl, false, rfl, ⟨fun q => (by cases q), fun q => absurd q.2.1 c2⟩⟩
  refine w_eqB (j := 10) rfl rfl (fun c => absurd c (by simp)) (fun _ => ?_)
  refine w_il (j := 11) rfl rfl rfl ?_
  refine w_ic (n := 0) (j := 12) rfl rfl ?_
  refine w_bi (j := 13) (a := nI 16) rfl rfl (by decide) ?_
  refine w_csI (j := 14) rfl rfl rfl rfl rfl (sp_155) rfl ?_
  by_cases c3 : nI 0 ≤ c ∧ c ≤ nI 16
  rw [decide_eq_true c3]
  rotate_left
  · rw [decide_eq_false c3]
    refine w_eqB (j := 15) rfl rfl (fun _ => ?_) (fun c => absurd c (by simp))
    refine w_ic (n := 0) (j := 18) rfl rfl ?_
    refine w_irB rfl (by first | exact Or.inl rfl | exact Or.inr rfl | exact px_b01 _) ?_
    exact ⟨_, _, rfl, rfl, false, rfl, ⟨fun q => (by cases q), fun q => absurd q.2.2 c3⟩⟩
  refine w_eqB (j := 15) rfl rfl (fun c => absurd c (by simp)) (fun _ => ?_)
  refine w_ic (n := 1) (j := 16) rfl rfl ?_
  refine w_go rfl ?_
  refine w_irB rfl (by first | exact Or.inl rfl | exact Or.inr rfl | exact px_b01 _) ?_
  exact ⟨_, _, rfl, rfl, true, rfl, ⟨fun _ => ⟨c1, c2, c3⟩, fun _ => rfl⟩⟩
def pf_ctr (Z : px_Z) (N m : Nat) : Int32 := if m = 0 then pf_sum Z.2.2.2.1 N else if m = 1 then px_fold (pf_fb (fun c => Z.2.2.2.1 c = 0)) N (nI 0) else if m = 2 then Z.2.1 else Z.2.2.1
theorem C_century {sd a b c w : Int32} (hI : px_I h B N T cs L W I t) : px_CO 9 139 [.ref 0, .int sd, .int a, .int b, .int c, .int w] h (fun v h1 => ∃ y m, m ≤ 3 ∧ a = nI y ∧ w = nI m ∧ pf_ok3 a b c ∧ v = pf_ctr (pf_cen h cs B N sd b c y) N m ∧ px_kp h h1) (fun x h1 => x = 0 ∧ ¬ (pf_ok3 a b c ∧ nI 0 ≤ w ∧ w ≤ nI 3) ∧ h1 = px_hX 0 h) := by
  have hI' := hI
  refine px_M (M := mt_139) (ops := mo_139) tb_139 rfl rfl rfl rfl rfl ?_
  refine w_al (j := 1) rfl rfl rfl ?_
  refine w_il (j := 2) rfl rfl rfl ?_
  refine w_il (j := 3) rfl rfl rfl ?_
  refine w_iL (j := 4) rfl rfl rfl ?_
  refine w_chk (j := 5) rfl rfl rfl rfl (by first | assumption | rfl) rfl rfl (sp_141) rfl (fun c1 => ?_) (fun c1 => ?_)
  · exact Or.inr ⟨_, _, rfl, rfl, fun q => c1 q.1, rfl⟩
  refine w_al (j := 6) rfl rfl rfl ?_
  refine w_iL (j := 7) rfl rfl rfl ?_
  refine w_ic (n := 0) (j := 8) rfl rfl ?_
  refine w_ic (n := 3) (j := 9) rfl rfl ?_
  refine w_chk (j := 10) rfl rfl rfl rfl (by first | assumption | rfl) rfl rfl (sp_147) rfl (fun c2 => ?_) (fun c2 => ?_)
  · exact Or.inr ⟨_, _, rfl, rfl, fun q => c2 q.2, rfl⟩
  obtain ⟨m, hm, rfl⟩ := px_bnd2 (by decide) c2
  obtain ⟨y, hy1, hy2, rfl⟩ := px_bndl (by decide) (by decide) c1.1
  refine w_al (j := 11) rfl rfl rfl ?_
  first | refine w_gr (j := 12) rfl rfl (by first | assumption | rfl) (by first | assumption | rfl) rfl ?_ | refine w_gi (j := 12) rfl rfl (by first | assumption | rfl) (by first | assumption | rfl) rfl rfl ?_
  refine w_al (j := 13) rfl rfl rfl ?_
  first | refine w_gr (j := 14) rfl rfl (by first | assumption | rfl) (by first | assumption | rfl) rfl ?_ | refine w_gi (j := 14) rfl rfl (by first | assumption | rfl) (by first | assumption | rfl) rfl rfl ?_
  refine w_cvPU (j := 15) rfl rfl rfl rfl (by first | assumption | rfl) rfl rfl (px_tr0 (cs := cs) (N := N)) rfl ?_
  rintro h1 R
  refine w_al (j := 16) rfl rfl rfl ?_
  first | refine w_gr (j := 17) rfl rfl (by first | assumption | rfl) (by first | assumption | rfl) rfl ?_ | refine w_gi (j := 17) rfl rfl (by first | assumption | rfl) (by first | assumption | rfl) rfl rfl ?_
  refine w_al (j := 18) rfl rfl rfl ?_
  first | refine w_gr (j := 19) rfl rfl (by first | assumption | rfl) (by first | assumption | rfl) rfl ?_ | refine w_gi (j := 19) rfl rfl (by first | assumption | rfl) (by first | assumption | rfl) rfl rfl ?_
  refine w_il (j := 20) rfl rfl rfl ?_
  refine w_il (j := 21) rfl rfl rfl ?_
  refine w_il (j := 22) rfl rfl rfl ?_
  refine w_iL (j := 23) rfl rfl rfl ?_
  refine w_cvPU (j := 24) rfl rfl rfl rfl (by first | assumption | rfl) rfl rfl (sp_0 hI (by omega) (px_trk R) R.2) rfl ?_
  rintro h2 R2
  have I2 := hI.kp R2.1
  have ok := pf_cenO (sd := sd) (q := b) (m := c) hI y
  obtain ⟨⟨l1, l2, l3, l4, l5, l6, l7, l8, l9⟩, lw, -, nw, -⟩ := I2
  refine w_iL (j := 25) rfl rfl rfl ?_
  obtain rfl | rfl | rfl | rfl : m = 0 ∨ m = 1 ∨ m = 2 ∨ m = 3 := by omega
  ·
    refine w_swN (t := 26) rfl (by decide) (by omega) rfl ?_
    refine w_al (j := 27) rfl rfl rfl ?_
    first | refine w_gr (j := 28) rfl rfl (by first | assumption | rfl) (by first | assumption | rfl) rfl ?_ | refine w_gi (j := 28) rfl rfl (by first | assumption | rfl) (by first | assumption | rfl) rfl rfl ?_
    refine w_cvI (j := 29) rfl rfl rfl rfl (by first | assumption | rfl) rfl rfl (sp_82 px_St68 l4 l6 (fun c hc => by rw [R2.2.2.2.2.1 c (by omega)]; exact ok.1 c (by omega))) rfl ?_
    refine w_ir rfl ?_
    exact Or.inl ⟨_, _, rfl, y, 0, hm, rfl, rfl, c1, pf_sum_congr (fun c hc => R2.2.2.2.2.1 c (by omega)), R2.1⟩
  ·
    refine w_swN (t := 30) rfl (by decide) (by omega) rfl ?_
    refine w_al (j := 31) rfl rfl rfl ?_
    first | refine w_gr (j := 32) rfl rfl (by first | assumption | rfl) (by first | assumption | rfl) rfl ?_ | refine w_gi (j := 32) rfl rfl (by first | assumption | rfl) (by first | assumption | rfl) rfl rfl ?_
    refine w_cvI (j := 33) rfl rfl rfl rfl (by first | assumption | rfl) rfl rfl (sp_80 px_St68 l4 l6) rfl ?_
    refine w_ir rfl ?_
    exact Or.inl ⟨_, _, rfl, y, 1, hm, rfl, rfl, c1, pf_fb_congr (fun c hc => by rw [R2.2.2.2.2.1 c (by omega)]), R2.1⟩
  ·
    refine w_swN (t := 34) rfl (by decide) (by omega) rfl ?_
    refine w_al (j := 35) rfl rfl rfl ?_
    first | refine w_gr (j := 36) rfl rfl (by first | assumption | rfl) (by first | assumption | rfl) rfl ?_ | refine w_gi (j := 36) rfl rfl (by first | assumption | rfl) (by first | assumption | rfl) rfl rfl ?_
    first | refine w_gr (j := 37) rfl rfl (by first | assumption | rfl) (by first | assumption | rfl) rfl ?_ | refine w_gi (j := 37) rfl rfl (by first | assumption | rfl) (by first | assumption | rfl) rfl rfl ?_
    refine w_ir rfl ?_
    exact Or.inl ⟨_, _, rfl, y, 2, hm, rfl, rfl, c1, R2.2.2.1, R2.1⟩
  ·
    refine w_swN (t := 38) rfl (by decide) (by omega) rfl ?_
    refine w_al (j := 39) rfl rfl rfl ?_
    first | refine w_gr (j := 40) rfl rfl (by first | assumption | rfl) (by first | assumption | rfl) rfl ?_ | refine w_gi (j := 40) rfl rfl (by first | assumption | rfl) (by first | assumption | rfl) rfl rfl ?_
    first | refine w_gr (j := 41) rfl rfl (by first | assumption | rfl) (by first | assumption | rfl) rfl ?_ | refine w_gi (j := 41) rfl rfl (by first | assumption | rfl) (by first | assumption | rfl) rfl rfl ?_
    refine w_ir rfl ?_
    exact Or.inl ⟨_, _, rfl, y, 3, hm, rfl, rfl, c1, R2.2.2.2.1, R2.1⟩
theorem M_century {sd b c : Int32} {y m : Nat} (hI : px_I h B N T cs L W I t) (hm : m ≤ 3) (c1 : pf_ok3 (nI y) b c) (hy : y < 2147483648) : px_PI 10 251 [.ref 100, .int sd, .int (nI y), .int b, .int c, .int (nI m)] h (fun w h2 => w = pf_ctr (pf_cen h cs B N sd b c y) N m ∧ h2 100 0 = nI 0 ∧ px_kp h h2) := by
  have hy2 : y ≤ 96 := (px_nle hy (by decide)).mp c1.1.2
  refine px_M (M := mt_251) (ops := mo_251) tb_251 rfl rfl rfl rfl rfl ?_
  refine w_al (j := 1) rfl rfl rfl ?_
  refine w_ic (n := 0) (j := 2) rfl rfl ?_
  refine w_pf (j := 3) rfl rfl (by first | assumption | rfl) (by first | assumption | rfl) rfl ?_
  obtain ⟨I1, k1, t0⟩ := px_thr (v := nI 0) hI
  generalize ix_up h 100 0 (nI 0) = h1 at I1 k1 t0 ⊢
  rw [← pf_cen_kp k1]
  refine w_al (j := 4) rfl rfl rfl ?_
  refine w_il (j := 5) rfl rfl rfl ?_
  refine w_il (j := 6) rfl rfl rfl ?_
  refine w_iL (j := 7) rfl rfl rfl ?_
  refine w_csPI (j := 8) rfl rfl rfl rfl rfl (sp_250) rfl ?_
  rintro v h9 ⟨e9, d, e8, hd⟩
  subst e9 e8
  rw [hd.mpr c1]
  refine w_eqB (j := 9) rfl rfl (fun c => absurd c (by simp)) (fun _ => ?_)
  refine w_iL (j := 10) rfl rfl rfl ?_
  refine w_ic (n := 0) (j := 11) rfl rfl ?_
  refine w_ic (n := 3) (j := 12) rfl rfl ?_
  refine w_csI (j := 13) rfl rfl rfl rfl rfl (sp_155) rfl ?_
  rw [px_ofN hm (by decide)]
  refine w_neB (j := 14) rfl rfl (fun _ => ?_) (fun c => absurd c (by simp))
  refine w_ic (n := 0) (j := 17) rfl rfl ?_
  refine w_ic (n := 1) (j := 18) rfl rfl ?_
  refine w_ic (n := 1) (j := 19) rfl rfl ?_
  refine w_cvI (j := 20) rfl rfl rfl rfl (by first | assumption | rfl) rfl rfl (sp_154f t0) rfl ?_
  refine w_eqB (j := 21) rfl rfl (fun _ => ?_) (fun c => absurd c (by simp))
  refine w_al (j := 24) rfl rfl rfl ?_
  refine w_il (j := 25) rfl rfl rfl ?_
  refine w_il (j := 26) rfl rfl rfl ?_
  refine w_il (j := 27) rfl rfl rfl ?_
  refine w_iL (j := 28) rfl rfl rfl ?_
  refine w_cvPU (j := 29) rfl rfl rfl rfl (by first | assumption | rfl) rfl rfl (sp_249 I1 hy2) rfl ?_
  rintro h2 R2
  have I2 := I1.kp R2.1
  obtain ⟨⟨l1, l2, l3, l4, l5, l6, l7, l8, l9⟩, lw, -, nw, -⟩ := I2
  have t9 : h2 100 0 = nI 0 := R2.2.1.trans t0
  have k9 := k1.tr R2.1
  refine w_iL (j := 30) rfl rfl rfl ?_
  obtain rfl | rfl | rfl | rfl : m = 0 ∨ m = 1 ∨ m = 2 ∨ m = 3 := by omega
  ·
    refine w_swN (t := 31) rfl (by decide) (by omega) rfl ?_
    refine w_al (j := 32) rfl rfl rfl ?_
    refine w_al (j := 33) rfl rfl rfl ?_
    first | refine w_gr (j := 34) rfl rfl (by first | assumption | rfl) (by first | assumption | rfl) rfl ?_ | refine w_gi (j := 34) rfl rfl (by first | assumption | rfl) (by first | assumption | rfl) rfl rfl ?_
    refine w_cvI (j := 35) rfl rfl rfl rfl (by first | assumption | rfl) rfl rfl (sp_209 px_Rw578 l5 l6) rfl ?_
    refine w_ir rfl ?_
    exact ⟨_, _, rfl, pf_sum_congr (fun c hc => R2.2.2.2.2.2.1 c (by omega)), t9, k9⟩
  ·
    refine w_swN (t := 36) rfl (by decide) (by omega) rfl ?_
    refine w_al (j := 37) rfl rfl rfl ?_
    refine w_al (j := 38) rfl rfl rfl ?_
    first | refine w_gr (j := 39) rfl rfl (by first | assumption | rfl) (by first | assumption | rfl) rfl ?_ | refine w_gi (j := 39) rfl rfl (by first | assumption | rfl) (by first | assumption | rfl) rfl rfl ?_
    refine w_cvI (j := 40) rfl rfl rfl rfl (by first | assumption | rfl) rfl rfl (sp_210 px_Rw578 l5 l6) rfl ?_
    refine w_ir rfl ?_
    exact ⟨_, _, rfl, pf_fb_congr (fun c hc => by rw [R2.2.2.2.2.2.1 c (by omega)]), t9, k9⟩
  ·
    refine w_swN (t := 41) rfl (by decide) (by omega) rfl ?_
    refine w_al (j := 42) rfl rfl rfl ?_
    first | refine w_gr (j := 43) rfl rfl (by first | assumption | rfl) (by first | assumption | rfl) rfl ?_ | refine w_gi (j := 43) rfl rfl (by first | assumption | rfl) (by first | assumption | rfl) rfl rfl ?_
    refine w_ir rfl ?_
    exact ⟨_, _, rfl, R2.2.2.2.1, t9, k9⟩
  ·
    refine w_swN (t := 44) rfl (by decide) (by omega) rfl ?_
    refine w_al (j := 45) rfl rfl rfl ?_
    first | refine w_gr (j := 46) rfl rfl (by first | assumption | rfl) (by first | assumption | rfl) rfl ?_ | refine w_gi (j := 46) rfl rfl (by first | assumption | rfl) (by first | assumption | rfl) rfl rfl ?_
    refine w_ir rfl ?_
    exact ⟨_, _, rfl, R2.2.2.2.2.1, t9, k9⟩
theorem MX_century {sd a b c w : Int32} (ok : ¬ (pf_ok3 a b c ∧ nI 0 ≤ w ∧ w ≤ nI 3)) : px_PI 4 251 [.ref 100, .int sd, .int a, .int b, .int c, .int w] h (fun v h2 => h2 100 0 = nI 1 ∧ px_kp (ix_up h 102 1 (h 102 1 + nI 1)) h2) := by
  have tail : px_R px_E 3 mo_251 [] 14 [.ref 100, .int sd, .int a, .int b, .int c, .int w] [.ref 100] (ix_up h 100 0 (nI 0)) 0 (fun r => ∃ v h', r = (.inl (some (.int v)), h', 0) ∧ h' 100 0 = nI 1 ∧ px_kp (ix_up h 102 1 (h 102 1 + nI 1)) h') := by
    refine w_ic (n := 1) (j := 15) rfl rfl ?_
    refine w_go rfl ?_
    refine w_ic (n := 1) (j := 18) rfl rfl ?_
    refine w_ic (n := 1) (j := 19) rfl rfl ?_
    refine w_cvI (j := 20) rfl rfl rfl rfl (by first | assumption | rfl) rfl rfl (sp_154t (p := 1) (w := 1) rfl (by decide) (by decide) (by decide)) rfl ?_
    refine w_eqB (j := 21) rfl rfl (fun c => absurd c (by simp)) (fun _ => ?_)
    refine w_ic (n := 0) (j := 22) rfl rfl ?_
    refine w_ir rfl ?_
    exact ⟨_, _, rfl, rfl, px_kpX (by decide)⟩
  refine px_M (M := mt_251) (ops := mo_251) tb_251 rfl rfl rfl rfl rfl ?_
  refine w_al (j := 1) rfl rfl rfl ?_
  refine w_ic (n := 0) (j := 2) rfl rfl ?_
  refine w_pf (j := 3) rfl rfl (by first | assumption | rfl) (by first | assumption | rfl) rfl ?_
  refine w_al (j := 4) rfl rfl rfl ?_
  refine w_il (j := 5) rfl rfl rfl ?_
  refine w_il (j := 6) rfl rfl rfl ?_
  refine w_iL (j := 7) rfl rfl rfl ?_
  refine w_csPI (j := 8) rfl rfl rfl rfl rfl (sp_250) rfl ?_
  rintro v h9 ⟨e9, d, e8, hd⟩
  subst e9 e8
  cases d with
  | false => exact w_eqB rfl rfl (fun _ => tail) (fun c => absurd c (by simp))
  | true =>
    refine w_eqB (j := 9) rfl rfl (fun c => absurd c (by simp)) (fun _ => ?_)
    refine w_iL (j := 10) rfl rfl rfl ?_
    refine w_ic (n := 0) (j := 11) rfl rfl ?_
    refine w_ic (n := 3) (j := 12) rfl rfl ?_
    refine w_csI (j := 13) rfl rfl rfl rfl rfl (sp_155) rfl ?_
    rw [decide_eq_false (fun q => ok ⟨hd.mp rfl, q⟩)]
    refine w_neB (j := 14) rfl rfl (fun c => absurd c (by simp)) (fun _ => ?_)
    exact tail
-- span
theorem pf_sumN {s : Nat → Int32} : ∀ N, (∀ c, c < N → ∃ q, q ≤ 99 ∧ s c = nI q) → ∃ k, k ≤ 99 * N ∧ pf_sum s N = nI k
  | 0, _ => ⟨0, by decide, rfl⟩
  | N + 1, hs => by
    obtain ⟨k, hk, e⟩ := pf_sumN N (fun c hc => hs c (by omega))
    obtain ⟨q, hq, e2⟩ := hs N (by omega)
    refine ⟨k + q, by omega, ?_⟩
    show pf_sum s N + s N = _
    rw [e, e2, px_nadd]
def pf_spk (h : ix_H) (cs : List (Nat × Nat)) (B N : Nat) (sd q m : Int32) (y i : Nat) : Nat := (pf_sum (pf_cen h cs B N (sd + nI i) q m y).2.2.2.1 N).toNatClampNeg
theorem pf_spk_eq {sd q m : Int32} {y i : Nat} (hI : px_I h B N T cs L W I t) : pf_sum (pf_cen h cs B N (sd + nI i) q m y).2.2.2.1 N = nI (pf_spk h cs B N sd q m y i) ∧ pf_spk h cs B N sd q m y i ≤ 792 := by
  have ok := pf_cenO (sd := sd + nI i) (q := q) (m := m) hI y
  have h6 := hI.1.2.2.2.2.2.1
  obtain ⟨k, hk, e⟩ := pf_sumN N (fun c hc => ok.1 c (by omega))
  unfold pf_spk
  rw [e, nI_clamp (by omega)]
  exact ⟨rfl, by omega⟩
def pf_sp1 (h : ix_H) (cs : List (Nat × Nat)) (B N : Nat) (sd q m : Int32) (y c i : Nat) (s : Nat × Nat × Int32) : Nat × Nat × Int32 := (min s.1 (pf_spk h cs B N sd q m y i), max s.2.1 (pf_spk h cs B N sd q m y i), s.2.2 + (if (pf_cen h cs B N (sd + nI i) q m y).2.2.2.1 c = 0 then nI 0 else nI 1))
def pf_spf (h : ix_H) (cs : List (Nat × Nat)) (B N : Nat) (sd q m : Int32) (y c n : Nat) : Nat × Nat × Int32 := px_fold (pf_sp1 h cs B N sd q m y c) n (792, 0, nI 0)
def pf_spn (r : Nat × Nat × Int32) (w : Nat) : Int32 := if w = 0 then nI r.1 else if w = 1 then nI r.2.1 else r.2.2
theorem pf_spf_le {sd q m : Int32} {y c : Nat} (hI : px_I h B N T cs L W I t) : ∀ n, (pf_spf h cs B N sd q m y c n).1 ≤ 792 ∧ (pf_spf h cs B N sd q m y c n).2.1 ≤ 792
  | 0 => ⟨Nat.le_refl _, Nat.zero_le _⟩
  | n + 1 => by
    have ih := pf_spf_le (sd := sd) (q := q) (m := m) (y := y) (c := c) hI n
    have e := (pf_spk_eq (sd := sd) (q := q) (m := m) (y := y) (i := n) hI).2
    show min (pf_spf h cs B N sd q m y c n).1 (pf_spk h cs B N sd q m y n) ≤ 792 ∧ max (pf_spf h cs B N sd q m y c n).2.1 (pf_spk h cs B N sd q m y n) ≤ 792
    omega
theorem pf_spf_kp {h h' : ix_H} {sd q m : Int32} {y c n : Nat} (k : px_kp h h') : pf_spf h' cs B N sd q m y c n = pf_spf h cs B N sd q m y c n := by
  refine px_fold_congr n _ (fun i s hi => ?_)
  unfold pf_sp1 pf_spk
  rw [pf_cen_kp k]
end CE
