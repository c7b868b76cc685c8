theorem px_sh106 : ∀ k, k < 6 → ix_sh (106 + k) = (1, 2, 0) := by decide
theorem px_sh120 : ∀ k, k < 8 → ix_sh (120 + k) = (1, 2, 0) := by decide
theorem px_sh138 : ∀ k, k < 6 → ix_sh (138 + k) = (1, 6, 0) := by decide
section GO
variable {h : ix_H} {tx : Nat → Nat} {n p f o : Nat} {fp : Int32}
theorem gD_go {c kd : Nat} {st : Nat → Nat → Nat} {s : Nat} {Q : ix_R → Prop} (hs : gx_sk tx n s = s) (hk : kd < 5) (hw : gx_is tx s (gx_lt tx n s) (gx_W kd)) (hc : c < 60) (ws : gx_ws st) (nf0 : kd = 0 → st 0 0 < 6) (nf1 : kd = 1 → st 0 1 < 8) (S : gx_mS h tx n s c st) (H : ∀ h', gF h h' → gx_mS h' tx n (gx_lt tx n s) (c + 1) st → px_R px_E 5 mo_176 [] 50 [.ref 100, .int (nI kd), .null, .null, .null, .null] [] h' 0 Q) : px_R px_E 5 mo_176 [] 0 [.ref 100, .null, .null, .null, .null, .null] [] h 0 Q := by
  obtain ⟨r, c7, ms⟩ := S
  have w1 := ws.1
  have w2 := ws.2.1
  refine w_al (j := 1) rfl rfl rfl ?_
  refine w_cvPI (j := 2) rfl rfl rfl rfl (by first | assumption | rfl) rfl rfl (sp_175 hs r) rfl ?_
  rintro v h1 ⟨z, f1, r1⟩
  rcases z with ⟨k, hk', zv, z⟩ | ⟨-, z⟩
  rotate_left
  · exact absurd hw (z kd hk)
  obtain rfl := gx_W_u hk' hk z hw
  subst zv
  have r5 := r1.2.2.2.2.1
  have c7' : h1 100 7 = nI c := by rw [f1.2 7 (by decide) (by decide) (by decide) (by decide)]; exact c7
  have m0 : h1 103 0 = nI (st 0 0) := by rw [f1.1 103 (by decide)]; exact ms.1 0 (by decide)
  have m1 : h1 103 1 = nI (st 0 1) := by rw [f1.1 103 (by decide)]; exact ms.1 1 (by decide)
  have fin : px_R px_E 5 mo_176 [] 38 [.ref 100, .int (nI k), .null, .null, .null, .null] [] h1 0 Q := by
    refine w_al (j := 39) rfl rfl rfl ?_
    first | refine w_gr (j := 40) rfl rfl (by first | assumption | rfl) (by first | assumption | rfl) rfl ?_ | refine w_gi (j := 40) rfl rfl (by first | assumption | rfl) (by first | assumption | rfl) rfl r5 ?_
    refine w_eqM (j := 41) rfl rfl (by omega) (fun _ => ?_) (fun c => absurd c (fun c => by omega))
    refine w_al (j := 43) rfl rfl rfl ?_
    refine w_cvPU (j := 44) rfl rfl rfl rfl (by first | assumption | rfl) rfl rfl (sp_169 r1) rfl ?_
    rintro h2 ⟨f2, r2⟩
    have c72 : h2 100 7 = nI c := by rw [f2.2 7 (by decide) (by decide) (by decide) (by decide)]; exact c7'
    refine w_al (j := 45) rfl rfl rfl ?_
    first | refine w_dupr (j := 46) rfl rfl ?_ | refine w_dupi (j := 46) rfl rfl ?_
    first | refine w_gr (j := 47) rfl rfl (by first | assumption | rfl) (by first | assumption | rfl) rfl ?_ | refine w_gi (j := 47) rfl rfl (by first | assumption | rfl) (by first | assumption | rfl) rfl c72 ?_
    refine w_ic (n := 1) (j := 48) rfl rfl ?_
    first | refine w_add0 (j := 49) rfl rfl ?_ | refine w_addN (j := 49) rfl rfl ?_ | refine w_add (j := 49) rfl rfl ?_
    refine w_pf (j := 50) rfl rfl (by first | assumption | rfl) (by first | assumption | rfl) rfl ?_
    refine H _ ((f1.tr f2).gF.up (by omega)) ⟨r2.of (ix_up_ne (by decide)) (ix_up_ne (by decide)) (fun j hj => px_up_nk (by omega)), px_up_at, ?_⟩
    exact ms.of (fun a a1 a2 => by rw [ix_up_ne (by omega), f2.1 a (by omega), f1.1 a (by omega)]) ws
  refine w_is (j := 3) rfl rfl rfl ?_
  refine w_il (j := 4) rfl rfl rfl ?_
  refine w_im (j := 5) rfl rfl ?_
  refine w_ne (j := 6) rfl rfl (fun _ => ?_) (fun c => absurd c (fun z => px_nm1 (by omega) z))
  refine w_al (j := 13) rfl rfl rfl ?_
  first | refine w_gr (j := 14) rfl rfl (by first | assumption | rfl) (by first | assumption | rfl) rfl ?_ | refine w_gi (j := 14) rfl rfl (by first | assumption | rfl) (by first | assumption | rfl) rfl c7' ?_
  refine w_bi (j := 15) (a := nI 60) rfl rfl (by decide) ?_
  refine w_eqN (j := 16) rfl rfl (by omega) (by omega) (fun c => absurd c (fun c => by omega)) (fun _ => ?_)
  refine w_il (j := 17) rfl rfl rfl ?_
  refine w_neM (j := 18) rfl rfl (by omega) (fun d0 => ?_) (fun d0 => ?_)
  rotate_left
  ·
    have := nf0 d0
    refine w_al (j := 19) rfl rfl rfl ?_
    first | refine w_gr (j := 20) rfl rfl (by first | assumption | rfl) (by first | assumption | rfl) rfl ?_ | refine w_gi (j := 20) rfl rfl (by first | assumption | rfl) (by first | assumption | rfl) rfl rfl ?_
    refine w_ic (n := 0) (j := 21) rfl rfl ?_
    refine w_ial (j := 22) rfl rfl (by first | assumption | rfl) rfl (by omega) rfl m0 ?_
    refine w_bi (j := 23) (a := nI 6) rfl rfl (by decide) ?_
    refine w_eqN (j := 24) rfl rfl (by omega) (by omega) (fun c => absurd c (fun c => by omega)) (fun _ => ?_)
    refine w_il (j := 25) rfl rfl rfl ?_
    refine w_ic (n := 1) (j := 26) rfl rfl ?_
    refine w_neN (j := 27) rfl rfl (by omega) (by omega) (fun _ => ?_) (fun c => absurd c (fun c => by omega))
    exact fin
  refine w_il (j := 25) rfl rfl rfl ?_
  refine w_ic (n := 1) (j := 26) rfl rfl ?_
  refine w_neN (j := 27) rfl rfl (by omega) (by omega) (fun d1 => ?_) (fun d1 => ?_)
  · exact fin
  have := nf1 d1
  refine w_al (j := 28) rfl rfl rfl ?_
  first | refine w_gr (j := 29) rfl rfl (by first | assumption | rfl) (by first | assumption | rfl) rfl ?_ | refine w_gi (j := 29) rfl rfl (by first | assumption | rfl) (by first | assumption | rfl) rfl rfl ?_
  refine w_ic (n := 1) (j := 30) rfl rfl ?_
  refine w_ial (j := 31) rfl rfl (by first | assumption | rfl) rfl (by omega) rfl m1 ?_
  refine w_bi (j := 32) (a := nI 8) rfl rfl (by decide) ?_
  refine w_neN (j := 33) rfl rfl (by omega) (by omega) (fun _ => ?_) (fun c => absurd c (fun c => by omega))
  exact fin
theorem mq_188 {kd PL : Nat} {g2 g3 g4 g5 : Value} (hk : kd < 5) (hf : f ≠ 0) (r : px_mr h tx n p f (nI PL) 0) : px_R px_E 5 mo_176 [] 188 [.ref 100, .int (nI kd), g2, g3, g4, g5] [] h 0 (fun r => ∃ h', r = (.inl none, h', 0) ∧ gF h h' ∧ ∃ p, px_mr h' tx n p f (nI PL) 0) := by
  have r5 := r.2.2.2.2.1
  have f3 := r.2.2.2.2.2.1
  refine w_il (j := 189) rfl rfl rfl ?_
  refine w_ic (n := 2) (j := 190) rfl rfl ?_
  refine w_geN (j := 191) rfl rfl (by omega) (by omega) (fun c => ?_) (fun c => ?_)
  ·
    refine w_al (j := 205) rfl rfl rfl ?_
    refine w_bi (j := 206) (a := nI 59) rfl rfl (by decide) ?_
    refine w_cvU (j := 207) rfl rfl rfl rfl (by first | assumption | rfl) rfl rfl (sp_171x hf r) rfl ?_
    refine w_rt rfl ?_
    exact ⟨_, rfl, gF.rf, _, r⟩
  ·
    refine w_al (j := 192) rfl rfl rfl ?_
    first | refine w_gr (j := 193) rfl rfl (by first | assumption | rfl) (by first | assumption | rfl) rfl ?_ | refine w_gi (j := 193) rfl rfl (by first | assumption | rfl) (by first | assumption | rfl) rfl rfl ?_
    refine w_il (j := 194) rfl rfl rfl ?_
    refine w_dup2 (j := 195) rfl rfl ?_
    refine w_ial (j := 196) rfl rfl (by first | assumption | rfl) rfl (by omega) rfl rfl ?_
    refine w_al (j := 197) rfl rfl rfl ?_
    first | refine w_gr (j := 198) rfl rfl (by first | assumption | rfl) (by first | assumption | rfl) rfl ?_ | refine w_gi (j := 198) rfl rfl (by first | assumption | rfl) (by first | assumption | rfl) rfl r5 ?_
    refine w_neM (j := 199) rfl rfl (by omega) (fun _ => ?_) (fun c => absurd c (fun c => by omega))
    refine w_ic (n := 0) (j := 202) rfl rfl ?_
    refine w_add (j := 203) rfl rfl ?_
    refine w_ias (j := 204) rfl rfl (by first | assumption | rfl) rfl (by omega) rfl ?_
    refine w_al (j := 205) rfl rfl rfl ?_
    refine w_bi (j := 206) (a := nI 59) rfl rfl (by decide) ?_
    have r' : px_mr (ix_up h 103 kd (h 103 kd + nI 0)) tx n p f (nI PL) 0 := r.of (ix_up_ne (by decide)) (ix_up_ne (by decide)) (fun j _ => px_up_na (by decide))
    refine w_cvU (j := 207) rfl rfl rfl rfl (by first | assumption | rfl) rfl rfl (sp_171x hf r') rfl ?_
    refine w_rt rfl ?_
    exact ⟨_, rfl, gF.rf.up (by omega), _, r'⟩
theorem gE_px {h h1 : ix_H} {K PL : Nat} {r : ix_R} (f : gF h h1) (q : ∃ h', r = (.inl none, h', 0) ∧ gF h1 h' ∧ ∃ p, px_mr h' tx n p K (nI PL) 0) : ∃ h', r = (.inl none, h', 0) ∧ gF h h' ∧ ∃ p, px_mr h' tx n p K (nI PL) 0 := by
  obtain ⟨h', e, q1, q2⟩ := q
  exact ⟨h', e, f.tr q1, q2⟩
theorem gE_b1 {c : Nat} {st : Nat → Nat → Nat} {s : Nat} (hs : gx_sk tx n s = s) (hw : gx_is tx s (gx_lt tx n s) (gx_W 0)) (hc : c < 60) (ws : gx_ws st) (nf : st 0 0 < 6) (hk : gx_nk tx n 0 21 (gx_lt tx n s) ≠ 0) : gE tx n c st s (gx_nk tx n 0 21 (gx_lt tx n s)) (gx_sk tx n (gx_lt tx n s)) := by
  refine gE_open (fun h S => ?_)
  refine gD_go hs (by decide) hw hc ws (fun z => nf) (fun z => absurd z (by decide)) S (fun h1 F1 S1 => ?_)
  obtain ⟨r1, c7, ms⟩ := S1
  have m0 := ms.1 0 (by decide)
  have sx := px_sh106 (st 0 0) nf
  refine w_il (j := 51) rfl rfl rfl ?_
  refine w_swN (t := 52) rfl (by decide) (by omega) rfl ?_
  refine w_al (j := 53) rfl rfl rfl ?_
  first | refine w_gr (j := 54) rfl rfl (by first | assumption | rfl) (by first | assumption | rfl) rfl ?_ | refine w_gi (j := 54) rfl rfl (by first | assumption | rfl) (by first | assumption | rfl) rfl rfl ?_
  refine w_al (j := 55) rfl rfl rfl ?_
  first | refine w_gr (j := 56) rfl rfl (by first | assumption | rfl) (by first | assumption | rfl) rfl ?_ | refine w_gi (j := 56) rfl rfl (by first | assumption | rfl) (by first | assumption | rfl) rfl rfl ?_
  refine w_ic (n := 0) (j := 57) rfl rfl ?_
  refine w_ial (j := 58) rfl rfl (by first | assumption | rfl) rfl (by omega) rfl m0 ?_
  refine w_aal (j := 59) rfl rfl (by first | assumption | rfl) rfl (by omega) rfl ?_
  refine w_ic (n := 0) (j := 60) rfl rfl ?_
  refine w_al (j := 61) rfl rfl rfl ?_
  refine w_ic (n := 0) (j := 62) rfl rfl ?_
  refine w_bi (j := 63) (a := nI 20) rfl rfl (by decide) ?_
  refine w_cvPI (j := 64) rfl rfl rfl rfl (by first | assumption | rfl) rfl rfl (sp_165 (lo := 0) (H := 21) (by decide) (px_hiN (a := 20) (by decide)) (by decide) r1) rfl ?_
  rintro v h2 ⟨q1, q2, q3⟩
  rw [if_neg hk] at q1 q3
  subst q1
  have m0' : ix_up h2 (106 + st 0 0) 0 (nI 0) 103 0 = nI (st 0 0) := by rw [px_up_na (by omega), q2.1 103 (by decide)]; exact m0
  have r2 : px_mr (ix_up h2 (106 + st 0 0) 0 (nI 0)) tx n (gx_ne tx n (gx_lt tx n s)) (gx_nk tx n 0 21 (gx_lt tx n s)) (nI (gx_sk tx n (gx_lt tx n s))) 0 := q3.of (ix_up_ne (by omega)) (ix_up_ne (by omega)) (fun j _ => px_up_na (by omega))
  refine w_ias (j := 65) rfl rfl (by first | assumption | rfl) rfl (by omega) rfl ?_
  refine w_al (j := 66) rfl rfl rfl ?_
  first | refine w_gr (j := 67) rfl rfl (by first | assumption | rfl) (by first | assumption | rfl) rfl ?_ | refine w_gi (j := 67) rfl rfl (by first | assumption | rfl) (by first | assumption | rfl) rfl rfl ?_
  refine w_al (j := 68) rfl rfl rfl ?_
  first | refine w_gr (j := 69) rfl rfl (by first | assumption | rfl) (by first | assumption | rfl) rfl ?_ | refine w_gi (j := 69) rfl rfl (by first | assumption | rfl) (by first | assumption | rfl) rfl rfl ?_
  refine w_ic (n := 0) (j := 70) rfl rfl ?_
  refine w_ial (j := 71) rfl rfl (by first | assumption | rfl) rfl (by omega) rfl m0' ?_
  refine w_aal (j := 72) rfl rfl (by first | assumption | rfl) rfl (by omega) rfl ?_
  refine w_ic (n := 1) (j := 73) rfl rfl ?_
  refine w_al (j := 74) rfl rfl rfl ?_
  refine w_ic (n := 1) (j := 75) rfl rfl ?_
  refine w_ic (n := 4) (j := 76) rfl rfl ?_
  refine w_cvI (j := 77) rfl rfl rfl rfl (by first | assumption | rfl) rfl rfl (sp_165x hk r2) rfl ?_
  refine w_ias (j := 78) rfl rfl (by first | assumption | rfl) rfl (by omega) rfl ?_
  refine w_go rfl ?_
  have r3 : px_mr (ix_up (ix_up h2 (106 + st 0 0) 0 (nI 0)) (106 + st 0 0) 1 (nI 0)) tx n (gx_ne tx n (gx_lt tx n s)) (gx_nk tx n 0 21 (gx_lt tx n s)) (nI (gx_sk tx n (gx_lt tx n s))) 0 := r2.of (ix_up_ne (by omega)) (ix_up_ne (by omega)) (fun j _ => px_up_na (by omega))
  refine px_mono (mq_188 (by decide) hk r3) (fun r q => gE_px ?_ q)
  exact (F1.tr ((q2.gF.up (by omega)).up (by omega)))
theorem gE_b2 {c : Nat} {st : Nat → Nat → Nat} {s : Nat} (hs : gx_sk tx n s = s) (hw : gx_is tx s (gx_lt tx n s) (gx_W 0)) (hc : c < 60) (ws : gx_ws st) (nf : st 0 0 < 6) (hk : gx_nk tx n 0 21 (gx_lt tx n s) = 0) (hk2 : gx_nk tx n 1 5 (gx_ne tx n (gx_lt tx n s)) ≠ 0) : gE tx n c st s (gx_nk tx n 1 5 (gx_ne tx n (gx_lt tx n s))) (gx_sk tx n (gx_ne tx n (gx_lt tx n s))) := by
  refine gE_open (fun h S => ?_)
  refine gD_go hs (by decide) hw hc ws (fun z => nf) (fun z => absurd z (by decide)) S (fun h1 F1 S1 => ?_)
  obtain ⟨r1, c7, ms⟩ := S1
  have m0 := ms.1 0 (by decide)
  have sx := px_sh106 (st 0 0) nf
  refine w_il (j := 51) rfl rfl rfl ?_
  refine w_swN (t := 52) rfl (by decide) (by omega) rfl ?_
  refine w_al (j := 53) rfl rfl rfl ?_
  first | refine w_gr (j := 54) rfl rfl (by first | assumption | rfl) (by first | assumption | rfl) rfl ?_ | refine w_gi (j := 54) rfl rfl (by first | assumption | rfl) (by first | assumption | rfl) rfl rfl ?_
  refine w_al (j := 55) rfl rfl rfl ?_
  first | refine w_gr (j := 56) rfl rfl (by first | assumption | rfl) (by first | assumption | rfl) rfl ?_ | refine w_gi (j := 56) rfl rfl (by first | assumption | rfl) (by first | assumption | rfl) rfl rfl ?_
  refine w_ic (n := 0) (j := 57) rfl rfl ?_
  refine w_ial (j := 58) rfl rfl (by first | assumption | rfl) rfl (by omega) rfl m0 ?_
  refine w_aal (j := 59) rfl rfl (by first | assumption | rfl) rfl (by omega) rfl ?_
  refine w_ic (n := 0) (j := 60) rfl rfl ?_
  refine w_al (j := 61) rfl rfl rfl ?_
  refine w_ic (n := 0) (j := 62) rfl rfl ?_
  refine w_bi (j := 63) (a := nI 20) rfl rfl (by decide) ?_
  refine w_cvPI (j := 64) rfl rfl rfl rfl (by first | assumption | rfl) rfl rfl (sp_165 (lo := 0) (H := 21) (by decide) (px_hiN (a := 20) (by decide)) (by decide) r1) rfl ?_
  rintro v h2 ⟨q1, q2, q3⟩
  rw [if_pos hk] at q1
  rw [hk, if_pos rfl] at q3
  subst q1
  have m0' : ix_up h2 (106 + st 0 0) 0 (nI (gx_nv tx n (gx_lt tx n s))) 103 0 = nI (st 0 0) := by rw [px_up_na (by omega), q2.1 103 (by decide)]; exact m0
  have r2 : px_mr (ix_up h2 (106 + st 0 0) 0 (nI (gx_nv tx n (gx_lt tx n s)))) tx n (gx_ne tx n (gx_lt tx n s)) 0 (-1) 0 := q3.of (ix_up_ne (by omega)) (ix_up_ne (by omega)) (fun j _ => px_up_na (by omega))
  refine w_ias (j := 65) rfl rfl (by first | assumption | rfl) rfl (by omega) rfl ?_
  refine w_al (j := 66) rfl rfl rfl ?_
  first | refine w_gr (j := 67) rfl rfl (by first | assumption | rfl) (by first | assumption | rfl) rfl ?_ | refine w_gi (j := 67) rfl rfl (by first | assumption | rfl) (by first | assumption | rfl) rfl rfl ?_
  refine w_al (j := 68) rfl rfl rfl ?_
  first | refine w_gr (j := 69) rfl rfl (by first | assumption | rfl) (by first | assumption | rfl) rfl ?_ | refine w_gi (j := 69) rfl rfl (by first | assumption | rfl) (by first | assumption | rfl) rfl rfl ?_
  refine w_ic (n := 0) (j := 70) rfl rfl ?_
  refine w_ial (j := 71) rfl rfl (by first | assumption | rfl) rfl (by omega) rfl m0' ?_
  refine w_aal (j := 72) rfl rfl (by first | assumption | rfl) rfl (by omega) rfl ?_
  refine w_ic (n := 1) (j := 73) rfl rfl ?_
  refine w_al (j := 74) rfl rfl rfl ?_
  refine w_ic (n := 1) (j := 75) rfl rfl ?_
  refine w_ic (n := 4) (j := 76) rfl rfl ?_
  refine w_cvPI (j := 77) rfl rfl rfl rfl (by first | assumption | rfl) rfl rfl (sp_165 (lo := 1) (H := 5) (by decide) (px_hiN (a := 4) (by decide)) (by decide) r2) rfl ?_
  rintro v h3 ⟨y1, y2, y3⟩
  rw [if_neg hk2] at y1 y3
  subst y1
  refine w_ias (j := 78) rfl rfl (by first | assumption | rfl) rfl (by omega) rfl ?_
  refine w_go rfl ?_
  have r3 : px_mr (ix_up h3 (106 + st 0 0) 1 (nI 0)) tx n (gx_ne tx n (gx_ne tx n (gx_lt tx n s))) (gx_nk tx n 1 5 (gx_ne tx n (gx_lt tx n s))) (nI (gx_sk tx n (gx_ne tx n (gx_lt tx n s)))) 0 := y3.of (ix_up_ne (by omega)) (ix_up_ne (by omega)) (fun j _ => px_up_na (by omega))
  refine px_mono (mq_188 (by decide) hk2 r3) (fun r q => gE_px ?_ q)
  exact (F1.tr (((q2.gF.up (by omega)).tr y2.gF).up (by omega)))
def gx_b (tx : Nat → Nat) (n : Nat) (st : Nat → Nat → Nat) (e : Nat) : Nat → Nat → Nat := gx_u (gx_u (gx_u st 1 (st 0 0) (gx_nv tx n e)) 2 (st 0 0) (gx_nv tx n (gx_ne tx n e))) 0 0 (st 0 0 + 1)
theorem gD_b {c : Nat} {st : Nat → Nat → Nat} {s : Nat} (hs : gx_sk tx n s = s) (hw : gx_is tx s (gx_lt tx n s) (gx_W 0)) (hc : c < 60) (ws : gx_ws st) (nf : st 0 0 < 6) (hk : gx_nk tx n 0 21 (gx_lt tx n s) = 0) (hk2 : gx_nk tx n 1 5 (gx_ne tx n (gx_lt tx n s)) = 0) : gD tx n c st s (gx_b tx n st (gx_lt tx n s)) (gx_ne tx n (gx_ne tx n (gx_lt tx n s))) := by
  intro h Q S H
  refine gD_go hs (by decide) hw hc ws (fun z => nf) (fun z => absurd z (by decide)) S (fun h1 F1 S1 => ?_)
  obtain ⟨r1, c7, ms⟩ := S1
  have w1 := ws.1
  have w2 := ws.2.1
  have m0 := ms.1 0 (by decide)
  have sx := px_sh106 (st 0 0) nf
  refine w_il (j := 51) rfl rfl rfl ?_
  refine w_swN (t := 52) rfl (by decide) (by omega) rfl ?_
  refine w_al (j := 53) rfl rfl rfl ?_
  first | refine w_gr (j := 54) rfl rfl (by first | assumption | rfl) (by first | assumption | rfl) rfl ?_ | refine w_gi (j := 54) rfl rfl (by first | assumption | rfl) (by first | assumption | rfl) rfl rfl ?_
  refine w_al (j := 55) rfl rfl rfl ?_
  first | refine w_gr (j := 56) rfl rfl (by first | assumption | rfl) (by first | assumption | rfl) rfl ?_ | refine w_gi (j := 56) rfl rfl (by first | assumption | rfl) (by first | assumption | rfl) rfl rfl ?_
  refine w_ic (n := 0) (j := 57) rfl rfl ?_
  refine w_ial (j := 58) rfl rfl (by first | assumption | rfl) rfl (by omega) rfl m0 ?_
  refine w_aal (j := 59) rfl rfl (by first | assumption | rfl) rfl (by omega) rfl ?_
  refine w_ic (n := 0) (j := 60) rfl rfl ?_
  refine w_al (j := 61) rfl rfl rfl ?_
  refine w_ic (n := 0) (j := 62) rfl rfl ?_
  refine w_bi (j := 63) (a := nI 20) rfl rfl (by decide) ?_
  refine w_cvPI (j := 64) rfl rfl rfl rfl (by first | assumption | rfl) rfl rfl (sp_165 (lo := 0) (H := 21) (by decide) (px_hiN (a := 20) (by decide)) (by decide) r1) rfl ?_
  rintro v h2 ⟨q1, q2, q3⟩
  rw [if_pos hk] at q1
  rw [hk, if_pos rfl] at q3
  subst q1
  have m0' : ix_up h2 (106 + st 0 0) 0 (nI (gx_nv tx n (gx_lt tx n s))) 103 0 = nI (st 0 0) := by rw [px_up_na (by omega), q2.1 103 (by decide)]; exact m0
  have r2 : px_mr (ix_up h2 (106 + st 0 0) 0 (nI (gx_nv tx n (gx_lt tx n s)))) tx n (gx_ne tx n (gx_lt tx n s)) 0 (-1) 0 := q3.of (ix_up_ne (by omega)) (ix_up_ne (by omega)) (fun j _ => px_up_na (by omega))
  refine w_ias (j := 65) rfl rfl (by first | assumption | rfl) rfl (by omega) rfl ?_
  refine w_al (j := 66) rfl rfl rfl ?_
  first | refine w_gr (j := 67) rfl rfl (by first | assumption | rfl) (by first | assumption | rfl) rfl ?_ | refine w_gi (j := 67) rfl rfl (by first | assumption | rfl) (by first | assumption | rfl) rfl rfl ?_
  refine w_al (j := 68) rfl rfl rfl ?_
  first | refine w_gr (j := 69) rfl rfl (by first | assumption | rfl) (by first | assumption | rfl) rfl ?_ | refine w_gi (j := 69) rfl rfl (by first | assumption | rfl) (by first | assumption | rfl) rfl rfl ?_
  refine w_ic (n := 0) (j := 70) rfl rfl ?_
  refine w_ial (j := 71) rfl rfl (by first | assumption | rfl) rfl (by omega) rfl m0' ?_
  refine w_aal (j := 72) rfl rfl (by first | assumption | rfl) rfl (by omega) rfl ?_
  refine w_ic (n := 1) (j := 73) rfl rfl ?_
  refine w_al (j := 74) rfl rfl rfl ?_
  refine w_ic (n := 1) (j := 75) rfl rfl ?_
  refine w_ic (n := 4) (j := 76) rfl rfl ?_
  refine w_cvPI (j := 77) rfl rfl rfl rfl (by first | assumption | rfl) rfl rfl (sp_165 (lo := 1) (H := 5) (by decide) (px_hiN (a := 4) (by decide)) (by decide) r2) rfl ?_
  rintro v h3 ⟨y1, y2, y3⟩
  rw [if_pos hk2] at y1
  rw [hk2, if_pos rfl] at y3
  subst y1
  refine w_ias (j := 78) rfl rfl (by first | assumption | rfl) rfl (by omega) rfl ?_
  refine w_go rfl ?_
  have r3 : px_mr (ix_up h3 (106 + st 0 0) 1 (nI (gx_nv tx n (gx_ne tx n (gx_lt tx n s))))) tx n (gx_ne tx n (gx_ne tx n (gx_lt tx n s))) 0 (-1) 0 := y3.of (ix_up_ne (by omega)) (ix_up_ne (by omega)) (fun j _ => px_up_na (by omega))
  have m3 : ix_up h3 (106 + st 0 0) 1 (nI (gx_nv tx n (gx_ne tx n (gx_lt tx n s)))) 103 0 = nI (st 0 0) := by rw [px_up_na (by omega), y2.1 103 (by decide)]; exact m0'
  have r5 := r3.2.2.2.2.1
  refine w_il (j := 189) rfl rfl rfl ?_
  refine w_ic (n := 2) (j := 190) rfl rfl ?_
  refine w_geN (j := 191) rfl rfl (by omega) (by omega) (fun c => absurd c (fun c => by omega)) (fun _ => ?_)
  refine w_al (j := 192) rfl rfl rfl ?_
  first | refine w_gr (j := 193) rfl rfl (by first | assumption | rfl) (by first | assumption | rfl) rfl ?_ | refine w_gi (j := 193) rfl rfl (by first | assumption | rfl) (by first | assumption | rfl) rfl rfl ?_
  refine w_il (j := 194) rfl rfl rfl ?_
  refine w_dup2 (j := 195) rfl rfl ?_
  refine w_ial (j := 196) rfl rfl (by first | assumption | rfl) rfl (by omega) rfl m3 ?_
  refine w_al (j := 197) rfl rfl rfl ?_
  first | refine w_gr (j := 198) rfl rfl (by first | assumption | rfl) (by first | assumption | rfl) rfl ?_ | refine w_gi (j := 198) rfl rfl (by first | assumption | rfl) (by first | assumption | rfl) rfl r5 ?_
  refine w_neM (j := 199) rfl rfl (by omega) (fun c => absurd c (fun c => by omega)) (fun _ => ?_)
  refine w_ic (n := 1) (j := 200) rfl rfl ?_
  refine w_go rfl ?_
  first | refine w_add0 (j := 203) rfl rfl ?_ | refine w_addN (j := 203) rfl rfl ?_ | refine w_add (j := 203) rfl rfl ?_
  refine w_ias (j := 204) rfl rfl (by first | assumption | rfl) rfl (by omega) rfl ?_
  have G : ∀ a, a ≠ 100 → a ≠ 103 → a ≠ 106 + st 0 0 → ix_up (ix_up h3 (106 + st 0 0) 1 (nI (gx_nv tx n (gx_ne tx n (gx_lt tx n s))))) 103 0 (nI (st 0 0 + 1)) a = h1 a := fun a a1 a2 a3 => by rw [ix_up_ne a2, ix_up_ne a3, y2.1 a a1, ix_up_ne a3, q2.1 a a1]
  have G3 : ∀ i, i ≠ 0 → ix_up (ix_up h3 (106 + st 0 0) 1 (nI (gx_nv tx n (gx_ne tx n (gx_lt tx n s))))) 103 0 (nI (st 0 0 + 1)) 103 i = h1 103 i := fun i hi => by rw [px_up_nk hi, px_up_na (by omega), y2.1 103 (by decide), px_up_na (by omega), q2.1 103 (by decide)]
  refine H _ _ _ _ _ _ ?_ ⟨r3.of (ix_up_ne (by decide)) (ix_up_ne (by decide)) (fun j _ => px_up_na (by decide)), ?_, ?_⟩
  · exact F1.tr ((((q2.gF.up (by omega)).tr y2.gF).up (by omega)).up (by omega))
  · rw [px_up_na (by decide), px_up_na (by omega), y2.2 7 (by decide) (by decide) (by decide) (by decide), px_up_na (by omega), q2.2 7 (by decide) (by decide) (by decide) (by decide)]; exact c7
  · obtain ⟨x1, x2, x3, x4⟩ := ms
    have U0 : ∀ i, gx_b tx n st (gx_lt tx n s) 0 i = if i = 0 then st 0 0 + 1 else st 0 i := fun i => by
      unfold gx_b
      by_cases e : i = 0
      · rw [if_pos e, e, gx_u_at]
      · rw [if_neg e, gx_u_ne (by omega), gx_u_ne (by omega), gx_u_ne (by omega)]
    have U1 : ∀ i k, 1 ≤ i → (i ≠ 1 ∧ i ≠ 2) ∨ k ≠ st 0 0 → gx_b tx n st (gx_lt tx n s) i k = st i k := fun i k hi hik => by
      unfold gx_b
      rw [gx_u_ne (by omega), gx_u_ne (by omega), gx_u_ne (by omega)]
    refine ⟨fun i hi => ?_, fun k hk => ?_, fun k hk => ?_, fun a b ha hb => ?_⟩
    · rw [U0]
      by_cases e : i = 0
      · rw [if_pos e, e, px_up_at]
      · rw [if_neg e, G3 i e]; exact x1 i hi
    · rw [U0, if_pos rfl] at hk
      by_cases e : k = st 0 0
      · subst e
        unfold gx_b
        refine ⟨?_, ?_⟩
        · rw [px_up_na (by omega), px_up_nk (by decide), y2.1 _ (by omega), px_up_at, gx_u_ne (by omega), gx_u_ne (by omega), gx_u_at]
        · rw [px_up_na (by omega), px_up_at, gx_u_ne (by omega), gx_u_at]
      · rw [G _ (by omega) (by omega) (by omega), U1 1 k (by omega) (by omega), U1 2 k (by omega) (by omega)]
        exact x2 k (by omega)
    · rw [U0, if_neg (by decide)] at hk
      rw [G _ (by omega) (by omega) (by omega), U1 3 k (by omega) (by omega), U1 4 k (by omega) (by omega)]
      exact x3 k hk
    · rw [G _ (by omega) (by omega) (by omega), U1 _ _ (by omega) (by omega)]
      exact x4 a b ha hb
theorem gE_y1 {c : Nat} {st : Nat → Nat → Nat} {s : Nat} (hs : gx_sk tx n s = s) (hw : gx_is tx s (gx_lt tx n s) (gx_W 1)) (hc : c < 60) (ws : gx_ws st) (nf : st 0 1 < 8) (hk : gx_nk tx n 0 61 (gx_lt tx n s) ≠ 0) : gE tx n c st s (gx_nk tx n 0 61 (gx_lt tx n s)) (gx_sk tx n (gx_lt tx n s)) := by
  refine gE_open (fun h S => ?_)
  refine gD_go hs (by decide) hw hc ws (fun z => absurd z (by decide)) (fun z => nf) S (fun h1 F1 S1 => ?_)
  obtain ⟨r1, c7, ms⟩ := S1
  have m0 := ms.1 1 (by decide)
  have sx := px_sh120 (st 0 1) nf
  refine w_il (j := 51) rfl rfl rfl ?_
  refine w_swN (t := 79) rfl (by decide) (by omega) rfl ?_
  refine w_al (j := 80) rfl rfl rfl ?_
  first | refine w_gr (j := 81) rfl rfl (by first | assumption | rfl) (by first | assumption | rfl) rfl ?_ | refine w_gi (j := 81) rfl rfl (by first | assumption | rfl) (by first | assumption | rfl) rfl rfl ?_
  refine w_al (j := 82) rfl rfl rfl ?_
  first | refine w_gr (j := 83) rfl rfl (by first | assumption | rfl) (by first | assumption | rfl) rfl ?_ | refine w_gi (j := 83) rfl rfl (by first | assumption | rfl) (by first | assumption | rfl) rfl rfl ?_
  refine w_ic (n := 1) (j := 84) rfl rfl ?_
  refine w_ial (j := 85) rfl rfl (by first | assumption | rfl) rfl (by omega) rfl m0 ?_
  refine w_aal (j := 86) rfl rfl (by first | assumption | rfl) rfl (by omega) rfl ?_
  refine w_ic (n := 0) (j := 87) rfl rfl ?_
  refine w_al (j := 88) rfl rfl rfl ?_
  refine w_ic (n := 0) (j := 89) rfl rfl ?_
  refine w_bi (j := 90) (a := nI 60) rfl rfl (by decide) ?_
  refine w_cvPI (j := 91) rfl rfl rfl rfl (by first | assumption | rfl) rfl rfl (sp_165 (lo := 0) (H := 61) (by decide) (px_hiN (a := 60) (by decide)) (by decide) r1) rfl ?_
  rintro v h2 ⟨q1, q2, q3⟩
  rw [if_neg hk] at q1 q3
  subst q1
  have m0' : ix_up h2 (120 + st 0 1) 0 (nI 0) 103 1 = nI (st 0 1) := by rw [px_up_na (by omega), q2.1 103 (by decide)]; exact m0
  have r2 : px_mr (ix_up h2 (120 + st 0 1) 0 (nI 0)) tx n (gx_ne tx n (gx_lt tx n s)) (gx_nk tx n 0 61 (gx_lt tx n s)) (nI (gx_sk tx n (gx_lt tx n s))) 0 := q3.of (ix_up_ne (by omega)) (ix_up_ne (by omega)) (fun j _ => px_up_na (by omega))
  refine w_ias (j := 92) rfl rfl (by first | assumption | rfl) rfl (by omega) rfl ?_
  refine w_al (j := 93) rfl rfl rfl ?_
  first | refine w_gr (j := 94) rfl rfl (by first | assumption | rfl) (by first | assumption | rfl) rfl ?_ | refine w_gi (j := 94) rfl rfl (by first | assumption | rfl) (by first | assumption | rfl) rfl rfl ?_
  refine w_al (j := 95) rfl rfl rfl ?_
  first | refine w_gr (j := 96) rfl rfl (by first | assumption | rfl) (by first | assumption | rfl) rfl ?_ | refine w_gi (j := 96) rfl rfl (by first | assumption | rfl) (by first | assumption | rfl) rfl rfl ?_
  refine w_ic (n := 1) (j := 97) rfl rfl ?_
  refine w_ial (j := 98) rfl rfl (by first | assumption | rfl) rfl (by omega) rfl m0' ?_
  refine w_aal (j := 99) rfl rfl (by first | assumption | rfl) rfl (by omega) rfl ?_
  refine w_ic (n := 1) (j := 100) rfl rfl ?_
  refine w_al (j := 101) rfl rfl rfl ?_
  refine w_ic (n := 1) (j := 102) rfl rfl ?_
  refine w_bi (j := 103) (a := nI 99) rfl rfl (by decide) ?_
  refine w_cvI (j := 104) rfl rfl rfl rfl (by first | assumption | rfl) rfl rfl (sp_165x hk r2) rfl ?_
  refine w_ias (j := 105) rfl rfl (by first | assumption | rfl) rfl (by omega) rfl ?_
  refine w_go rfl ?_
  have r3 : px_mr (ix_up (ix_up h2 (120 + st 0 1) 0 (nI 0)) (120 + st 0 1) 1 (nI 0)) tx n (gx_ne tx n (gx_lt tx n s)) (gx_nk tx n 0 61 (gx_lt tx n s)) (nI (gx_sk tx n (gx_lt tx n s))) 0 := r2.of (ix_up_ne (by omega)) (ix_up_ne (by omega)) (fun j _ => px_up_na (by omega))
  refine px_mono (mq_188 (by decide) hk r3) (fun r q => gE_px ?_ q)
  exact (F1.tr ((q2.gF.up (by omega)).up (by omega)))
theorem gE_y2 {c : Nat} {st : Nat → Nat → Nat} {s : Nat} (hs : gx_sk tx n s = s) (hw : gx_is tx s (gx_lt tx n s) (gx_W 1)) (hc : c < 60) (ws : gx_ws st) (nf : st 0 1 < 8) (hk : gx_nk tx n 0 61 (gx_lt tx n s) = 0) (hk2 : gx_nk tx n 1 100 (gx_ne tx n (gx_lt tx n s)) ≠ 0) : gE tx n c st s (gx_nk tx n 1 100 (gx_ne tx n (gx_lt tx n s))) (gx_sk tx n (gx_ne tx n (gx_lt tx n s))) := by
  refine gE_open (fun h S => ?_)
  refine gD_go hs (by decide) hw hc ws (fun z => absurd z (by decide)) (fun z => nf) S (fun h1 F1 S1 => ?_)
  obtain ⟨r1, c7, ms⟩ := S1
  have m0 := ms.1 1 (by decide)
  have sx := px_sh120 (st 0 1) nf
  refine w_il (j := 51) rfl rfl rfl ?_
  refine w_swN (t := 79) rfl (by decide) (by omega) rfl ?_
  refine w_al (j := 80) rfl rfl rfl ?_
  first | refine w_gr (j := 81) rfl rfl (by first | assumption | rfl) (by first | assumption | rfl) rfl ?_ | refine w_gi (j := 81) rfl rfl (by first | assumption | rfl) (by first | assumption | rfl) rfl rfl ?_
  refine w_al (j := 82) rfl rfl rfl ?_
  first | refine w_gr (j := 83) rfl rfl (by first | assumption | rfl) (by first | assumption | rfl) rfl ?_ | refine w_gi (j := 83) rfl rfl (by first | assumption | rfl) (by first | assumption | rfl) rfl rfl ?_
  refine w_ic (n := 1) (j := 84) rfl rfl ?_
  refine w_ial (j := 85) rfl rfl (by first | assumption | rfl) rfl (by omega) rfl m0 ?_
  refine w_aal (j := 86) rfl rfl (by first | assumption | rfl) rfl (by omega) rfl ?_
  refine w_ic (n := 0) (j := 87) rfl rfl ?_
  refine w_al (j := 88) rfl rfl rfl ?_
  refine w_ic (n := 0) (j := 89) rfl rfl ?_
  refine w_bi (j := 90) (a := nI 60) rfl rfl (by decide) ?_
  refine w_cvPI (j := 91) rfl rfl rfl rfl (by first | assumption | rfl) rfl rfl (sp_165 (lo := 0) (H := 61) (by decide) (px_hiN (a := 60) (by decide)) (by decide) r1) rfl ?_
  rintro v h2 ⟨q1, q2, q3⟩
  rw [if_pos hk] at q1
  rw [hk, if_pos rfl] at q3
  subst q1
  have m0' : ix_up h2 (120 + st 0 1) 0 (nI (gx_nv tx n (gx_lt tx n s))) 103 1 = nI (st 0 1) := by rw [px_up_na (by omega), q2.1 103 (by decide)]; exact m0
  have r2 : px_mr (ix_up h2 (120 + st 0 1) 0 (nI (gx_nv tx n (gx_lt tx n s)))) tx n (gx_ne tx n (gx_lt tx n s)) 0 (-1) 0 := q3.of (ix_up_ne (by omega)) (ix_up_ne (by omega)) (fun j _ => px_up_na (by omega))
  refine w_ias (j := 92) rfl rfl (by first | assumption | rfl) rfl (by omega) rfl ?_
  refine w_al (j := 93) rfl rfl rfl ?_
  first | refine w_gr (j := 94) rfl rfl (by first | assumption | rfl) (by first | assumption | rfl) rfl ?_ | refine w_gi (j := 94) rfl rfl (by first | assumption | rfl) (by first | assumption | rfl) rfl rfl ?_
  refine w_al (j := 95) rfl rfl rfl ?_
  first | refine w_gr (j := 96) rfl rfl (by first | assumption | rfl) (by first | assumption | rfl) rfl ?_ | refine w_gi (j := 96) rfl rfl (by first | assumption | rfl) (by first | assumption | rfl) rfl rfl ?_
  refine w_ic (n := 1) (j := 97) rfl rfl ?_
  refine w_ial (j := 98) rfl rfl (by first | assumption | rfl) rfl (by omega) rfl m0' ?_
  refine w_aal (j := 99) rfl rfl (by first | assumption | rfl) rfl (by omega) rfl ?_
  refine w_ic (n := 1) (j := 100) rfl rfl ?_
  refine w_al (j := 101) rfl rfl rfl ?_
  refine w_ic (n := 1) (j := 102) rfl rfl ?_
  refine w_bi (j := 103) (a := nI 99) rfl rfl (by decide) ?_
  refine w_cvPI (j := 104) rfl rfl rfl rfl (by first | assumption | rfl) rfl rfl (sp_165 (lo := 1) (H := 100) (by decide) (px_hiN (a := 99) (by decide)) (by decide) r2) rfl ?_
  rintro v h3 ⟨y1, y2, y3⟩
  rw [if_neg hk2] at y1 y3
  subst y1
  refine w_ias (j := 105) rfl rfl (by first | assumption | rfl) rfl (by omega) rfl ?_
  refine w_go rfl ?_
  have r3 : px_mr (ix_up h3 (120 + st 0 1) 1 (nI 0)) tx n (gx_ne tx n (gx_ne tx n (gx_lt tx n s))) (gx_nk tx n 1 100 (gx_ne tx n (gx_lt tx n s))) (nI (gx_sk tx n (gx_ne tx n (gx_lt tx n s)))) 0 := y3.of (ix_up_ne (by omega)) (ix_up_ne (by omega)) (fun j _ => px_up_na (by omega))
  refine px_mono (mq_188 (by decide) hk2 r3) (fun r q => gE_px ?_ q)
  exact (F1.tr (((q2.gF.up (by omega)).tr y2.gF).up (by omega)))
def gx_y (tx : Nat → Nat) (n : Nat) (st : Nat → Nat → Nat) (e : Nat) : Nat → Nat → Nat := gx_u (gx_u (gx_u st 3 (st 0 1) (gx_nv tx n e)) 4 (st 0 1) (gx_nv tx n (gx_ne tx n e))) 0 1 (st 0 1 + 1)
theorem gD_y {c : Nat} {st : Nat → Nat → Nat} {s : Nat} (hs : gx_sk tx n s = s) (hw : gx_is tx s (gx_lt tx n s) (gx_W 1)) (hc : c < 60) (ws : gx_ws st) (nf : st 0 1 < 8) (hk : gx_nk tx n 0 61 (gx_lt tx n s) = 0) (hk2 : gx_nk tx n 1 100 (gx_ne tx n (gx_lt tx n s)) = 0) : gD tx n c st s (gx_y tx n st (gx_lt tx n s)) (gx_ne tx n (gx_ne tx n (gx_lt tx n s))) := by
  intro h Q S H
  refine gD_go hs (by decide) hw hc ws (fun z => absurd z (by decide)) (fun z => nf) S (fun h1 F1 S1 => ?_)
  obtain ⟨r1, c7, ms⟩ := S1
  have w1 := ws.1
  have w2 := ws.2.1
  have m0 := ms.1 1 (by decide)
  have sx := px_sh120 (st 0 1) nf
  refine w_il (j := 51) rfl rfl rfl ?_
  refine w_swN (t := 79) rfl (by decide) (by omega) rfl ?_
  refine w_al (j := 80) rfl rfl rfl ?_
  first | refine w_gr (j := 81) rfl rfl (by first | assumption | rfl) (by first | assumption | rfl) rfl ?_ | refine w_gi (j := 81) rfl rfl (by first | assumption | rfl) (by first | assumption | rfl) rfl rfl ?_
  refine w_al (j := 82) rfl rfl rfl ?_
  first | refine w_gr (j := 83) rfl rfl (by first | assumption | rfl) (by first | assumption | rfl) rfl ?_ | refine w_gi (j := 83) rfl rfl (by first | assumption | rfl) (by first | assumption | rfl) rfl rfl ?_
  refine w_ic (n := 1) (j := 84) rfl rfl ?_
  refine w_ial (j := 85) rfl rfl (by first | assumption | rfl) rfl (by omega) rfl m0 ?_
  refine w_aal (j := 86) rfl rfl (by first | assumption | rfl) rfl (by omega) rfl ?_
  refine w_ic (n := 0) (j := 87) rfl rfl ?_
  refine w_al (j := 88) rfl rfl rfl ?_
  refine w_ic (n := 0) (j := 89) rfl rfl ?_
  refine w_bi (j := 90) (a := nI 60) rfl rfl (by decide) ?_
  refine w_cvPI (j := 91) rfl rfl rfl rfl (by first | assumption | rfl) rfl rfl (sp_165 (lo := 0) (H := 61) (by decide) (px_hiN (a := 60) (by decide)) (by decide) r1) rfl ?_
  rintro v h2 ⟨q1, q2, q3⟩
  rw [if_pos hk] at q1
  rw [hk, if_pos rfl] at q3
  subst q1
  have m0' : ix_up h2 (120 + st 0 1) 0 (nI (gx_nv tx n (gx_lt tx n s))) 103 1 = nI (st 0 1) := by rw [px_up_na (by omega), q2.1 103 (by decide)]; exact m0
  have r2 : px_mr (ix_up h2 (120 + st 0 1) 0 (nI (gx_nv tx n (gx_lt tx n s)))) tx n (gx_ne tx n (gx_lt tx n s)) 0 (-1) 0 := q3.of (ix_up_ne (by omega)) (ix_up_ne (by omega)) (fun j _ => px_up_na (by omega))
  refine w_ias (j := 92) rfl rfl (by first | assumption | rfl) rfl (by omega) rfl ?_
  refine w_al (j := 93) rfl rfl rfl ?_
  first | refine w_gr (j := 94) rfl rfl (by first | assumption | rfl) (by first | assumption | rfl) rfl ?_ | refine w_gi (j := 94) rfl rfl (by first | assumption | rfl) (by first | assumption | rfl) rfl rfl ?_
  refine w_al (j := 95) rfl rfl rfl ?_
  first | refine w_gr (j := 96) rfl rfl (by first | assumption | rfl) (by first | assumption | rfl) rfl ?_ | refine w_gi (j := 96) rfl rfl (by first | assumption | rfl) (by first | assumption | rfl) rfl rfl ?_
  refine w_ic (n := 1) (j := 97) rfl rfl ?_
  refine w_ial (j := 98) rfl rfl (by first | assumption | rfl) rfl (by omega) rfl m0' ?_
  refine w_aal (j := 99) rfl rfl (by first | assumption | rfl) rfl (by omega) rfl ?_
  refine w_ic (n := 1) (j := 100) rfl rfl ?_
  refine w_al (j := 101) rfl rfl rfl ?_
  refine w_ic (n := 1) (j := 102) rfl rfl ?_
  refine w_bi (j := 103) (a := nI 99) rfl rfl (by decide) ?_
  refine w_cvPI (j := 104) rfl rfl rfl rfl (by first | assumption | rfl) rfl rfl (sp_165 (lo := 1) (H := 100) (by decide) (px_hiN (a := 99) (by decide)) (by decide) r2) rfl ?_
  rintro v h3 ⟨y1, y2, y3⟩
  rw [if_pos hk2] at y1
  rw [hk2, if_pos rfl] at y3
  subst y1
  refine w_ias (j := 105) rfl rfl (by first | assumption | rfl) rfl (by omega) rfl ?_
  refine w_go rfl ?_
  have r3 : px_mr (ix_up h3 (120 + st 0 1) 1 (nI (gx_nv tx n (gx_ne tx n (gx_lt tx n s))))) tx n (gx_ne tx n (gx_ne tx n (gx_lt tx n s))) 0 (-1) 0 := y3.of (ix_up_ne (by omega)) (ix_up_ne (by omega)) (fun j _ => px_up_na (by omega))
  have m3 : ix_up h3 (120 + st 0 1) 1 (nI (gx_nv tx n (gx_ne tx n (gx_lt tx n s)))) 103 1 = nI (st 0 1) := by rw [px_up_na (by omega), y2.1 103 (by decide)]; exact m0'
  have r5 := r3.2.2.2.2.1
  refine w_il (j := 189) rfl rfl rfl ?_
  refine w_ic (n := 2) (j := 190) rfl rfl ?_
  refine w_geN (j := 191) rfl rfl (by omega) (by omega) (fun c => absurd c (fun c => by omega)) (fun _ => ?_)
  refine w_al (j := 192) rfl rfl rfl ?_
  first | refine w_gr (j := 193) rfl rfl (by first | assumption | rfl) (by first | assumption | rfl) rfl ?_ | refine w_gi (j := 193) rfl rfl (by first | assumption | rfl) (by first | assumption | rfl) rfl rfl ?_
  refine w_il (j := 194) rfl rfl rfl ?_
  refine w_dup2 (j := 195) rfl rfl ?_
  refine w_ial (j := 196) rfl rfl (by first | assumption | rfl) rfl (by omega) rfl m3 ?_
  refine w_al (j := 197) rfl rfl rfl ?_
  first | refine w_gr (j := 198) rfl rfl (by first | assumption | rfl) (by first | assumption | rfl) rfl ?_ | refine w_gi (j := 198) rfl rfl (by first | assumption | rfl) (by first | assumption | rfl) rfl r5 ?_
  refine w_neM (j := 199) rfl rfl (by omega) (fun c => absurd c (fun c => by omega)) (fun _ => ?_)
  refine w_ic (n := 1) (j := 200) rfl rfl ?_
  refine w_go rfl ?_
  first | refine w_add0 (j := 203) rfl rfl ?_ | refine w_addN (j := 203) rfl rfl ?_ | refine w_add (j := 203) rfl rfl ?_
  refine w_ias (j := 204) rfl rfl (by first | assumption | rfl) rfl (by omega) rfl ?_
  have G : ∀ a, a ≠ 100 → a ≠ 103 → a ≠ 120 + st 0 1 → ix_up (ix_up h3 (120 + st 0 1) 1 (nI (gx_nv tx n (gx_ne tx n (gx_lt tx n s))))) 103 1 (nI (st 0 1 + 1)) a = h1 a := fun a a1 a2 a3 => by rw [ix_up_ne a2, ix_up_ne a3, y2.1 a a1, ix_up_ne a3, q2.1 a a1]
  have G3 : ∀ i, i ≠ 1 → ix_up (ix_up h3 (120 + st 0 1) 1 (nI (gx_nv tx n (gx_ne tx n (gx_lt tx n s))))) 103 1 (nI (st 0 1 + 1)) 103 i = h1 103 i := fun i hi => by rw [px_up_nk hi, px_up_na (by omega), y2.1 103 (by decide), px_up_na (by omega), q2.1 103 (by decide)]
  refine H _ _ _ _ _ _ ?_ ⟨r3.of (ix_up_ne (by decide)) (ix_up_ne (by decide)) (fun j _ => px_up_na (by decide)), ?_, ?_⟩
  · exact F1.tr ((((q2.gF.up (by omega)).tr y2.gF).up (by omega)).up (by omega))
  · rw [px_up_na (by decide), px_up_na (by omega), y2.2 7 (by decide) (by decide) (by decide) (by decide), px_up_na (by omega), q2.2 7 (by decide) (by decide) (by decide) (by decide)]; exact c7
  · obtain ⟨x1, x2, x3, x4⟩ := ms
    have U0 : ∀ i, gx_y tx n st (gx_lt tx n s) 0 i = if i = 1 then st 0 1 + 1 else st 0 i := fun i => by
      unfold gx_y
      by_cases e : i = 1
      · rw [if_pos e, e, gx_u_at]
      · rw [if_neg e, gx_u_ne (by omega), gx_u_ne (by omega), gx_u_ne (by omega)]
    have U1 : ∀ i k, 1 ≤ i → (i ≠ 3 ∧ i ≠ 4) ∨ k ≠ st 0 1 → gx_y tx n st (gx_lt tx n s) i k = st i k := fun i k hi hik => by
      unfold gx_y
      rw [gx_u_ne (by omega), gx_u_ne (by omega), gx_u_ne (by omega)]
    refine ⟨fun i hi => ?_, fun k hk => ?_, fun k hk => ?_, fun a b ha hb => ?_⟩
    · rw [U0]
      by_cases e : i = 1
      · rw [if_pos e, e, px_up_at]
      · rw [if_neg e, G3 i e]; exact x1 i hi
    · rw [U0, if_neg (by decide)] at hk
      rw [G _ (by omega) (by omega) (by omega), U1 1 k (by omega) (by omega), U1 2 k (by omega) (by omega)]
      exact x2 k hk
    · rw [U0, if_pos rfl] at hk
      by_cases e : k = st 0 1
      · subst e
        unfold gx_y
        refine ⟨?_, ?_⟩
        · rw [px_up_na (by omega), px_up_nk (by decide), y2.1 _ (by omega), px_up_at, gx_u_ne (by omega), gx_u_ne (by omega), gx_u_at]
        · rw [px_up_na (by omega), px_up_at, gx_u_ne (by omega), gx_u_at]
      · rw [G _ (by omega) (by omega) (by omega), U1 3 k (by omega) (by omega), U1 4 k (by omega) (by omega)]
        exact x3 k (by omega)
    · rw [G _ (by omega) (by omega) (by omega), U1 _ _ (by omega) (by omega)]
      exact x4 a b ha hb
end GO
