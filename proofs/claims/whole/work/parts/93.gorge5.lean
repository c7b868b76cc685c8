theorem px_sh28 : ∀ k, k < 6 → ix_sh (28 + k) = (1, 6, 0) := by decide
theorem px_rd.of {h h' : ix_H} {tx : Nat → Nat} {n p pc o k : Nat} {pl : Int32} (r : px_rd h tx n p pc o k pl) (e1 : h' 1 = h 1) (e2 : h' 2 = h 2) (e3 : h' 101 = h 101) : px_rd h' tx n p pc o k pl := by
  unfold px_rd at r ⊢
  rw [e2]
  exact ⟨r.1.of e1 e3, r.2⟩
section GO
variable {h : ix_H} {tx : Nat → Nat} {n p pc o k : Nat} {pl : Int32}
theorem cp_29f {c s PL : Nat} {st : Nat → Nat → Nat} {g2 g3 g4 g5 : Value} (r : px_rf h tx n 0 k (nI PL)) (gp : gx_gp h) (E : gE tx n c st s k PL) : px_R px_E 3 mo_24 [] 29 [.ref 22, .ref 2, g2, g3, g4, g5] [] h 0 (fun r => ∃ h', r = (.inl none, h', 0) ∧ gcB tx n c st s h h') := by
  refine w_al (j := 30) rfl rfl rfl ?_
  refine w_ic (n := 1) (j := 31) rfl rfl ?_
  refine w_bi (j := 32) (a := nI 40) rfl rfl (by decide) ?_
  refine w_cvPI (j := 33) rfl rfl rfl rfl (by first | assumption | rfl) rfl rfl (sp_64f (lo := 1) (H := 41) (by decide) (px_hiN (a := 40) (by decide)) (by decide) r) rfl ?_
  rintro v h1 ⟨u1, u2, v', u3, u4⟩
  subst u4
  refine w_iS (j := 34) rfl rfl rfl ?_
  refine w_al (j := 35) rfl rfl rfl ?_
  refine w_cvI (j := 36) rfl rfl rfl rfl (by first | assumption | rfl) rfl rfl (sp_56f u2) rfl ?_
  refine w_neB (j := 37) rfl rfl (fun _ => ?_) (fun c => absurd c (by simp))
  refine w_rt rfl ?_
  exact ⟨_, rfl, u1.gc, Or.inl ⟨_, _, E, u2, gp.of (fun a a1 a2 => u1 a (by simp; omega))⟩⟩
theorem cp_23f {c s PL : Nat} {st : Nat → Nat → Nat} {a b : Int32} {g2 g5 : Value} (r : px_rf h tx n 0 k (nI PL)) (gp : gx_gp h) (E : gE tx n c st s k PL) : px_R px_E 3 mo_24 [] 23 [.ref 22, .ref 2, g2, .int a, .int b, g5] [] h 0 (fun r => ∃ h', r = (.inl none, h', 0) ∧ gcB tx n c st s h h') := by
  refine w_il (j := 24) rfl rfl rfl ?_
  refine w_iL (j := 25) rfl rfl rfl ?_
  refine w_ne (j := 26) rfl rfl (fun c0 => ?_) (fun c0 => ?_)
  · exact cp_29f r gp E
  refine w_al (j := 27) rfl rfl rfl ?_
  refine w_ic (n := 2) (j := 28) rfl rfl ?_
  refine w_cvPU (j := 29) rfl rfl rfl rfl (by first | assumption | rfl) rfl rfl (sp_59f (kd := 2) (by decide) r) rfl ?_
  rintro h1 ⟨u1, u2⟩
  exact px_mono (cp_29f u2 (gp.of (fun a a1 a2 => u1 a (by simp; omega))) E) (fun r q => gcB.frR u1.gc q)
theorem cp_15f {c s PL B : Nat} {st : Nat → Nat → Nat} {a : Int32} {g2 g4 g5 : Value} (hB : B ≤ 600) (x : h 22 6 = nI B) (r : px_rf h tx n 0 k (nI PL)) (gp : gx_gp h) (E : gE tx n c st s k PL) : px_R px_E 3 mo_24 [] 15 [.ref 22, .ref 2, g2, .int a, g4, g5] [] h 0 (fun r => ∃ h', r = (.inl none, h', 0) ∧ gcB tx n c st s h h') := by
  refine w_al (j := 16) rfl rfl rfl ?_
  refine w_ic (n := 0) (j := 17) rfl rfl ?_
  refine w_al (j := 18) rfl rfl rfl ?_
  first | refine w_gr (j := 19) rfl rfl (by first | assumption | rfl) (by first | assumption | rfl) rfl ?_ | refine w_gi (j := 19) rfl rfl (by first | assumption | rfl) (by first | assumption | rfl) rfl x ?_
  refine w_ic (n := 1) (j := 20) rfl rfl ?_
  refine w_sub (j := 21) rfl rfl ?_
  refine w_cvPI (j := 22) rfl rfl rfl rfl (by first | assumption | rfl) rfl rfl (sp_64f (lo := 0) (H := B) (by decide) (px_hiB (B := B) hB) (by omega) r) rfl ?_
  rintro v h1 ⟨u1, u2, v', u3, u4⟩
  subst u4
  refine w_iS (j := 23) rfl rfl rfl ?_
  exact px_mono (cp_23f u2 (gp.of (fun a a1 a2 => u1 a (by simp; omega))) E) (fun r q => gcB.frR u1.gc q)
theorem cp_7f {c s PL B : Nat} {st : Nat → Nat → Nat} {g2 g3 g4 g5 : Value} (hB : B ≤ 600) (x : h 22 6 = nI B) (r : px_rf h tx n 0 k (nI PL)) (gp : gx_gp h) (E : gE tx n c st s k PL) : px_R px_E 3 mo_24 [] 7 [.ref 22, .ref 2, g2, g3, g4, g5] [] h 0 (fun r => ∃ h', r = (.inl none, h', 0) ∧ gcB tx n c st s h h') := by
  refine w_al (j := 8) rfl rfl rfl ?_
  refine w_ic (n := 0) (j := 9) rfl rfl ?_
  refine w_al (j := 10) rfl rfl rfl ?_
  first | refine w_gr (j := 11) rfl rfl (by first | assumption | rfl) (by first | assumption | rfl) rfl ?_ | refine w_gi (j := 11) rfl rfl (by first | assumption | rfl) (by first | assumption | rfl) rfl x ?_
  refine w_ic (n := 1) (j := 12) rfl rfl ?_
  refine w_sub (j := 13) rfl rfl ?_
  refine w_cvPI (j := 14) rfl rfl rfl rfl (by first | assumption | rfl) rfl rfl (sp_64f (lo := 0) (H := B) (by decide) (px_hiB (B := B) hB) (by omega) r) rfl ?_
  rintro v h1 ⟨u1, u2, v', u3, u4⟩
  subst u4
  refine w_is (j := 15) rfl rfl rfl ?_
  exact px_mono (cp_15f hB (by rw [u1 22 (by decide)]; exact x) u2 (gp.of (fun a a1 a2 => u1 a (by simp; omega))) E) (fun r q => gcB.frR u1.gc q)
theorem gx_ws_p {st : Nat → Nat → Nat} {A B V : Nat} (ws : gx_ws st) (hV : V ≤ 40) : gx_ws (gx_u (gx_u st (5 + A) B V) (5 + B) A V) := by
  obtain ⟨w1, w2, w3, w4, w5, w6, w7, w8⟩ := ws
  have U : ∀ i k, i < 5 → gx_u (gx_u st (5 + A) B V) (5 + B) A V i k = st i k := fun i k hi => by rw [gx_u_ne (by omega), gx_u_ne (by omega)]
  unfold gx_ws
  rw [U 0 0 (by decide), U 0 1 (by decide), U 0 2 (by decide), U 0 3 (by decide)]
  refine ⟨w1, w2, w3, w4, w5, fun k hk => ?_, fun k hk => ?_, fun a b ha hb => ?_⟩
  · rw [U 1 k (by decide), U 2 k (by decide)]; exact w6 k hk
  · rw [U 3 k (by decide), U 4 k (by decide)]; exact w7 k hk
  · by_cases e1 : a = B ∧ b = A
    · rw [e1.1, e1.2, gx_u_at]; exact hV
    · rw [gx_u_ne (by omega)]
      by_cases e2 : a = A ∧ b = B
      · rw [e2.1, e2.2, gx_u_at]; exact hV
      · rw [gx_u_ne (by omega)]; exact w8 a b ha hb
theorem gx_cs_p {h1 : ix_H} {st : Nat → Nat → Nat} {A B V : Nat} (cs : gx_cs h1 st) (hA : A < 6) (hB : B < 6) : gx_cs (ix_up (ix_up h1 (28 + A) B (nI V)) (28 + B) A (nI V)) (gx_u (gx_u st (5 + A) B V) (5 + B) A V) := by
  obtain ⟨x1, x2, x3, x4⟩ := cs
  have U : ∀ i k, i < 5 → gx_u (gx_u st (5 + A) B V) (5 + B) A V i k = st i k := fun i k hi => by rw [gx_u_ne (by omega), gx_u_ne (by omega)]
  have G : ∀ a, a < 28 → ix_up (ix_up h1 (28 + A) B (nI V)) (28 + B) A (nI V) a = h1 a := fun a ha => by rw [ix_up_ne (by omega), ix_up_ne (by omega)]
  unfold gx_cs
  rw [U 0 0 (by decide), U 0 1 (by decide), U 0 2 (by decide), U 0 3 (by decide), G 22 (by decide), G 23 (by decide), G 24 (by decide), G 25 (by decide), G 26 (by decide)]
  refine ⟨x1, fun k hk => ?_, fun k hk => ?_, fun a b ha hb => ?_⟩
  · rw [U 1 k (by decide), U 2 k (by decide)]; exact x2 k hk
  · rw [U 3 k (by decide), U 4 k (by decide)]; exact x3 k hk
  · by_cases e1 : a = B ∧ b = A
    · rw [e1.1, e1.2, gx_u_at, px_up_at]
    · rw [show gx_u (gx_u st (5 + A) B V) (5 + B) A V (5 + a) b = gx_u st (5 + A) B V (5 + a) b from gx_u_ne (by omega)]
      rw [show ix_up (ix_up h1 (28 + A) B (nI V)) (28 + B) A (nI V) (28 + a) b = ix_up h1 (28 + A) B (nI V) (28 + a) b by
        by_cases e2 : a = B
        · rw [e2, px_up_nk (by omega)]
        · rw [px_up_na (by omega)]]
      by_cases e3 : a = A ∧ b = B
      · rw [e3.1, e3.2, px_up_at, gx_u_at]
      · rw [gx_u_ne (by omega), show ix_up h1 (28 + A) B (nI V) (28 + a) b = h1 (28 + a) b by
          by_cases e2 : a = A
          · rw [e2, px_up_nk (by omega)]
          · rw [px_up_na (by omega)]]
        exact x4 a b ha hb
theorem sp_25r {B b : Nat} (x : h 22 6 = nI B) (hB : B ≤ 6) (hb : b < B) : px_V 1 25 [.ref 22, .int (nI b)] h (some (.int (px_b true))) h := by
  refine px_M (M := mt_25) (ops := mo_25) tb_25 rfl rfl rfl rfl rfl ?_
  refine w_il (j := 1) rfl rfl rfl ?_
  refine w_ltM (j := 2) rfl rfl (by omega) ?_
  refine w_il (j := 3) rfl rfl rfl ?_
  refine w_al (j := 4) rfl rfl rfl ?_
  first | refine w_gr (j := 5) rfl rfl (by first | assumption | rfl) (by first | assumption | rfl) rfl ?_ | refine w_gi (j := 5) rfl rfl (by first | assumption | rfl) (by first | assumption | rfl) rfl x ?_
  refine w_geN (j := 6) rfl rfl (by omega) (by omega) (fun c => absurd c (fun c => by omega)) (fun _ => ?_)
  refine w_ic (n := 1) (j := 7) rfl rfl ?_
  refine w_go rfl ?_
  refine w_irB rfl (by first | exact Or.inl rfl | exact Or.inr rfl | exact px_b01 _) ?_
  rfl
theorem sp_24 {c e s : Nat} {st : Nat → Nat → Nat} (ee : gx_lt tx n s = e) (hs : gx_sk tx n s = s) (hw : gx_is tx s (gx_lt tx n s) (gx_W 4)) (hc : c ≤ 60) (ws : gx_ws st) (r : px_rd h tx n e s 0 0 (-1)) (cs : gx_cs h st) : px_PU 4 24 [.ref 22, .ref 2, .int (px_b (decide (c = 60)))] h (gcB tx n c st s h) := by
  have w1 := ws.1
  have x11 := cs.1.1
  have E3 : c = 60 → gE tx n c st s 3 s := fun z => gE_many hs (kd := 4) (by decide) hw hc ws (by omega)
  have E1 : ∀ z : gx_nk tx n 0 (st 0 0) e ≠ 0, c < 60 → gE tx n c st s (gx_nk tx n 0 (st 0 0) e) (gx_sk tx n e) := by rw [← ee]; exact fun z z1 => gE_p1 hs hw z1 ws z
  have E2 : gx_nk tx n 0 (st 0 0) e = 0 → ∀ z : gx_nk tx n 0 (st 0 0) (gx_ne tx n e) ≠ 0, c < 60 → gE tx n c st s (gx_nk tx n 0 (st 0 0) (gx_ne tx n e)) (gx_sk tx n (gx_ne tx n e)) := by rw [← ee]; exact fun z0 z z1 => gE_p2 hs hw z1 ws z0 z
  have E4 : gx_nk tx n 0 (st 0 0) e = 0 → gx_nk tx n 0 (st 0 0) (gx_ne tx n e) = 0 → gx_nv tx n e = gx_nv tx n (gx_ne tx n e) → c < 60 → gE tx n c st s 2 (gx_sk tx n (gx_ne tx n e)) := by rw [← ee]; exact fun z0 z z2 z1 => gE_p3 hs hw z1 ws z0 z z2
  have E5 : gx_nk tx n 0 (st 0 0) e = 0 → gx_nk tx n 0 (st 0 0) (gx_ne tx n e) = 0 → gx_nv tx n e ≠ gx_nv tx n (gx_ne tx n e) → ∀ z : gx_nk tx n 1 41 (gx_ne tx n (gx_ne tx n e)) ≠ 0, c < 60 → gE tx n c st s (gx_nk tx n 1 41 (gx_ne tx n (gx_ne tx n e))) (gx_sk tx n (gx_ne tx n (gx_ne tx n e))) := by rw [← ee]; exact fun z0 z z2 z3 z1 => gE_p4 hs hw z1 ws z0 z z2 z3
  have D0 : gx_nk tx n 0 (st 0 0) e = 0 → gx_nk tx n 0 (st 0 0) (gx_ne tx n e) = 0 → gx_nv tx n e ≠ gx_nv tx n (gx_ne tx n e) → gx_nk tx n 1 41 (gx_ne tx n (gx_ne tx n e)) = 0 → c < 60 → gD tx n c st s (gx_p tx n st e) (gx_ne tx n (gx_ne tx n (gx_ne tx n e))) := by rw [← ee]; exact fun z0 z z2 z3 z1 => gD_p hs hw z1 ws z0 z z2 z3
  clear hs hw ee
  unfold gx_p at D0
  refine px_M (M := mt_24) (ops := mo_24) tb_24 rfl rfl rfl rfl rfl ?_
  refine w_al (j := 1) rfl rfl rfl ?_
  refine w_il (j := 2) rfl rfl rfl ?_
  refine w_neB (j := 3) rfl rfl (fun c0 => ?_) (fun c0 => ?_)
  ·
    refine w_ic (n := 0) (j := 6) rfl rfl ?_
    refine w_csPU (j := 7) rfl rfl rfl rfl rfl (sp_21f r) rfl ?_
    rintro h1 ⟨u1, u2⟩
    exact px_mono (cp_7f (B := st 0 0) (by omega) (by rw [u1 22 (by decide)]; exact x11) u2 ((cs.gp ws).of (fun a a1 a2 => u1 a (by simp; omega))) (E3 (of_decide_eq_true c0))) (fun r q => gcB.frR u1.gc q)
  have c0 := of_decide_eq_false c0
  have c1 : c < 60 := by omega
  refine w_ic (n := 1) (j := 4) rfl rfl ?_
  refine w_go rfl ?_
  refine w_csU (j := 7) rfl rfl rfl rfl rfl (sp_21t) rfl ?_
  refine w_al (j := 8) rfl rfl rfl ?_
  refine w_ic (n := 0) (j := 9) rfl rfl ?_
  refine w_al (j := 10) rfl rfl rfl ?_
  first | refine w_gr (j := 11) rfl rfl (by first | assumption | rfl) (by first | assumption | rfl) rfl ?_ | refine w_gi (j := 11) rfl rfl (by first | assumption | rfl) (by first | assumption | rfl) rfl x11 ?_
  refine w_ic (n := 1) (j := 12) rfl rfl ?_
  refine w_sub (j := 13) rfl rfl ?_
  refine w_cvPI (j := 14) rfl rfl rfl rfl (by first | assumption | rfl) rfl rfl (sp_64d (lo := 0) (H := st 0 0) (by decide) (px_hiB (B := st 0 0) (by omega)) (by omega) r) rfl ?_
  rintro v h1 ⟨u1, u2⟩
  have cs1 : gx_cs h1 st := cs.of (fun a a1 a2 => u1 a (by simp; omega))
  have x12 := cs1.1.1
  rcases u2 with ⟨k1, y1, l1, l2, r1⟩ | ⟨k1, ⟨q, -, y1⟩, r1⟩
  rotate_left
  · subst y1
    refine w_is (j := 15) rfl rfl rfl ?_
    exact px_mono (cp_15f (B := st 0 0) (by omega) x12 r1 (cs1.gp ws) (E1 k1 c1)) (fun r q => gcB.frR u1.gc q)
  subst y1
  have E2 := E2 k1
  have E4 := E4 k1
  have E5 := E5 k1
  have D0 := D0 k1
  clear E1 k1
  generalize gx_nv tx n e = A at *
  generalize gx_ne tx n e = P1 at *
  refine w_is (j := 15) rfl rfl rfl ?_
  refine w_al (j := 16) rfl rfl rfl ?_
  refine w_ic (n := 0) (j := 17) rfl rfl ?_
  refine w_al (j := 18) rfl rfl rfl ?_
  first | refine w_gr (j := 19) rfl rfl (by first | assumption | rfl) (by first | assumption | rfl) rfl ?_ | refine w_gi (j := 19) rfl rfl (by first | assumption | rfl) (by first | assumption | rfl) rfl x12 ?_
  refine w_ic (n := 1) (j := 20) rfl rfl ?_
  refine w_sub (j := 21) rfl rfl ?_
  refine w_cvPI (j := 22) rfl rfl rfl rfl (by first | assumption | rfl) rfl rfl (sp_64d (lo := 0) (H := st 0 0) (by decide) (px_hiB (B := st 0 0) (by omega)) (by omega) r1) rfl ?_
  rintro v h2 ⟨u2, u3⟩
  have cs2 : gx_cs h2 st := cs1.of (fun a a1 a2 => u2 a (by simp; omega))
  rcases u3 with ⟨k1, y1, l3, l4, r2⟩ | ⟨k1, ⟨q, -, y1⟩, r2⟩
  rotate_left
  · subst y1
    refine w_iS (j := 23) rfl rfl rfl ?_
    exact px_mono (cp_23f r2 (cs2.gp ws) (E2 k1 c1)) (fun r q => gcB.frR (u1.gc.tr u2.gc) q)
  subst y1
  have E4 := E4 k1
  have E5 := E5 k1
  have D0 := D0 k1
  clear E2 k1
  generalize gx_nv tx n P1 = B at *
  generalize gx_ne tx n P1 = P2 at *
  refine w_iS (j := 23) rfl rfl rfl ?_
  refine w_il (j := 24) rfl rfl rfl ?_
  refine w_iL (j := 25) rfl rfl rfl ?_
  refine w_neN (j := 26) rfl rfl (by omega) (by omega) (fun c3 => ?_) (fun c3 => ?_)
  rotate_left
  ·
    refine w_al (j := 27) rfl rfl rfl ?_
    refine w_ic (n := 2) (j := 28) rfl rfl ?_
    refine w_cvPU (j := 29) rfl rfl rfl rfl (by first | assumption | rfl) rfl rfl (sp_59 (kd := 2) (by decide) r2) rfl ?_
    rintro h3 ⟨u3, u4⟩
    exact px_mono (cp_29f (k := 2) ⟨by decide, _, _, by simpa [gx_fk, gx_fp] using u4⟩ ((cs2.gp ws).of (fun a a1 a2 => u3 a (by simp; omega))) (E4 c3 c1)) (fun r q => gcB.frR ((u1.gc.tr u2.gc).tr u3.gc) q)
  have E5 := E5 c3
  have D0 := D0 c3
  clear E4
  refine w_al (j := 30) rfl rfl rfl ?_
  refine w_ic (n := 1) (j := 31) rfl rfl ?_
  refine w_bi (j := 32) (a := nI 40) rfl rfl (by decide) ?_
  refine w_cvPI (j := 33) rfl rfl rfl rfl (by first | assumption | rfl) rfl rfl (sp_64d (lo := 1) (H := 41) (by decide) (px_hiN (a := 40) (by decide)) (by decide) r2) rfl ?_
  rintro v h3 ⟨u3, u4⟩
  have cs3 : gx_cs h3 st := cs2.of (fun a a1 a2 => u3 a (by simp; omega))
  rcases u4 with ⟨k1, y1, l5, l6, r3⟩ | ⟨k1, ⟨q, -, y1⟩, r3⟩
  rotate_left
  · subst y1
    refine w_iS (j := 34) rfl rfl rfl ?_
    refine w_al (j := 35) rfl rfl rfl ?_
    refine w_cvI (j := 36) rfl rfl rfl rfl (by first | assumption | rfl) rfl rfl (sp_56f r3) rfl ?_
    refine w_neB (j := 37) rfl rfl (fun _ => ?_) (fun c => absurd c (by simp))
    refine w_rt rfl ?_
    exact ⟨_, rfl, (u1.gc.tr u2.gc).tr u3.gc, Or.inl ⟨_, _, E5 k1 c1, r3, cs3.gp ws⟩⟩
  subst y1
  have D0 := D0 k1 c1
  clear E5 k1
  generalize gx_nv tx n P2 = V at *
  have sa := px_sh28 A (by omega)
  have sb := px_sh28 B (by omega)
  refine w_iS (j := 34) rfl rfl rfl ?_
  refine w_al (j := 35) rfl rfl rfl ?_
  refine w_cvI (j := 36) rfl rfl rfl rfl (by first | assumption | rfl) rfl rfl (sp_56z r3) rfl ?_
  refine w_neB (j := 37) rfl rfl (fun c => absurd c (by simp)) (fun _ => ?_)
  refine w_al (j := 38) rfl rfl rfl ?_
  refine w_il (j := 39) rfl rfl rfl ?_
  refine w_cvI (j := 40) rfl rfl rfl rfl (by first | assumption | rfl) rfl rfl (sp_25r cs3.1.1 w1 l2) rfl ?_
  refine w_eqB (j := 41) rfl rfl (fun c => absurd c (by simp)) (fun _ => ?_)
  refine w_al (j := 42) rfl rfl rfl ?_
  refine w_iL (j := 43) rfl rfl rfl ?_
  refine w_cvI (j := 44) rfl rfl rfl rfl (by first | assumption | rfl) rfl rfl (sp_25r cs3.1.1 w1 l4) rfl ?_
  refine w_eqB (j := 45) rfl rfl (fun c => absurd c (by simp)) (fun _ => ?_)
  refine w_al (j := 46) rfl rfl rfl ?_
  first | refine w_gr (j := 47) rfl rfl (by first | assumption | rfl) (by first | assumption | rfl) rfl ?_ | refine w_gi (j := 47) rfl rfl (by first | assumption | rfl) (by first | assumption | rfl) rfl rfl ?_
  refine w_il (j := 48) rfl rfl rfl ?_
  refine w_aal (j := 49) rfl rfl (by first | assumption | rfl) rfl (by omega) rfl ?_
  refine w_iL (j := 50) rfl rfl rfl ?_
  refine w_iL (j := 51) rfl rfl rfl ?_
  refine w_ias (j := 52) rfl rfl (by first | assumption | rfl) rfl (by omega) rfl ?_
  refine w_al (j := 53) rfl rfl rfl ?_
  first | refine w_gr (j := 54) rfl rfl (by first | assumption | rfl) (by first | assumption | rfl) rfl ?_ | refine w_gi (j := 54) rfl rfl (by first | assumption | rfl) (by first | assumption | rfl) rfl rfl ?_
  refine w_iL (j := 55) rfl rfl rfl ?_
  refine w_aal (j := 56) rfl rfl (by first | assumption | rfl) rfl (by omega) rfl ?_
  refine w_il (j := 57) rfl rfl rfl ?_
  refine w_iL (j := 58) rfl rfl rfl ?_
  refine w_ias (j := 59) rfl rfl (by first | assumption | rfl) rfl (by omega) rfl ?_
  refine w_rt rfl ?_
  refine ⟨_, rfl, ((((u1.gc.tr u2.gc).tr u3.gc).up (by omega)).up (by omega)), Or.inr ⟨_, _, _, c1, gx_ws_p ws (by omega), D0, r3.of ?_ ?_ ?_, gx_cs_p cs3 (by omega) (by omega)⟩⟩
  · rw [ix_up_ne (by omega), ix_up_ne (by omega)]
  · rw [ix_up_ne (by omega), ix_up_ne (by omega)]
  · rw [ix_up_ne (by omega), ix_up_ne (by omega)]
theorem gwd_bay : gx_wd 4 (gx_W 0) := by unfold gx_wd; decide
theorem gwd_cry : gx_wd 5 (gx_W 1) := by unfold gx_wd; decide
theorem gwd_term : gx_wd 19 (gx_W 2) := by unfold gx_wd; decide
theorem gwd_felt : gx_wd 7 (gx_W 3) := by unfold gx_wd; decide
theorem gwd_path : gx_wd 16 (gx_W 4) := by unfold gx_wd; decide
theorem gx_ws_t {st : Nat → Nat → Nat} {V : Nat} (ws : gx_ws st) (hV : 1 ≤ V) (hV2 : V ≤ 40) : gx_ws (gx_u st 0 2 V) := by
  obtain ⟨w1, w2, w3, w4, w5, w6, w7, w8⟩ := ws
  have U : ∀ i k, i ≠ 0 ∨ k ≠ 2 → gx_u st 0 2 V i k = st i k := fun i k hi => gx_u_ne hi
  have U1 : gx_u st 0 2 V 0 2 = V := gx_u_at
  unfold gx_ws
  rw [U 0 0 (by decide), U 0 1 (by decide), U1, U 0 3 (by decide)]
  refine ⟨w1, w2, hV, hV2, w5, fun k hk => ?_, fun k hk => ?_, fun a b ha hb => ?_⟩
  · rw [U 1 k (Or.inl (by decide)), U 2 k (Or.inl (by decide))]; exact w6 k hk
  · rw [U 3 k (Or.inl (by decide)), U 4 k (Or.inl (by decide))]; exact w7 k hk
  · rw [U _ _ (by omega)]; exact w8 a b ha hb
theorem gx_cs_t {h1 : ix_H} {st : Nat → Nat → Nat} {V : Nat} (cs : gx_cs h1 st) : gx_cs (ix_up h1 22 8 (nI V)) (gx_u st 0 2 V) := by
  obtain ⟨x1, x2, x3, x4⟩ := cs
  have U : ∀ i k, i ≠ 0 ∨ k ≠ 2 → gx_u st 0 2 V i k = st i k := fun i k hi => gx_u_ne hi
  have U1 : gx_u st 0 2 V 0 2 = V := gx_u_at
  unfold gx_cs
  rw [U 0 0 (by decide), U 0 1 (by decide), U1, U 0 3 (by decide), ix_up_ne (b := 23) (by decide), ix_up_ne (b := 24) (by decide), ix_up_ne (b := 25) (by decide), ix_up_ne (b := 26) (by decide)]
  refine ⟨⟨(px_up_nk (by decide)).trans x1.1, (px_up_nk (by decide)).trans x1.2.1, px_up_at, (px_up_nk (by decide)).trans x1.2.2.2⟩, fun k hk => ?_, fun k hk => ?_, fun a b ha hb => ?_⟩
  · rw [U 1 k (Or.inl (by decide)), U 2 k (Or.inl (by decide))]; exact x2 k hk
  · rw [U 3 k (Or.inl (by decide)), U 4 k (Or.inl (by decide))]; exact x3 k hk
  · rw [U _ _ (by omega), ix_up_ne (by omega)]; exact x4 a b ha hb
theorem cc_33 {c e s : Nat} {st : Nat → Nat → Nat} (ee : gx_lt tx n s = e) (hs : gx_sk tx n s = s) (hw : gx_is tx s (gx_lt tx n s) (gx_W 2)) (hc : c ≤ 60) (ws : gx_ws st) (r : px_rd h tx n e s 0 0 (-1)) (cs : gx_cs h st) : px_R px_E 4 mo_20 [] 33 [.ref 22, .ref 2, .int (px_b (decide (c = 60)))] [] h 0 (fun r => ∃ h', r = (.inl none, h', 0) ∧ gcB tx n c st s h h') := by
  have E3 : c = 60 → gE tx n c st s 3 s := fun z => gE_many hs (kd := 2) (by decide) hw hc ws (by omega)
  have E1 : ∀ z : gx_nk tx n 1 41 e ≠ 0, c < 60 → gE tx n c st s (gx_nk tx n 1 41 e) (gx_sk tx n e) := by rw [← ee]; exact fun z z1 => gE_t1 hs hw z1 ws z
  have D0 : gx_nk tx n 1 41 e = 0 → c < 60 → gD tx n c st s (gx_u st 0 2 (gx_nv tx n e)) (gx_ne tx n e) := by rw [← ee]; exact fun z0 z1 => gD_t hs hw z1 ws z0
  clear hs hw ee
  refine w_al (j := 34) rfl rfl rfl ?_
  refine w_il (j := 35) rfl rfl rfl ?_
  refine w_neB (j := 36) rfl rfl (fun c0 => ?_) (fun c0 => ?_)
  ·
    refine w_ic (n := 0) (j := 39) rfl rfl ?_
    refine w_csPU (j := 40) rfl rfl rfl rfl rfl (sp_21f r) rfl ?_
    rintro h1 ⟨u1, u2⟩
    refine w_al (j := 41) rfl rfl rfl ?_
    refine w_al (j := 42) rfl rfl rfl ?_
    refine w_ic (n := 1) (j := 43) rfl rfl ?_
    refine w_bi (j := 44) (a := nI 40) rfl rfl (by decide) ?_
    refine w_cvPI (j := 45) rfl rfl rfl rfl (by first | assumption | rfl) rfl rfl (sp_64f (lo := 1) (H := 41) (by decide) (px_hiN (a := 40) (by decide)) (by decide) u2) rfl ?_
    rintro v h2 ⟨y1, y2, v', y3, y4⟩
    refine w_pf (j := 46) rfl rfl (by first | assumption | rfl) (by first | assumption | rfl) rfl ?_
    refine w_go rfl ?_
    refine w_rt rfl ?_
    exact ⟨_, rfl, (u1.gc.tr y1.gc).up (by omega), Or.inl ⟨_, _, E3 (of_decide_eq_true c0), y2.fr (S := [22]) (px_fr.rf.up (by decide)) (by decide) (by decide) (by decide), (cs.gp ws).of (fun a a1 a2 => by rw [ix_up_ne (by omega), y1 a (by simp; omega), u1 a (by simp; omega)])⟩⟩
  have c0 := of_decide_eq_false c0
  have c1 : c < 60 := by omega
  refine w_ic (n := 1) (j := 37) rfl rfl ?_
  refine w_go rfl ?_
  refine w_csU (j := 40) rfl rfl rfl rfl rfl (sp_21t) rfl ?_
  refine w_al (j := 41) rfl rfl rfl ?_
  refine w_al (j := 42) rfl rfl rfl ?_
  refine w_ic (n := 1) (j := 43) rfl rfl ?_
  refine w_bi (j := 44) (a := nI 40) rfl rfl (by decide) ?_
  refine w_cvPI (j := 45) rfl rfl rfl rfl (by first | assumption | rfl) rfl rfl (sp_64d (lo := 1) (H := 41) (by decide) (px_hiN (a := 40) (by decide)) (by decide) r) rfl ?_
  rintro v h1 ⟨u1, u2⟩
  have cs1 : gx_cs h1 st := cs.of (fun a a1 a2 => u1 a (by simp; omega))
  rcases u2 with ⟨k1, y1, l1, l2, r1⟩ | ⟨k1, ⟨q, -, y1⟩, r1⟩
  ·
    subst y1
    refine w_pf (j := 46) rfl rfl (by first | assumption | rfl) (by first | assumption | rfl) rfl ?_
    refine w_go rfl ?_
    refine w_rt rfl ?_
    exact ⟨_, rfl, u1.gc.up (by omega), Or.inr ⟨_, _, _, c1, gx_ws_t ws (by omega) (by omega), D0 k1 c1, r1.fr (S := [22]) (px_fr.rf.up (by decide)) (by decide) (by decide) (by decide), gx_cs_t cs1⟩⟩
  ·
    subst y1
    refine w_pf (j := 46) rfl rfl (by first | assumption | rfl) (by first | assumption | rfl) rfl ?_
    refine w_go rfl ?_
    refine w_rt rfl ?_
    exact ⟨_, rfl, u1.gc.up (by omega), Or.inl ⟨_, _, E1 k1 c1, r1.fr (S := [22]) (px_fr.rf.up (by decide)) (by decide) (by decide) (by decide), (cs1.gp ws).of (fun a a1 a2 => by rw [ix_up_ne (by omega)])⟩⟩
theorem gx_ws_f {st : Nat → Nat → Nat} {V : Nat} (ws : gx_ws st) (hV2 : V ≤ 9) : gx_ws (gx_u st 0 3 V) := by
  obtain ⟨w1, w2, w3, w4, w5, w6, w7, w8⟩ := ws
  have U : ∀ i k, i ≠ 0 ∨ k ≠ 3 → gx_u st 0 3 V i k = st i k := fun i k hi => gx_u_ne hi
  have U1 : gx_u st 0 3 V 0 3 = V := gx_u_at
  unfold gx_ws
  rw [U 0 0 (by decide), U 0 1 (by decide), U 0 2 (by decide), U1]
  refine ⟨w1, w2, w3, w4, hV2, fun k hk => ?_, fun k hk => ?_, fun a b ha hb => ?_⟩
  · rw [U 1 k (Or.inl (by decide)), U 2 k (Or.inl (by decide))]; exact w6 k hk
  · rw [U 3 k (Or.inl (by decide)), U 4 k (Or.inl (by decide))]; exact w7 k hk
  · rw [U _ _ (by omega)]; exact w8 a b ha hb
theorem gx_cs_f {h1 : ix_H} {st : Nat → Nat → Nat} {V : Nat} (cs : gx_cs h1 st) : gx_cs (ix_up h1 22 9 (nI V)) (gx_u st 0 3 V) := by
  obtain ⟨x1, x2, x3, x4⟩ := cs
  have U : ∀ i k, i ≠ 0 ∨ k ≠ 3 → gx_u st 0 3 V i k = st i k := fun i k hi => gx_u_ne hi
  have U1 : gx_u st 0 3 V 0 3 = V := gx_u_at
  unfold gx_cs
  rw [U 0 0 (by decide), U 0 1 (by decide), U 0 2 (by decide), U1, ix_up_ne (b := 23) (by decide), ix_up_ne (b := 24) (by decide), ix_up_ne (b := 25) (by decide), ix_up_ne (b := 26) (by decide)]
  refine ⟨⟨(px_up_nk (by decide)).trans x1.1, (px_up_nk (by decide)).trans x1.2.1, (px_up_nk (by decide)).trans x1.2.2.1, px_up_at⟩, fun k hk => ?_, fun k hk => ?_, fun a b ha hb => ?_⟩
  · rw [U 1 k (Or.inl (by decide)), U 2 k (Or.inl (by decide))]; exact x2 k hk
  · rw [U 3 k (Or.inl (by decide)), U 4 k (Or.inl (by decide))]; exact x3 k hk
  · rw [U _ _ (by omega), ix_up_ne (by omega)]; exact x4 a b ha hb
theorem cc_51 {c e s : Nat} {st : Nat → Nat → Nat} (ee : gx_lt tx n s = e) (hs : gx_sk tx n s = s) (hw : gx_is tx s (gx_lt tx n s) (gx_W 3)) (hc : c ≤ 60) (ws : gx_ws st) (r : px_rd h tx n e s 0 0 (-1)) (cs : gx_cs h st) : px_R px_E 4 mo_20 [] 51 [.ref 22, .ref 2, .int (px_b (decide (c = 60)))] [] h 0 (fun r => ∃ h', r = (.inl none, h', 0) ∧ gcB tx n c st s h h') := by
  have E3 : c = 60 → gE tx n c st s 3 s := fun z => gE_many hs (kd := 3) (by decide) hw hc ws (by omega)
  have E1 : ∀ z : gx_nk tx n 0 10 e ≠ 0, c < 60 → gE tx n c st s (gx_nk tx n 0 10 e) (gx_sk tx n e) := by rw [← ee]; exact fun z z1 => gE_f1 hs hw z1 ws z
  have D0 : gx_nk tx n 0 10 e = 0 → c < 60 → gD tx n c st s (gx_u st 0 3 (gx_nv tx n e)) (gx_ne tx n e) := by rw [← ee]; exact fun z0 z1 => gD_f hs hw z1 ws z0
  clear hs hw ee
  refine w_al (j := 52) rfl rfl rfl ?_
  refine w_il (j := 53) rfl rfl rfl ?_
  refine w_neB (j := 54) rfl rfl (fun c0 => ?_) (fun c0 => ?_)
  ·
    refine w_ic (n := 0) (j := 57) rfl rfl ?_
    refine w_csPU (j := 58) rfl rfl rfl rfl rfl (sp_21f r) rfl ?_
    rintro h1 ⟨u1, u2⟩
    refine w_al (j := 59) rfl rfl rfl ?_
    refine w_al (j := 60) rfl rfl rfl ?_
    refine w_ic (n := 0) (j := 61) rfl rfl ?_
    refine w_bi (j := 62) (a := nI 9) rfl rfl (by decide) ?_
    refine w_cvPI (j := 63) rfl rfl rfl rfl (by first | assumption | rfl) rfl rfl (sp_64f (lo := 0) (H := 10) (by decide) (px_hiN (a := 9) (by decide)) (by decide) u2) rfl ?_
    rintro v h2 ⟨y1, y2, v', y3, y4⟩
    refine w_pf (j := 64) rfl rfl (by first | assumption | rfl) (by first | assumption | rfl) rfl ?_
    refine w_go rfl ?_
    refine w_rt rfl ?_
    exact ⟨_, rfl, (u1.gc.tr y1.gc).up (by omega), Or.inl ⟨_, _, E3 (of_decide_eq_true c0), y2.fr (S := [22]) (px_fr.rf.up (by decide)) (by decide) (by decide) (by decide), (cs.gp ws).of (fun a a1 a2 => by rw [ix_up_ne (by omega), y1 a (by simp; omega), u1 a (by simp; omega)])⟩⟩
  have c0 := of_decide_eq_false c0
  have c1 : c < 60 := by omega
  refine w_ic (n := 1) (j := 55) rfl rfl ?_
  refine w_go rfl ?_
  refine w_csU (j := 58) rfl rfl rfl rfl rfl (sp_21t) rfl ?_
  refine w_al (j := 59) rfl rfl rfl ?_
  refine w_al (j := 60) rfl rfl rfl ?_
  refine w_ic (n := 0) (j := 61) rfl rfl ?_
  refine w_bi (j := 62) (a := nI 9) rfl rfl (by decide) ?_
  refine w_cvPI (j := 63) rfl rfl rfl rfl (by first | assumption | rfl) rfl rfl (sp_64d (lo := 0) (H := 10) (by decide) (px_hiN (a := 9) (by decide)) (by decide) r) rfl ?_
  rintro v h1 ⟨u1, u2⟩
  have cs1 : gx_cs h1 st := cs.of (fun a a1 a2 => u1 a (by simp; omega))
  rcases u2 with ⟨k1, y1, l1, l2, r1⟩ | ⟨k1, ⟨q, -, y1⟩, r1⟩
  ·
    subst y1
    refine w_pf (j := 64) rfl rfl (by first | assumption | rfl) (by first | assumption | rfl) rfl ?_
    refine w_go rfl ?_
    refine w_rt rfl ?_
    exact ⟨_, rfl, u1.gc.up (by omega), Or.inr ⟨_, _, _, c1, gx_ws_f ws (by omega), D0 k1 c1, r1.fr (S := [22]) (px_fr.rf.up (by decide)) (by decide) (by decide) (by decide), gx_cs_f cs1⟩⟩
  ·
    subst y1
    refine w_pf (j := 64) rfl rfl (by first | assumption | rfl) (by first | assumption | rfl) rfl ?_
    refine w_go rfl ?_
    refine w_rt rfl ?_
    exact ⟨_, rfl, u1.gc.up (by omega), Or.inl ⟨_, _, E1 k1 c1, r1.fr (S := [22]) (px_fr.rf.up (by decide)) (by decide) (by decide) (by decide), (cs1.gp ws).of (fun a a1 a2 => by rw [ix_up_ne (by omega)])⟩⟩
theorem sp_20 {c s : Nat} {st : Nat → Nat → Nat} (hs : gx_sk tx n s = s) (hc : c ≤ 60) (ws : gx_ws st) (r : px_rd h tx n s s 0 0 (-1)) (cs : gx_cs h st) : px_PU 5 20 [.ref 22, .ref 2, .int (px_b (decide (c = 60)))] h (gcB tx n c st s h) := by
  refine px_M (M := mt_20) (ops := mo_20) tb_20 rfl rfl rfl rfl rfl ?_
  refine w_al (j := 1) rfl rfl rfl ?_
  refine w_cvPU (j := 2) rfl rfl rfl rfl (by first | assumption | rfl) rfl rfl (sp_65 r) rfl ?_
  rintro h1 ⟨u1, r1⟩
  rw [hs] at r1
  have cs1 : gx_cs h1 st := cs.of (fun a a1 a2 => u1 a (by simp; omega))
  refine w_al (j := 3) rfl rfl rfl ?_
  refine w_ls (j := 4) rfl rfl ?_
  refine w_cvPI (j := 5) rfl rfl rfl rfl (by first | assumption | rfl) rfl rfl (sp_66 gwd_bay r1) rfl ?_
  rintro v h2 ⟨rfl, d, rfl, d0⟩
  refine w_eqB (j := 6) rfl rfl (fun c0 => ?_) (fun c0 => ?_)
  rotate_left
  ·
    refine w_al (j := 7) rfl rfl rfl ?_
    refine w_al (j := 8) rfl rfl rfl ?_
    refine w_il (j := 9) rfl rfl rfl ?_
    refine w_cvPU (j := 10) rfl rfl rfl rfl (by first | assumption | rfl) rfl rfl (sp_22 rfl hs (d0.mp c0) hc ws r1 cs1) rfl ?_
    rintro h3 q
    refine w_go rfl ?_
    refine w_rt rfl ?_
    exact ⟨_, rfl, q.fr u1.gc⟩
  have n0 : ¬ gx_is tx s (gx_lt tx n s) (gx_W 0) := fun q => by rw [d0.mpr q] at c0; cases c0
  clear d0 c0
  refine w_al (j := 12) rfl rfl rfl ?_
  refine w_ls (j := 13) rfl rfl ?_
  refine w_cvPI (j := 14) rfl rfl rfl rfl (by first | assumption | rfl) rfl rfl (sp_66 gwd_cry r1) rfl ?_
  rintro v h2 ⟨rfl, d, rfl, d0⟩
  refine w_eqB (j := 15) rfl rfl (fun c0 => ?_) (fun c0 => ?_)
  rotate_left
  ·
    refine w_al (j := 16) rfl rfl rfl ?_
    refine w_al (j := 17) rfl rfl rfl ?_
    refine w_il (j := 18) rfl rfl rfl ?_
    refine w_cvPU (j := 19) rfl rfl rfl rfl (by first | assumption | rfl) rfl rfl (sp_23 rfl hs (d0.mp c0) hc ws r1 cs1) rfl ?_
    rintro h3 q
    refine w_go rfl ?_
    refine w_rt rfl ?_
    exact ⟨_, rfl, q.fr u1.gc⟩
  have n1 : ¬ gx_is tx s (gx_lt tx n s) (gx_W 1) := fun q => by rw [d0.mpr q] at c0; cases c0
  clear d0 c0
  refine w_al (j := 21) rfl rfl rfl ?_
  refine w_ls (j := 22) rfl rfl ?_
  refine w_cvPI (j := 23) rfl rfl rfl rfl (by first | assumption | rfl) rfl rfl (sp_66 gwd_path r1) rfl ?_
  rintro v h2 ⟨rfl, d, rfl, d0⟩
  refine w_eqB (j := 24) rfl rfl (fun c0 => ?_) (fun c0 => ?_)
  rotate_left
  ·
    refine w_al (j := 25) rfl rfl rfl ?_
    refine w_al (j := 26) rfl rfl rfl ?_
    refine w_il (j := 27) rfl rfl rfl ?_
    refine w_cvPU (j := 28) rfl rfl rfl rfl (by first | assumption | rfl) rfl rfl (sp_24 rfl hs (d0.mp c0) hc ws r1 cs1) rfl ?_
    rintro h3 q
    refine w_go rfl ?_
    refine w_rt rfl ?_
    exact ⟨_, rfl, q.fr u1.gc⟩
  have n4 : ¬ gx_is tx s (gx_lt tx n s) (gx_W 4) := fun q => by rw [d0.mpr q] at c0; cases c0
  clear d0 c0
  refine w_al (j := 30) rfl rfl rfl ?_
  refine w_ls (j := 31) rfl rfl ?_
  refine w_cvPI (j := 32) rfl rfl rfl rfl (by first | assumption | rfl) rfl rfl (sp_66 gwd_term r1) rfl ?_
  rintro v h2 ⟨rfl, d, rfl, d0⟩
  refine w_eqB (j := 33) rfl rfl (fun c0 => ?_) (fun c0 => ?_)
  rotate_left
  ·
    exact px_mono (cc_33 rfl hs (d0.mp c0) hc ws r1 cs1) (fun r q => gcB.frR u1.gc q)
  have n2 : ¬ gx_is tx s (gx_lt tx n s) (gx_W 2) := fun q => by rw [d0.mpr q] at c0; cases c0
  clear d0 c0
  refine w_al (j := 48) rfl rfl rfl ?_
  refine w_ls (j := 49) rfl rfl ?_
  refine w_cvPI (j := 50) rfl rfl rfl rfl (by first | assumption | rfl) rfl rfl (sp_66 gwd_felt r1) rfl ?_
  rintro v h2 ⟨rfl, d, rfl, d0⟩
  refine w_eqB (j := 51) rfl rfl (fun c0 => ?_) (fun c0 => ?_)
  rotate_left
  ·
    exact px_mono (cc_51 rfl hs (d0.mp c0) hc ws r1 cs1) (fun r q => gcB.frR u1.gc q)
  have n3 : ¬ gx_is tx s (gx_lt tx n s) (gx_W 3) := fun q => by rw [d0.mpr q] at c0; cases c0
  clear d0 c0
  refine w_al (j := 66) rfl rfl rfl ?_
  refine w_ic (n := 1) (j := 67) rfl rfl ?_
  refine w_cvPU (j := 68) rfl rfl rfl rfl (by first | assumption | rfl) rfl rfl (sp_59 (kd := 1) (by decide) r1) rfl ?_
  rintro h3 ⟨y1, y2⟩
  refine w_rt rfl ?_
  refine ⟨_, rfl, u1.gc.tr y1.gc, Or.inl ⟨1, s, gE_word hs (fun k hk => ?_), ⟨by decide, _, _, by simpa [gx_fk, gx_fp] using y2⟩, (cs1.gp ws).of (fun a a1 a2 => y1 a (by simp; omega))⟩⟩
  rcases (show k = 0 ∨ k = 1 ∨ k = 2 ∨ k = 3 ∨ k = 4 by omega) with rfl | rfl | rfl | rfl | rfl
  · exact n0
  · exact n1
  · exact n2
  · exact n3
  · exact n4
end GO
