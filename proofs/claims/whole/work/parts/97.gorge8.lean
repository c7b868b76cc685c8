section GO
variable {h : ix_H} {tx : Nat → Nat} {n p pc o k : Nat} {pl : Int32}
def gx_ba (h h' : ix_H) (st : Nat → Nat → Nat) : Prop := (∀ a, ¬ (a = 100 ∨ a = 104 ∨ (113 ≤ a ∧ a ≤ 118) ∨ (129 ≤ a ∧ a ≤ 136) ∨ (145 ≤ a ∧ a ≤ 150) ∨ (152 ≤ a ∧ a ≤ 157) ∨ a = 577) → h' a = h a) ∧ (∀ j, ¬ (j = 20 ∨ (35 ≤ j ∧ j ≤ 38)) → h' 100 j = h 100 j) ∧ (h' 100 20 = nI 0 ∧ h' 100 35 = nI 0 ∧ h' 100 36 = nI 0 ∧ h' 100 37 = nI 0 ∧ h' 100 38 = nI 0) ∧ (∀ i, i < 4 → h' 104 i = nI (st 0 i)) ∧ (∀ k, k < st 0 0 → h' (113 + k) 0 = nI (st 1 k) ∧ h' (113 + k) 1 = nI (st 2 k)) ∧ (∀ k, k < st 0 1 → h' (129 + k) 0 = nI (st 3 k) ∧ h' (129 + k) 1 = nI (st 4 k)) ∧ (∀ a b, a < 6 → b < 6 → h' (145 + a) b = nI (st (5 + a) b) ∧ h' (152 + a) b = nI (gx_D1 (gx_D0 (fun a b => st (5 + a) b)) 6 a b)) ∧ (∀ c, c < 8 → h' 577 c = -1 ∧ h' 577 (8 + c) = (if c < st 0 1 then nI (st 4 c) else nI 0)) ∧ (∀ j, 16 ≤ j → j < 30 → h' 577 j = nI 0) ∧ h' 577 30 = nI (st 0 3) ∧ h' 577 31 = nI 0
theorem sp_180 {st : Nat → Nat → Nat} (ws : gx_ws st) (ms : gx_ms h st) : px_PU 3 180 [.ref 100] h (fun h' => gx_ba h h' st) := by
  obtain ⟨m1, m2, m3, m4⟩ := ms
  have w1 := ws.1
  have w2 := ws.2.1
  refine px_M (M := mt_180) (ops := mo_180) tb_180 rfl rfl rfl rfl rfl ?_
  refine w_ic (n := 0) (j := 1) rfl rfl ?_
  refine w_is (j := 2) rfl rfl rfl ?_
  refine px_forI (fun c ls h1 => ls = [.ref 100, .int (nI c)] ∧ px_fr [104] h h1 ∧ ∀ i, i < c → h1 104 i = nI (st 0 i)) 4 ?_ ?_ ⟨rfl, px_fr.rf, fun d hd => by omega⟩
  · rintro c _ h1 hc ⟨rfl, f1, f2⟩ H
    have v : h1 103 c = nI (st 0 c) := by rw [f1 103 (by decide)]; exact m1 c hc
    refine w_il (j := 3) rfl rfl rfl ?_
    refine w_ic (n := 4) (j := 4) rfl rfl ?_
    refine w_geN (j := 5) rfl rfl (by omega) (by omega) (fun c => absurd c (fun c => by omega)) (fun _ => ?_)
    refine w_al (j := 6) rfl rfl rfl ?_
    first | refine w_gr (j := 7) rfl rfl (by first | assumption | rfl) (by first | assumption | rfl) rfl ?_ | refine w_gi (j := 7) rfl rfl (by first | assumption | rfl) (by first | assumption | rfl) rfl rfl ?_
    refine w_il (j := 8) rfl rfl rfl ?_
    refine w_al (j := 9) rfl rfl rfl ?_
    first | refine w_gr (j := 10) rfl rfl (by first | assumption | rfl) (by first | assumption | rfl) rfl ?_ | refine w_gi (j := 10) rfl rfl (by first | assumption | rfl) (by first | assumption | rfl) rfl rfl ?_
    refine w_il (j := 11) rfl rfl rfl ?_
    refine w_ial (j := 12) rfl rfl (by first | assumption | rfl) rfl (by omega) rfl v ?_
    refine w_ias (j := 13) rfl rfl (by first | assumption | rfl) rfl (by omega) rfl ?_
    first | refine w_incN (j := 14) rfl rfl rfl ?_ | refine w_inc (j := 14) rfl rfl rfl rfl ?_
    refine w_go rfl ?_
    refine H _ _ ⟨rfl, f1.up (by decide), fun i hi => ?_⟩
    by_cases e : i = c
    · rw [e, px_up_at]
    · rw [px_up_nk e]; exact f2 i (by omega)
  rintro _ h1 ⟨rfl, f1, f2⟩
  have t0 := f2 0 (by decide)
  refine w_il (j := 3) rfl rfl rfl ?_
  refine w_ic (n := 4) (j := 4) rfl rfl ?_
  refine w_geN (j := 5) rfl rfl (by omega) (by omega) (fun _ => ?_) (fun c => absurd c (fun c => by omega))
  refine w_al (j := 16) rfl rfl rfl ?_
  first | refine w_gr (j := 17) rfl rfl (by first | assumption | rfl) (by first | assumption | rfl) rfl ?_ | refine w_gi (j := 17) rfl rfl (by first | assumption | rfl) (by first | assumption | rfl) rfl rfl ?_
  refine w_al (j := 18) rfl rfl rfl ?_
  first | refine w_gr (j := 19) rfl rfl (by first | assumption | rfl) (by first | assumption | rfl) rfl ?_ | refine w_gi (j := 19) rfl rfl (by first | assumption | rfl) (by first | assumption | rfl) rfl rfl ?_
  refine w_al (j := 20) rfl rfl rfl ?_
  first | refine w_gr (j := 21) rfl rfl (by first | assumption | rfl) (by first | assumption | rfl) rfl ?_ | refine w_gi (j := 21) rfl rfl (by first | assumption | rfl) (by first | assumption | rfl) rfl rfl ?_
  refine w_ic (n := 0) (j := 22) rfl rfl ?_
  refine w_ial (j := 23) rfl rfl (by first | assumption | rfl) rfl (by omega) rfl t0 ?_
  refine w_csPU (j := 24) rfl rfl rfl rfl rfl (sp_178 (m := st 0 0) (N := 6) (l := 2) rfl rfl px_sh105 px_sh113 rfl rfl w1 (Or.inl (by decide))) rfl ?_
  rintro h2 ⟨a1, a2⟩
  have t1 : h2 104 1 = nI (st 0 1) := by rw [a1 104 (by omega)]; exact f2 1 (by decide)
  refine w_al (j := 25) rfl rfl rfl ?_
  first | refine w_gr (j := 26) rfl rfl (by first | assumption | rfl) (by first | assumption | rfl) rfl ?_ | refine w_gi (j := 26) rfl rfl (by first | assumption | rfl) (by first | assumption | rfl) rfl rfl ?_
  refine w_al (j := 27) rfl rfl rfl ?_
  first | refine w_gr (j := 28) rfl rfl (by first | assumption | rfl) (by first | assumption | rfl) rfl ?_ | refine w_gi (j := 28) rfl rfl (by first | assumption | rfl) (by first | assumption | rfl) rfl rfl ?_
  refine w_al (j := 29) rfl rfl rfl ?_
  first | refine w_gr (j := 30) rfl rfl (by first | assumption | rfl) (by first | assumption | rfl) rfl ?_ | refine w_gi (j := 30) rfl rfl (by first | assumption | rfl) (by first | assumption | rfl) rfl rfl ?_
  refine w_ic (n := 1) (j := 31) rfl rfl ?_
  refine w_ial (j := 32) rfl rfl (by first | assumption | rfl) rfl (by omega) rfl t1 ?_
  refine w_csPU (j := 33) rfl rfl rfl rfl rfl (sp_178 (m := st 0 1) (N := 8) (l := 2) rfl rfl px_sh119 px_sh128 rfl rfl w2 (Or.inl (by decide))) rfl ?_
  rintro h3 ⟨b1, b2⟩
  refine w_al (j := 34) rfl rfl rfl ?_
  first | refine w_gr (j := 35) rfl rfl (by first | assumption | rfl) (by first | assumption | rfl) rfl ?_ | refine w_gi (j := 35) rfl rfl (by first | assumption | rfl) (by first | assumption | rfl) rfl rfl ?_
  refine w_al (j := 36) rfl rfl rfl ?_
  first | refine w_gr (j := 37) rfl rfl (by first | assumption | rfl) (by first | assumption | rfl) rfl ?_ | refine w_gi (j := 37) rfl rfl (by first | assumption | rfl) (by first | assumption | rfl) rfl rfl ?_
  refine w_bi (j := 38) (a := nI 6) rfl rfl (by decide) ?_
  refine w_csPU (j := 39) rfl rfl rfl rfl rfl (sp_178 (m := 6) (N := 6) (l := 6) rfl rfl px_sh137 px_sh144 rfl rfl (by decide) (Or.inl (by decide))) rfl ?_
  rintro h4 ⟨c1, c2⟩
  have P4 : ∀ a b, a < 6 → b < 6 → h4 (145 + a) b = nI (st (5 + a) b) ∧ st (5 + a) b ≤ 40 := fun a b ha hb => by
    refine ⟨?_, ws.2.2.2.2.2.2.2 a b ha hb⟩
    have z := c2 a ha b hb
    rw [b1 _ (by omega), a1 _ (by omega), f1 _ (by simp; omega)] at z
    exact z.trans (m4 a b ha hb)
  refine w_al (j := 40) rfl rfl rfl ?_
  refine w_cvPU (j := 41) rfl rfl rfl rfl (by first | assumption | rfl) rfl rfl (sp_181 (P := fun a b => st (5 + a) b) P4) rfl ?_
  rintro h5 ⟨d1, d2⟩
  have T5 : ∀ i, i < 4 → h5 104 i = nI (st 0 i) := fun i hi => by rw [d1 104 (by omega), c1 104 (by omega), b1 104 (by omega), a1 104 (by omega)]; exact f2 i hi
  have B5 : ∀ k, k < st 0 0 → h5 (113 + k) 0 = nI (st 1 k) ∧ h5 (113 + k) 1 = nI (st 2 k) := fun k hk => by
    have z0 := a2 k hk 0 (by decide)
    have z1 := a2 k hk 1 (by decide)
    rw [f1 _ (by simp; omega)] at z0 z1
    rw [d1 _ (by omega), c1 _ (by omega), b1 _ (by omega)]
    exact ⟨z0.trans (m2 k hk).1, z1.trans (m2 k hk).2⟩
  have Y5 : ∀ k, k < st 0 1 → h5 (129 + k) 0 = nI (st 3 k) ∧ h5 (129 + k) 1 = nI (st 4 k) := fun k hk => by
    have z0 := b2 k hk 0 (by decide)
    have z1 := b2 k hk 1 (by decide)
    rw [a1 _ (by omega), f1 _ (by simp; omega)] at z0 z1
    rw [d1 _ (by omega), c1 _ (by omega)]
    exact ⟨z0.trans (m3 k hk).1, z1.trans (m3 k hk).2⟩
  have D5 : ∀ a b, a < 6 → b < 6 → h5 (145 + a) b = nI (st (5 + a) b) ∧ h5 (152 + a) b = nI (gx_D1 (gx_D0 (fun a b => st (5 + a) b)) 6 a b) := fun a b ha hb => ⟨by rw [d1 _ (by omega)]; exact (P4 a b ha hb).1, d2 a b ha hb⟩
  have G5 : ∀ a, ¬ (a = 104 ∨ (113 ≤ a ∧ a ≤ 118) ∨ (129 ≤ a ∧ a ≤ 136) ∨ (145 ≤ a ∧ a ≤ 150) ∨ (152 ≤ a ∧ a ≤ 157)) → h5 a = h a := fun a ha => by rw [d1 a (by omega), c1 a (by omega), b1 a (by omega), a1 a (by omega), f1 a (by simp; omega)]
  clear a1 a2 b1 b2 c1 c2 d1 d2 f1 f2 P4 t0 t1 m1 m2 m3 m4
  refine w_ic (n := 0) (j := 42) rfl rfl ?_
  refine w_is (j := 43) rfl rfl rfl ?_
  refine px_forI (fun c ls h6 => ls = [.ref 100, .int (nI c)] ∧ px_fr [577] h5 h6 ∧ ∀ i, i < c → h6 577 i = nI 0) 32 ?_ ?_ ⟨rfl, px_fr.rf, fun d hd => by omega⟩
  · rintro c _ h6 hc ⟨rfl, f1, f2⟩ H
    refine w_il (j := 44) rfl rfl rfl ?_
    refine w_bi (j := 45) (a := nI 32) rfl rfl (by decide) ?_
    refine w_geN (j := 46) rfl rfl (by omega) (by omega) (fun c => absurd c (fun c => by omega)) (fun _ => ?_)
    refine w_al (j := 47) rfl rfl rfl ?_
    first | refine w_gr (j := 48) rfl rfl (by first | assumption | rfl) (by first | assumption | rfl) rfl ?_ | refine w_gi (j := 48) rfl rfl (by first | assumption | rfl) (by first | assumption | rfl) rfl rfl ?_
    refine w_il (j := 49) rfl rfl rfl ?_
    refine w_ic (n := 0) (j := 50) rfl rfl ?_
    refine w_ias (j := 51) rfl rfl (by first | assumption | rfl) rfl (by omega) rfl ?_
    first | refine w_incN (j := 52) rfl rfl rfl ?_ | refine w_inc (j := 52) rfl rfl rfl rfl ?_
    refine w_go rfl ?_
    refine H _ _ ⟨rfl, f1.up (by decide), fun i hi => ?_⟩
    by_cases e : i = c
    · rw [e, px_up_at]
    · rw [px_up_nk e]; exact f2 i (by omega)
  rintro _ h6 ⟨rfl, f1, f2⟩
  refine w_il (j := 44) rfl rfl rfl ?_
  refine w_bi (j := 45) (a := nI 32) rfl rfl (by decide) ?_
  refine w_geN (j := 46) rfl rfl (by omega) (by omega) (fun _ => ?_) (fun c => absurd c (fun c => by omega))
  refine w_ic (n := 0) (j := 54) rfl rfl ?_
  refine w_is (j := 55) rfl rfl rfl ?_
  refine px_forI (fun c ls h7 => ls = [.ref 100, .int (nI c)] ∧ px_fr [577] h5 h7 ∧ (∀ i, i < c → h7 577 i = -1 ∧ h7 577 (8 + i) = (if i < st 0 1 then nI (st 4 i) else nI 0)) ∧ ∀ j, 16 ≤ j → j < 32 → h7 577 j = nI 0) 8 ?_ ?_ ⟨rfl, f1, fun d hd => by omega, fun j j1 j2 => f2 j j2⟩
  · rintro c _ h7 hc ⟨rfl, g1, g2, g3⟩ H
    have s129 := px_sh129 c hc
    have t1 : ix_up h7 577 c (-1) 104 1 = nI (st 0 1) := by rw [px_up_na (by decide), g1 104 (by decide)]; exact T5 1 (by decide)
    have tail : ∀ v, v = (if c < st 0 1 then nI (st 4 c) else nI 0) → px_R px_E 2 mo_180 [] 84 [.ref 100, .int (nI c)] [.int v, .int (nI (8 + c)), .ref 577] (ix_up h7 577 c (-1)) 0 (fun r => ∃ h', r = (.inl none, h', 0) ∧ gx_ba h h' st) := by
      intro v hv
      subst hv
      refine w_ias (j := 85) rfl rfl (by first | assumption | rfl) rfl (by omega) rfl ?_
      first | refine w_incN (j := 86) rfl rfl rfl ?_ | refine w_inc (j := 86) rfl rfl rfl rfl ?_
      refine w_go rfl ?_
      refine H _ _ ⟨rfl, (g1.up (by decide)).up (by decide), fun i hi => ?_, fun j j1 j2 => ?_⟩
      · by_cases e : i = c
        · subst e
          exact ⟨by rw [px_up_nk (by omega), px_up_at], px_up_at⟩
        · obtain ⟨y1, y2⟩ := g2 i (by omega)
          exact ⟨by rw [px_up_nk (by omega), px_up_nk e]; exact y1, by rw [px_up_nk (by omega), px_up_nk (by omega)]; exact y2⟩
      · rw [px_up_nk (by omega), px_up_nk (by omega)]; exact g3 j j1 j2
    refine w_il (j := 56) rfl rfl rfl ?_
    refine w_bi (j := 57) (a := nI 8) rfl rfl (by decide) ?_
    refine w_geN (j := 58) rfl rfl (by omega) (by omega) (fun c => absurd c (fun c => by omega)) (fun _ => ?_)
    refine w_al (j := 59) rfl rfl rfl ?_
    first | refine w_gr (j := 60) rfl rfl (by first | assumption | rfl) (by first | assumption | rfl) rfl ?_ | refine w_gi (j := 60) rfl rfl (by first | assumption | rfl) (by first | assumption | rfl) rfl rfl ?_
    refine w_ic (n := 0) (j := 61) rfl rfl ?_
    refine w_il (j := 62) rfl rfl rfl ?_
    first | refine w_add0 (j := 63) rfl rfl ?_ | refine w_addN (j := 63) rfl rfl ?_ | refine w_add (j := 63) rfl rfl ?_
    refine w_im (j := 64) rfl rfl ?_
    refine w_ias (j := 65) rfl rfl (by first | assumption | rfl) rfl (by omega) rfl ?_
    refine w_al (j := 66) rfl rfl rfl ?_
    first | refine w_gr (j := 67) rfl rfl (by first | assumption | rfl) (by first | assumption | rfl) rfl ?_ | refine w_gi (j := 67) rfl rfl (by first | assumption | rfl) (by first | assumption | rfl) rfl rfl ?_
    refine w_bi (j := 68) (a := nI 8) rfl rfl (by decide) ?_
    refine w_il (j := 69) rfl rfl rfl ?_
    first | refine w_add0 (j := 70) rfl rfl ?_ | refine w_addN (j := 70) rfl rfl ?_ | refine w_add (j := 70) rfl rfl ?_
    refine w_il (j := 71) rfl rfl rfl ?_
    refine w_al (j := 72) rfl rfl rfl ?_
    first | refine w_gr (j := 73) rfl rfl (by first | assumption | rfl) (by first | assumption | rfl) rfl ?_ | refine w_gi (j := 73) rfl rfl (by first | assumption | rfl) (by first | assumption | rfl) rfl rfl ?_
    refine w_ic (n := 1) (j := 74) rfl rfl ?_
    refine w_ial (j := 75) rfl rfl (by first | assumption | rfl) rfl (by omega) rfl t1 ?_
    refine w_geN (j := 76) rfl rfl (by omega) (by omega) (fun d => ?_) (fun d => ?_)
    ·
      refine w_ic (n := 0) (j := 84) rfl rfl ?_
      exact tail _ (by rw [if_neg (by omega)])
    ·
      have v : ix_up h7 577 c (-1) (129 + c) 1 = nI (st 4 c) := by rw [px_up_na (by omega), g1 _ (by simp; omega)]; exact (Y5 c d).2
      refine w_al (j := 77) rfl rfl rfl ?_
      first | refine w_gr (j := 78) rfl rfl (by first | assumption | rfl) (by first | assumption | rfl) rfl ?_ | refine w_gi (j := 78) rfl rfl (by first | assumption | rfl) (by first | assumption | rfl) rfl rfl ?_
      refine w_il (j := 79) rfl rfl rfl ?_
      refine w_aal (j := 80) rfl rfl (by first | assumption | rfl) rfl (by omega) rfl ?_
      refine w_ic (n := 1) (j := 81) rfl rfl ?_
      refine w_ial (j := 82) rfl rfl (by first | assumption | rfl) rfl (by omega) rfl v ?_
      refine w_go rfl ?_
      exact tail _ (by rw [if_pos d])
  rintro _ h7 ⟨rfl, g1, g2, g3⟩
  have t3 : h7 104 3 = nI (st 0 3) := by rw [g1 104 (by decide)]; exact T5 3 (by decide)
  refine w_il (j := 56) rfl rfl rfl ?_
  refine w_bi (j := 57) (a := nI 8) rfl rfl (by decide) ?_
  refine w_geN (j := 58) rfl rfl (by omega) (by omega) (fun _ => ?_) (fun c => absurd c (fun c => by omega))
  refine w_al (j := 88) rfl rfl rfl ?_
  first | refine w_gr (j := 89) rfl rfl (by first | assumption | rfl) (by first | assumption | rfl) rfl ?_ | refine w_gi (j := 89) rfl rfl (by first | assumption | rfl) (by first | assumption | rfl) rfl rfl ?_
  refine w_bi (j := 90) (a := nI 30) rfl rfl (by decide) ?_
  refine w_al (j := 91) rfl rfl rfl ?_
  first | refine w_gr (j := 92) rfl rfl (by first | assumption | rfl) (by first | assumption | rfl) rfl ?_ | refine w_gi (j := 92) rfl rfl (by first | assumption | rfl) (by first | assumption | rfl) rfl rfl ?_
  refine w_ic (n := 3) (j := 93) rfl rfl ?_
  refine w_ial (j := 94) rfl rfl (by first | assumption | rfl) rfl (by omega) rfl t3 ?_
  refine w_ias (j := 95) rfl rfl (by first | assumption | rfl) rfl (by omega) rfl ?_
  refine w_al (j := 96) rfl rfl rfl ?_
  refine w_ic (n := 0) (j := 97) rfl rfl ?_
  refine w_pf (j := 98) rfl rfl (by first | assumption | rfl) (by first | assumption | rfl) rfl ?_
  refine w_al (j := 99) rfl rfl rfl ?_
  refine w_ic (n := 0) (j := 100) rfl rfl ?_
  refine w_pf (j := 101) rfl rfl (by first | assumption | rfl) (by first | assumption | rfl) rfl ?_
  refine w_al (j := 102) rfl rfl rfl ?_
  refine w_ic (n := 0) (j := 103) rfl rfl ?_
  refine w_pf (j := 104) rfl rfl (by first | assumption | rfl) (by first | assumption | rfl) rfl ?_
  refine w_al (j := 105) rfl rfl rfl ?_
  refine w_ic (n := 0) (j := 106) rfl rfl ?_
  refine w_pf (j := 107) rfl rfl (by first | assumption | rfl) (by first | assumption | rfl) rfl ?_
  refine w_al (j := 108) rfl rfl rfl ?_
  refine w_ic (n := 0) (j := 109) rfl rfl ?_
  refine w_pf (j := 110) rfl rfl (by first | assumption | rfl) (by first | assumption | rfl) rfl ?_
  refine w_rt rfl ?_
  have R : ∀ a, a ≠ 100 → a ≠ 577 → ix_up (ix_up (ix_up (ix_up (ix_up (ix_up h7 577 30 (nI (st 0 3))) 100 20 (nI 0)) 100 35 (nI 0)) 100 36 (nI 0)) 100 37 (nI 0)) 100 38 (nI 0) a = h5 a := fun a a1 a2 => by
    rw [ix_up_ne a1, ix_up_ne a1, ix_up_ne a1, ix_up_ne a1, ix_up_ne a1, ix_up_ne a2, g1 a (by simp; omega)]
  have R7 : ∀ j, j ≠ 30 → ix_up (ix_up (ix_up (ix_up (ix_up (ix_up h7 577 30 (nI (st 0 3))) 100 20 (nI 0)) 100 35 (nI 0)) 100 36 (nI 0)) 100 37 (nI 0)) 100 38 (nI 0) 577 j = h7 577 j := fun j hj => by
    rw [px_up_na (by decide), px_up_na (by decide), px_up_na (by decide), px_up_na (by decide), px_up_na (by decide), px_up_nk hj]
  refine ⟨_, rfl, fun a ha => ?_, fun j hj => ?_, ⟨?_, ?_, ?_, ?_, px_up_at⟩, fun i hi => ?_, fun k hk => ?_, fun k hk => ?_, fun a b ha hb => ?_, fun c hc => ?_, fun j j1 j2 => ?_, ?_, ?_⟩
  · rw [R a (by omega) (by omega)]; exact G5 a (by omega)
  · rw [px_up_nk (by omega), px_up_nk (by omega), px_up_nk (by omega), px_up_nk (by omega), px_up_nk (by omega), px_up_na (by decide), g1 100 (by decide), G5 100 (by omega)]
  · rw [px_up_nk (by decide), px_up_nk (by decide), px_up_nk (by decide), px_up_nk (by decide), px_up_at]
  · rw [px_up_nk (by decide), px_up_nk (by decide), px_up_nk (by decide), px_up_at]
  · rw [px_up_nk (by decide), px_up_nk (by decide), px_up_at]
  · rw [px_up_nk (by decide), px_up_at]
  · rw [R 104 (by decide) (by decide)]; exact T5 i hi
  · rw [R _ (by omega) (by omega)]; exact B5 k hk
  · rw [R _ (by omega) (by omega)]; exact Y5 k hk
  · rw [R _ (by omega) (by omega), R _ (by omega) (by omega)]; exact D5 a b ha hb
  · rw [R7 c (by omega), R7 (8 + c) (by omega)]; exact g2 c hc
  · rw [R7 j (by omega)]; exact g3 j j1 (by omega)
  · rw [px_up_na (by decide), px_up_na (by decide), px_up_na (by decide), px_up_na (by decide), px_up_na (by decide), px_up_at]
  · rw [R7 31 (by decide)]; exact g3 31 (by decide) (by decide)
theorem MX_gorge {w : Int32} {t : Nat} (ht : h 100 1 = nI t) (hw : ¬ (0 ≤ w ∧ w ≤ nI 600 ∧ w ≤ nI t)) (t6 : t ≤ 600) : px_PI 2 177 [.ref 100, .int w] h (fun v h2 => h2 100 0 = nI 1 ∧ px_kp (ix_up h 102 1 (h 102 1 + nI 1)) h2) := by
  have ht' : ix_up h 100 0 (nI 0) 100 1 = nI t := by rw [px_up_nk (by decide)]; exact ht
  refine px_M (M := mt_177) (ops := mo_177) tb_177 rfl rfl rfl rfl rfl ?_
  refine w_al (j := 1) rfl rfl rfl ?_
  refine w_ic (n := 0) (j := 2) rfl rfl ?_
  refine w_pf (j := 3) rfl rfl (by first | assumption | rfl) (by first | assumption | rfl) rfl ?_
  refine w_al (j := 4) rfl rfl rfl ?_
  refine w_il (j := 5) rfl rfl rfl ?_
  refine w_ic (n := 0) (j := 6) rfl rfl ?_
  refine w_al (j := 7) rfl rfl rfl ?_
  first | refine w_gr (j := 8) rfl rfl (by first | assumption | rfl) (by first | assumption | rfl) rfl ?_ | refine w_gi (j := 8) rfl rfl (by first | assumption | rfl) (by first | assumption | rfl) rfl ht' ?_
  refine w_csI (j := 9) rfl rfl rfl rfl rfl (sp_155) rfl ?_
  rw [decide_eq_false (fun z => hw ⟨z.1, Int32.le_trans z.2 (nI_le t6 (by omega)), z.2⟩)]
  refine w_neB (j := 10) rfl rfl (fun c => absurd c (by simp)) (fun _ => ?_)
  refine w_ic (n := 1) (j := 11) rfl rfl ?_
  refine w_go rfl ?_
  refine w_ic (n := 1) (j := 14) rfl rfl ?_
  refine w_ic (n := 1) (j := 15) rfl rfl ?_
  refine w_cvI (j := 16) rfl rfl rfl rfl (by first | assumption | rfl) rfl rfl (sp_154t (p := 1) (w := 1) rfl (by decide) (by decide) (by decide)) rfl ?_
  refine w_eqB (j := 17) rfl rfl (fun c => absurd c (by simp)) (fun _ => ?_)
  refine w_ic (n := 0) (j := 18) rfl rfl ?_
  refine w_ir rfl ?_
  exact ⟨_, _, rfl, rfl, px_kpB (px_kp.rf.up (by decide) (fun _ => by decide)) (by decide)⟩
-- the model's gorge
theorem mg_start {t q K PL : Nat} {st : Nat → Nat → Nat} (ht : h 100 1 = nI t) (X : px_tx h tx q) (qt : q ≤ t) (t6 : t ≤ 600) (ws : K = 0 → gx_ws st) (D : gG tx q 0 gx_s0 (gx_sk tx q 0) K PL st) : px_PI 7 177 [.ref 100, .int (nI q)] h (fun v h' => h' 100 0 = nI 0 ∧ h' 100 1 = nI 0 ∧ (K ≠ 0 → v = nI K - nI 10 ∧ h' 100 3 = nI PL ∧ gF (ix_up (ix_up (ix_up h 100 0 (nI 0)) 100 1 (nI 0)) 100 3 (nI PL)) (ix_up h' 100 2 (h 100 2))) ∧ (K = 0 → v = nI (st 0 1) ∧ h' 100 3 = -1 ∧ ∃ h2, gF h (ix_up (ix_up (ix_up (ix_up h2 100 0 (h 100 0)) 100 1 (h 100 1)) 100 2 (h 100 2)) 100 3 (h 100 3)) ∧ gx_ba h2 h' st)) := by
  have ht' : ix_up h 100 0 (nI 0) 100 1 = nI t := by rw [px_up_nk (by decide)]; exact ht
  have X' : px_tx (ix_up h 100 0 (nI 0)) tx q := X.of (ix_up_ne (by decide)) (ix_up_ne (by decide))
  refine px_M (M := mt_177) (ops := mo_177) tb_177 rfl rfl rfl rfl rfl ?_
  refine w_al (j := 1) rfl rfl rfl ?_
  refine w_ic (n := 0) (j := 2) rfl rfl ?_
  refine w_pf (j := 3) rfl rfl (by first | assumption | rfl) (by first | assumption | rfl) rfl ?_
  refine w_al (j := 4) rfl rfl rfl ?_
  refine w_il (j := 5) rfl rfl rfl ?_
  refine w_ic (n := 0) (j := 6) rfl rfl ?_
  refine w_al (j := 7) rfl rfl rfl ?_
  first | refine w_gr (j := 8) rfl rfl (by first | assumption | rfl) (by first | assumption | rfl) rfl ?_ | refine w_gi (j := 8) rfl rfl (by first | assumption | rfl) (by first | assumption | rfl) rfl ht' ?_
  refine w_csI (j := 9) rfl rfl rfl rfl rfl (sp_155) rfl ?_
  rw [decide_eq_true ⟨nI_le (Nat.zero_le _) (by omega), nI_le qt (by omega)⟩]
  refine w_neB (j := 10) rfl rfl (fun _ => ?_) (fun c => absurd c (by simp))
  refine w_ic (n := 0) (j := 13) rfl rfl ?_
  refine w_ic (n := 1) (j := 14) rfl rfl ?_
  refine w_ic (n := 1) (j := 15) rfl rfl ?_
  refine w_cvI (j := 16) rfl rfl rfl rfl (by first | assumption | rfl) rfl rfl (sp_154f (h := ix_up h 100 0 (nI 0)) rfl) rfl ?_
  refine w_eqB (j := 17) rfl rfl (fun _ => ?_) (fun c => absurd c (by simp))
  refine w_al (j := 20) rfl rfl rfl ?_
  refine w_il (j := 21) rfl rfl rfl ?_
  refine w_cvPU (j := 22) rfl rfl rfl rfl (by first | assumption | rfl) rfl rfl (sp_173 X') rfl ?_
  rintro h1 ⟨f2, z1, z7, r⟩
  refine w_al (j := 23) rfl rfl rfl ?_
  refine w_cvPU (j := 24) rfl rfl rfl rfl (by first | assumption | rfl) rfl rfl (sp_152) rfl ?_
  rintro h2 ⟨e1, ms⟩
  have r2 : px_mr h2 tx q (gx_sk tx q 0) 0 (-1) 0 := r.of (e1 1 (by omega)) (e1 101 (by omega)) (fun j _ => by rw [e1 100 (by omega)])
  have Z0 : h2 100 0 = nI 0 := by rw [e1 100 (by omega), f2.2 0 (by omega), px_up_at]
  have Z1 : h2 100 1 = nI 0 := by rw [e1 100 (by omega), z1]
  have Fa : ∀ a, a ≠ 100 → ¬ (a = 103 ∨ (105 ≤ a ∧ a ≤ 111) ∨ (119 ≤ a ∧ a ≤ 127) ∨ (137 ≤ a ∧ a ≤ 143)) → h2 a = h a := fun a a1 a2 => by rw [e1 a (by omega), f2.1 a a1, ix_up_ne a1]
  have Fj : ∀ j, 8 < j → h2 100 j = h 100 j := fun j hj => by rw [e1 100 (by omega), f2.2 j (by omega), px_up_nk (by omega)]
  refine D h2 _ (nI q) ⟨r2, by rw [e1 100 (by omega)]; exact z7, ms⟩ (fun h3 F3 a b => ?_)
  by_cases hK : K = 0
  · obtain ⟨⟨p, r3⟩, ms3⟩ := b hK
    have r5 := r3.2.2.2.2.1
    refine w_al (j := 38) rfl rfl rfl ?_
    first | refine w_gr (j := 39) rfl rfl (by first | assumption | rfl) (by first | assumption | rfl) rfl ?_ | refine w_gi (j := 39) rfl rfl (by first | assumption | rfl) (by first | assumption | rfl) rfl r5 ?_
    refine w_eqM (j := 40) rfl rfl (by omega) (fun _ => ?_) (fun c => absurd c (fun c => by omega))
    refine w_al (j := 44) rfl rfl rfl ?_
    refine w_im (j := 45) rfl rfl ?_
    refine w_pf (j := 46) rfl rfl (by first | assumption | rfl) (by first | assumption | rfl) rfl ?_
    refine w_al (j := 47) rfl rfl rfl ?_
    refine w_cvPU (j := 48) rfl rfl rfl rfl (by first | assumption | rfl) rfl rfl (sp_180 (st := st) (ws hK) (ms3.of (fun a a1 a2 => ix_up_ne (by omega)) (ws hK))) rfl ?_
    rintro h4 ba
    have v1 : h4 104 1 = nI (st 0 1) := ba.2.2.2.1 1 (by decide)
    refine w_al (j := 49) rfl rfl rfl ?_
    first | refine w_gr (j := 50) rfl rfl (by first | assumption | rfl) (by first | assumption | rfl) rfl ?_ | refine w_gi (j := 50) rfl rfl (by first | assumption | rfl) (by first | assumption | rfl) rfl rfl ?_
    refine w_ic (n := 1) (j := 51) rfl rfl ?_
    refine w_ial (j := 52) rfl rfl (by first | assumption | rfl) rfl (by omega) rfl v1 ?_
    refine w_ir rfl ?_
    refine ⟨_, _, rfl, ?_, ?_, fun z => absurd hK z, fun _ => ⟨rfl, ?_, _, ?_, ba⟩⟩
    · rw [ba.2.1 0 (by omega), px_up_nk (by decide), F3.2 0 (by omega)]; exact Z0
    · rw [ba.2.1 1 (by omega), px_up_nk (by decide), F3.2 1 (by omega)]; exact Z1
    · rw [ba.2.1 3 (by omega), px_up_at]
    · refine ⟨fun a a1 a2 => ?_, fun j hj => ?_⟩
      · rw [ix_up_ne a1, ix_up_ne a1, ix_up_ne a1, ix_up_ne a1, ix_up_ne a1, F3.1 a a1 a2]; exact Fa a a1 a2
      · rcases (show j = 0 ∨ j = 1 ∨ j = 2 ∨ j = 3 ∨ 8 < j by omega) with rfl | rfl | rfl | rfl | hj
        · rw [px_up_nk (by decide), px_up_nk (by decide), px_up_nk (by decide), px_up_at]
        · rw [px_up_nk (by decide), px_up_nk (by decide), px_up_at]
        · rw [px_up_nk (by decide), px_up_at]
        · rw [px_up_at]
        · rw [px_up_nk (by omega), px_up_nk (by omega), px_up_nk (by omega), px_up_nk (by omega), px_up_nk (by omega), F3.2 j (by omega)]; exact Fj j hj
  · obtain ⟨p, r3⟩ := a hK
    have s5 := r3.2.2.2.2.1
    have s3 := r3.2.2.2.2.2.1
    have s6 := r3.2.2.2.2.2.2.1
    refine w_al (j := 38) rfl rfl rfl ?_
    first | refine w_gr (j := 39) rfl rfl (by first | assumption | rfl) (by first | assumption | rfl) rfl ?_ | refine w_gi (j := 39) rfl rfl (by first | assumption | rfl) (by first | assumption | rfl) rfl s5 ?_
    refine w_eqM (j := 40) rfl rfl (by omega) (fun c => absurd c (fun c => by omega)) (fun _ => ?_)
    refine w_al (j := 41) rfl rfl rfl ?_
    refine w_cvI (j := 42) rfl rfl rfl rfl (by first | assumption | rfl) rfl rfl (sp_174) rfl ?_
    rw [s5, s6]
    refine w_ir rfl ?_
    refine ⟨_, _, rfl, ?_, ?_, fun _ => ⟨rfl, px_up_at, ?_, ?_⟩, fun z => absurd z hK⟩
    · rw [px_up_nk (by decide), F3.2 0 (by omega)]; exact Z0
    · rw [px_up_nk (by decide), F3.2 1 (by omega)]; exact Z1
    · intro a a1 a2
      rw [ix_up_ne a1, ix_up_ne a1, ix_up_ne a1, ix_up_ne a1, ix_up_ne a1, F3.1 a a1 a2]; exact Fa a a1 a2
    · intro j hj
      rcases (show j = 0 ∨ j = 1 ∨ j = 2 ∨ j = 3 ∨ 8 < j by omega) with rfl | rfl | rfl | rfl | hj
      · rw [px_up_nk (by decide), px_up_nk (by decide), F3.2 0 (by omega), px_up_nk (by decide), px_up_nk (by decide), px_up_at]; exact Z0
      · rw [px_up_nk (by decide), px_up_nk (by decide), F3.2 1 (by omega), px_up_nk (by decide), px_up_at]; exact Z1
      · rw [px_up_at, px_up_nk (by decide), px_up_nk (by decide), px_up_nk (by decide)]
      · rw [px_up_nk (by decide), px_up_at, px_up_at]
      · rw [px_up_nk (by omega), px_up_nk (by omega), px_up_nk (by omega), px_up_nk (by omega), px_up_nk (by omega), F3.2 j (by omega)]; exact Fj j hj
end GO
