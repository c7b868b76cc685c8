section PW
variable {h : ix_H} {B N T : Nat} {X : pw_X} {cs : List (Nat × Nat)} {hd fd pt : Nat → Int32}
theorem pw_cst.l61 {s : pw_s} {i : Nat} {v : Int32} (st : pw_cst s h) : pw_cst s (ix_up h 61 i v) := by
  obtain ⟨c1, c2, ⟨r1, r2, r3, r4, r5⟩, r6⟩ := st
  exact ⟨by rw [px_up_na (by decide)]; exact c1, by rw [px_up_na (by decide)]; exact c2, ⟨fun c hc => by rw [px_up_na (by decide)]; exact r1 c hc, fun c hc => by rw [px_up_na (by decide)]; exact r2 c hc, fun c hc => by rw [px_up_na (by decide)]; exact r3 c hc, by rw [px_up_na (by decide)]; exact r4, by rw [px_up_na (by decide)]; exact r5⟩, by rw [px_up_na (by decide)]; exact r6⟩
theorem pw_cfr.l61 {i j k : Nat} {v : Int32} {h1 : ix_H} (f : pw_cfr i j h h1) (hk : i ≤ k) (hk2 : k < j) : pw_cfr i j h (ix_up h1 61 k v) := f.tr ⟨px_fr.rf.up (by decide), fun _ _ _ => by rw [px_up_na (by decide)], fun m hm => px_up_nk (by omega)⟩
theorem pw_cx_it {i j n : Nat} {P : ix_H → Prop} {D : pw_s → pw_s} {Q : ix_R → Prop} {h0 : ix_H} {s0 : pw_s} (hij : i < j) (hj : j < 150) (hn : n ≤ 150) (hjn : j < n) (p : pw_rP (i + 1) j P) (hD : pw_D B D) (x : pw_cx cs N B T hd fd pt (i + 1) j P D) : ∀ (t : Nat) (h : ix_H) (s : pw_s) (tick : Nat), 1 ≤ t → t ≤ 40 → pw_cE cs N B T hd fd pt h → P h → h 58 j = nI 8 → h 59 j = nI i → h 57 4 = nI n → h 61 i = nI t → pw_so B s → pw_cst s h → tick + t ≤ 41 * s.1.1 →
    (∀ h' tick', pw_cfr i (j + 1) h h' → pw_cst (pw_it D t s) h' → tick' ≤ tick + t + 41 * ((pw_it D t s).1.1 - s.1.1) → px_R px_E 6 mo_97 [] 12 [.ref 57, .ref 64, .ref 62, .int (nI (pw_it D t s).1.1), .int (nI (j + 1)), .int (nI tick')] [] h' 0 Q) →
    (∀ h', pw_cfr i (j + 1) h h' → pw_cst (pw_it D t s) h' → (pw_it D t s).1.1 = 200 → Q (.inl none, h', 0)) →
    px_R px_E 6 mo_97 [] 12 [.ref 57, .ref 64, .ref 62, .int (nI s.1.1), .int (nI (i + 1)), .int (nI tick)] [] h 0 Q := by
  intro t
  induction t with
  | zero => intro h s tick h1; omega
  | succ t ih =>
    intro h s tick ht1 ht E q e1 e2 n4 l so st hk H HS
    obtain ⟨so1, le1⟩ := hD.2 s so
    rw [pw_it] at H HS
    refine x h s tick Q E q ⟨n, hn, by omega, n4⟩ so st (by omega) (fun h1 t1 f1 st1 ht1 => ?_) (fun h1 f1 st1 e3 => ?_)
    · have g1 : h1 58 j = nI 8 := by rw [f1.1 58 (by decide)]; exact e1
      have g2 : h1 59 j = nI i := by rw [f1.1 59 (by decide)]; exact e2
      have g4 : h1 57 4 = nI n := by rw [f1.2.1 4 (by decide) (by decide)]; exact n4
      have gl : h1 61 i = nI (t + 1) := by rw [f1.2.2 i (by omega)]; exact l
      have b200 := so1.1
      refine w_iL (j := 13) rfl rfl rfl ?_
      refine w_lc (j := 14) (a := nI 100000) rfl rfl (by decide) ?_
      refine w_geN (j := 15) rfl rfl (by omega) (by omega) (fun c => absurd c (fun c => by omega)) (fun _ => ?_)
      refine w_iL (j := 16) rfl rfl rfl ?_
      refine w_ltM (j := 17) rfl rfl (by omega) ?_
      refine w_iL (j := 18) rfl rfl rfl ?_
      refine w_al (j := 19) rfl rfl rfl ?_
      first | refine w_gr (j := 20) rfl rfl (by first | assumption | rfl) (by first | assumption | rfl) rfl ?_ | refine w_gi (j := 20) rfl rfl (by first | assumption | rfl) (by first | assumption | rfl) rfl g4 ?_
      refine w_geN (j := 21) rfl rfl (by omega) (by omega) (fun c => absurd c (fun c => by omega)) (fun _ => ?_)
      refine w_al (j := 22) rfl rfl rfl ?_
      first | refine w_gr (j := 23) rfl rfl (by first | assumption | rfl) (by first | assumption | rfl) rfl ?_ | refine w_gi (j := 23) rfl rfl (by first | assumption | rfl) (by first | assumption | rfl) rfl rfl ?_
      refine w_iL (j := 24) rfl rfl rfl ?_
      refine w_ial (j := 25) rfl rfl (by first | assumption | rfl) rfl (by omega) rfl g1 ?_
      refine w_bi (j := 26) (a := nI 8) rfl rfl (by decide) ?_
      refine w_neN (j := 27) rfl rfl (by omega) (by omega) (fun c => absurd c (fun z => z rfl)) (fun _ => ?_)
      refine w_al (j := 28) rfl rfl rfl ?_
      refine w_iL (j := 29) rfl rfl rfl ?_
      refine w_cvI (j := 30) rfl rfl rfl rfl (by first | assumption | rfl) rfl rfl (sp_99 (i := i) (l := t + 1) (by omega) hj (by omega) ht g2 gl) rfl ?_
      rw [Nat.add_sub_cancel]
      have F : pw_cfr i (j + 1) h (ix_up h1 61 i (nI t)) := (f1.wd (by omega) (by omega)).l61 (by omega) (by omega)
      by_cases t0 : t = 0
      · subst t0
        rw [if_neg (by decide)]
        refine w_iS (j := 31) rfl rfl rfl ?_
        refine w_go rfl ?_
        first | refine w_incN (j := 54) rfl rfl rfl ?_ | refine w_inc (j := 54) rfl rfl rfl rfl ?_
        refine w_go rfl ?_
        exact H _ (t1 + 1) F st1.l61 (by show t1 + 1 ≤ tick + (0 + 1) + 41 * ((pw_it D 0 (D s)).1.1 - s.1.1); rw [pw_it]; omega)
      · rw [if_pos (by omega)]
        refine w_iS (j := 31) rfl rfl rfl ?_
        refine w_go rfl ?_
        first | refine w_incN (j := 54) rfl rfl rfl ?_ | refine w_inc (j := 54) rfl rfl rfl rfl ?_
        refine w_go rfl ?_
        obtain ⟨so2, le2⟩ := pw_it_so hD t (D s) so1
        refine ih _ (D s) (t1 + 1) (by omega) (by omega) (E.fr F) (p.fr F q) ?_ ?_ ?_ px_up_at so1 st1.l61 (by omega) (fun h2 t2 f2 st2 ht2 => H h2 t2 (F.tr f2) st2 (by omega)) (fun h2 f2 st2 e5 => HS h2 (F.tr f2) st2 e5)
        · rw [px_up_na (by decide)]; exact g1
        · rw [px_up_na (by decide)]; exact g2
        · rw [px_up_na (by decide)]; exact g4
    · have fx := pw_it_fix hD t (D s) (by omega)
      refine HS h1 (f1.wd (by omega) (by omega)) ?_ ?_
      · rw [fx]; exact st1
      · rw [fx]; exact e3
theorem pw_cx_ag {i j t : Nat} {P : ix_H → Prop} {D : pw_s → pw_s} (hij : i < j) (hj : j < 150) (ht : t ≤ 40) (p : pw_rP (i + 1) j P) (hD : pw_D B D) (x : pw_cx cs N B T hd fd pt (i + 1) j P D) : pw_cx cs N B T hd fd pt i (j + 1) (fun h => P h ∧ h 58 i = nI 7 ∧ h 59 i = nI t ∧ h 60 i = nI j ∧ h 58 j = nI 8 ∧ h 59 j = nI i) (pw_ag t D) := by
  rintro h s tick Q E ⟨q, r1, r2, r3, e1, e2⟩ ⟨n, n1, n2, n4⟩ so st hk H HS
  have so' := so
  obtain ⟨so1, so2, so3, so4⟩ := so
  refine w_iL (j := 13) rfl rfl rfl ?_
  refine w_lc (j := 14) (a := nI 100000) rfl rfl (by decide) ?_
  refine w_geN (j := 15) rfl rfl (by omega) (by omega) (fun c => absurd c (fun c => by omega)) (fun _ => ?_)
  refine w_iL (j := 16) rfl rfl rfl ?_
  refine w_ltM (j := 17) rfl rfl (by omega) ?_
  refine w_iL (j := 18) rfl rfl rfl ?_
  refine w_al (j := 19) rfl rfl rfl ?_
  first | refine w_gr (j := 20) rfl rfl (by first | assumption | rfl) (by first | assumption | rfl) rfl ?_ | refine w_gi (j := 20) rfl rfl (by first | assumption | rfl) (by first | assumption | rfl) rfl n4 ?_
  refine w_geN (j := 21) rfl rfl (by omega) (by omega) (fun c => absurd c (fun c => by omega)) (fun _ => ?_)
  refine w_al (j := 22) rfl rfl rfl ?_
  first | refine w_gr (j := 23) rfl rfl (by first | assumption | rfl) (by first | assumption | rfl) rfl ?_ | refine w_gi (j := 23) rfl rfl (by first | assumption | rfl) (by first | assumption | rfl) rfl rfl ?_
  refine w_iL (j := 24) rfl rfl rfl ?_
  refine w_ial (j := 25) rfl rfl (by first | assumption | rfl) rfl (by omega) rfl r1 ?_
  refine w_bi (j := 26) (a := nI 8) rfl rfl (by decide) ?_
  refine w_neN (j := 27) rfl rfl (by omega) (by omega) (fun _ => ?_) (fun c => absurd c (fun c => by omega))
  refine w_il (j := 33) rfl rfl rfl ?_
  refine w_si (j := 34) (a := nI 200) rfl rfl (by decide) ?_
  unfold pw_ag at H HS
  by_cases c : s.1.1 < 200
  · rw [if_pos c] at H HS
    refine w_ltN (j := 35) rfl rfl (by omega) (by omega) (fun _ => ?_) (fun c => absurd c (fun c => by omega))
    first | refine w_incN (j := 37) rfl rfl rfl ?_ | refine w_inc (j := 37) rfl rfl rfl rfl ?_
    refine w_al (j := 38) rfl rfl rfl ?_
    first | refine w_gr (j := 39) rfl rfl (by first | assumption | rfl) (by first | assumption | rfl) rfl ?_ | refine w_gi (j := 39) rfl rfl (by first | assumption | rfl) (by first | assumption | rfl) rfl rfl ?_
    refine w_iL (j := 40) rfl rfl rfl ?_
    refine w_ial (j := 41) rfl rfl (by first | assumption | rfl) rfl (by omega) rfl r1 ?_
    refine w_bi (j := 42) (a := nI 7) rfl rfl (by decide) ?_
    refine w_neN (j := 43) rfl rfl (by omega) (by omega) (fun c => absurd c (fun z => z rfl)) (fun _ => ?_)
    refine w_al (j := 44) rfl rfl rfl ?_
    refine w_iL (j := 45) rfl rfl rfl ?_
    refine w_cvI (j := 46) rfl rfl rfl rfl (by first | assumption | rfl) rfl rfl (sp_98 (t := t) (e := j) (by omega) ht (by omega) r2 r3) rfl ?_
    have so5 : pw_so B ((s.1.1 + 1, s.1.2), s.2) := ⟨by show s.1.1 + 1 ≤ 200; omega, by show s.1.2.1 ≤ s.1.1 + 1; omega, by show s.1.2.2 ≤ s.1.1 + 1; omega, so4⟩
    have F : pw_cfr i (j + 1) h (ix_up h 61 i (nI t)) := pw_cfr.rf.l61 (by omega) (by omega)
    have st5 : pw_cst ((s.1.1 + 1, s.1.2), s.2) (ix_up h 61 i (nI t)) := pw_cst.l61 (s := ((s.1.1 + 1, s.1.2), s.2)) st
    obtain ⟨so6, le6⟩ := pw_it_so hD t _ so5
    have le7 : s.1.1 + 1 ≤ (pw_it D t ((s.1.1 + 1, s.1.2), s.2)).1.1 := le6
    by_cases t0 : 0 < t
    · rw [if_pos t0]
      refine w_go rfl ?_
      refine w_iS (j := 53) rfl rfl rfl ?_
      first | refine w_incN (j := 54) rfl rfl rfl ?_ | refine w_inc (j := 54) rfl rfl rfl rfl ?_
      refine w_go rfl ?_
      refine pw_cx_it (h0 := h) (s0 := s) hij hj n1 (by omega) p hD x t _ ((s.1.1 + 1, s.1.2), s.2) (tick + 1) (by omega) ht (E.fr F) (p.fr F q) ?_ ?_ ?_ px_up_at so5 st5 (by show tick + 1 + t ≤ 41 * (s.1.1 + 1); omega) (fun h2 t2 f2 st2 ht2 => H h2 t2 (F.tr f2) st2 ?_) (fun h2 f2 st2 e5 => HS h2 (F.tr f2) st2 e5)
      · rw [px_up_na (by decide)]; exact e1
      · rw [px_up_na (by decide)]; exact e2
      · rw [px_up_na (by decide)]; exact n4
      · have ht3 : t2 ≤ tick + 1 + t + 41 * ((pw_it D t ((s.1.1 + 1, s.1.2), s.2)).1.1 - (s.1.1 + 1)) := ht2
        omega
    · rw [if_neg t0]
      obtain rfl : t = 0 := by omega
      refine w_go rfl ?_
      refine w_iS (j := 53) rfl rfl rfl ?_
      first | refine w_incN (j := 54) rfl rfl rfl ?_ | refine w_inc (j := 54) rfl rfl rfl rfl ?_
      refine w_go rfl ?_
      exact H _ (tick + 1) F st5 (by show tick + 1 ≤ tick + 41 * (s.1.1 + 1 - s.1.1); omega)
  · rw [if_neg c] at H HS
    refine w_ltN (j := 35) rfl rfl (by omega) (by omega) (fun c => absurd c (fun c => by omega)) (fun _ => ?_)
    refine w_rt rfl ?_
    exact HS h pw_cfr.rf st (by omega)
end PW
