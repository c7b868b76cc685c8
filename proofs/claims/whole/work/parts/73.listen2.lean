section LI
variable {h : ix_H} {B N T L W I t : Nat} {cs : List (Nat × Nat)}
def px_ml (h h2 : ix_H) (cs : List (Nat × Nat)) (l : List (Nat × Nat)) : Prop := (∀ q, q ≠ 494 → q ≠ 495 → (q < 602 ∨ 651 < q) → h2 q = h q) ∧ ∀ i p, l[i]? = some p → ∀ k, k < 41 → h2 (604 + i) k = pf_sA h cs p.1 p.2 k
theorem px_mlk {h2 : ix_H} {l : List (Nat × Nat)} (R : px_ml h h2 cs l) : px_kp h h2 ∧ h2 100 = h 100 := by
  refine ⟨⟨fun a ha => ?_, fun j _ => by rw [R.1 100 (by decide) (by decide) (by decide)]⟩, R.1 100 (by decide) (by decide) (by decide)⟩
  have := of_decide_eq_true ha
  exact R.1 a (by omega) (by omega) (by omega)
theorem pf_lsn_kp {h h' : ix_H} {m : Nat} (k : px_kp h h') : pf_lsn h' cs L B N m = pf_lsn h cs L B N m := by
  have e : ∀ l n, pf_lis h' cs L l (nI 0) n = pf_lis h cs L l (nI 0) n := fun l n => px_fold_congr n _ (fun a s ha => by
    unfold pf_l1 pf_td
    rw [k.1 52 (by decide), show pf_qq h' cs l a = pf_qq h cs l a from funext (fun i => by unfold pf_qq; rw [pf_sA_kp k])])
  unfold pf_lsn
  rw [pf_fitG k, e]
theorem M_listen {m : Nat} (hI : px_I h B N T cs L W I t) (hm : m ≤ 1) : px_PI 9 231 [.ref 100, .int (nI m)] h (fun w h2 => w = pf_lsn h cs L B N m ∧ h2 100 0 = nI 0 ∧ px_kp h h2) := by
  refine px_M (M := mt_231) (ops := mo_231) tb_231 rfl rfl rfl rfl rfl ?_
  refine w_al (j := 1) rfl rfl rfl ?_
  refine w_ic (n := 0) (j := 2) rfl rfl ?_
  refine w_pf (j := 3) rfl rfl (by first | assumption | rfl) (by first | assumption | rfl) rfl ?_
  obtain ⟨I1, k1, t0⟩ := px_thr (v := nI 0) hI
  generalize ix_up h 100 0 (nI 0) = h1 at I1 k1 t0 ⊢
  rw [← pf_lsn_kp k1]
  have I1' := I1
  obtain ⟨⟨l1, l2, l3, l4, l5, l6, l7, l8, l9, l10, l11, l12, l13, l14, l15⟩, lw, ln, nw, -⟩ := I1
  refine w_al (j := 4) rfl rfl rfl ?_
  refine w_il (j := 5) rfl rfl rfl ?_
  refine w_ic (n := 0) (j := 6) rfl rfl ?_
  refine w_ic (n := 1) (j := 7) rfl rfl ?_
  refine w_csI (j := 8) rfl rfl rfl rfl rfl (sp_155) rfl ?_
  rw [px_ofN hm (by decide)]
  refine w_neB (j := 9) rfl rfl (fun _ => ?_) (fun c => absurd c (by simp))
  refine w_ic (n := 0) (j := 12) rfl rfl ?_
  refine w_ic (n := 1) (j := 13) rfl rfl ?_
  refine w_ic (n := 1) (j := 14) rfl rfl ?_
  refine w_cvI (j := 15) rfl rfl rfl rfl (by first | assumption | rfl) rfl rfl (sp_154f t0) rfl ?_
  refine w_eqB (j := 16) rfl rfl (fun _ => ?_) (fun c => absurd c (by simp))
  refine w_ic (n := 0) (j := 19) rfl rfl ?_
  refine w_is (j := 20) rfl rfl rfl ?_
  refine w_im (j := 21) rfl rfl ?_
  refine w_is (j := 22) rfl rfl rfl ?_
  refine w_im (j := 23) rfl rfl ?_
  refine w_iS (j := 24) rfl rfl rfl ?_
  refine w_ic (n := 0) (j := 25) rfl rfl ?_
  refine w_iS (j := 26) rfl rfl rfl ?_
  refine px_forI (fun c ls h2 => (∃ g1 g2 g3, ls = [.ref 100, .int (nI m), .int (nI (pf_pl (pf_fit h1 cs L) B c).length), .int (-1), .int (-1), .int (nI c), g1, g2, g3]) ∧ px_ml h1 h2 cs (pf_pl (pf_fit h1 cs L) B c)) N ?_ ?_ ⟨⟨_, _, _, rfl⟩, fun _ _ _ _ => rfl, fun i p hi => by simp [pf_pl, px_fold] at hi⟩
  · rintro c _ h2 hc ⟨⟨g1, g2, g3, rfl⟩, R⟩ H
    have e1 : h2 104 1 = nI N := by rw [R.1 104 (by decide) (by decide) (by decide)]; exact l5
    have len := pf_pl_len (G := pf_fit h1 cs L) l3 c
    rw [pf_pl_s] at H
    generalize pf_pl (pf_fit h1 cs L) B c = l at H len R ⊢
    refine w_iL (j := 27) rfl rfl rfl ?_
    refine w_al (j := 28) rfl rfl rfl ?_
    first | refine w_gr (j := 29) rfl rfl (by first | assumption | rfl) (by first | assumption | rfl) rfl ?_ | refine w_gi (j := 29) rfl rfl (by first | assumption | rfl) (by first | assumption | rfl) rfl rfl ?_
    refine w_ic (n := 1) (j := 30) rfl rfl ?_
    refine w_ial (j := 31) rfl rfl (by first | assumption | rfl) rfl (by omega) rfl e1 ?_
    refine w_geN (j := 32) rfl rfl (by omega) (by omega) (fun c => absurd c (fun c => by omega)) (fun _ => ?_)
    refine w_ic (n := 0) (j := 33) rfl rfl ?_
    refine w_iS (j := 34) rfl rfl rfl ?_
    refine px_forI (fun b ls h3 => (∃ g2 g3, ls = [.ref 100, .int (nI m), .int (nI (pf_pl1 (pf_fit h1 cs L) c b l).length), .int (-1), .int (-1), .int (nI c), .int (nI b), g2, g3]) ∧ px_ml h1 h3 cs (pf_pl1 (pf_fit h1 cs L) c b l)) B ?_ ?_ ⟨⟨_, _, rfl⟩, R⟩
    · rintro b _ h3 hb ⟨⟨g2, g3, rfl⟩, R3⟩ H2
      have e0 : h3 104 0 = nI B := by rw [R3.1 104 (by decide) (by decide) (by decide)]; exact l2
      have len2 := pf_pl1_len (G := pf_fit h1 cs L) (c := c) (l := l) b
      have k3 := (px_mlk R3).1
      rw [pf_pl1_s] at H2
      generalize pf_pl1 (pf_fit h1 cs L) c b l = l2 at H2 len2 R3 ⊢
      have s604 := sh_604 l2.length (by omega)
      have s129 := sh_129 c (by omega)
      refine w_iL (j := 35) rfl rfl rfl ?_
      refine w_al (j := 36) rfl rfl rfl ?_
      first | refine w_gr (j := 37) rfl rfl (by first | assumption | rfl) (by first | assumption | rfl) rfl ?_ | refine w_gi (j := 37) rfl rfl (by first | assumption | rfl) (by first | assumption | rfl) rfl rfl ?_
      refine w_ic (n := 0) (j := 38) rfl rfl ?_
      refine w_ial (j := 39) rfl rfl (by first | assumption | rfl) rfl (by omega) rfl e0 ?_
      refine w_geN (j := 40) rfl rfl (by omega) (by omega) (fun c => absurd c (fun c => by omega)) (fun _ => ?_)
      refine w_al (j := 41) rfl rfl rfl ?_
      refine w_iL (j := 42) rfl rfl rfl ?_
      refine w_iL (j := 43) rfl rfl rfl ?_
      refine w_cvPI (j := 44) rfl rfl rfl rfl (by first | assumption | rfl) rfl rfl (sp_228 (I1'.kp k3) hc hb) rfl ?_
      rintro v h4 ⟨q1, q2⟩
      rw [pf_fit_kp k3] at q1
      subst q1
      have R4 : px_ml h1 h4 cs l2 := ⟨fun q q3 q4 q5 => by rw [q2 q (by simp; omega)]; exact R3.1 q q3 q4 q5, fun i p hi k hk => by rw [q2 _ (by simp; have := (List.getElem?_eq_some_iff.mp hi).1; omega)]; exact R3.2 i p hi k hk⟩
      cases hG : pf_fit h1 cs L c b with
      | false =>
        rw [hG, if_neg (by decide)] at H2
        refine w_neB (j := 45) rfl rfl (fun c => absurd c (by simp)) (fun _ => ?_)
        refine w_go rfl ?_
        first | refine w_incN (j := 82) rfl rfl rfl ?_ | refine w_inc (j := 82) rfl rfl rfl rfl ?_
        refine w_go rfl ?_
        exact H2 _ _ ⟨⟨_, _, rfl⟩, R4⟩
      | true =>
        rw [hG, if_pos rfl, List.length_append, List.length_singleton] at H2
        have e7 : h4 (129 + c) 1 = h1 7 c := by rw [R4.1 (129 + c) (by omega) (by omega) (by omega)]; exact (l13 c hc).2.2.1.symm
        refine w_neB (j := 45) rfl rfl (fun _ => ?_) (fun c => absurd c (by simp))
        refine w_al (j := 47) rfl rfl rfl ?_
        first | refine w_gr (j := 48) rfl rfl (by first | assumption | rfl) (by first | assumption | rfl) rfl ?_ | refine w_gi (j := 48) rfl rfl (by first | assumption | rfl) (by first | assumption | rfl) rfl rfl ?_
        refine w_iL (j := 49) rfl rfl rfl ?_
        refine w_aal (j := 50) rfl rfl (by first | assumption | rfl) rfl (by omega) rfl ?_
        refine w_ic (n := 1) (j := 51) rfl rfl ?_
        refine w_ial (j := 52) rfl rfl (by first | assumption | rfl) rfl (by omega) rfl e7 ?_
        refine w_iS (j := 53) rfl rfl rfl ?_
        refine w_ic (n := 0) (j := 54) rfl rfl ?_
        refine w_iS (j := 55) rfl rfl rfl ?_
        refine px_forI (fun k ls h5 => ls = [.ref 100, .int (nI m), .int (nI l2.length), .int (-1), .int (-1), .int (nI c), .int (nI b), .int (pf_sA h1 cs c b k), .int (nI k)] ∧ px_ml h1 h5 cs l2 ∧ ∀ j, j < k → h5 (604 + l2.length) j = pf_sA h1 cs c b j) 41 ?_ ?_ ⟨rfl, R4, fun j hj => by omega⟩
        · rintro k _ h5 hk ⟨rfl, R5, e5⟩ H3
          have R6 : px_ml h1 (ix_up h5 (604 + l2.length) k (pf_sA h1 cs c b k)) cs l2 := ⟨fun q q3 q4 q5 => by rw [ix_up_ne (by omega)]; exact R5.1 q q3 q4 q5, fun i p hi k' hk' => by rw [px_up_na (by have := (List.getElem?_eq_some_iff.mp hi).1; omega)]; exact R5.2 i p hi k' hk'⟩
          have I6 := I1'.kp (px_mlk R6).1
          refine w_iL (j := 56) rfl rfl rfl ?_
          refine w_bi (j := 57) (a := nI 40) rfl rfl (by decide) ?_
          refine w_gtN (j := 58) rfl rfl (by omega) (by omega) (fun c => absurd c (fun c => by omega)) (fun _ => ?_)
          refine w_al (j := 59) rfl rfl rfl ?_
          first | refine w_gr (j := 60) rfl rfl (by first | assumption | rfl) (by first | assumption | rfl) rfl ?_ | refine w_gi (j := 60) rfl rfl (by first | assumption | rfl) (by first | assumption | rfl) rfl rfl ?_
          refine w_il (j := 61) rfl rfl rfl ?_
          refine w_aal (j := 62) rfl rfl (by first | assumption | rfl) rfl (by omega) rfl ?_
          refine w_iL (j := 63) rfl rfl rfl ?_
          refine w_iL (j := 64) rfl rfl rfl ?_
          refine w_ias (j := 65) rfl rfl (by first | assumption | rfl) rfl (by omega) rfl ?_
          refine w_iL (j := 66) rfl rfl rfl ?_
          refine w_al (j := 67) rfl rfl rfl ?_
          refine w_al (j := 68) rfl rfl rfl ?_
          first | refine w_gr (j := 69) rfl rfl (by first | assumption | rfl) (by first | assumption | rfl) rfl ?_ | refine w_gi (j := 69) rfl rfl (by first | assumption | rfl) (by first | assumption | rfl) rfl rfl ?_
          refine w_iL (j := 70) rfl rfl rfl ?_
          refine w_iL (j := 71) rfl rfl rfl ?_
          refine w_ic (n := 0) (j := 72) rfl rfl ?_
          refine w_iL (j := 73) rfl rfl rfl ?_
          refine w_iL (j := 74) rfl rfl rfl ?_
          refine w_iL (j := 75) rfl rfl rfl ?_
          refine w_cvPI (j := 76) rfl rfl rfl rfl (by first | assumption | rfl) rfl rfl (sp_199 px_Rw577 (by omega) (by omega) I6.2.1.2.1 I6.2.1.2.2) rfl ?_
          rintro v h7 ⟨e1, f1⟩
          rw [R6.1 (113 + b) (by omega) (by omega) (by omega), R6.1 (129 + c) (by omega) (by omega) (by omega), R6.1 577 (by decide) (by decide) (by decide), ← (l12 b hb).1, ← (l13 c hc).1, ← nw.2.2.2.2.1 b (by omega)] at e1
          refine w_sub (j := 77) rfl rfl ?_
          refine w_iS (j := 78) rfl rfl rfl ?_
          first | refine w_incN (j := 79) rfl rfl rfl ?_ | refine w_inc (j := 79) rfl rfl rfl rfl ?_
          refine w_go rfl ?_
          refine H3 _ _ ⟨by rw [pf_sA, ← e1]; rfl, ⟨fun q q3 q4 q5 => by rw [f1 q (by simp; omega)]; exact R6.1 q q3 q4 q5, fun i p hi k' hk' => by rw [f1 _ (by simp; have := (List.getElem?_eq_some_iff.mp hi).1; omega)]; exact R6.2 i p hi k' hk'⟩, fun j hj => ?_⟩
          rw [f1 _ (by simp; omega)]
          by_cases hjk : j = k
          · subst hjk; rw [px_up_at]
          · rw [px_up_nk hjk]; exact e5 j (by omega)
        · rintro _ h5 ⟨rfl, R5, e5⟩
          refine w_iL (j := 56) rfl rfl rfl ?_
          refine w_bi (j := 57) (a := nI 40) rfl rfl (by decide) ?_
          refine w_gtN (j := 58) rfl rfl (by omega) (by omega) (fun _ => ?_) (fun c => absurd c (fun c => by omega))
          first | refine w_incN (j := 81) rfl rfl rfl ?_ | refine w_inc (j := 81) rfl rfl rfl rfl ?_
          first | refine w_incN (j := 82) rfl rfl rfl ?_ | refine w_inc (j := 82) rfl rfl rfl rfl ?_
          refine w_go rfl ?_
          refine H2 _ _ ⟨⟨_, _, rfl⟩, R5.1, fun i p hi k hk => ?_⟩
          by_cases hil : i < l2.length
          · rw [List.getElem?_append_left hil] at hi
            exact R5.2 i p hi k hk
          · rw [List.getElem?_append_right (by omega)] at hi
            have : i = l2.length := by
              rcases Nat.lt_or_ge (i - l2.length) 1 with z | z
              · omega
              · rw [List.getElem?_eq_none (by simpa using z)] at hi; cases hi
            subst this
            rw [Nat.sub_self] at hi
            cases hi
            exact e5 k hk
    · rintro _ h3 ⟨⟨g2, g3, rfl⟩, R3⟩
      have e0 : h3 104 0 = nI B := by rw [R3.1 104 (by decide) (by decide) (by decide)]; exact l2
      refine w_iL (j := 35) rfl rfl rfl ?_
      refine w_al (j := 36) rfl rfl rfl ?_
      first | refine w_gr (j := 37) rfl rfl (by first | assumption | rfl) (by first | assumption | rfl) rfl ?_ | refine w_gi (j := 37) rfl rfl (by first | assumption | rfl) (by first | assumption | rfl) rfl rfl ?_
      refine w_ic (n := 0) (j := 38) rfl rfl ?_
      refine w_ial (j := 39) rfl rfl (by first | assumption | rfl) rfl (by omega) rfl e0 ?_
      refine w_geN (j := 40) rfl rfl (by omega) (by omega) (fun _ => ?_) (fun c => absurd c (fun c => by omega))
      first | refine w_incN (j := 84) rfl rfl rfl ?_ | refine w_inc (j := 84) rfl rfl rfl rfl ?_
      refine w_go rfl ?_
      exact H _ _ ⟨⟨_, _, _, rfl⟩, R3⟩
  · rintro _ h2 ⟨⟨g1, g2, g3, rfl⟩, R⟩
    have e1 : h2 104 1 = nI N := by rw [R.1 104 (by decide) (by decide) (by decide)]; exact l5
    have len := pf_pl_len (G := pf_fit h1 cs L) l3 N
    have mem := pf_pl_mem (G := pf_fit h1 cs L) (B := B) N
    have ew : ∀ m, pf_lsn h1 cs L B N m = if m = 0 then (pf_lis h1 cs L (pf_pl (pf_fit h1 cs L) B N) (-1) 41).1 else (pf_lis h1 cs L (pf_pl (pf_fit h1 cs L) B N) (-1) 41).2 := fun m => by rw [pf_lsn, pf_lis_eq ln (nI 0) (-1)]
    generalize pf_pl (pf_fit h1 cs L) B N = l at R ew len mem ⊢
    have fq : ∀ a i, i < l.length → a < 41 → ∀ h3, px_ml h1 h3 cs l → pf_qq h1 cs l a i ≤ 99 ∧ h3 (604 + i) a = nI (pf_qq h1 cs l a i) := by
      intro a i hi ha h3 R3
      have e : l[i]? = some l[i] := List.getElem?_eq_getElem hi
      obtain ⟨m1, m2⟩ := mem _ (List.getElem_mem hi)
      obtain ⟨q, hq1, hq2, eq⟩ := (l13 _ m1).2.2.2
      obtain ⟨q', h1', h2'⟩ := pf_sAN (cs := cs) (b := l[i].2) hq2 eq a
      rw [pf_qq_at e, R3.2 i _ e a ha, h2', nI_clamp (by omega)]
      exact ⟨h1', rfl⟩
    refine w_iL (j := 27) rfl rfl rfl ?_
    refine w_al (j := 28) rfl rfl rfl ?_
    first | refine w_gr (j := 29) rfl rfl (by first | assumption | rfl) (by first | assumption | rfl) rfl ?_ | refine w_gi (j := 29) rfl rfl (by first | assumption | rfl) (by first | assumption | rfl) rfl rfl ?_
    refine w_ic (n := 1) (j := 30) rfl rfl ?_
    refine w_ial (j := 31) rfl rfl (by first | assumption | rfl) rfl (by omega) rfl e1 ?_
    refine w_geN (j := 32) rfl rfl (by omega) (by omega) (fun _ => ?_) (fun c => absurd c (fun c => by omega))
    refine w_ic (n := 0) (j := 86) rfl rfl ?_
    refine w_iS (j := 87) rfl rfl rfl ?_
    refine px_forI (fun a ls h3 => (∃ g2 g3 g4, ls = [.ref 100, .int (nI m), .int (nI l.length), .int (pf_lis h1 cs L l (-1) a).1, .int (pf_lis h1 cs L l (-1) a).2, .int (nI a), g2, g3, g4]) ∧ px_ml h1 h3 cs l) 41 ?_ ?_ ⟨⟨_, _, _, rfl⟩, R⟩
    · rintro a _ h3 ha ⟨⟨g2, g3, g4, rfl⟩, R3⟩ H
      have st : pf_lis h1 cs L l (-1) (a + 1) = pf_l1 h1 cs L l a (pf_lis h1 cs L l (-1) a) := rfl
      rw [st] at H
      generalize pf_lis h1 cs L l (-1) a = s at H ⊢
      have td : pf_td h3 L a = pf_td h1 L a := by unfold pf_td; rw [(px_mlk R3).1.1 52 (by decide)]
      have S230 := sp_230 (h := h3) (a := a) (I1'.kp (px_mlk R3).1).2.2.1
      rw [td] at S230
      refine w_iL (j := 88) rfl rfl rfl ?_
      refine w_bi (j := 89) (a := nI 40) rfl rfl (by decide) ?_
      refine w_gtN (j := 90) rfl rfl (by omega) (by omega) (fun c => absurd c (fun c => by omega)) (fun _ => ?_)
      refine w_al (j := 91) rfl rfl rfl ?_
      refine w_iL (j := 92) rfl rfl rfl ?_
      refine w_cvI (j := 93) rfl rfl rfl rfl (by first | assumption | rfl) rfl rfl (S230) rfl ?_
      cases hT : pf_td h1 L a with
      | true =>
        rw [pf_l1, hT, if_pos rfl] at H
        refine w_eqB (j := 94) rfl rfl (fun c => absurd c (by simp)) (fun _ => ?_)
        refine w_go rfl ?_
        first | refine w_incN (j := 153) rfl rfl rfl ?_ | refine w_inc (j := 153) rfl rfl rfl rfl ?_
        refine w_go rfl ?_
        exact H _ _ ⟨⟨_, _, _, rfl⟩, R3⟩
      | false =>
        rw [pf_l1, hT, if_neg (show ¬ false = true by decide)] at H
        refine w_eqB (j := 94) rfl rfl (fun _ => ?_) (fun c => absurd c (by simp))
        refine w_ic (n := 0) (j := 96) rfl rfl ?_
        refine w_iS (j := 97) rfl rfl rfl ?_
        refine w_ic (n := 0) (j := 98) rfl rfl ?_
        refine w_iS (j := 99) rfl rfl rfl ?_
        refine px_forI (fun j ls h4 => (∃ g, ls = [.ref 100, .int (nI m), .int (nI l.length), .int s.1, .int s.2, .int (nI a), .int (nI 0), .int (nI j), g]) ∧ px_ml h1 h4 cs l ∧ ∀ j', j' < j → h4 602 j' = nI 0) 100 ?_ ?_ ⟨⟨_, rfl⟩, R3, fun j hj => by omega⟩
        · rintro j _ h4 hj ⟨⟨g, rfl⟩, R4, ez⟩ H2
          refine w_iL (j := 100) rfl rfl rfl ?_
          refine w_bi (j := 101) (a := nI 99) rfl rfl (by decide) ?_
          refine w_gtN (j := 102) rfl rfl (by omega) (by omega) (fun c => absurd c (fun c => by omega)) (fun _ => ?_)
          refine w_al (j := 103) rfl rfl rfl ?_
          first | refine w_gr (j := 104) rfl rfl (by first | assumption | rfl) (by first | assumption | rfl) rfl ?_ | refine w_gi (j := 104) rfl rfl (by first | assumption | rfl) (by first | assumption | rfl) rfl rfl ?_
          refine w_iL (j := 105) rfl rfl rfl ?_
          refine w_ic (n := 0) (j := 106) rfl rfl ?_
          refine w_ias (j := 107) rfl rfl (by first | assumption | rfl) rfl (by omega) rfl ?_
          first | refine w_incN (j := 108) rfl rfl rfl ?_ | refine w_inc (j := 108) rfl rfl rfl rfl ?_
          refine w_go rfl ?_
          refine H2 _ _ ⟨⟨_, rfl⟩, ⟨fun q q3 q4 q5 => by rw [ix_up_ne (by omega)]; exact R4.1 q q3 q4 q5, fun i p hi k hk => by rw [px_up_na (by omega)]; exact R4.2 i p hi k hk⟩, fun j' hj' => ?_⟩
          by_cases hjj : j' = j
          · subst hjj; rw [px_up_at]
          · rw [px_up_nk hjj]; exact ez j' (by omega)
        · rintro _ h4 ⟨⟨g, rfl⟩, R4, ez⟩
          refine w_iL (j := 100) rfl rfl rfl ?_
          refine w_bi (j := 101) (a := nI 99) rfl rfl (by decide) ?_
          refine w_gtN (j := 102) rfl rfl (by omega) (by omega) (fun _ => ?_) (fun c => absurd c (fun c => by omega))
          refine w_ic (n := 0) (j := 110) rfl rfl ?_
          refine w_iS (j := 111) rfl rfl rfl ?_
          refine px_forI (fun i ls h5 => (∃ g, ls = [.ref 100, .int (nI m), .int (nI l.length), .int s.1, .int s.2, .int (nI a), .int (nI (pf_ws (pf_qq h1 cs l a) i).2), .int (nI i), g]) ∧ px_ml h1 h5 cs l ∧ ∀ j, j < 100 → h5 602 j = nI ((pf_ws (pf_qq h1 cs l a) i).1 j)) l.length ?_ ?_ ⟨⟨_, rfl⟩, R4, fun j hj => ez j hj⟩
          · rintro i _ h5 hi ⟨⟨g, rfl⟩, R5, et⟩ H2
            have s604 := sh_604 i (by omega)
            obtain ⟨f1, f2⟩ := fq a i hi ha h5 R5
            have b1 := (pf_ws_le (f := pf_qq h1 cs l a) i).1 (pf_qq h1 cs l a i)
            have b2 := (pf_ws_le (f := pf_qq h1 cs l a) i).2
            have t1 := et (pf_qq h1 cs l a i) (by omega)
            have R6 : px_ml h1 (ix_up h5 602 (pf_qq h1 cs l a i) (nI ((pf_ws (pf_qq h1 cs l a) i).1 (pf_qq h1 cs l a i) + 1))) cs l := ⟨fun q q3 q4 q5 => by rw [ix_up_ne (by omega)]; exact R5.1 q q3 q4 q5, fun i p hi k hk => by rw [px_up_na (by omega)]; exact R5.2 i p hi k hk⟩
            have f3 := (fq a i hi ha _ R6).2
            have t2 : ix_up h5 602 (pf_qq h1 cs l a i) (nI ((pf_ws (pf_qq h1 cs l a) i).1 (pf_qq h1 cs l a i) + 1)) 602 (pf_qq h1 cs l a i) = nI ((pf_ws (pf_qq h1 cs l a) i).1 (pf_qq h1 cs l a i) + 1) := px_up_at
            refine w_iL (j := 112) rfl rfl rfl ?_
            refine w_il (j := 113) rfl rfl rfl ?_
            refine w_geN (j := 114) rfl rfl (by omega) (by omega) (fun c => absurd c (fun c => by omega)) (fun _ => ?_)
            refine w_al (j := 115) rfl rfl rfl ?_
            first | refine w_gr (j := 116) rfl rfl (by first | assumption | rfl) (by first | assumption | rfl) rfl ?_ | refine w_gi (j := 116) rfl rfl (by first | assumption | rfl) (by first | assumption | rfl) rfl rfl ?_
            refine w_al (j := 117) rfl rfl rfl ?_
            first | refine w_gr (j := 118) rfl rfl (by first | assumption | rfl) (by first | assumption | rfl) rfl ?_ | refine w_gi (j := 118) rfl rfl (by first | assumption | rfl) (by first | assumption | rfl) rfl rfl ?_
            refine w_iL (j := 119) rfl rfl rfl ?_
            refine w_aal (j := 120) rfl rfl (by first | assumption | rfl) rfl (by omega) rfl ?_
            refine w_iL (j := 121) rfl rfl rfl ?_
            refine w_ial (j := 122) rfl rfl (by first | assumption | rfl) rfl (by omega) rfl f2 ?_
            refine w_dup2 (j := 123) rfl rfl ?_
            refine w_ial (j := 124) rfl rfl (by first | assumption | rfl) rfl (by omega) rfl t1 ?_
            refine w_ic (n := 1) (j := 125) rfl rfl ?_
            first | refine w_add0 (j := 126) rfl rfl ?_ | refine w_addN (j := 126) rfl rfl ?_ | refine w_add (j := 126) rfl rfl ?_
            refine w_ias (j := 127) rfl rfl (by first | assumption | rfl) rfl (by omega) rfl ?_
            refine w_iL (j := 128) rfl rfl rfl ?_
            refine w_al (j := 129) rfl rfl rfl ?_
            first | refine w_gr (j := 130) rfl rfl (by first | assumption | rfl) (by first | assumption | rfl) rfl ?_ | refine w_gi (j := 130) rfl rfl (by first | assumption | rfl) (by first | assumption | rfl) rfl rfl ?_
            refine w_al (j := 131) rfl rfl rfl ?_
            first | refine w_gr (j := 132) rfl rfl (by first | assumption | rfl) (by first | assumption | rfl) rfl ?_ | refine w_gi (j := 132) rfl rfl (by first | assumption | rfl) (by first | assumption | rfl) rfl rfl ?_
            refine w_iL (j := 133) rfl rfl rfl ?_
            refine w_aal (j := 134) rfl rfl (by first | assumption | rfl) rfl (by omega) rfl ?_
            refine w_iL (j := 135) rfl rfl rfl ?_
            refine w_ial (j := 136) rfl rfl (by first | assumption | rfl) rfl (by omega) rfl f3 ?_
            refine w_ial (j := 137) rfl rfl (by first | assumption | rfl) rfl (by omega) rfl t2 ?_
            refine w_csI (j := 138) rfl rfl rfl rfl rfl (sp_157) rfl ?_
            rw [show pf_mo2 (nI (pf_ws (pf_qq h1 cs l a) i).2) (nI ((pf_ws (pf_qq h1 cs l a) i).1 (pf_qq h1 cs l a i) + 1)) = nI (max (pf_ws (pf_qq h1 cs l a) i).2 ((pf_ws (pf_qq h1 cs l a) i).1 (pf_qq h1 cs l a i) + 1)) by unfold pf_mo2; rw [px_nmax (by omega) (by omega), Nat.max_comm]]
            refine w_iS (j := 139) rfl rfl rfl ?_
            first | refine w_incN (j := 140) rfl rfl rfl ?_ | refine w_inc (j := 140) rfl rfl rfl rfl ?_
            refine w_go rfl ?_
            refine H2 _ _ ⟨⟨_, rfl⟩, R6, fun j hj => ?_⟩
            show ix_up h5 602 (pf_qq h1 cs l a i) _ 602 j = nI (if j = pf_qq h1 cs l a i then (pf_ws (pf_qq h1 cs l a) i).1 j + 1 else (pf_ws (pf_qq h1 cs l a) i).1 j)
            by_cases hjf : j = pf_qq h1 cs l a i
            · subst hjf; rw [px_up_at, if_pos rfl]
            · rw [px_up_nk hjf, if_neg hjf]; exact et j hj
          · rintro _ h5 ⟨⟨g, rfl⟩, R5, et⟩
            refine w_iL (j := 112) rfl rfl rfl ?_
            refine w_il (j := 113) rfl rfl rfl ?_
            refine w_geN (j := 114) rfl rfl (by omega) (by omega) (fun _ => ?_) (fun c => absurd c (fun c => by omega))
            refine w_il (j := 142) rfl rfl rfl ?_
            refine w_im (j := 143) rfl rfl ?_
            refine w_eq (j := 144) rfl rfl (fun d1 => ?_) (fun d1 => ?_)
            ·
              refine w_iL (j := 149) rfl rfl rfl ?_
              refine w_is (j := 150) rfl rfl rfl ?_
              refine w_iL (j := 151) rfl rfl rfl ?_
              refine w_iS (j := 152) rfl rfl rfl ?_
              first | refine w_incN (j := 153) rfl rfl rfl ?_ | refine w_inc (j := 153) rfl rfl rfl rfl ?_
              refine w_go rfl ?_
              rw [if_pos (Or.inl d1)] at H
              exact H _ _ ⟨⟨_, _, _, rfl⟩, R5⟩
            refine w_iL (j := 145) rfl rfl rfl ?_
            refine w_iL (j := 146) rfl rfl rfl ?_
            refine w_lt (j := 147) rfl rfl (fun d2 => ?_) (fun d2 => ?_)
            ·
              refine w_iL (j := 149) rfl rfl rfl ?_
              refine w_is (j := 150) rfl rfl rfl ?_
              refine w_iL (j := 151) rfl rfl rfl ?_
              refine w_iS (j := 152) rfl rfl rfl ?_
              first | refine w_incN (j := 153) rfl rfl rfl ?_ | refine w_inc (j := 153) rfl rfl rfl rfl ?_
              refine w_go rfl ?_
              rw [if_pos (Or.inr d2)] at H
              exact H _ _ ⟨⟨_, _, _, rfl⟩, R5⟩
            ·
              refine w_go rfl ?_
              first | refine w_incN (j := 153) rfl rfl rfl ?_ | refine w_inc (j := 153) rfl rfl rfl rfl ?_
              refine w_go rfl ?_
              rw [if_neg (fun q => q.elim d1 (fun z => px_not_lt.mpr d2 z))] at H
              exact H _ _ ⟨⟨_, _, _, rfl⟩, R5⟩
    · rintro _ h3 ⟨⟨g2, g3, g4, rfl⟩, R3⟩
      have t9 : h3 100 0 = nI 0 := by rw [(px_mlk R3).2]; exact t0
      have k9 := k1.tr (px_mlk R3).1
      refine w_iL (j := 88) rfl rfl rfl ?_
      refine w_bi (j := 89) (a := nI 40) rfl rfl (by decide) ?_
      refine w_gtN (j := 90) rfl rfl (by omega) (by omega) (fun _ => ?_) (fun c => absurd c (fun c => by omega))
      refine w_il (j := 155) rfl rfl rfl ?_
      obtain rfl | rfl : m = 0 ∨ m = 1 := by omega
      ·
        refine w_neM (j := 156) rfl rfl (by omega) (fun c => absurd c (fun c => by omega)) (fun _ => ?_)
        refine w_il (j := 157) rfl rfl rfl ?_
        refine w_go rfl ?_
        refine w_ir rfl ?_
        exact ⟨_, _, rfl, (ew 0).symm, t9, k9⟩
      ·
        refine w_neM (j := 156) rfl rfl (by omega) (fun _ => ?_) (fun c => absurd c (fun c => by omega))
        refine w_iL (j := 159) rfl rfl rfl ?_
        refine w_ir rfl ?_
        exact ⟨_, _, rfl, (ew 1).symm, t9, k9⟩
theorem MX_listen {w : Int32} (hw : ¬ (nI 0 ≤ w ∧ w ≤ nI 1)) : px_PI 2 231 [.ref 100, .int w] h (fun v h2 => h2 100 0 = nI 1 ∧ px_kp (ix_up h 102 1 (h 102 1 + nI 1)) h2) := by
  refine px_M (M := mt_231) (ops := mo_231) tb_231 rfl rfl rfl rfl rfl ?_
  refine w_al (j := 1) rfl rfl rfl ?_
  refine w_ic (n := 0) (j := 2) rfl rfl ?_
  refine w_pf (j := 3) rfl rfl (by first | assumption | rfl) (by first | assumption | rfl) rfl ?_
  refine w_al (j := 4) rfl rfl rfl ?_
  refine w_il (j := 5) rfl rfl rfl ?_
  refine w_ic (n := 0) (j := 6) rfl rfl ?_
  refine w_ic (n := 1) (j := 7) rfl rfl ?_
  refine w_csI (j := 8) rfl rfl rfl rfl rfl (sp_155) rfl ?_
  rw [decide_eq_false hw]
  refine w_neB (j := 9) rfl rfl (fun c => absurd c (by simp)) (fun _ => ?_)
  refine w_ic (n := 1) (j := 10) rfl rfl ?_
  refine w_go rfl ?_
  refine w_ic (n := 1) (j := 13) rfl rfl ?_
  refine w_ic (n := 1) (j := 14) rfl rfl ?_
  refine w_cvI (j := 15) rfl rfl rfl rfl (by first | assumption | rfl) rfl rfl (sp_154t (p := 1) (w := 1) rfl (by decide) (by decide) (by decide)) rfl ?_
  refine w_eqB (j := 16) rfl rfl (fun c => absurd c (by simp)) (fun _ => ?_)
  refine w_ic (n := 0) (j := 17) rfl rfl ?_
  refine w_ir rfl ?_
  exact ⟨_, _, rfl, rfl, px_kpX (by decide)⟩
end LI
