def px_lw (h : ix_H) (cs : List (Nat × Nat)) : Prop := h 41 4 = nI cs.length ∧ cs.length ≤ 150 ∧ ∀ k c, cs[k]? = some c → h 43 k = nI c.1 ∧ h 44 k = nI c.2
theorem sp_47 {h : ix_H} {k m v : Nat} (hk : k < 150) (e1 : h 43 k = nI m) (e2 : h 44 k = nI v) (hm : m < 2) (hv : m = 1 → v < 8) : px_V 1 47 [.ref 41, .int (nI k)] h (some (.int (if m = 0 then nI v else h 42 v))) h := by
  refine px_M (M := mt_47) (ops := mo_47) tb_47 rfl rfl rfl rfl rfl ?_
  refine w_al (j := 1) rfl rfl rfl ?_
  first | refine w_gr (j := 2) rfl rfl (by first | assumption | rfl) (by first | assumption | rfl) rfl ?_ | refine w_gi (j := 2) rfl rfl (by first | assumption | rfl) (by first | assumption | rfl) rfl rfl ?_
  refine w_il (j := 3) rfl rfl rfl ?_
  refine w_ial (j := 4) rfl rfl (by first | assumption | rfl) rfl (by omega) rfl e2 ?_
  refine w_is (j := 5) rfl rfl rfl ?_
  refine w_al (j := 6) rfl rfl rfl ?_
  first | refine w_gr (j := 7) rfl rfl (by first | assumption | rfl) (by first | assumption | rfl) rfl ?_ | refine w_gi (j := 7) rfl rfl (by first | assumption | rfl) (by first | assumption | rfl) rfl rfl ?_
  refine w_il (j := 8) rfl rfl rfl ?_
  refine w_ial (j := 9) rfl rfl (by first | assumption | rfl) rfl (by omega) rfl e1 ?_
  refine w_ic (n := 1) (j := 10) rfl rfl ?_
  refine w_neN (j := 11) rfl rfl (by omega) (by omega) (fun c1 => ?_) (fun c1 => ?_)
  ·
    refine w_il (j := 24) rfl rfl rfl ?_
    refine w_ir rfl ?_
    exact px_ri (by rw [if_pos (by omega)])
  ·
    have hv := hv c1
    refine w_il (j := 12) rfl rfl rfl ?_
    refine w_ltM (j := 13) rfl rfl (by omega) ?_
    refine w_il (j := 14) rfl rfl rfl ?_
    refine w_al (j := 15) rfl rfl rfl ?_
    first | refine w_gr (j := 16) rfl rfl (by first | assumption | rfl) (by first | assumption | rfl) rfl ?_ | refine w_gi (j := 16) rfl rfl (by first | assumption | rfl) (by first | assumption | rfl) rfl rfl ?_
    refine w_alen (j := 17) rfl rfl (by first | assumption | rfl) (by decide) ?_
    refine w_geN (j := 18) rfl rfl (by omega) (by omega) (fun c => absurd c (fun c => by omega)) (fun _ => ?_)
    refine w_al (j := 19) rfl rfl rfl ?_
    first | refine w_gr (j := 20) rfl rfl (by first | assumption | rfl) (by first | assumption | rfl) rfl ?_ | refine w_gi (j := 20) rfl rfl (by first | assumption | rfl) (by first | assumption | rfl) rfl rfl ?_
    refine w_il (j := 21) rfl rfl rfl ?_
    refine w_ial (j := 22) rfl rfl (by first | assumption | rfl) rfl (by omega) rfl rfl ?_
    refine w_ir rfl ?_
    exact px_ri (by rw [if_neg (by omega)])
theorem sp_46 {h : ix_H} {cs : List (Nat × Nat)} (hl : px_lw h cs) (hw : pf_wf cs 0 1) : px_PI 2 46 [.ref 41] h (fun v h' => v = pf_ev cs (h 42) ∧ px_fr [45] h h') := by
  obtain ⟨l1, l2, l3⟩ := hl
  refine px_M (M := mt_46) (ops := mo_46) tb_46 rfl rfl rfl rfl rfl ?_
  refine w_ic (n := 0) (j := 1) rfl rfl ?_
  refine w_is (j := 2) rfl rfl rfl ?_
  refine w_ic (n := 0) (j := 3) rfl rfl ?_
  refine w_is (j := 4) rfl rfl rfl ?_
  refine px_forI (fun k ls h1 => ∃ top, ls = [.ref 41, .int (nI top), .int (nI k)] ∧ pf_wf (cs.take k) 0 top ∧ px_fr [45] h h1 ∧ pf_sts (h 42) (cs.take k) [] = pf_tk (h1 45) top) cs.length ?_ ?_ ⟨0, rfl, rfl, px_fr.rf, rfl⟩
  · rintro k _ h1 hk ⟨top, rfl, w1, fr, ev⟩ H
    have hc : cs[k]? = some cs[k] := List.getElem?_eq_getElem hk
    generalize cs[k] = c at hc
    obtain ⟨e1, e2⟩ := l3 k c hc
    have e43 : h1 43 k = nI c.1 := by rw [fr 43 (by decide)]; exact e1
    have e44 : h1 44 k = nI c.2 := by rw [fr 44 (by decide)]; exact e2
    have e41 : h1 41 4 = nI cs.length := by rw [fr 41 (by decide)]; exact l1
    have e42 : h1 42 = h 42 := fr 42 (by decide)
    have htop := pf_wf_le _ _ _ w1
    rw [List.length_take] at htop
    obtain ⟨d1, w2, w3⟩ := pf_wf_split cs k 0 1 c hw hc
    have hd : d1 = top := pf_wf_det _ _ _ _ w2 w1
    subst hd
    have key : c.1 < 2 → px_R px_E 1 mo_46 [] 19 [.ref 41, .int (nI d1), .int (nI k)] [] h1 0 (fun r => ∃ v h', r = (.inl (some (.int v)), h', 0) ∧ v = pf_ev cs (h 42) ∧ px_fr [45] h h') := by
      intro h2
      rcases w3 with ⟨x1, x2, x3, x4⟩ | ⟨x1, x2, x3, x4, x5⟩
      ·
        refine w_il (j := 20) rfl rfl rfl ?_
        refine w_al (j := 21) rfl rfl rfl ?_
        first | refine w_gr (j := 22) rfl rfl (by first | assumption | rfl) (by first | assumption | rfl) rfl ?_ | refine w_gi (j := 22) rfl rfl (by first | assumption | rfl) (by first | assumption | rfl) rfl rfl ?_
        refine w_alen (j := 23) rfl rfl (by first | assumption | rfl) (by decide) ?_
        refine w_geN (j := 24) rfl rfl (by omega) (by omega) (fun c => absurd c (fun c => by omega)) (fun _ => ?_)
        refine w_al (j := 25) rfl rfl rfl ?_
        first | refine w_gr (j := 26) rfl rfl (by first | assumption | rfl) (by first | assumption | rfl) rfl ?_ | refine w_gi (j := 26) rfl rfl (by first | assumption | rfl) (by first | assumption | rfl) rfl rfl ?_
        refine w_il (j := 27) rfl rfl rfl ?_
        refine w_al (j := 28) rfl rfl rfl ?_
        refine w_il (j := 29) rfl rfl rfl ?_
        refine w_cvI (j := 30) rfl rfl rfl rfl (by first | assumption | rfl) rfl rfl (sp_47 (by omega) e43 e44 h2 x2) rfl ?_
        refine w_ias (j := 31) rfl rfl (by first | assumption | rfl) rfl (by omega) rfl ?_
        first | refine w_incN (j := 32) rfl rfl rfl ?_ | refine w_inc (j := 32) rfl rfl rfl rfl ?_
        refine w_go rfl ?_
        first | refine w_incN (j := 59) rfl rfl rfl ?_ | refine w_inc (j := 59) rfl rfl rfl rfl ?_
        refine w_go rfl ?_
        refine H _ _ ⟨d1 + 1, rfl, x4, fr.up (by decide), ?_⟩
        rw [pf_take_succ hc, pf_sts_snoc, ev, ix_up_eq, pf_tk, pk_us, pf_tk_up _ _ _ _ (Nat.le_refl _), e42]
        unfold pf_st
        by_cases h0 : c.1 = 0
        · rw [if_pos h0, if_pos h0]
        · rw [if_neg h0, if_neg h0, if_pos (by omega)]
      · omega
    refine w_il (j := 5) rfl rfl rfl ?_
    refine w_al (j := 6) rfl rfl rfl ?_
    first | refine w_gr (j := 7) rfl rfl (by first | assumption | rfl) (by first | assumption | rfl) rfl ?_ | refine w_gi (j := 7) rfl rfl (by first | assumption | rfl) (by first | assumption | rfl) rfl e41 ?_
    refine w_geN (j := 8) rfl rfl (by omega) (by omega) (fun c => absurd c (fun c => by omega)) (fun _ => ?_)
    refine w_al (j := 9) rfl rfl rfl ?_
    first | refine w_gr (j := 10) rfl rfl (by first | assumption | rfl) (by first | assumption | rfl) rfl ?_ | refine w_gi (j := 10) rfl rfl (by first | assumption | rfl) (by first | assumption | rfl) rfl rfl ?_
    refine w_il (j := 11) rfl rfl rfl ?_
    refine w_ial (j := 12) rfl rfl (by first | assumption | rfl) rfl (by omega) rfl e43 ?_
    refine w_eqM (j := 13) rfl rfl (by omega) (fun c1 => ?_) (fun c1 => ?_)
    · exact key (by omega)
    ·
      refine w_al (j := 14) rfl rfl rfl ?_
      first | refine w_gr (j := 15) rfl rfl (by first | assumption | rfl) (by first | assumption | rfl) rfl ?_ | refine w_gi (j := 15) rfl rfl (by first | assumption | rfl) (by first | assumption | rfl) rfl rfl ?_
      refine w_il (j := 16) rfl rfl rfl ?_
      refine w_ial (j := 17) rfl rfl (by first | assumption | rfl) rfl (by omega) rfl e43 ?_
      refine w_ic (n := 1) (j := 18) rfl rfl ?_
      refine w_neN (j := 19) rfl rfl (by omega) (by omega) (fun c2 => ?_) (fun c2 => ?_)
      · rcases w3 with ⟨x1, x2, x3, x4⟩ | ⟨x1, x2, x3, x4, x5⟩
        · omega
        ·
          refine w_il (j := 34) rfl rfl rfl ?_
          refine w_ic (n := 2) (j := 35) rfl rfl ?_
          refine w_ltN (j := 36) rfl rfl (by omega) (by omega) (fun c => absurd c (fun c => by omega)) (fun _ => ?_)
          first | refine w_decN (j := 37) rfl rfl rfl (by omega) ?_ | refine w_inc (j := 37) rfl rfl rfl rfl ?_
          refine w_al (j := 38) rfl rfl rfl ?_
          first | refine w_gr (j := 39) rfl rfl (by first | assumption | rfl) (by first | assumption | rfl) rfl ?_ | refine w_gi (j := 39) rfl rfl (by first | assumption | rfl) (by first | assumption | rfl) rfl rfl ?_
          refine w_il (j := 40) rfl rfl rfl ?_
          refine w_ic (n := 1) (j := 41) rfl rfl ?_
          first | refine w_subN (j := 42) rfl rfl (by omega) ?_ | refine w_sub (j := 42) rfl rfl ?_
          refine w_al (j := 43) rfl rfl rfl ?_
          first | refine w_gr (j := 44) rfl rfl (by first | assumption | rfl) (by first | assumption | rfl) rfl ?_ | refine w_gi (j := 44) rfl rfl (by first | assumption | rfl) (by first | assumption | rfl) rfl rfl ?_
          refine w_il (j := 45) rfl rfl rfl ?_
          refine w_ial (j := 46) rfl rfl (by first | assumption | rfl) rfl (by omega) rfl e43 ?_
          refine w_al (j := 47) rfl rfl rfl ?_
          first | refine w_gr (j := 48) rfl rfl (by first | assumption | rfl) (by first | assumption | rfl) rfl ?_ | refine w_gi (j := 48) rfl rfl (by first | assumption | rfl) (by first | assumption | rfl) rfl rfl ?_
          refine w_il (j := 49) rfl rfl rfl ?_
          refine w_ic (n := 1) (j := 50) rfl rfl ?_
          first | refine w_subN (j := 51) rfl rfl (by omega) ?_ | refine w_sub (j := 51) rfl rfl ?_
          refine w_ial (j := 52) rfl rfl (by first | assumption | rfl) rfl (by omega) rfl rfl ?_
          refine w_al (j := 53) rfl rfl rfl ?_
          first | refine w_gr (j := 54) rfl rfl (by first | assumption | rfl) (by first | assumption | rfl) rfl ?_ | refine w_gi (j := 54) rfl rfl (by first | assumption | rfl) (by first | assumption | rfl) rfl rfl ?_
          refine w_il (j := 55) rfl rfl rfl ?_
          refine w_ial (j := 56) rfl rfl (by first | assumption | rfl) rfl (by omega) rfl rfl ?_
          refine w_csI (j := 57) rfl rfl rfl rfl rfl (sp_48 x1 x2) rfl ?_
          refine w_ias (j := 58) rfl rfl (by first | assumption | rfl) rfl (by omega) rfl ?_
          first | refine w_incN (j := 59) rfl rfl rfl ?_ | refine w_inc (j := 59) rfl rfl rfl rfl ?_
          refine w_go rfl ?_
          refine H _ _ ⟨d1 - 1, rfl, x5, fr.up (by decide), ?_⟩
          obtain ⟨t, rfl⟩ : ∃ t, d1 = t + 2 := ⟨d1 - 2, by omega⟩
          rw [pf_take_succ hc, pf_sts_snoc, ev, ix_up_eq]
          show pf_st (h 42) c (h1 45 (t + 1) :: h1 45 t :: pf_tk (h1 45) t) = pf_tk (upd (h1 45) t _) (t + 1)
          rw [pf_tk, pk_us, pf_tk_up _ _ _ _ (Nat.le_refl _)]
          unfold pf_st
          rw [if_neg (by omega), if_neg (by omega)]
          rfl
      · exact key (by omega)
  · rintro _ h1 ⟨top, rfl, w1, fr, ev⟩
    have e41 : h1 41 4 = nI cs.length := by rw [fr 41 (by decide)]; exact l1
    rw [List.take_length] at w1 ev
    have ht := pf_wf_det _ _ _ _ w1 hw
    subst ht
    refine w_il (j := 5) rfl rfl rfl ?_
    refine w_al (j := 6) rfl rfl rfl ?_
    first | refine w_gr (j := 7) rfl rfl (by first | assumption | rfl) (by first | assumption | rfl) rfl ?_ | refine w_gi (j := 7) rfl rfl (by first | assumption | rfl) (by first | assumption | rfl) rfl e41 ?_
    refine w_geN (j := 8) rfl rfl (by omega) (by omega) (fun _ => ?_) (fun c => absurd c (fun c => by omega))
    refine w_ic (n := 0) (j := 61) rfl rfl ?_
    refine w_al (j := 62) rfl rfl rfl ?_
    first | refine w_gr (j := 63) rfl rfl (by first | assumption | rfl) (by first | assumption | rfl) rfl ?_ | refine w_gi (j := 63) rfl rfl (by first | assumption | rfl) (by first | assumption | rfl) rfl rfl ?_
    refine w_ic (n := 0) (j := 64) rfl rfl ?_
    refine w_ial (j := 65) rfl rfl (by first | assumption | rfl) rfl (by omega) rfl rfl ?_
    refine w_bi (j := 66) (a := nI 99) rfl rfl (by decide) ?_
    refine w_min (j := 67) rfl rfl rfl ?_
    refine w_max (j := 68) rfl rfl rfl ?_
    refine w_ir rfl ?_
    refine ⟨_, _, rfl, ?_, fr⟩
    unfold pf_ev pf_cl
    rw [ev]
    rfl
