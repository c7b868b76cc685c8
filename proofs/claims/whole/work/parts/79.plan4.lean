section PL
variable {h : ix_H} {B N T L W I t : Nat} {cs : List (Nat × Nat)}
theorem sp_223 {q : Nat} (hI : px_I h B N T cs L W I t) (hq : q < 2 ^ N) (hn5 : pf_on q N ≤ 5) : px_PU 20 223 [.ref 100, .int (nI q)] h (fun h2 => px_mF h h2 ∧ px_mS h2 N q (pf_pl0 h cs B N q)) := by
  have l6 := hI.1.2.2.2.2.2.1
  refine px_M (M := mt_223) (ops := mo_223) tb_223 rfl rfl rfl rfl rfl ?_
  refine w_al (j := 1) rfl rfl rfl ?_
  refine w_im (j := 2) rfl rfl ?_
  refine w_pf (j := 3) rfl rfl (by first | assumption | rfl) (by first | assumption | rfl) rfl ?_
  refine w_ic (n := 0) (j := 4) rfl rfl ?_
  refine w_is (j := 5) rfl rfl rfl ?_
  refine px_forI (fun c ls h1 => ls = [.ref 100, .int (nI q), .int (nI c)] ∧ px_mF h h1 ∧ h1 100 43 = -1 ∧ ∀ k, k < c → h1 578 k = -1 ∧ h1 601 k = -1) 8 ?_ ?_ ⟨rfl, ⟨px_fr.rf.up (by decide), fun j hj => px_up_nk hj⟩, px_up_at, fun k hk => by omega⟩
  · rintro c _ h1 hc ⟨rfl, F, e43, ez⟩ H
    refine w_il (j := 6) rfl rfl rfl ?_
    refine w_bi (j := 7) (a := nI 8) rfl rfl (by decide) ?_
    refine w_geN (j := 8) rfl rfl (by omega) (by omega) (fun c => absurd c (fun c => by omega)) (fun _ => ?_)
    refine w_al (j := 9) rfl rfl rfl ?_
    first | refine w_gr (j := 10) rfl rfl (by first | assumption | rfl) (by first | assumption | rfl) rfl ?_ | refine w_gi (j := 10) rfl rfl (by first | assumption | rfl) (by first | assumption | rfl) rfl rfl ?_
    refine w_ic (n := 0) (j := 11) rfl rfl ?_
    refine w_il (j := 12) rfl rfl rfl ?_
    first | refine w_add0 (j := 13) rfl rfl ?_ | refine w_addN (j := 13) rfl rfl ?_ | refine w_add (j := 13) rfl rfl ?_
    refine w_im (j := 14) rfl rfl ?_
    refine w_ias (j := 15) rfl rfl (by first | assumption | rfl) rfl (by omega) rfl ?_
    refine w_al (j := 16) rfl rfl rfl ?_
    first | refine w_gr (j := 17) rfl rfl (by first | assumption | rfl) (by first | assumption | rfl) rfl ?_ | refine w_gi (j := 17) rfl rfl (by first | assumption | rfl) (by first | assumption | rfl) rfl rfl ?_
    refine w_il (j := 18) rfl rfl rfl ?_
    refine w_im (j := 19) rfl rfl ?_
    refine w_ias (j := 20) rfl rfl (by first | assumption | rfl) rfl (by omega) rfl ?_
    first | refine w_incN (j := 21) rfl rfl rfl ?_ | refine w_inc (j := 21) rfl rfl rfl rfl ?_
    refine w_go rfl ?_
    refine H _ _ ⟨rfl, ⟨(F.1.up (by decide)).up (by decide), fun j hj => by rw [px_up_na (by decide), px_up_na (by decide)]; exact F.2 j hj⟩, by rw [px_up_na (by decide), px_up_na (by decide)]; exact e43, fun k hk => ?_⟩
    by_cases e : k = c
    · subst e
      exact ⟨by rw [px_up_na (by decide), px_up_at], px_up_at⟩
    · rw [px_up_na (by decide), px_up_nk e, px_up_nk e, px_up_na (by decide)]
      exact ez k (by omega)
  · rintro _ h1 ⟨rfl, F, e43, ez⟩
    have c222 := sp_222 (cs := cs) hI hq hn5 N 0 [] none h1 (by omega) rfl (fun i hi => absurd hi (Nat.not_lt_zero _)) (fun b hb => Nat.zero_le _) F (fun k hk => by
      rw [(ez k hk).1]
      unfold pf_at
      rw [if_neg (fun z => absurd z.2 (Nat.not_lt_zero _))]) ⟨e43, fun k hk => (ez k hk).2⟩
    refine w_il (j := 6) rfl rfl rfl ?_
    refine w_bi (j := 7) (a := nI 8) rfl rfl (by decide) ?_
    refine w_geN (j := 8) rfl rfl (by omega) (by omega) (fun _ => ?_) (fun c => absurd c (fun c => by omega))
    refine w_al (j := 23) rfl rfl rfl ?_
    refine w_il (j := 24) rfl rfl rfl ?_
    refine w_ic (n := 0) (j := 25) rfl rfl ?_
    refine w_cvPU (j := 26) rfl rfl rfl rfl (by first | assumption | rfl) rfl rfl (c222) (Nat.ble_eq.mpr (by omega)) ?_
    rintro h2 ⟨F2, -, S2⟩
    refine w_rt rfl ?_
    exact ⟨_, rfl, F2, S2⟩
theorem pf_pl0_kp {h h' : ix_H} {q : Nat} (k : px_kp h h') : pf_pl0 h' cs B N q = pf_pl0 h cs B N q := by
  have e1 : pf_hd h' = pf_hd h := by funext b; unfold pf_hd; rw [k.1 5 (by decide)]
  have e2 : pf_co h' cs N q = pf_co h cs N q := by
    funext v
    refine px_fold_congr N _ (fun c a hc => ?_)
    unfold pf_pc
    rw [k.1 4 (by decide), k.1 64 (by decide), k.1 65 (by decide), k.1 6 (by decide), k.1 66 (by decide)]
  unfold pf_pl0
  rw [e1, e2]
theorem pf_okN {q : Nat} (l6 : N ≤ 8) (hq : q < 2 ^ N) (hn5 : pf_on q N ≤ 5) : pf_on q 8 ≤ 5 := by rw [pf_on_top hq 8 l6]; exact hn5
theorem M_plan {q : Nat} (hI : px_I h B N T cs L W I t) (hq : q < 2 ^ N) (hn5 : pf_on q N ≤ 5) : px_PI 22 225 [.ref 100, .int (nI q)] h (fun w h2 => w = pf_lv (pf_pl0 h cs B N q) ∧ h2 100 0 = nI 0 ∧ px_kp h h2) := by
  refine px_M (M := mt_225) (ops := mo_225) tb_225 rfl rfl rfl rfl rfl ?_
  refine w_al (j := 1) rfl rfl rfl ?_
  refine w_ic (n := 0) (j := 2) rfl rfl ?_
  refine w_pf (j := 3) rfl rfl (by first | assumption | rfl) (by first | assumption | rfl) rfl ?_
  obtain ⟨I1, k1, t0⟩ := px_thr (v := nI 0) hI
  generalize ix_up h 100 0 (nI 0) = h1 at I1 k1 t0 ⊢
  rw [← pf_pl0_kp k1]
  have l5 := I1.1.2.2.2.2.1
  have l6 := I1.1.2.2.2.2.2.1
  have hp := px_pw l6
  have o5 := pf_okN l6 hq hn5
  refine w_al (j := 4) rfl rfl rfl ?_
  refine w_al (j := 5) rfl rfl rfl ?_
  refine w_il (j := 6) rfl rfl rfl ?_
  refine w_cvI (j := 7) rfl rfl rfl rfl (by first | assumption | rfl) rfl rfl (sp_214 l5 l6) rfl ?_
  rw [decide_eq_true ((px_bits2 l6).mpr ⟨q, hq, rfl⟩)]
  refine w_eqB (j := 8) rfl rfl (fun c => absurd c (by simp)) (fun _ => ?_)
  refine w_il (j := 9) rfl rfl rfl ?_
  refine w_csI (j := 10) rfl rfl rfl rfl rfl (sp_224 (by omega)) rfl ?_
  refine w_ic (n := 5) (j := 11) rfl rfl ?_
  refine w_leN (j := 12) rfl rfl (by omega) (by omega) (fun _ => ?_) (fun c => absurd c (fun c => by omega))
  refine w_ic (n := 0) (j := 15) rfl rfl ?_
  refine w_ic (n := 1) (j := 16) rfl rfl ?_
  refine w_ic (n := 1) (j := 17) rfl rfl ?_
  refine w_cvI (j := 18) rfl rfl rfl rfl (by first | assumption | rfl) rfl rfl (sp_154f t0) rfl ?_
  refine w_eqB (j := 19) rfl rfl (fun _ => ?_) (fun c => absurd c (by simp))
  refine w_al (j := 22) rfl rfl rfl ?_
  refine w_il (j := 23) rfl rfl rfl ?_
  refine w_cvPU (j := 24) rfl rfl rfl rfl (by first | assumption | rfl) rfl rfl (sp_223 I1 hq hn5) rfl ?_
  rintro h2 ⟨F2, S2⟩
  have e43 : h2 100 43 = pf_lv (pf_pl0 h1 cs B N q) := by
    generalize pf_pl0 h1 cs B N q = s at S2 ⊢
    cases s with
    | none => exact S2.1
    | some p => exact S2.1
  refine w_al (j := 25) rfl rfl rfl ?_
  first | refine w_gr (j := 26) rfl rfl (by first | assumption | rfl) (by first | assumption | rfl) rfl ?_ | refine w_gi (j := 26) rfl rfl (by first | assumption | rfl) (by first | assumption | rfl) rfl e43 ?_
  refine w_ir rfl ?_
  exact ⟨_, _, rfl, rfl, (F2.2 0 (by decide)).trans t0, k1.tr (px_mFk F2)⟩
theorem px_tailP {mo : List ix_Op} {v : Int32} (c : ¬ pf_okp N v) (l6 : N ≤ 8) {P : Prop} (h1 : (¬ (nI 0 ≤ v ∧ v ≤ nI 1 <<< (nI N &&& 31) - nI 1)) → P) (h2 : ∀ q, q < 2 ^ N → v = nI q → 5 < pf_on q 8 → P) : P := by
  by_cases e : nI 0 ≤ v ∧ v ≤ nI 1 <<< (nI N &&& 31) - nI 1
  · obtain ⟨q, hq, rfl⟩ := (px_bits2 l6).mp e
    refine h2 q hq rfl ?_
    rw [pf_on_top hq 8 l6]
    rcases Nat.lt_or_ge 5 (pf_on q N) with z | z
    · exact z
    · exact absurd ⟨q, hq, z, rfl⟩ c
  · exact h1 e
theorem MX_plan {v : Int32} (l5 : h 104 1 = nI N) (l6 : N ≤ 8) (ok : ¬ pf_okp N v) : px_PI 5 225 [.ref 100, .int v] h (fun w h2 => h2 100 0 = nI 1 ∧ px_kp (ix_up h 102 1 (h 102 1 + nI 1)) h2) := by
  have hp := px_pw l6
  have tail : px_R px_E 4 mo_225 [] 12 [.ref 100, .int v] [.ref 100] (ix_up h 100 0 (nI 0)) 0 (fun r => ∃ w h', r = (.inl (some (.int w)), h', 0) ∧ h' 100 0 = nI 1 ∧ px_kp (ix_up h 102 1 (h 102 1 + nI 1)) h') := by
    refine w_ic (n := 1) (j := 13) rfl rfl ?_
    refine w_go rfl ?_
    refine w_ic (n := 1) (j := 16) rfl rfl ?_
    refine w_ic (n := 1) (j := 17) rfl rfl ?_
    refine w_cvI (j := 18) rfl rfl rfl rfl (by first | assumption | rfl) rfl rfl (sp_154t (p := 1) (w := 1) rfl (by decide) (by decide) (by decide)) rfl ?_
    refine w_eqB (j := 19) rfl rfl (fun c => absurd c (by simp)) (fun _ => ?_)
    refine w_ic (n := 0) (j := 20) rfl rfl ?_
    refine w_ir rfl ?_
    exact ⟨_, _, rfl, rfl, px_kpX (by decide)⟩
  refine px_M (M := mt_225) (ops := mo_225) tb_225 rfl rfl rfl rfl rfl ?_
  refine w_al (j := 1) rfl rfl rfl ?_
  refine w_ic (n := 0) (j := 2) rfl rfl ?_
  refine w_pf (j := 3) rfl rfl (by first | assumption | rfl) (by first | assumption | rfl) rfl ?_
  refine w_al (j := 4) rfl rfl rfl ?_
  refine w_al (j := 5) rfl rfl rfl ?_
  refine w_il (j := 6) rfl rfl rfl ?_
  refine w_cvI (j := 7) rfl rfl rfl rfl (by first | assumption | rfl) rfl rfl (sp_214 (N := N) l5 l6) rfl ?_
  refine px_tailP (mo := mo_225) ok l6 (fun e => ?_) (fun q hq e o5 => ?_)
  · rw [decide_eq_false e]
    refine w_eqB (j := 8) rfl rfl (fun _ => ?_) (fun c => absurd c (by simp))
    exact tail
  · subst e
    have o8 := pf_on_le q 8
    rw [decide_eq_true ((px_bits2 l6).mpr ⟨q, hq, rfl⟩)]
    refine w_eqB (j := 8) rfl rfl (fun c => absurd c (by simp)) (fun _ => ?_)
    refine w_il (j := 9) rfl rfl rfl ?_
    refine w_csI (j := 10) rfl rfl rfl rfl rfl (sp_224 (by omega)) rfl ?_
    refine w_ic (n := 5) (j := 11) rfl rfl ?_
    refine w_leN (j := 12) rfl rfl (by omega) (by omega) (fun c => absurd c (fun c => by omega)) (fun _ => ?_)
    exact tail
theorem M_planned {q c : Nat} (hI : px_I h B N T cs L W I t) (hq : q < 2 ^ N) (hn5 : pf_on q N ≤ 5) (hc : c < N) : px_PI 22 226 [.ref 100, .int (nI q), .int (nI c)] h (fun w h2 => w = pf_pld q c (pf_pl0 h cs B N q) ∧ h2 100 0 = nI 0 ∧ px_kp h h2) := by
  refine px_M (M := mt_226) (ops := mo_226) tb_226 rfl rfl rfl rfl rfl ?_
  refine w_al (j := 1) rfl rfl rfl ?_
  refine w_ic (n := 0) (j := 2) rfl rfl ?_
  refine w_pf (j := 3) rfl rfl (by first | assumption | rfl) (by first | assumption | rfl) rfl ?_
  obtain ⟨I1, k1, t0⟩ := px_thr (v := nI 0) hI
  generalize ix_up h 100 0 (nI 0) = h1 at I1 k1 t0 ⊢
  rw [← pf_pl0_kp k1]
  have l5 := I1.1.2.2.2.2.1
  have l6 := I1.1.2.2.2.2.2.1
  have hp := px_pw l6
  have o5 := pf_okN l6 hq hn5
  refine w_al (j := 4) rfl rfl rfl ?_
  refine w_al (j := 5) rfl rfl rfl ?_
  refine w_il (j := 6) rfl rfl rfl ?_
  refine w_cvI (j := 7) rfl rfl rfl rfl (by first | assumption | rfl) rfl rfl (sp_213 l5 l6) rfl ?_
  rw [px_ofB hc l6]
  refine w_neB (j := 8) rfl rfl (fun _ => ?_) (fun c => absurd c (by simp))
  refine w_ic (n := 0) (j := 11) rfl rfl ?_
  refine w_ic (n := 1) (j := 12) rfl rfl ?_
  refine w_ic (n := 0) (j := 13) rfl rfl ?_
  refine w_cvI (j := 14) rfl rfl rfl rfl (by first | assumption | rfl) rfl rfl (sp_154f t0) rfl ?_
  refine w_neB (j := 15) rfl rfl (fun c => absurd c (by simp)) (fun _ => ?_)
  refine w_al (j := 16) rfl rfl rfl ?_
  refine w_al (j := 17) rfl rfl rfl ?_
  refine w_il (j := 18) rfl rfl rfl ?_
  refine w_cvI (j := 19) rfl rfl rfl rfl (by first | assumption | rfl) rfl rfl (sp_214 l5 l6) rfl ?_
  rw [decide_eq_true ((px_bits2 l6).mpr ⟨q, hq, rfl⟩)]
  refine w_eqB (j := 20) rfl rfl (fun c => absurd c (by simp)) (fun _ => ?_)
  refine w_il (j := 21) rfl rfl rfl ?_
  refine w_csI (j := 22) rfl rfl rfl rfl rfl (sp_224 (by omega)) rfl ?_
  refine w_ic (n := 5) (j := 23) rfl rfl ?_
  refine w_leN (j := 24) rfl rfl (by omega) (by omega) (fun _ => ?_) (fun c => absurd c (fun c => by omega))
  refine w_ic (n := 0) (j := 27) rfl rfl ?_
  refine w_ic (n := 2) (j := 28) rfl rfl ?_
  refine w_ic (n := 1) (j := 29) rfl rfl ?_
  refine w_cvI (j := 30) rfl rfl rfl rfl (by first | assumption | rfl) rfl rfl (sp_154f t0) rfl ?_
  refine w_eqB (j := 31) rfl rfl (fun _ => ?_) (fun c => absurd c (by simp))
  refine w_al (j := 34) rfl rfl rfl ?_
  refine w_il (j := 35) rfl rfl rfl ?_
  refine w_cvPU (j := 36) rfl rfl rfl rfl (by first | assumption | rfl) rfl rfl (sp_223 I1 hq hn5) rfl ?_
  rintro h2 ⟨F2, S2⟩
  have e43 : h2 601 c = pf_pld q c (pf_pl0 h1 cs B N q) := by
    generalize pf_pl0 h1 cs B N q = s at S2 ⊢
    cases s with
    | none => exact S2.2 c (by omega)
    | some p =>
      rw [S2.2.2.2 c hc]
      show pf_at q p.2 c = if q / 2 ^ c % 2 = 1 then nI (p.2.getD (pf_on q c) 0) else -1
      unfold pf_at
      by_cases hb : q / 2 ^ c % 2 = 1
      · have rk : pf_on q c < pf_on q N := by
          have := pf_on_mono q (show c + 1 ≤ N by omega)
          rw [pf_on, hb] at this
          omega
        rw [if_pos ⟨hb, by rw [S2.2.2.1]; exact rk⟩, if_pos hb]
      · rw [if_neg (fun z => hb z.1), if_neg hb]
  refine w_al (j := 37) rfl rfl rfl ?_
  first | refine w_gr (j := 38) rfl rfl (by first | assumption | rfl) (by first | assumption | rfl) rfl ?_ | refine w_gi (j := 38) rfl rfl (by first | assumption | rfl) (by first | assumption | rfl) rfl rfl ?_
  refine w_il (j := 39) rfl rfl rfl ?_
  refine w_ial (j := 40) rfl rfl (by first | assumption | rfl) rfl (by omega) rfl e43 ?_
  refine w_ir rfl ?_
  exact ⟨_, _, rfl, rfl, (F2.2 0 (by decide)).trans t0, k1.tr (px_mFk F2)⟩
theorem MXE_planned {v a : Int32} (l5 : h 104 1 = nI N) (l6 : N ≤ 8) (hw : ¬ (0 ≤ a ∧ a < nI N)) : px_PI 4 226 [.ref 100, .int v, .int a] h (fun v h2 => h2 100 0 = nI 1 ∧ px_kp (ix_up h 102 0 (h 102 0 + nI 1)) h2) := by
  refine px_M (M := mt_226) (ops := mo_226) tb_226 rfl rfl rfl rfl rfl ?_
  refine w_al (j := 1) rfl rfl rfl ?_
  refine w_ic (n := 0) (j := 2) rfl rfl ?_
  refine w_pf (j := 3) rfl rfl (by first | assumption | rfl) (by first | assumption | rfl) rfl ?_
  refine w_al (j := 4) rfl rfl rfl ?_
  refine w_al (j := 5) rfl rfl rfl ?_
  refine w_il (j := 6) rfl rfl rfl ?_
  refine w_cvI (j := 7) rfl rfl rfl rfl (by first | assumption | rfl) rfl rfl (sp_213 (N := N) l5 l6) rfl ?_
  rw [decide_eq_false hw]
  refine w_neB (j := 8) rfl rfl (fun c => absurd c (by simp)) (fun _ => ?_)
  refine w_ic (n := 1) (j := 9) rfl rfl ?_
  refine w_go rfl ?_
  refine w_ic (n := 1) (j := 12) rfl rfl ?_
  refine w_ic (n := 0) (j := 13) rfl rfl ?_
  refine w_cvI (j := 14) rfl rfl rfl rfl (by first | assumption | rfl) rfl rfl (sp_154t (p := 0) (w := 1) rfl (by decide) (by decide) (by decide)) rfl ?_
  refine w_neB (j := 15) rfl rfl (fun _ => ?_) (fun c => absurd c (by simp))
  refine w_ic (n := 0) (j := 32) rfl rfl ?_
  refine w_ir rfl ?_
  exact ⟨_, _, rfl, rfl, px_kpX (by decide)⟩
theorem MXA_planned {v a : Int32} (l5 : h 104 1 = nI N) (l6 : N ≤ 8) (ha : 0 ≤ a ∧ a < nI N) (ok : ¬ pf_okp N v) : px_PI 5 226 [.ref 100, .int v, .int a] h (fun w h2 => h2 100 0 = nI 2 ∧ px_kp (ix_up h 102 1 (h 102 1 + nI 1)) h2) := by
  have hp := px_pw l6
  have tail : px_R px_E 4 mo_226 [] 24 [.ref 100, .int v, .int a] [.ref 100] (ix_up h 100 0 (nI 0)) 0 (fun r => ∃ w h', r = (.inl (some (.int w)), h', 0) ∧ h' 100 0 = nI 2 ∧ px_kp (ix_up h 102 1 (h 102 1 + nI 1)) h') := by
    refine w_ic (n := 1) (j := 25) rfl rfl ?_
    refine w_go rfl ?_
    refine w_ic (n := 2) (j := 28) rfl rfl ?_
    refine w_ic (n := 1) (j := 29) rfl rfl ?_
    refine w_cvI (j := 30) rfl rfl rfl rfl (by first | assumption | rfl) rfl rfl (sp_154t (p := 1) (w := 2) rfl (by decide) (by decide) (by decide)) rfl ?_
    refine w_eqB (j := 31) rfl rfl (fun c => absurd c (by simp)) (fun _ => ?_)
    refine w_ic (n := 0) (j := 32) rfl rfl ?_
    refine w_ir rfl ?_
    exact ⟨_, _, rfl, rfl, px_kpX (by decide)⟩
  refine px_M (M := mt_226) (ops := mo_226) tb_226 rfl rfl rfl rfl rfl ?_
  refine w_al (j := 1) rfl rfl rfl ?_
  refine w_ic (n := 0) (j := 2) rfl rfl ?_
  refine w_pf (j := 3) rfl rfl (by first | assumption | rfl) (by first | assumption | rfl) rfl ?_
  refine w_al (j := 4) rfl rfl rfl ?_
  refine w_al (j := 5) rfl rfl rfl ?_
  refine w_il (j := 6) rfl rfl rfl ?_
  refine w_cvI (j := 7) rfl rfl rfl rfl (by first | assumption | rfl) rfl rfl (sp_213 (N := N) l5 l6) rfl ?_
  rw [decide_eq_true ha]
  refine w_neB (j := 8) rfl rfl (fun _ => ?_) (fun c => absurd c (by simp))
  refine w_ic (n := 0) (j := 11) rfl rfl ?_
  refine w_ic (n := 1) (j := 12) rfl rfl ?_
  refine w_ic (n := 0) (j := 13) rfl rfl ?_
  refine w_cvI (j := 14) rfl rfl rfl rfl (by first | assumption | rfl) rfl rfl (sp_154f rfl) rfl ?_
  refine w_neB (j := 15) rfl rfl (fun c => absurd c (by simp)) (fun _ => ?_)
  refine w_al (j := 16) rfl rfl rfl ?_
  refine w_al (j := 17) rfl rfl rfl ?_
  refine w_il (j := 18) rfl rfl rfl ?_
  refine w_cvI (j := 19) rfl rfl rfl rfl (by first | assumption | rfl) rfl rfl (sp_214 (N := N) l5 l6) rfl ?_
  refine px_tailP (mo := mo_226) ok l6 (fun e => ?_) (fun q hq e o5 => ?_)
  · rw [decide_eq_false e]
    refine w_eqB (j := 20) rfl rfl (fun _ => ?_) (fun c => absurd c (by simp))
    exact tail
  · subst e
    have o8 := pf_on_le q 8
    rw [decide_eq_true ((px_bits2 l6).mpr ⟨q, hq, rfl⟩)]
    refine w_eqB (j := 20) rfl rfl (fun c => absurd c (by simp)) (fun _ => ?_)
    refine w_il (j := 21) rfl rfl rfl ?_
    refine w_csI (j := 22) rfl rfl rfl rfl rfl (sp_224 (by omega)) rfl ?_
    refine w_ic (n := 5) (j := 23) rfl rfl ?_
    refine w_leN (j := 24) rfl rfl (by omega) (by omega) (fun c => absurd c (fun c => by omega)) (fun _ => ?_)
    exact tail
end PL
