def pf_at (q : Nat) (v : List Nat) (k : Nat) : Int32 := if q / 2 ^ k % 2 = 1 ∧ pf_on q k < v.length then nI (v.getD (pf_on q k) 0) else -1
theorem pf_at_n {q k : Nat} {v : List Nat} (e : v.length = pf_on q k) : pf_at q v k = -1 := by
  unfold pf_at
  rw [if_neg (fun z => by omega)]
theorem pf_at_app {q c b : Nat} {v : List Nat} (e : v.length = pf_on q c) (hb : q / 2 ^ c % 2 = 1) (k : Nat) : pf_at q (v ++ [b]) k = if k = c then nI b else pf_at q v k := by
  unfold pf_at
  rw [List.length_append, List.length_singleton]
  by_cases hkc : k = c
  · subst hkc
    rw [if_pos rfl, if_pos ⟨hb, by omega⟩, ← e, pf_getr]
  · rw [if_neg hkc]
    by_cases hk : q / 2 ^ k % 2 = 1
    · rcases Nat.lt_or_gt_of_ne hkc with z | z
      · have : pf_on q k < pf_on q c := by
          have := pf_on_mono q (show k + 1 ≤ c by omega)
          rw [pf_on, hk] at this
          omega
        rw [if_pos ⟨hk, by omega⟩, if_pos ⟨hk, by omega⟩, pf_getl (by omega)]
      · have : pf_on q c < pf_on q k := by
          have := pf_on_mono q (show c + 1 ≤ k by omega)
          rw [pf_on, hb] at this
          omega
        rw [if_neg (fun z => by omega), if_neg (fun z => by omega)]
    · rw [if_neg (fun z => hk z.1), if_neg (fun z => hk z.1)]
theorem pf_lc_big {v : List Nat} {b : Nat} : ∀ M, v.length ≤ M → px_fold (fun i a => a + (if i < v.length ∧ v.getD i 0 = b then 1 else 0)) M 0 = pf_lc v b := by
  intro M hM
  induction M with
  | zero =>
    unfold pf_lc
    have : v.length = 0 := by omega
    rw [this]
    rfl
  | succ M ih =>
    rw [px_fold]
    by_cases e : v.length = M + 1
    · unfold pf_lc
      rw [e, px_fold]
      have hM : M < v.length := by omega
      congr 1
      · refine px_fold_congr M _ (fun i a hi => ?_)
        by_cases hb : v.getD i 0 = b
        · rw [if_pos ⟨by omega, hb⟩, if_pos hb]
        · rw [if_neg (fun z => hb z.2), if_neg hb]
      · by_cases hb : v.getD M 0 = b
        · rw [if_pos ⟨by omega, hb⟩, if_pos hb]
        · rw [if_neg (fun z => hb z.2), if_neg hb]
    · rw [ih (by omega), if_neg (fun z => by omega)]
      rfl
theorem pf_ct_at {p : Nat → Int32} {q N b : Nat} {v : List Nat} (hv : v.length ≤ pf_on q N) (vb : ∀ i, i < v.length → v.getD i 0 < 6) (hb : b < 6) (hp : ∀ k, k < N → p k = pf_at q v k) : pf_ct p (nI b) N = pf_lc v b := by
  rw [← pf_lc_big (pf_on q N) hv, ← pf_rank q (fun i => if i < v.length ∧ v.getD i 0 = b then 1 else 0) N]
  have key : ∀ M, M ≤ N → pf_ct p (nI b) M = px_fold (fun k a => if q / 2 ^ k % 2 = 1 then a + (if pf_on q k < v.length ∧ v.getD (pf_on q k) 0 = b then 1 else 0) else a) M 0 := by
    intro M
    induction M with
    | zero => intro _; rfl
    | succ M ih =>
      intro hM
      rw [pf_ct, px_fold, ih (by omega), hp M (by omega)]
      have nb : ¬ (-1 : Int32) = nI b := fun z => px_nm1 (b := b) (by omega) z.symm
      by_cases h1 : q / 2 ^ M % 2 = 1
      · rw [if_pos h1]
        by_cases h2 : pf_on q M < v.length
        · have ea : pf_at q v M = nI (v.getD (pf_on q M) 0) := if_pos ⟨h1, h2⟩
          have := vb _ h2
          rw [ea]
          by_cases h3 : v.getD (pf_on q M) 0 = b
          · rw [if_pos (show nI (v.getD (pf_on q M) 0) = nI b by rw [h3]), if_pos (show pf_on q M < v.length ∧ v.getD (pf_on q M) 0 = b from ⟨h2, h3⟩), Nat.add_comm]
          · rw [if_neg (show ¬ nI (v.getD (pf_on q M) 0) = nI b from fun z => h3 ((px_neq (by omega) (by omega)).mp z)), if_neg (show ¬ (pf_on q M < v.length ∧ v.getD (pf_on q M) 0 = b) from fun z => h3 z.2), Nat.zero_add, Nat.add_zero]
        · have ea : pf_at q v M = -1 := if_neg (fun z => h2 z.2)
          rw [ea, if_neg nb, if_neg (show ¬ (pf_on q M < v.length ∧ v.getD (pf_on q M) 0 = b) from fun z => h2 z.1), Nat.zero_add, Nat.add_zero]
      · have ea : pf_at q v M = -1 := if_neg (fun z => h1 z.1)
        rw [ea, if_neg h1, if_neg nb, Nat.zero_add]
  exact key N (Nat.le_refl _)
section PL
variable {h : ix_H} {B N T L W I t : Nat} {cs : List (Nat × Nat)}
def px_mS (h1 : ix_H) (N q : Nat) : Option (Nat × List Nat) → Prop
  | none => h1 100 43 = -1 ∧ ∀ k, k < 8 → h1 601 k = -1
  | some p => h1 100 43 = nI p.1 ∧ p.1 ≤ 1000 ∧ p.2.length = pf_on q N ∧ ∀ k, k < N → h1 601 k = pf_at q p.2 k
def px_mF (h0 h1 : ix_H) : Prop := px_fr [494, 495, 578, 601, 100] h0 h1 ∧ ∀ j, j ≠ 43 → h1 100 j = h0 100 j
theorem px_mFk {h0 h1 : ix_H} (R : px_mF h0 h1) : px_kp h0 h1 := by
  refine ⟨fun a ha => R.1 a ?_, fun j hj => R.2 j (fun e => by subst e; cases hj)⟩
  have := of_decide_eq_true ha
  simp
  omega
theorem px_mF.tr2 {h0 h1 h2 : ix_H} (R : px_mF h0 h1) (f : px_fr [494, 495] h1 h2) : px_mF h0 h2 := ⟨R.1.tr (f.sub (by decide)), fun j hj => by rw [f 100 (by decide)]; exact R.2 j hj⟩
theorem px_mS.tr2 {h1 h2 : ix_H} {q : Nat} {s : Option (Nat × List Nat)} (R : px_mS h1 N q s) (e1 : h2 100 43 = h1 100 43) (e2 : h2 601 = h1 601) : px_mS h2 N q s := by
  cases s with
  | none => exact ⟨by rw [e1]; exact R.1, by rw [e2]; exact R.2⟩
  | some p => exact ⟨by rw [e1]; exact R.1, R.2.1, R.2.2.1, by rw [e2]; exact R.2.2.2⟩
theorem sp_222 {q : Nat} (hI : px_I h B N T cs L W I t) (hq : q < 2 ^ N) (hn5 : pf_on q N ≤ 5) : ∀ m c v s h1, c + m = N → v.length = pf_on q c → (∀ i, i < v.length → v.getD i 0 < B) → (∀ b, b < B → pf_lc v b ≤ pf_hd h b) → px_mF h h1 → (∀ k, k < 8 → h1 578 k = pf_at q v k) → px_mS h1 N q s → px_PU (m + 8) 222 [.ref 100, .int (nI q), .int (nI c)] h1 (fun h2 => px_mF h h2 ∧ (∀ k, k < 8 → h2 578 k = pf_at q v k) ∧ px_mS h2 N q (pf_tr (pf_hd h) B (pf_co h cs N q) (pf_on q N - pf_on q c) v s)) := by
  have hI' := hI
  obtain ⟨⟨l1, l2, l3, l4, l5, l6, l7, l8, l9, l10, l11, l12, l13, l14, l15⟩, lw, -, nw, -⟩ := hI
  have hp := px_pw l6
  intro m
  induction m with
  | zero =>
    intro c v s h1 hc hv vb lc F tr S
    have : c = N := by omega
    subst this
    rw [Nat.sub_self]
    have I1 := hI'.kp (px_mFk F)
    have e1 : h1 104 1 = nI c := I1.1.2.2.2.2.1
    have lc4 : ∀ b, b < B → pf_lc v b ≤ 4 := fun b hb => by have := lc b hb; have := (pf_hd_eq hI' hb).2.2; omega
    have part : ∀ n, n ≤ c → px_fold (fun k a => if q / 2 ^ k % 2 = 1 then a + pf_pc h cs k (v.getD (pf_on q k) 0) (pf_lc v (v.getD (pf_on q k) 0) - 1) else a) n 0 ≤ 99 * n := by
      intro n
      induction n with
      | zero => intro _; exact Nat.le_refl _
      | succ n ih =>
        intro hn
        have h1 := ih (by omega)
        have h2 := (pf_pc_eq (cs := cs) (b := v.getD (pf_on q n) 0) (m := pf_lc v (v.getD (pf_on q n) 0) - 1) hI' (show n < c by omega)).2
        rw [px_fold]
        split <;> omega
    refine px_M (M := mt_222) (ops := mo_222) tb_222 rfl rfl rfl rfl rfl ?_
    refine w_il (j := 1) rfl rfl rfl ?_
    refine w_al (j := 2) rfl rfl rfl ?_
    first | refine w_gr (j := 3) rfl rfl (by first | assumption | rfl) (by first | assumption | rfl) rfl ?_ | refine w_gi (j := 3) rfl rfl (by first | assumption | rfl) (by first | assumption | rfl) rfl rfl ?_
    refine w_ic (n := 1) (j := 4) rfl rfl ?_
    refine w_ial (j := 5) rfl rfl (by first | assumption | rfl) rfl (by omega) rfl e1 ?_
    refine w_neN (j := 6) rfl rfl (by omega) (by omega) (fun c => absurd c (fun c => by omega)) (fun _ => ?_)
    refine w_ic (n := 0) (j := 7) rfl rfl ?_
    refine w_is (j := 8) rfl rfl rfl ?_
    refine w_ic (n := 0) (j := 9) rfl rfl ?_
    refine w_iS (j := 10) rfl rfl rfl ?_
    refine px_forI (fun k ls h2 => ls = [.ref 100, .int (nI q), .int (nI c), .int (nI (px_fold (fun k a => if q / 2 ^ k % 2 = 1 then a + pf_pc h cs k (v.getD (pf_on q k) 0) (pf_lc v (v.getD (pf_on q k) 0) - 1) else a) k 0)), .int (nI k)] ∧ px_fr [494, 495] h1 h2) c ?_ ?_ ⟨rfl, px_fr.rf⟩
    · rintro k _ h2 hk ⟨rfl, fr⟩ H
      have F2 := F.tr2 fr
      have I2 := hI'.kp (px_mFk F2)
      have e12 : h2 104 1 = nI c := I2.1.2.2.2.2.1
      rw [px_fold] at H
      generalize px_fold (fun k a => if q / 2 ^ k % 2 = 1 then a + pf_pc h cs k (v.getD (pf_on q k) 0) (pf_lc v (v.getD (pf_on q k) 0) - 1) else a) k 0 = A at H ⊢
      refine w_iL (j := 11) rfl rfl rfl ?_
      refine w_al (j := 12) rfl rfl rfl ?_
      first | refine w_gr (j := 13) rfl rfl (by first | assumption | rfl) (by first | assumption | rfl) rfl ?_ | refine w_gi (j := 13) rfl rfl (by first | assumption | rfl) (by first | assumption | rfl) rfl rfl ?_
      refine w_ic (n := 1) (j := 14) rfl rfl ?_
      refine w_ial (j := 15) rfl rfl (by first | assumption | rfl) rfl (by omega) rfl e12 ?_
      refine w_geN (j := 16) rfl rfl (by omega) (by omega) (fun c => absurd c (fun c => by omega)) (fun _ => ?_)
      refine w_il (j := 17) rfl rfl rfl ?_
      refine w_il (j := 18) rfl rfl rfl ?_
      refine w_iL (j := 19) rfl rfl rfl ?_
      refine w_csI (j := 20) rfl rfl rfl rfl rfl (sp_158N (by omega) (by omega)) rfl ?_
      by_cases hb : q / 2 ^ k % 2 = 1
      rw [decide_eq_true hb]
      rotate_left
      · rw [decide_eq_false hb]
        rw [if_neg hb] at H
        refine w_eqB (j := 21) rfl rfl (fun _ => ?_) (fun c => absurd c (by simp))
        refine w_ic (n := 0) (j := 55) rfl rfl ?_
        first | refine w_add0 (j := 56) rfl rfl ?_ | refine w_addN (j := 56) rfl rfl ?_ | refine w_add (j := 56) rfl rfl ?_
        refine w_is (j := 57) rfl rfl rfl ?_
        first | refine w_incN (j := 58) rfl rfl rfl ?_ | refine w_inc (j := 58) rfl rfl rfl rfl ?_
        refine w_go rfl ?_
        exact H _ _ ⟨rfl, fr⟩
      rw [if_pos hb] at H
      have rk : pf_on q k < v.length := by
        rw [hv]
        have := pf_on_mono q (show k + 1 ≤ c by omega)
        rw [pf_on, hb] at this
        omega
      have vk := vb _ rk
      have r578 : h2 578 = h1 578 := fr 578 (by decide)
      have et : h2 578 k = nI (v.getD (pf_on q k) 0) := by
        rw [r578, tr k (by omega)]
        unfold pf_at
        rw [if_pos ⟨hb, rk⟩]
      have ct : pf_ct (h2 578) (h2 578 k) c = pf_lc v (v.getD (pf_on q k) 0) := by
        rw [et]
        exact pf_ct_at (q := q) (by omega) (fun i hi => by have := vb i hi; omega) (by omega) (fun j hj => by rw [r578]; exact tr j (by omega))
      have z113 : 113 + v.getD (pf_on q k) 0 ∉ [494, 495, 578, 601, 100] := by
        generalize v.getD (pf_on q k) 0 = x at vk
        simp
        omega
      have pos := pf_lc_pos rk
      have le4 := lc4 _ vk
      refine w_eqB (j := 21) rfl rfl (fun c => absurd c (by simp)) (fun _ => ?_)
      refine w_al (j := 22) rfl rfl rfl ?_
      refine w_al (j := 23) rfl rfl rfl ?_
      first | refine w_gr (j := 24) rfl rfl (by first | assumption | rfl) (by first | assumption | rfl) rfl ?_ | refine w_gi (j := 24) rfl rfl (by first | assumption | rfl) (by first | assumption | rfl) rfl rfl ?_
      refine w_iL (j := 25) rfl rfl rfl ?_
      refine w_al (j := 26) rfl rfl rfl ?_
      first | refine w_gr (j := 27) rfl rfl (by first | assumption | rfl) (by first | assumption | rfl) rfl ?_ | refine w_gi (j := 27) rfl rfl (by first | assumption | rfl) (by first | assumption | rfl) rfl rfl ?_
      refine w_ic (n := 0) (j := 28) rfl rfl ?_
      refine w_iL (j := 29) rfl rfl rfl ?_
      first | refine w_add0 (j := 30) rfl rfl ?_ | refine w_addN (j := 30) rfl rfl ?_ | refine w_add (j := 30) rfl rfl ?_
      refine w_ial (j := 31) rfl rfl (by first | assumption | rfl) rfl (by omega) rfl et ?_
      refine w_al (j := 32) rfl rfl rfl ?_
      refine w_al (j := 33) rfl rfl rfl ?_
      first | refine w_gr (j := 34) rfl rfl (by first | assumption | rfl) (by first | assumption | rfl) rfl ?_ | refine w_gi (j := 34) rfl rfl (by first | assumption | rfl) (by first | assumption | rfl) rfl rfl ?_
      refine w_iL (j := 35) rfl rfl rfl ?_
      refine w_cvI (j := 36) rfl rfl rfl rfl (by first | assumption | rfl) rfl rfl (sp_196 px_Rw578 e12 l6 (by omega)) rfl ?_
      rw [ct, px_nsub pos]
      refine w_al (j := 37) rfl rfl rfl ?_
      first | refine w_gr (j := 38) rfl rfl (by first | assumption | rfl) (by first | assumption | rfl) rfl ?_ | refine w_gi (j := 38) rfl rfl (by first | assumption | rfl) (by first | assumption | rfl) rfl rfl ?_
      refine w_bi (j := 39) (a := nI 8) rfl rfl (by decide) ?_
      refine w_iL (j := 40) rfl rfl rfl ?_
      first | refine w_add0 (j := 41) rfl rfl ?_ | refine w_addN (j := 41) rfl rfl ?_ | refine w_add (j := 41) rfl rfl ?_
      refine w_ial (j := 42) rfl rfl (by first | assumption | rfl) rfl (by omega) rfl rfl ?_
      refine w_al (j := 43) rfl rfl rfl ?_
      first | refine w_gr (j := 44) rfl rfl (by first | assumption | rfl) (by first | assumption | rfl) rfl ?_ | refine w_gi (j := 44) rfl rfl (by first | assumption | rfl) (by first | assumption | rfl) rfl rfl ?_
      refine w_bi (j := 45) (a := nI 16) rfl rfl (by decide) ?_
      refine w_iL (j := 46) rfl rfl rfl ?_
      first | refine w_add0 (j := 47) rfl rfl ?_ | refine w_addN (j := 47) rfl rfl ?_ | refine w_add (j := 47) rfl rfl ?_
      refine w_ial (j := 48) rfl rfl (by first | assumption | rfl) rfl (by omega) rfl rfl ?_
      refine w_al (j := 49) rfl rfl rfl ?_
      first | refine w_gr (j := 50) rfl rfl (by first | assumption | rfl) (by first | assumption | rfl) rfl ?_ | refine w_gi (j := 50) rfl rfl (by first | assumption | rfl) (by first | assumption | rfl) rfl rfl ?_
      refine w_bi (j := 51) (a := nI 31) rfl rfl (by decide) ?_
      refine w_ial (j := 52) rfl rfl (by first | assumption | rfl) rfl (by omega) rfl rfl ?_
      refine w_cvPI (j := 53) rfl rfl rfl rfl (by first | assumption | rfl) rfl rfl (sp_199 px_Rw577 (by omega) (by omega) I2.2.1.2.1 I2.2.1.2.2) rfl ?_
      rintro w h3 ⟨e3, f3⟩
      have e3 : w = nI (pf_pc h cs k (v.getD (pf_on q k) 0) (pf_lc v (v.getD (pf_on q k) 0) - 1)) := by
        rw [e3, ← (pf_pc_eq hI' hk).1, F2.1 (113 + v.getD (pf_on q k) 0) z113, F2.1 (129 + k) (by simp; omega), F2.1 577 (by decide), ← (l12 _ vk).1, ← (l13 k hk).1, ← nw.2.2.2.2.1 _ (by omega), ← (nw.1 k (by omega)).1, ← nw.2.1 k (by omega), ← nw.2.2.2.2.2.2.1]
      subst e3
      refine w_go rfl ?_
      first | refine w_add0 (j := 56) rfl rfl ?_ | refine w_addN (j := 56) rfl rfl ?_ | refine w_add (j := 56) rfl rfl ?_
      refine w_is (j := 57) rfl rfl rfl ?_
      first | refine w_incN (j := 58) rfl rfl rfl ?_ | refine w_inc (j := 58) rfl rfl rfl rfl ?_
      refine w_go rfl ?_
      exact H _ _ ⟨rfl, fr.tr f3⟩
    · rintro _ h2 ⟨rfl, fr⟩
      have F2 := F.tr2 fr
      have I2 := hI'.kp (px_mFk F2)
      have e12 : h2 104 1 = nI c := I2.1.2.2.2.2.1
      have r578 : h2 578 = h1 578 := fr 578 (by decide)
      have S2 := S.tr2 (by rw [fr 100 (by decide)]) (fr 601 (by decide))
      have big := part c (Nat.le_refl _)
      have j0 : pf_tr (pf_hd h) B (pf_co h cs c q) 0 v s = pf_jd (pf_co h cs c q) v s := rfl
      have j1 : pf_jd (pf_co h cs c q) v none = some (pf_co h cs c q v, v) := rfl
      have j2 : ∀ p, pf_jd (pf_co h cs c q) v (some p) = if pf_co h cs c q v < p.1 then some (pf_co h cs c q v, v) else some p := fun _ => rfl
      rw [show px_fold (fun k a => if q / 2 ^ k % 2 = 1 then a + pf_pc h cs k (v.getD (pf_on q k) 0) (pf_lc v (v.getD (pf_on q k) 0) - 1) else a) c 0 = pf_co h cs c q v from rfl] at big ⊢
      rw [j0]
      generalize pf_co h cs c q v = C at big j1 j2 ⊢
      have fin : px_R px_E 7 mo_222 [] 68 [.ref 100, .int (nI q), .int (nI c), .int (nI C), .int (nI c)] [] h2 0 (fun r => ∃ h', r = (.inl none, h', 0) ∧ px_mF h h' ∧ (∀ k, k < 8 → h' 578 k = pf_at q v k) ∧ px_mS h' c q (some (C, v))) := by
        refine w_al (j := 69) rfl rfl rfl ?_
        refine w_il (j := 70) rfl rfl rfl ?_
        refine w_pf (j := 71) rfl rfl (by first | assumption | rfl) (by first | assumption | rfl) rfl ?_
        refine w_ic (n := 0) (j := 72) rfl rfl ?_
        refine w_iS (j := 73) rfl rfl rfl ?_
        refine px_forI (fun k ls h3 => ls = [.ref 100, .int (nI q), .int (nI c), .int (nI C), .int (nI k)] ∧ px_fr [601, 100] h2 h3 ∧ (∀ j, j ≠ 43 → h3 100 j = h2 100 j) ∧ h3 100 43 = nI C ∧ ∀ k', k' < k → h3 601 k' = pf_at q v k') c ?_ ?_ ⟨rfl, px_fr.rf.up (by decide), fun j hj => px_up_nk hj, px_up_at, fun k' hk' => by omega⟩
        · rintro k _ h3 hk ⟨rfl, u1, u2, u3, u4⟩ H
          have e13 : h3 104 1 = nI c := by rw [u1 104 (by decide)]; exact e12
          have et : h3 578 k = pf_at q v k := by rw [u1 578 (by decide), r578]; exact tr k (by omega)
          refine w_iL (j := 74) rfl rfl rfl ?_
          refine w_al (j := 75) rfl rfl rfl ?_
          first | refine w_gr (j := 76) rfl rfl (by first | assumption | rfl) (by first | assumption | rfl) rfl ?_ | refine w_gi (j := 76) rfl rfl (by first | assumption | rfl) (by first | assumption | rfl) rfl rfl ?_
          refine w_ic (n := 1) (j := 77) rfl rfl ?_
          refine w_ial (j := 78) rfl rfl (by first | assumption | rfl) rfl (by omega) rfl e13 ?_
          refine w_geN (j := 79) rfl rfl (by omega) (by omega) (fun c => absurd c (fun c => by omega)) (fun _ => ?_)
          refine w_al (j := 80) rfl rfl rfl ?_
          first | refine w_gr (j := 81) rfl rfl (by first | assumption | rfl) (by first | assumption | rfl) rfl ?_ | refine w_gi (j := 81) rfl rfl (by first | assumption | rfl) (by first | assumption | rfl) rfl rfl ?_
          refine w_iL (j := 82) rfl rfl rfl ?_
          refine w_al (j := 83) rfl rfl rfl ?_
          first | refine w_gr (j := 84) rfl rfl (by first | assumption | rfl) (by first | assumption | rfl) rfl ?_ | refine w_gi (j := 84) rfl rfl (by first | assumption | rfl) (by first | assumption | rfl) rfl rfl ?_
          refine w_ic (n := 0) (j := 85) rfl rfl ?_
          refine w_iL (j := 86) rfl rfl rfl ?_
          first | refine w_add0 (j := 87) rfl rfl ?_ | refine w_addN (j := 87) rfl rfl ?_ | refine w_add (j := 87) rfl rfl ?_
          refine w_ial (j := 88) rfl rfl (by first | assumption | rfl) rfl (by omega) rfl et ?_
          refine w_ias (j := 89) rfl rfl (by first | assumption | rfl) rfl (by omega) rfl ?_
          first | refine w_incN (j := 90) rfl rfl rfl ?_ | refine w_inc (j := 90) rfl rfl rfl rfl ?_
          refine w_go rfl ?_
          refine H _ _ ⟨rfl, u1.up (by decide), fun j hj => ?_, ?_, fun k' hk' => ?_⟩
          · rw [px_up_na (by decide)]; exact u2 j hj
          · rw [px_up_na (by decide)]; exact u3
          · by_cases e : k' = k
            · subst e; rw [px_up_at]
            · rw [px_up_nk e]; exact u4 k' (by omega)
        · rintro _ h3 ⟨rfl, u1, u2, u3, u4⟩
          have e13 : h3 104 1 = nI c := by rw [u1 104 (by decide)]; exact e12
          refine w_iL (j := 74) rfl rfl rfl ?_
          refine w_al (j := 75) rfl rfl rfl ?_
          first | refine w_gr (j := 76) rfl rfl (by first | assumption | rfl) (by first | assumption | rfl) rfl ?_ | refine w_gi (j := 76) rfl rfl (by first | assumption | rfl) (by first | assumption | rfl) rfl rfl ?_
          refine w_ic (n := 1) (j := 77) rfl rfl ?_
          refine w_ial (j := 78) rfl rfl (by first | assumption | rfl) rfl (by omega) rfl e13 ?_
          refine w_geN (j := 79) rfl rfl (by omega) (by omega) (fun _ => ?_) (fun c => absurd c (fun c => by omega))
          refine w_rt rfl ?_
          refine ⟨_, rfl, ⟨F2.1.tr (u1.sub (by decide)), fun j hj => by rw [u2 j hj]; exact F2.2 j hj⟩, fun k hk => by rw [u1 578 (by decide), r578]; exact tr k hk, u3, by show C ≤ 1000; omega, hv, u4⟩
      cases s with
      | none =>
        rw [j1]
        have s1 : h2 100 43 = -1 := S2.1
        refine w_iL (j := 11) rfl rfl rfl ?_
        refine w_al (j := 12) rfl rfl rfl ?_
        first | refine w_gr (j := 13) rfl rfl (by first | assumption | rfl) (by first | assumption | rfl) rfl ?_ | refine w_gi (j := 13) rfl rfl (by first | assumption | rfl) (by first | assumption | rfl) rfl rfl ?_
        refine w_ic (n := 1) (j := 14) rfl rfl ?_
        refine w_ial (j := 15) rfl rfl (by first | assumption | rfl) rfl (by omega) rfl e12 ?_
        refine w_geN (j := 16) rfl rfl (by omega) (by omega) (fun _ => ?_) (fun c => absurd c (fun c => by omega))
        refine w_al (j := 60) rfl rfl rfl ?_
        first | refine w_gr (j := 61) rfl rfl (by first | assumption | rfl) (by first | assumption | rfl) rfl ?_ | refine w_gi (j := 61) rfl rfl (by first | assumption | rfl) (by first | assumption | rfl) rfl s1 ?_
        refine w_im (j := 62) rfl rfl ?_
        refine w_eq (j := 63) rfl rfl (fun _ => ?_) (fun c => absurd c (fun q => q rfl))
        exact fin
      | some p =>
        rw [j2]
        obtain ⟨s1, s2, s3, s4⟩ := S2
        refine w_iL (j := 11) rfl rfl rfl ?_
        refine w_al (j := 12) rfl rfl rfl ?_
        first | refine w_gr (j := 13) rfl rfl (by first | assumption | rfl) (by first | assumption | rfl) rfl ?_ | refine w_gi (j := 13) rfl rfl (by first | assumption | rfl) (by first | assumption | rfl) rfl rfl ?_
        refine w_ic (n := 1) (j := 14) rfl rfl ?_
        refine w_ial (j := 15) rfl rfl (by first | assumption | rfl) rfl (by omega) rfl e12 ?_
        refine w_geN (j := 16) rfl rfl (by omega) (by omega) (fun _ => ?_) (fun c => absurd c (fun c => by omega))
        refine w_al (j := 60) rfl rfl rfl ?_
        first | refine w_gr (j := 61) rfl rfl (by first | assumption | rfl) (by first | assumption | rfl) rfl ?_ | refine w_gi (j := 61) rfl rfl (by first | assumption | rfl) (by first | assumption | rfl) rfl s1 ?_
        refine w_im (j := 62) rfl rfl ?_
        refine w_eq (j := 63) rfl rfl (fun c => absurd c (px_nm1 (by omega))) (fun _ => ?_)
        refine w_il (j := 64) rfl rfl rfl ?_
        refine w_al (j := 65) rfl rfl rfl ?_
        first | refine w_gr (j := 66) rfl rfl (by first | assumption | rfl) (by first | assumption | rfl) rfl ?_ | refine w_gi (j := 66) rfl rfl (by first | assumption | rfl) (by first | assumption | rfl) rfl s1 ?_
        refine w_ltN (j := 67) rfl rfl (by omega) (by omega) (fun d1 => ?_) (fun d1 => ?_)
        ·
          rw [if_pos d1]
          exact fin
        ·
          rw [if_neg (by omega)]
          refine w_rt rfl ?_
          exact ⟨_, rfl, F2, fun k hk => by rw [r578]; exact tr k hk, s1, s2, s3, s4⟩
  | succ m ih =>
    intro c v s h1 hc hv vb lc F tr S
    have I1 := hI'.kp (px_mFk F)
    have e1 : h1 104 1 = nI N := I1.1.2.2.2.2.1
    have e2 : ix_up h1 578 c (-1) = h1 := px_up_same (by rw [tr c (by omega), pf_at_n hv])
    have on2 := pf_on_mono q (show c + 1 ≤ N by omega)
    refine px_M (M := mt_222) (ops := mo_222) tb_222 rfl rfl rfl rfl rfl ?_
    refine w_il (j := 1) rfl rfl rfl ?_
    refine w_al (j := 2) rfl rfl rfl ?_
    first | refine w_gr (j := 3) rfl rfl (by first | assumption | rfl) (by first | assumption | rfl) rfl ?_ | refine w_gi (j := 3) rfl rfl (by first | assumption | rfl) (by first | assumption | rfl) rfl rfl ?_
    refine w_ic (n := 1) (j := 4) rfl rfl ?_
    refine w_ial (j := 5) rfl rfl (by first | assumption | rfl) rfl (by omega) rfl e1 ?_
    refine w_neN (j := 6) rfl rfl (by omega) (by omega) (fun _ => ?_) (fun c => absurd c (fun c => by omega))
    refine w_al (j := 93) rfl rfl rfl ?_
    first | refine w_gr (j := 94) rfl rfl (by first | assumption | rfl) (by first | assumption | rfl) rfl ?_ | refine w_gi (j := 94) rfl rfl (by first | assumption | rfl) (by first | assumption | rfl) rfl rfl ?_
    refine w_ic (n := 0) (j := 95) rfl rfl ?_
    refine w_il (j := 96) rfl rfl rfl ?_
    first | refine w_add0 (j := 97) rfl rfl ?_ | refine w_addN (j := 97) rfl rfl ?_ | refine w_add (j := 97) rfl rfl ?_
    refine w_im (j := 98) rfl rfl ?_
    refine w_ias (j := 99) rfl rfl (by first | assumption | rfl) rfl (by omega) rfl ?_
    rw [e2]
    refine w_il (j := 100) rfl rfl rfl ?_
    refine w_il (j := 101) rfl rfl rfl ?_
    refine w_csI (j := 102) rfl rfl rfl rfl rfl (sp_158N (by omega) (by omega)) rfl ?_
    by_cases hb : q / 2 ^ c % 2 = 1
    rw [decide_eq_true hb]
    rotate_left
    · rw [decide_eq_false hb]
      have on1 : pf_on q (c + 1) = pf_on q c := by rw [pf_on]; omega
      refine w_neB (j := 103) rfl rfl (fun c => absurd c (by simp)) (fun _ => ?_)
      refine w_al (j := 104) rfl rfl rfl ?_
      refine w_il (j := 105) rfl rfl rfl ?_
      refine w_il (j := 106) rfl rfl rfl ?_
      refine w_ic (n := 1) (j := 107) rfl rfl ?_
      first | refine w_add0 (j := 108) rfl rfl ?_ | refine w_addN (j := 108) rfl rfl ?_ | refine w_add (j := 108) rfl rfl ?_
      have ihx := ih (c + 1) v s h1 (by omega) (by rw [on1]; exact hv) vb lc F tr S
      rw [on1] at ihx
      refine w_cvPU (j := 109) rfl rfl rfl rfl (by first | assumption | rfl) rfl rfl (ihx) (Nat.ble_eq.mpr (by omega)) ?_
      rintro h2 R2
      refine w_rt rfl ?_
      exact ⟨_, rfl, R2⟩
    have on1 : pf_on q (c + 1) = pf_on q c + 1 := by rw [pf_on, hb]
    rw [on1] at on2
    refine w_neB (j := 103) rfl rfl (fun _ => ?_) (fun c => absurd c (by simp))
    refine w_ic (n := 0) (j := 111) rfl rfl ?_
    refine w_is (j := 112) rfl rfl rfl ?_
    rw [show pf_on q N - pf_on q c = (pf_on q N - (pf_on q c + 1)) + 1 by omega]
    have tru : ∀ s, pf_tr (pf_hd h) B (pf_co h cs N q) (pf_on q N - (pf_on q c + 1) + 1) v s = px_fold (fun b s => if pf_lc v b < pf_hd h b then pf_tr (pf_hd h) B (pf_co h cs N q) (pf_on q N - (pf_on q c + 1)) (v ++ [b]) s else s) B s := fun _ => rfl
    rw [tru]
    refine px_forI (fun b ls h2 => (∃ g, ls = [.ref 100, .int (nI q), .int (nI c), .int (nI b), g]) ∧ px_mF h h2 ∧ (∀ k, k < 8 → k ≠ c → h2 578 k = pf_at q v k) ∧ px_mS h2 N q (px_fold (fun b s => if pf_lc v b < pf_hd h b then pf_tr (pf_hd h) B (pf_co h cs N q) (pf_on q N - (pf_on q c + 1)) (v ++ [b]) s else s) b s)) B ?_ ?_ ⟨⟨_, rfl⟩, F, fun k hk _ => tr k hk, S⟩
    · rintro b _ h2 hbB ⟨⟨g, rfl⟩, F2, tr2, S2⟩ H
      rw [px_fold] at H
      generalize px_fold (fun b s => if pf_lc v b < pf_hd h b then pf_tr (pf_hd h) B (pf_co h cs N q) (pf_on q N - (pf_on q c + 1)) (v ++ [b]) s else s) b s = s2 at S2 H
      have I2 := hI'.kp (px_mFk F2)
      have e0 : h2 104 0 = nI B := I2.1.2.1
      refine w_il (j := 113) rfl rfl rfl ?_
      refine w_al (j := 114) rfl rfl rfl ?_
      first | refine w_gr (j := 115) rfl rfl (by first | assumption | rfl) (by first | assumption | rfl) rfl ?_ | refine w_gi (j := 115) rfl rfl (by first | assumption | rfl) (by first | assumption | rfl) rfl rfl ?_
      refine w_ic (n := 0) (j := 116) rfl rfl ?_
      refine w_ial (j := 117) rfl rfl (by first | assumption | rfl) rfl (by omega) rfl e0 ?_
      refine w_geN (j := 118) rfl rfl (by omega) (by omega) (fun c => absurd c (fun c => by omega)) (fun _ => ?_)
      refine w_al (j := 119) rfl rfl rfl ?_
      first | refine w_gr (j := 120) rfl rfl (by first | assumption | rfl) (by first | assumption | rfl) rfl ?_ | refine w_gi (j := 120) rfl rfl (by first | assumption | rfl) (by first | assumption | rfl) rfl rfl ?_
      refine w_ic (n := 0) (j := 121) rfl rfl ?_
      refine w_il (j := 122) rfl rfl rfl ?_
      first | refine w_add0 (j := 123) rfl rfl ?_ | refine w_addN (j := 123) rfl rfl ?_ | refine w_add (j := 123) rfl rfl ?_
      refine w_im (j := 124) rfl rfl ?_
      refine w_ias (j := 125) rfl rfl (by first | assumption | rfl) rfl (by omega) rfl ?_
      have F3 : px_mF h (ix_up h2 578 c (-1)) := ⟨F2.1.up (by decide), fun j hj => by rw [px_up_na (by decide)]; exact F2.2 j hj⟩
      have tr3 : ∀ k, k < 8 → ix_up h2 578 c (-1) 578 k = pf_at q v k := fun k hk => by
        by_cases e : k = c
        · subst e; rw [px_up_at, pf_at_n hv]
        · rw [px_up_nk e]; exact tr2 k hk e
      have S3 : px_mS (ix_up h2 578 c (-1)) N q s2 := S2.tr2 (px_up_na (by decide)) (ix_up_ne (by decide))
      generalize ix_up h2 578 c (-1) = h3 at F3 tr3 S3 ⊢
      have I3 := hI'.kp (px_mFk F3)
      have ct := pf_ct_at (p := h3 578) (q := q) (N := N) (by omega) (fun i hi => by have := vb i hi; omega) (show b < 6 by omega) (fun k hk => tr3 k (by omega))
      obtain ⟨d1, d2, d3⟩ := pf_hd_eq hI' hbB
      have s113 := sh_113 b (by omega)
      have e113 : h3 (113 + b) 1 = nI (pf_hd h b) := by rw [F3.1 (113 + b) (by simp; omega), ← (l12 b hbB).2.1]; exact d1
      have lb := lc b hbB
      refine w_al (j := 126) rfl rfl rfl ?_
      refine w_al (j := 127) rfl rfl rfl ?_
      first | refine w_gr (j := 128) rfl rfl (by first | assumption | rfl) (by first | assumption | rfl) rfl ?_ | refine w_gi (j := 128) rfl rfl (by first | assumption | rfl) (by first | assumption | rfl) rfl rfl ?_
      refine w_il (j := 129) rfl rfl rfl ?_
      refine w_cvI (j := 130) rfl rfl rfl rfl (by first | assumption | rfl) rfl rfl (sp_197 px_Rw578 I3.1.2.2.2.2.1 l6) rfl ?_
      rw [ct]
      refine w_al (j := 131) rfl rfl rfl ?_
      first | refine w_gr (j := 132) rfl rfl (by first | assumption | rfl) (by first | assumption | rfl) rfl ?_ | refine w_gi (j := 132) rfl rfl (by first | assumption | rfl) (by first | assumption | rfl) rfl rfl ?_
      refine w_il (j := 133) rfl rfl rfl ?_
      refine w_aal (j := 134) rfl rfl (by first | assumption | rfl) rfl (by omega) rfl ?_
      refine w_ic (n := 1) (j := 135) rfl rfl ?_
      refine w_ial (j := 136) rfl rfl (by first | assumption | rfl) rfl (by omega) rfl e113 ?_
      refine w_neN (j := 137) rfl rfl (by omega) (by omega) (fun c1 => ?_) (fun c1 => ?_)
      rotate_left
      ·
        rw [if_neg (by omega)] at H
        refine w_go rfl ?_
        first | refine w_incN (j := 152) rfl rfl rfl ?_ | refine w_inc (j := 152) rfl rfl rfl rfl ?_
        refine w_go rfl ?_
        exact H _ _ ⟨⟨_, rfl⟩, F3, fun k hk _ => tr3 k hk, S3⟩
      rw [if_pos (by omega)] at H
      refine w_al (j := 139) rfl rfl rfl ?_
      first | refine w_gr (j := 140) rfl rfl (by first | assumption | rfl) (by first | assumption | rfl) rfl ?_ | refine w_gi (j := 140) rfl rfl (by first | assumption | rfl) (by first | assumption | rfl) rfl rfl ?_
      refine w_ic (n := 0) (j := 141) rfl rfl ?_
      refine w_il (j := 142) rfl rfl rfl ?_
      first | refine w_add0 (j := 143) rfl rfl ?_ | refine w_addN (j := 143) rfl rfl ?_ | refine w_add (j := 143) rfl rfl ?_
      refine w_il (j := 144) rfl rfl rfl ?_
      refine w_ias (j := 145) rfl rfl (by first | assumption | rfl) rfl (by omega) rfl ?_
      refine w_al (j := 146) rfl rfl rfl ?_
      refine w_il (j := 147) rfl rfl rfl ?_
      refine w_il (j := 148) rfl rfl rfl ?_
      refine w_ic (n := 1) (j := 149) rfl rfl ?_
      first | refine w_add0 (j := 150) rfl rfl ?_ | refine w_addN (j := 150) rfl rfl ?_ | refine w_add (j := 150) rfl rfl ?_
      have F4 : px_mF h (ix_up h3 578 c (nI b)) := ⟨F3.1.up (by decide), fun j hj => by rw [px_up_na (by decide)]; exact F3.2 j hj⟩
      have ihx := ih (c + 1) (v ++ [b]) s2 (ix_up h3 578 c (nI b)) (by omega) (by rw [List.length_append, List.length_singleton, on1]; omega) (fun i hi => by
        rw [List.length_append, List.length_singleton] at hi
        by_cases e : i = v.length
        · subst e; rw [pf_getr]; exact hbB
        · rw [pf_getl (by omega)]; exact vb i (by omega)) (fun b' hb' => by
        rw [pf_lc_app]
        by_cases e : b = b'
        · subst e; rw [if_pos rfl]; omega
        · rw [if_neg e]; exact lc b' hb') F4 (fun k hk => by
        rw [pf_at_app hv hb]
        by_cases e : k = c
        · subst e; rw [px_up_at, if_pos rfl]
        · rw [px_up_nk e, if_neg e]; exact tr3 k hk) (S3.tr2 (px_up_na (by decide)) (ix_up_ne (by decide)))
      rw [on1] at ihx
      refine w_cvPU (j := 151) rfl rfl rfl rfl (by first | assumption | rfl) rfl rfl (ihx) (Nat.ble_eq.mpr (by omega)) ?_
      rintro h5 ⟨F5, tr5, S5⟩
      first | refine w_incN (j := 152) rfl rfl rfl ?_ | refine w_inc (j := 152) rfl rfl rfl rfl ?_
      refine w_go rfl ?_
      refine H _ _ ⟨⟨_, rfl⟩, F5, fun k hk hkc => ?_, S5⟩
      rw [tr5 k hk, pf_at_app hv hb, if_neg hkc]
    · rintro _ h2 ⟨⟨g, rfl⟩, F2, tr2, S2⟩
      have I2 := hI'.kp (px_mFk F2)
      have e0 : h2 104 0 = nI B := I2.1.2.1
      refine w_il (j := 113) rfl rfl rfl ?_
      refine w_al (j := 114) rfl rfl rfl ?_
      first | refine w_gr (j := 115) rfl rfl (by first | assumption | rfl) (by first | assumption | rfl) rfl ?_ | refine w_gi (j := 115) rfl rfl (by first | assumption | rfl) (by first | assumption | rfl) rfl rfl ?_
      refine w_ic (n := 0) (j := 116) rfl rfl ?_
      refine w_ial (j := 117) rfl rfl (by first | assumption | rfl) rfl (by omega) rfl e0 ?_
      refine w_geN (j := 118) rfl rfl (by omega) (by omega) (fun _ => ?_) (fun c => absurd c (fun c => by omega))
      refine w_al (j := 154) rfl rfl rfl ?_
      first | refine w_gr (j := 155) rfl rfl (by first | assumption | rfl) (by first | assumption | rfl) rfl ?_ | refine w_gi (j := 155) rfl rfl (by first | assumption | rfl) (by first | assumption | rfl) rfl rfl ?_
      refine w_ic (n := 0) (j := 156) rfl rfl ?_
      refine w_il (j := 157) rfl rfl rfl ?_
      first | refine w_add0 (j := 158) rfl rfl ?_ | refine w_addN (j := 158) rfl rfl ?_ | refine w_add (j := 158) rfl rfl ?_
      refine w_im (j := 159) rfl rfl ?_
      refine w_ias (j := 160) rfl rfl (by first | assumption | rfl) rfl (by omega) rfl ?_
      refine w_rt rfl ?_
      refine ⟨_, rfl, ⟨F2.1.up (by decide), fun j hj => by rw [px_up_na (by decide)]; exact F2.2 j hj⟩, fun k hk => ?_, S2.tr2 (px_up_na (by decide)) (ix_up_ne (by decide))⟩
      by_cases e : k = c
      · subst e; rw [px_up_at, pf_at_n hv]
      · rw [px_up_nk e]; exact tr2 k hk e
end PL
