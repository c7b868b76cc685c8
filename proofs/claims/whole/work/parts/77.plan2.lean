section PL
variable {h : ix_H} {B N T L W I t : Nat} {cs : List (Nat × Nat)}
def px_fo (h h1 : ix_H) (cs : List (Nat × Nat)) (B q c : Nat) : Prop := px_fr [42, 45, 76, 77] h h1 ∧ h1 76 6 = nI (pf_on q c) ∧ ∀ k b m, k < c → q / 2 ^ k % 2 = 1 → b < B → m < 4 → h1 77 ((pf_on q k * 6 + b) * 4 + m) = nI (pf_pc h cs k b m)
theorem sp_51 {q : Nat} (hI : px_I h B N T cs L W I t) (hq : q < 2 ^ N) (hn5 : pf_on q N ≤ 5) : px_PU 5 51 [.ref 76, .int (nI q), .ref 64] h (fun h1 => px_fo h h1 cs B q N) := by
  have hI' := hI
  obtain ⟨⟨l1, l2, l3, l4, l5, l6, l7, l8, l9⟩, lw, -, nw, -⟩ := hI
  have hp := px_pw l6
  refine px_M (M := mt_51) (ops := mo_51) tb_51 rfl rfl rfl rfl rfl ?_
  refine w_al (j := 1) rfl rfl rfl ?_
  refine w_ic (n := 0) (j := 2) rfl rfl ?_
  refine w_pf (j := 3) rfl rfl (by first | assumption | rfl) (by first | assumption | rfl) rfl ?_
  refine w_ic (n := 0) (j := 4) rfl rfl ?_
  refine w_is (j := 5) rfl rfl rfl ?_
  refine px_forI (fun c ls h1 => (∃ g1 g2, ls = [.ref 76, .int (nI q), .ref 64, .int (nI c), g1, g2]) ∧ px_fo h h1 cs B q c) N ?_ ?_ ⟨⟨_, _, rfl⟩, px_fr.rf.up (by decide), rfl, fun k b m hk => by omega⟩
  · rintro c _ h1 hc ⟨⟨g1, g2, rfl⟩, R⟩ H
    have e7 := px_f3 R.1 l4 (by decide)
    have on1 := pf_on_mono q (show c ≤ N by omega)
    have on2 := pf_on_mono q (show c + 1 ≤ N by omega)
    have e6 := R.2.1
    refine w_il (j := 6) rfl rfl rfl ?_
    refine w_al (j := 7) rfl rfl rfl ?_
    first | refine w_gr (j := 8) rfl rfl (by first | assumption | rfl) (by first | assumption | rfl) rfl ?_ | refine w_gi (j := 8) rfl rfl (by first | assumption | rfl) (by first | assumption | rfl) rfl rfl ?_
    first | refine w_gr (j := 9) rfl rfl (by first | assumption | rfl) (by first | assumption | rfl) rfl ?_ | refine w_gi (j := 9) rfl rfl (by first | assumption | rfl) (by first | assumption | rfl) rfl e7 ?_
    refine w_geN (j := 10) rfl rfl (by omega) (by omega) (fun c => absurd c (fun c => by omega)) (fun _ => ?_)
    refine w_al (j := 11) rfl rfl rfl ?_
    first | refine w_gr (j := 12) rfl rfl (by first | assumption | rfl) (by first | assumption | rfl) rfl ?_ | refine w_gi (j := 12) rfl rfl (by first | assumption | rfl) (by first | assumption | rfl) rfl e6 ?_
    refine w_ic (n := 5) (j := 13) rfl rfl ?_
    refine w_geN (j := 14) rfl rfl (by omega) (by omega) (fun c1 => ?_) (fun c1 => ?_)
    ·
      refine w_rt rfl ?_
      have eq : ∀ k, c ≤ k → k < N → q / 2 ^ k % 2 ≠ 1 := fun k k1 k2 z => by
        have h1 := pf_on_mono q k1
        have h2 := pf_on_mono q (show k + 1 ≤ N by omega)
        rw [pf_on, z] at h2
        omega
      refine ⟨_, rfl, R.1, by rw [e6]; congr 1; omega, fun k b m hk hb hbb hm => ?_⟩
      by_cases hkc : k < c
      · exact R.2.2 k b m hkc hb hbb hm
      · exact absurd hb (eq k (by omega) hk)
    refine w_il (j := 15) rfl rfl rfl ?_
    refine w_il (j := 16) rfl rfl rfl ?_
    refine w_shr (j := 17) rfl rfl ?_
    refine w_ic (n := 1) (j := 18) rfl rfl ?_
    refine w_and (j := 19) rfl rfl ?_
    refine w_ic (n := 1) (j := 20) rfl rfl ?_
    rw [px_has (a := q) (k := c) (by omega) (by omega)]
    refine w_neN (j := 21) rfl rfl (by omega) (by omega) (fun c2 => ?_) (fun c2 => ?_)
    ·
      first | refine w_incN (j := 59) rfl rfl rfl ?_ | refine w_inc (j := 59) rfl rfl rfl rfl ?_
      refine w_go rfl ?_
      refine H _ _ ⟨⟨_, _, rfl⟩, R.1, by rw [e6, pf_on, show q / 2 ^ c % 2 = 0 by omega, Nat.add_zero], fun k b m hk hb hbb hm => ?_⟩
      by_cases hkc : k = c
      · rw [hkc] at hb; exact absurd hb c2
      · exact R.2.2 k b m (by omega) hb hbb hm
    rw [pf_on, c2] at on2
    refine w_ic (n := 0) (j := 22) rfl rfl ?_
    refine w_iS (j := 23) rfl rfl rfl ?_
    refine px_forI (fun b ls h2 => (∃ g2, ls = [.ref 76, .int (nI q), .ref 64, .int (nI c), .int (nI b), g2]) ∧ px_fo h h2 cs B q c ∧ ∀ b' m, b' < b → m < 4 → h2 77 ((pf_on q c * 6 + b') * 4 + m) = nI (pf_pc h cs c b' m)) B ?_ ?_ ⟨⟨_, rfl⟩, R, fun b' m hb' => by omega⟩
    · rintro b _ h2 hb ⟨⟨g2, rfl⟩, R2, t2⟩ H2
      have e66 := px_f3 R2.1 l1 (by decide)
      refine w_iL (j := 24) rfl rfl rfl ?_
      refine w_al (j := 25) rfl rfl rfl ?_
      first | refine w_gr (j := 26) rfl rfl (by first | assumption | rfl) (by first | assumption | rfl) rfl ?_ | refine w_gi (j := 26) rfl rfl (by first | assumption | rfl) (by first | assumption | rfl) rfl rfl ?_
      first | refine w_gr (j := 27) rfl rfl (by first | assumption | rfl) (by first | assumption | rfl) rfl ?_ | refine w_gi (j := 27) rfl rfl (by first | assumption | rfl) (by first | assumption | rfl) rfl e66 ?_
      refine w_geN (j := 28) rfl rfl (by omega) (by omega) (fun c => absurd c (fun c => by omega)) (fun _ => ?_)
      refine w_ic (n := 0) (j := 29) rfl rfl ?_
      refine w_iS (j := 30) rfl rfl rfl ?_
      refine px_forI (fun m ls h3 => ls = [.ref 76, .int (nI q), .ref 64, .int (nI c), .int (nI b), .int (nI m)] ∧ px_fo h h3 cs B q c ∧ (∀ b' m, b' < b → m < 4 → h3 77 ((pf_on q c * 6 + b') * 4 + m) = nI (pf_pc h cs c b' m)) ∧ ∀ m', m' < m → h3 77 ((pf_on q c * 6 + b) * 4 + m') = nI (pf_pc h cs c b m')) 4 ?_ ?_ ⟨rfl, R2, t2, fun m' hm' => by omega⟩
      · rintro m _ h3 hm ⟨rfl, R3, t3, t4⟩ H3
        have e6' := R3.2.1
        have r4 := R3.1 4 (by decide)
        have r6 := R3.1 6 (by decide)
        have r64 := R3.1 64 (by decide)
        have r65 := R3.1 65 (by decide)
        have r66 := R3.1 66 (by decide)
        refine w_iL (j := 31) rfl rfl rfl ?_
        refine w_ic (n := 4) (j := 32) rfl rfl ?_
        refine w_geN (j := 33) rfl rfl (by omega) (by omega) (fun c => absurd c (fun c => by omega)) (fun _ => ?_)
        refine w_al (j := 34) rfl rfl rfl ?_
        first | refine w_gr (j := 35) rfl rfl (by first | assumption | rfl) (by first | assumption | rfl) rfl ?_ | refine w_gi (j := 35) rfl rfl (by first | assumption | rfl) (by first | assumption | rfl) rfl rfl ?_
        refine w_al (j := 36) rfl rfl rfl ?_
        first | refine w_gr (j := 37) rfl rfl (by first | assumption | rfl) (by first | assumption | rfl) rfl ?_ | refine w_gi (j := 37) rfl rfl (by first | assumption | rfl) (by first | assumption | rfl) rfl e6' ?_
        refine w_iL (j := 38) rfl rfl rfl ?_
        refine w_iL (j := 39) rfl rfl rfl ?_
        refine w_csI (j := 40) rfl rfl rfl rfl rfl (sp_52) rfl ?_
        refine w_al (j := 41) rfl rfl rfl ?_
        first | refine w_gr (j := 42) rfl rfl (by first | assumption | rfl) (by first | assumption | rfl) rfl ?_ | refine w_gi (j := 42) rfl rfl (by first | assumption | rfl) (by first | assumption | rfl) rfl rfl ?_
        refine w_al (j := 43) rfl rfl rfl ?_
        refine w_il (j := 44) rfl rfl rfl ?_
        refine w_iL (j := 45) rfl rfl rfl ?_
        refine w_iL (j := 46) rfl rfl rfl ?_
        refine w_cvPI (j := 47) rfl rfl rfl rfl (by first | assumption | rfl) rfl rfl (sp_70 px_St64 (by omega) (by omega) (lw.1.fr R3.1 (by decide)) lw.2.2) rfl ?_
        rintro w h4 ⟨e1, f1⟩
        have e1 : w = nI (pf_pc h cs c b m) := by
          rw [e1, ← (pf_pc_eq hI' hc).1]
          show pf_li cs (h3 4 b) (nI m) (pf_bt (h3 64 4) b) (h3 65 c) (h3 6 c) (h3 66 c) (nI b) (h3 64 6) = _
          rw [r4, r64, r65, r6, r66]
        subst e1
        refine w_ias (j := 48) rfl rfl (by first | assumption | rfl) rfl (by omega) rfl ?_
        first | refine w_incN (j := 49) rfl rfl rfl ?_ | refine w_inc (j := 49) rfl rfl rfl rfl ?_
        refine w_go rfl ?_
        refine H3 _ _ ⟨rfl, ⟨(R3.1.tr (f1.sub (by decide))).up (by decide), ?_, fun k b' m' hk hb' hbb hm' => ?_⟩, fun b' m' hb' hm' => ?_, fun m' hm' => ?_⟩
        · rw [px_up_na (by decide), f1 76 (by decide)]; exact e6'
        · have hr : pf_on q k < pf_on q c := by
            have := pf_on_mono q (show k + 1 ≤ c by omega)
            rw [pf_on, hb'] at this
            omega
          rw [px_up_nk (by omega), f1 77 (by decide)]; exact R3.2.2 k b' m' hk hb' hbb hm'
        · rw [px_up_nk (by omega), f1 77 (by decide)]; exact t3 b' m' hb' hm'
        · by_cases e : m' = m
          · subst e; rw [px_up_at]
          · rw [px_up_nk (by omega), f1 77 (by decide)]; exact t4 m' (by omega)
      · rintro _ h3 ⟨rfl, R3, t3, t4⟩
        refine w_iL (j := 31) rfl rfl rfl ?_
        refine w_ic (n := 4) (j := 32) rfl rfl ?_
        refine w_geN (j := 33) rfl rfl (by omega) (by omega) (fun _ => ?_) (fun c => absurd c (fun c => by omega))
        first | refine w_incN (j := 51) rfl rfl rfl ?_ | refine w_inc (j := 51) rfl rfl rfl rfl ?_
        refine w_go rfl ?_
        refine H2 _ _ ⟨⟨_, rfl⟩, R3, fun b' m hb' hm => ?_⟩
        by_cases e : b' = b
        · subst e; exact t4 m hm
        · exact t3 b' m (by omega) hm
    · rintro _ h2 ⟨⟨g2, rfl⟩, R2, t2⟩
      have e66 := px_f3 R2.1 l1 (by decide)
      have e6' := R2.2.1
      refine w_iL (j := 24) rfl rfl rfl ?_
      refine w_al (j := 25) rfl rfl rfl ?_
      first | refine w_gr (j := 26) rfl rfl (by first | assumption | rfl) (by first | assumption | rfl) rfl ?_ | refine w_gi (j := 26) rfl rfl (by first | assumption | rfl) (by first | assumption | rfl) rfl rfl ?_
      first | refine w_gr (j := 27) rfl rfl (by first | assumption | rfl) (by first | assumption | rfl) rfl ?_ | refine w_gi (j := 27) rfl rfl (by first | assumption | rfl) (by first | assumption | rfl) rfl e66 ?_
      refine w_geN (j := 28) rfl rfl (by omega) (by omega) (fun _ => ?_) (fun c => absurd c (fun c => by omega))
      refine w_al (j := 53) rfl rfl rfl ?_
      first | refine w_dupr (j := 54) rfl rfl ?_ | refine w_dupi (j := 54) rfl rfl ?_
      first | refine w_gr (j := 55) rfl rfl (by first | assumption | rfl) (by first | assumption | rfl) rfl ?_ | refine w_gi (j := 55) rfl rfl (by first | assumption | rfl) (by first | assumption | rfl) rfl e6' ?_
      refine w_ic (n := 1) (j := 56) rfl rfl ?_
      first | refine w_add0 (j := 57) rfl rfl ?_ | refine w_addN (j := 57) rfl rfl ?_ | refine w_add (j := 57) rfl rfl ?_
      refine w_pf (j := 58) rfl rfl (by first | assumption | rfl) (by first | assumption | rfl) rfl ?_
      first | refine w_incN (j := 59) rfl rfl rfl ?_ | refine w_inc (j := 59) rfl rfl rfl rfl ?_
      refine w_go rfl ?_
      refine H _ _ ⟨⟨_, _, rfl⟩, R2.1.up (by decide), by rw [px_up_at, pf_on, c2], fun k b m hk hb hbb hm => ?_⟩
      rw [px_up_na (by decide)]
      by_cases e : k = c
      · subst e; exact t2 b m hbb hm
      · exact R2.2.2 k b m (by omega) hb hbb hm
  · rintro _ h1 ⟨⟨g1, g2, rfl⟩, R⟩
    have e7 := px_f3 R.1 l4 (by decide)
    refine w_il (j := 6) rfl rfl rfl ?_
    refine w_al (j := 7) rfl rfl rfl ?_
    first | refine w_gr (j := 8) rfl rfl (by first | assumption | rfl) (by first | assumption | rfl) rfl ?_ | refine w_gi (j := 8) rfl rfl (by first | assumption | rfl) (by first | assumption | rfl) rfl rfl ?_
    first | refine w_gr (j := 9) rfl rfl (by first | assumption | rfl) (by first | assumption | rfl) rfl ?_ | refine w_gi (j := 9) rfl rfl (by first | assumption | rfl) (by first | assumption | rfl) rfl e7 ?_
    refine w_geN (j := 10) rfl rfl (by omega) (by omega) (fun _ => ?_) (fun c => absurd c (fun c => by omega))
    refine w_rt rfl ?_
    exact ⟨_, rfl, R⟩
def pf_pl0 (h : ix_H) (cs : List (Nat × Nat)) (B N q : Nat) : Option (Nat × List Nat) := pf_tr (pf_hd h) B (pf_co h cs N q) (pf_on q N) [] none
def pf_lv : Option (Nat × List Nat) → Int32
  | none => -1
  | some p => nI p.1
theorem sp_50 {q : Nat} (hI : px_I h B N T cs L W I t) (hq : q < 2 ^ N) (hn5 : pf_on q N ≤ 5) : px_PI 10 50 [.ref 76, .int (nI q), .ref 64] h (fun v h1 => v = pf_lv (pf_pl0 h cs B N q) ∧ px_kp h h1 ∧ h1 76 6 = nI (pf_on q N) ∧ px_sR h1 (pf_on q N) (pf_pl0 h cs B N q)) := by
  refine px_M (M := mt_50) (ops := mo_50) tb_50 rfl rfl rfl rfl rfl ?_
  refine w_al (j := 1) rfl rfl rfl ?_
  refine w_il (j := 2) rfl rfl rfl ?_
  refine w_al (j := 3) rfl rfl rfl ?_
  refine w_cvPU (j := 4) rfl rfl rfl rfl (by first | assumption | rfl) rfl rfl (sp_51 hI hq hn5) rfl ?_
  rintro h1 R
  refine w_ic (n := 0) (j := 5) rfl rfl ?_
  refine w_is (j := 6) rfl rfl rfl ?_
  refine px_forI (fun c ls h2 => ls = [.ref 76, .int (nI q), .ref 64, .int (nI c)] ∧ px_fr [80] h1 h2 ∧ ∀ b, b < c → h2 80 b = nI 0) 6 ?_ ?_ ⟨rfl, px_fr.rf, fun b hb => by omega⟩
  · rintro c _ h2 hc ⟨rfl, fr, ez⟩ H
    refine w_il (j := 7) rfl rfl rfl ?_
    refine w_bi (j := 8) (a := nI 6) rfl rfl (by decide) ?_
    refine w_geN (j := 9) rfl rfl (by omega) (by omega) (fun c => absurd c (fun c => by omega)) (fun _ => ?_)
    refine w_al (j := 10) rfl rfl rfl ?_
    first | refine w_gr (j := 11) rfl rfl (by first | assumption | rfl) (by first | assumption | rfl) rfl ?_ | refine w_gi (j := 11) rfl rfl (by first | assumption | rfl) (by first | assumption | rfl) rfl rfl ?_
    refine w_il (j := 12) rfl rfl rfl ?_
    refine w_ic (n := 0) (j := 13) rfl rfl ?_
    refine w_ias (j := 14) rfl rfl (by first | assumption | rfl) rfl (by omega) rfl ?_
    first | refine w_incN (j := 15) rfl rfl rfl ?_ | refine w_inc (j := 15) rfl rfl rfl rfl ?_
    refine w_go rfl ?_
    refine H _ _ ⟨rfl, fr.up (by decide), fun b hb => ?_⟩
    by_cases e : b = c
    · subst e; rw [px_up_at]
    · rw [px_up_nk e]; exact ez b (by omega)
  · rintro _ h2 ⟨rfl, fr, ez⟩
    have k1 : px_kp h h1 := px_kp.of R.1 (by decide)
    have k2 : px_kp h h2 := k1.fr fr (by decide)
    have e6 : h2 76 6 = nI (pf_on q N) := by rw [fr 76 (by decide)]; exact R.2.1
    have tb : px_tb h h2 cs B N q := fun k b m hk hb hbb hm => by rw [fr 77 (by decide)]; exact R.2.2 k b m hk hb hbb hm
    have R0 : px_pR h2 (ix_up h2 76 7 (-1)) (pf_on q N) [] none := ⟨px_fr.rf.up (by decide), fun j hj => px_up_nk hj, fun i hi => absurd hi (Nat.not_lt_zero _), fun b hb => by rw [px_up_na (by decide)]; exact ez b hb, px_up_at⟩
    have c53 := sp_53 hI (hI.kp k2) (k2.1 5 (by decide)) e6 hn5 tb (pf_on q N) [] none _ (by simp) (fun i hi => absurd hi (Nat.not_lt_zero _)) (fun b hb => Nat.zero_le _) R0
    refine w_il (j := 7) rfl rfl rfl ?_
    refine w_bi (j := 8) (a := nI 6) rfl rfl (by decide) ?_
    refine w_geN (j := 9) rfl rfl (by omega) (by omega) (fun _ => ?_) (fun c => absurd c (fun c => by omega))
    refine w_al (j := 17) rfl rfl rfl ?_
    refine w_im (j := 18) rfl rfl ?_
    refine w_pf (j := 19) rfl rfl (by first | assumption | rfl) (by first | assumption | rfl) rfl ?_
    refine w_al (j := 20) rfl rfl rfl ?_
    refine w_ic (n := 0) (j := 21) rfl rfl ?_
    refine w_cvPU (j := 22) rfl rfl rfl rfl (by first | assumption | rfl) rfl rfl (c53) (Nat.ble_eq.mpr (by omega)) ?_
    rintro h3 R3
    have e7 : h3 76 7 = pf_lv (pf_pl0 h cs B N q) := by
      have := R3.2.2.2.2
      show h3 76 7 = pf_lv (pf_tr (pf_hd h) B (pf_co h cs N q) (pf_on q N) [] none)
      generalize pf_tr (pf_hd h) B (pf_co h cs N q) (pf_on q N) [] none = s at this ⊢
      cases s with
      | none => exact this
      | some p => exact this.1
    refine w_al (j := 23) rfl rfl rfl ?_
    first | refine w_gr (j := 24) rfl rfl (by first | assumption | rfl) (by first | assumption | rfl) rfl ?_ | refine w_gi (j := 24) rfl rfl (by first | assumption | rfl) (by first | assumption | rfl) rfl e7 ?_
    refine w_ir rfl ?_
    refine ⟨_, _, rfl, rfl, k2.fr R3.1 (by decide), (R3.2.1 6 (by decide)).trans e6, R3.2.2.2.2⟩
abbrev pf_okp (N : Nat) (v : Int32) : Prop := ∃ q, q < 2 ^ N ∧ pf_on q N ≤ 5 ∧ v = nI q
theorem sp_122 {v : Int32} (l4 : h 3 7 = nI N) (l6 : N ≤ 8) : px_CK 3 122 [.ref 0, .int v] h (pf_okp N v) 0 := by
  have hp := px_pw l6
  refine px_M (M := mt_122) (ops := mo_122) tb_122 rfl rfl rfl rfl rfl ?_
  refine w_al (j := 1) rfl rfl rfl ?_
  refine w_il (j := 2) rfl rfl rfl ?_
  refine w_al (j := 3) rfl rfl rfl ?_
  first | refine w_gr (j := 4) rfl rfl (by first | assumption | rfl) (by first | assumption | rfl) rfl ?_ | refine w_gi (j := 4) rfl rfl (by first | assumption | rfl) (by first | assumption | rfl) rfl rfl ?_
  first | refine w_gr (j := 5) rfl rfl (by first | assumption | rfl) (by first | assumption | rfl) rfl ?_ | refine w_gi (j := 5) rfl rfl (by first | assumption | rfl) (by first | assumption | rfl) rfl l4 ?_
  refine w_chk (j := 6) rfl rfl rfl rfl (by first | assumption | rfl) rfl rfl (px_CKc sp_148 (px_bits l6)) rfl (fun c1 => ?_) (fun c1 => ?_)
  · exact Or.inr ⟨fun q => c1 (by obtain ⟨a, b, -, c⟩ := q; exact ⟨a, b, c⟩), rfl⟩
  obtain ⟨q, hq, rfl⟩ := c1
  have o8 := pf_on_le q 8
  have oN := pf_on_top hq 8 l6
  refine w_al (j := 7) rfl rfl rfl ?_
  refine w_il (j := 8) rfl rfl rfl ?_
  refine w_csI (j := 9) rfl rfl rfl rfl rfl (sp_259) rfl ?_
  rw [pf_bc_on q (by omega)]
  refine w_ic (n := 5) (j := 10) rfl rfl ?_
  refine w_gtN (j := 11) rfl rfl (by omega) (by omega) (fun d1 => ?_) (fun d1 => ?_)
  ·
    refine w_ic (n := 0) (j := 14) rfl rfl ?_
    refine w_chk (j := 15) rfl rfl rfl rfl (by first | assumption | rfl) rfl rfl (sp_146 (b := false)) rfl (fun c => ?_) (fun c => ?_)
    · refine Or.inr ⟨fun z => ?_, rfl⟩
      obtain ⟨q', h1, h2, h3⟩ := z
      have := (px_neq (by omega) (by omega)).mp h3
      subst this
      omega
    · cases c
  ·
    refine w_ic (n := 1) (j := 12) rfl rfl ?_
    refine w_go rfl ?_
    refine w_chk (j := 15) rfl rfl rfl rfl (by first | assumption | rfl) rfl rfl (sp_146 (b := true)) rfl (fun c => ?_) (fun c => ?_)
    · exact absurd rfl c
    ·
      refine w_rt rfl ?_
      exact Or.inl ⟨⟨q, hq, by omega, rfl⟩, rfl⟩
theorem C_plan {v : Int32} (hI : px_I h B N T cs L W I t) : px_CO 12 120 [.ref 0, .int v] h (fun w h1 => ∃ q, q < 2 ^ N ∧ pf_on q N ≤ 5 ∧ v = nI q ∧ w = pf_lv (pf_pl0 h cs B N q) ∧ px_kp h h1) (fun x h1 => x = 0 ∧ ¬ pf_okp N v ∧ h1 = px_hX 0 h) := by
  have l4 := hI.1.2.2.2.1
  have l6 := hI.1.2.2.2.2.2.1
  refine px_M (M := mt_120) (ops := mo_120) tb_120 rfl rfl rfl rfl rfl ?_
  refine w_al (j := 1) rfl rfl rfl ?_
  refine w_il (j := 2) rfl rfl rfl ?_
  refine w_chk (j := 3) rfl rfl rfl rfl (by first | assumption | rfl) rfl rfl (sp_122 l4 l6) rfl (fun c1 => ?_) (fun c1 => ?_)
  · exact Or.inr ⟨_, _, rfl, rfl, c1, rfl⟩
  obtain ⟨q, hq, h5, rfl⟩ := c1
  refine w_al (j := 4) rfl rfl rfl ?_
  first | refine w_gr (j := 5) rfl rfl (by first | assumption | rfl) (by first | assumption | rfl) rfl ?_ | refine w_gi (j := 5) rfl rfl (by first | assumption | rfl) (by first | assumption | rfl) rfl rfl ?_
  refine w_il (j := 6) rfl rfl rfl ?_
  refine w_al (j := 7) rfl rfl rfl ?_
  first | refine w_gr (j := 8) rfl rfl (by first | assumption | rfl) (by first | assumption | rfl) rfl ?_ | refine w_gi (j := 8) rfl rfl (by first | assumption | rfl) (by first | assumption | rfl) rfl rfl ?_
  refine w_cvPI (j := 9) rfl rfl rfl rfl (by first | assumption | rfl) rfl rfl (sp_50 hI hq h5) rfl ?_
  rintro w h1 ⟨e1, k1, -, -⟩
  refine w_ir rfl ?_
  exact Or.inl ⟨_, _, rfl, q, hq, h5, rfl, e1, k1⟩
def pf_pld (q c : Nat) : Option (Nat × List Nat) → Int32
  | none => -1
  | some p => if q / 2 ^ c % 2 = 1 then nI (p.2.getD (pf_on q c) 0) else -1
theorem pf_on_m : ∀ q, q < 256 → ∀ c, c < 8 → (nI q &&& (nI 1 <<< (nI c &&& 31) - nI 1) = nI (q % 2 ^ c)) ∧ pf_on (q % 2 ^ c) 8 = pf_on q c := by decide +kernel
theorem C_planned {v a : Int32} (hI : px_I h B N T cs L W I t) : px_CO 12 121 [.ref 0, .int v, .int a] h (fun w h1 => ∃ q c, q < 2 ^ N ∧ pf_on q N ≤ 5 ∧ c < N ∧ v = nI q ∧ a = nI c ∧ w = pf_pld q c (pf_pl0 h cs B N q) ∧ px_kp h h1) (fun x h1 => (x = 1 ∧ ¬ (0 ≤ a ∧ a < nI N) ∧ h1 = px_hX 1 h) ∨ (x = 0 ∧ (0 ≤ a ∧ a < nI N) ∧ ¬ pf_okp N v ∧ h1 = px_hX 0 h)) := by
  have l4 := hI.1.2.2.2.1
  have l6 := hI.1.2.2.2.2.2.1
  have hp := px_pw l6
  refine px_M (M := mt_121) (ops := mo_121) tb_121 rfl rfl rfl rfl rfl ?_
  refine w_al (j := 1) rfl rfl rfl ?_
  refine w_il (j := 2) rfl rfl rfl ?_
  refine w_chk (j := 3) rfl rfl rfl rfl (by first | assumption | rfl) rfl rfl (sp_150) rfl (fun c1 => ?_) (fun c1 => ?_)
  · rw [l4] at c1
    exact Or.inr ⟨_, _, rfl, Or.inl ⟨rfl, c1, rfl⟩⟩
  rw [l4] at c1
  refine w_al (j := 4) rfl rfl rfl ?_
  refine w_il (j := 5) rfl rfl rfl ?_
  refine w_chk (j := 6) rfl rfl rfl rfl (by first | assumption | rfl) rfl rfl (sp_122 l4 l6) rfl (fun c2 => ?_) (fun c2 => ?_)
  · exact Or.inr ⟨_, _, rfl, Or.inr ⟨rfl, c1, c2, rfl⟩⟩
  obtain ⟨c, hc, rfl⟩ := px_bnd (by omega) c1
  obtain ⟨q, hq, h5, rfl⟩ := c2
  refine w_il (j := 7) rfl rfl rfl ?_
  refine w_il (j := 8) rfl rfl rfl ?_
  refine w_shr (j := 9) rfl rfl ?_
  refine w_ic (n := 1) (j := 10) rfl rfl ?_
  refine w_and (j := 11) rfl rfl ?_
  rw [px_has (a := q) (k := c) (by omega) (by omega)]
  refine w_eqM (j := 12) rfl rfl (by omega) (fun d1 => ?_) (fun d1 => ?_)
  ·
    refine w_im (j := 21) rfl rfl ?_
    refine w_ir rfl ?_
    refine Or.inl ⟨_, _, rfl, q, c, hq, h5, hc, rfl, rfl, ?_, px_kp.rf⟩
    cases pf_pl0 h cs B N q with
    | none => rfl
    | some p => show _ = if _ then _ else _; rw [if_neg (by omega)]
  have d1 : q / 2 ^ c % 2 = 1 := by omega
  refine w_al (j := 13) rfl rfl rfl ?_
  first | refine w_gr (j := 14) rfl rfl (by first | assumption | rfl) (by first | assumption | rfl) rfl ?_ | refine w_gi (j := 14) rfl rfl (by first | assumption | rfl) (by first | assumption | rfl) rfl rfl ?_
  refine w_il (j := 15) rfl rfl rfl ?_
  refine w_al (j := 16) rfl rfl rfl ?_
  first | refine w_gr (j := 17) rfl rfl (by first | assumption | rfl) (by first | assumption | rfl) rfl ?_ | refine w_gi (j := 17) rfl rfl (by first | assumption | rfl) (by first | assumption | rfl) rfl rfl ?_
  refine w_cvPI (j := 18) rfl rfl rfl rfl (by first | assumption | rfl) rfl rfl (sp_50 hI hq h5) rfl ?_
  rintro w h1 ⟨e1, k1, e6, sr⟩
  subst e1
  generalize hs : pf_pl0 h cs B N q = s at sr ⊢
  cases s with
  | none =>
    refine w_im (j := 19) rfl rfl ?_
    refine w_ne (j := 20) rfl rfl (fun c => absurd c (fun q => q rfl)) (fun _ => ?_)
    refine w_im (j := 21) rfl rfl ?_
    refine w_ir rfl ?_
    exact Or.inl ⟨_, _, rfl, q, c, hq, h5, hc, rfl, rfl, by rw [hs]; rfl, k1⟩
  | some p =>
    obtain ⟨s1, s2, s3, s4⟩ := sr
    obtain ⟨m1, m2⟩ := pf_on_m q (by omega) c (by omega)
    have rk : pf_on q c < pf_on q N := by
      have := pf_on_mono q (show c + 1 ≤ N by omega)
      rw [pf_on, d1] at this
      omega
    have s79 := s4 _ rk
    have mle : q % 2 ^ c ≤ q := Nat.mod_le _ _
    have c49 : px_V 1 49 [.ref 76, .int (nI (pf_on q c))] h1 (some (.int (nI (p.2.getD (pf_on q c) 0)))) h1 := by
      refine px_M (M := mt_49) (ops := mo_49) tb_49 rfl rfl rfl rfl rfl ?_
      refine w_il (j := 1) rfl rfl rfl ?_
      refine w_ltM (j := 2) rfl rfl (by omega) ?_
      refine w_il (j := 3) rfl rfl rfl ?_
      refine w_al (j := 4) rfl rfl rfl ?_
      first | refine w_gr (j := 5) rfl rfl (by first | assumption | rfl) (by first | assumption | rfl) rfl ?_ | refine w_gi (j := 5) rfl rfl (by first | assumption | rfl) (by first | assumption | rfl) rfl e6 ?_
      refine w_geN (j := 6) rfl rfl (by omega) (by omega) (fun c => absurd c (fun c => by omega)) (fun _ => ?_)
      refine w_al (j := 7) rfl rfl rfl ?_
      first | refine w_gr (j := 8) rfl rfl (by first | assumption | rfl) (by first | assumption | rfl) rfl ?_ | refine w_gi (j := 8) rfl rfl (by first | assumption | rfl) (by first | assumption | rfl) rfl rfl ?_
      refine w_il (j := 9) rfl rfl rfl ?_
      refine w_ial (j := 10) rfl rfl (by first | assumption | rfl) rfl (by omega) rfl s79 ?_
      refine w_go rfl ?_
      refine w_ir rfl ?_
      rfl
    refine w_im (j := 19) rfl rfl ?_
    refine w_ne (j := 20) rfl rfl (fun _ => ?_) (fun c => absurd c (px_nm1 (by omega)))
    refine w_al (j := 23) rfl rfl rfl ?_
    first | refine w_gr (j := 24) rfl rfl (by first | assumption | rfl) (by first | assumption | rfl) rfl ?_ | refine w_gi (j := 24) rfl rfl (by first | assumption | rfl) (by first | assumption | rfl) rfl rfl ?_
    refine w_il (j := 25) rfl rfl rfl ?_
    refine w_ic (n := 1) (j := 26) rfl rfl ?_
    refine w_il (j := 27) rfl rfl rfl ?_
    refine w_shl (j := 28) rfl rfl ?_
    refine w_ic (n := 1) (j := 29) rfl rfl ?_
    first | refine w_subN (j := 30) rfl rfl (by omega) ?_ | refine w_sub (j := 30) rfl rfl ?_
    refine w_and (j := 31) rfl rfl ?_
    rw [m1]
    refine w_csI (j := 32) rfl rfl rfl rfl rfl (sp_259) rfl ?_
    rw [pf_bc_on (q % 2 ^ c) (by omega), m2]
    refine w_cvI (j := 33) rfl rfl rfl rfl (by first | assumption | rfl) rfl rfl (c49) rfl ?_
    refine w_ir rfl ?_
    exact Or.inl ⟨_, _, rfl, q, c, hq, h5, hc, rfl, rfl, by rw [hs]; exact (if_pos d1).symm, k1⟩
end PL
