def pf_lc (v : List Nat) (b : Nat) : Nat := px_fold (fun i a => a + (if v.getD i 0 = b then 1 else 0)) v.length 0
theorem pf_getl {v : List Nat} {x i : Nat} (hi : i < v.length) : (v ++ [x]).getD i 0 = v.getD i 0 := by
  rw [List.getD_eq_getElem?_getD, List.getD_eq_getElem?_getD, List.getElem?_append_left hi]
theorem pf_getr {v : List Nat} {x : Nat} : (v ++ [x]).getD v.length 0 = x := by
  rw [List.getD_eq_getElem?_getD, List.getElem?_append_right (Nat.le_refl _), Nat.sub_self]
  rfl
theorem pf_lc_app {v : List Nat} {x b : Nat} : pf_lc (v ++ [x]) b = pf_lc v b + (if x = b then 1 else 0) := by
  unfold pf_lc
  rw [List.length_append, List.length_singleton, px_fold, pf_getr]
  congr 1
  exact px_fold_congr _ _ (fun i a hi => by rw [pf_getl hi])
theorem pf_cnt1 (g : Nat → Nat) : ∀ n i, i < n → g i ≤ px_fold (fun i a => a + g i) n 0
  | 0, i, hi => by omega
  | n + 1, i, hi => by
    rw [px_fold]
    by_cases e : i = n
    · rw [e]; omega
    · have := pf_cnt1 g n i (by omega); omega
theorem pf_cntm (g : Nat → Nat) (K : Nat) : ∀ n, (∀ i, i < n → g i ≤ K) → px_fold (fun i a => a + g i) n 0 ≤ K * n
  | 0, _ => Nat.zero_le _
  | n + 1, hh => by
    rw [px_fold, Nat.mul_succ]
    have h1 := pf_cntm g K n (fun i hi => hh i (by omega))
    have h2 := hh n (by omega)
    omega
theorem pf_lc_pos {v : List Nat} {i : Nat} (hi : i < v.length) : 1 ≤ pf_lc v (v.getD i 0) := by
  have := pf_cnt1 (fun j => if v.getD j 0 = v.getD i 0 then 1 else 0) v.length i hi
  rw [if_pos rfl] at this
  exact this
theorem pf_lc_nil {b : Nat} : pf_lc [] b = 0 := rfl
theorem pf_rank (q : Nat) (g : Nat → Nat) : ∀ N, px_fold (fun k a => if q / 2 ^ k % 2 = 1 then a + g (pf_on q k) else a) N 0 = px_fold (fun i a => a + g i) (pf_on q N) 0
  | 0 => rfl
  | N + 1 => by
    rw [px_fold, pf_rank q g N, pf_on]
    by_cases hb : q / 2 ^ N % 2 = 1
    · rw [if_pos hb, hb, px_fold]
    · rw [if_neg hb, show q / 2 ^ N % 2 = 0 by omega, Nat.add_zero]
theorem pf_rank_ex (q : Nat) : ∀ N i, i < pf_on q N → ∃ k, k < N ∧ q / 2 ^ k % 2 = 1 ∧ pf_on q k = i
  | 0, i, hi => by rw [pf_on] at hi; omega
  | N + 1, i, hi => by
    rw [pf_on] at hi
    by_cases h1 : i < pf_on q N
    · obtain ⟨k, a, b, c⟩ := pf_rank_ex q N i h1
      exact ⟨k, by omega, b, c⟩
    · exact ⟨N, by omega, by omega, by omega⟩
theorem pf_on_mono (q : Nat) {a b : Nat} (h : a ≤ b) : pf_on q a ≤ pf_on q b := by
  induction b with
  | zero => have : a = 0 := by omega
            rw [this]; exact Nat.le_refl _
  | succ b ih =>
    by_cases e : a = b + 1
    · rw [e]; exact Nat.le_refl _
    · rw [pf_on]; have := ih (by omega); omega
theorem pf_on_top {q N : Nat} (hq : q < 2 ^ N) : ∀ m, N ≤ m → pf_on q m = pf_on q N := by
  intro m hm
  induction m with
  | zero => have : N = 0 := by omega
            rw [this]
  | succ m ih =>
    by_cases e : N = m + 1
    · rw [e]
    · rw [pf_on, ih (by omega), Nat.div_eq_of_lt (Nat.lt_of_lt_of_le hq (Nat.pow_le_pow_right (by decide) (by omega)))]
      rfl
def pf_jd (co : List Nat → Nat) (v : List Nat) : Option (Nat × List Nat) → Option (Nat × List Nat)
  | none => some (co v, v)
  | some p => if co v < p.1 then some (co v, v) else some p
def pf_tr (hd : Nat → Nat) (B : Nat) (co : List Nat → Nat) : Nat → List Nat → Option (Nat × List Nat) → Option (Nat × List Nat)
  | 0, v, s => pf_jd co v s
  | k + 1, v, s => px_fold (fun b s => if pf_lc v b < hd b then pf_tr hd B co k (v ++ [b]) s else s) B s
def pf_pc (h : ix_H) (cs : List (Nat × Nat)) (c b m : Nat) : Nat := (pf_li cs (h 4 b) (nI m) (pf_bt (h 64 4) b) (h 65 c) (h 6 c) (h 66 c) (nI b) (h 64 6)).toNatClampNeg
def pf_co (h : ix_H) (cs : List (Nat × Nat)) (N q : Nat) (v : List Nat) : Nat := px_fold (fun k a => if q / 2 ^ k % 2 = 1 then a + pf_pc h cs k (v.getD (pf_on q k) 0) (pf_lc v (v.getD (pf_on q k) 0) - 1) else a) N 0
def pf_hd (h : ix_H) (b : Nat) : Nat := (h 5 b).toNatClampNeg
section PL
variable {h : ix_H} {B N T L W I t : Nat} {cs : List (Nat × Nat)}
theorem pf_pc_eq {c b m : Nat} (hI : px_I h B N T cs L W I t) (hc : c < N) : pf_li cs (h 4 b) (nI m) (pf_bt (h 64 4) b) (h 65 c) (h 6 c) (h 66 c) (nI b) (h 64 6) = nI (pf_pc h cs c b m) ∧ pf_pc h cs c b m ≤ 99 := by
  have h6 := hI.1.2.2.2.2.2.1
  obtain ⟨q, hq, e⟩ := (hI.2.2.2.1.1 c (by omega)).2
  have e : h 65 c = nI q := e
  obtain ⟨l, hl, el⟩ := pf_li_le (cs := cs) (f := h 4 b) (m := nI m) (t := pf_bt (h 64 4) b) (p := h 6 c) (a := h 66 c) (b := nI b) (y := h 64 6) hq
  unfold pf_pc
  rw [e, el, nI_clamp (by omega)]
  exact ⟨rfl, by omega⟩
theorem pf_hd_eq {b : Nat} (hI : px_I h B N T cs L W I t) (hb : b < B) : h 5 b = nI (pf_hd h b) ∧ 1 ≤ pf_hd h b ∧ pf_hd h b ≤ 4 := by
  obtain ⟨q, h1, h2, e⟩ := (hI.1.2.2.2.2.2.2.2.2.2.2.2.1 b hb).2.2
  unfold pf_hd
  rw [e, nI_clamp (by omega)]
  exact ⟨rfl, h1, h2⟩
theorem sp_52 {i b m : Nat} : px_V 1 52 [.int (nI i), .int (nI b), .int (nI m)] h (some (.int (nI ((i * 6 + b) * 4 + m)))) h := by
  refine px_M (M := mt_52) (ops := mo_52) tb_52 rfl rfl rfl rfl rfl ?_
  refine w_il (j := 1) rfl rfl rfl ?_
  refine w_bi (j := 2) (a := nI 6) rfl rfl (by decide) ?_
  first | refine w_mulN (j := 3) rfl rfl ?_ | refine w_mul (j := 3) rfl rfl ?_
  refine w_il (j := 4) rfl rfl rfl ?_
  first | refine w_add0 (j := 5) rfl rfl ?_ | refine w_addN (j := 5) rfl rfl ?_ | refine w_add (j := 5) rfl rfl ?_
  refine w_ic (n := 4) (j := 6) rfl rfl ?_
  first | refine w_mulN (j := 7) rfl rfl ?_ | refine w_mul (j := 7) rfl rfl ?_
  refine w_il (j := 8) rfl rfl rfl ?_
  first | refine w_add0 (j := 9) rfl rfl ?_ | refine w_addN (j := 9) rfl rfl ?_ | refine w_add (j := 9) rfl rfl ?_
  refine w_ir rfl ?_
  rfl
def px_sR (h1 : ix_H) (n : Nat) : Option (Nat × List Nat) → Prop
  | none => h1 76 7 = -1
  | some p => h1 76 7 = nI p.1 ∧ p.1 ≤ 1000 ∧ p.2.length = n ∧ ∀ i, i < n → h1 79 i = nI (p.2.getD i 0)
def px_pR (h0 h1 : ix_H) (n : Nat) (v : List Nat) (s : Option (Nat × List Nat)) : Prop := px_fr [76, 78, 79, 80] h0 h1 ∧ (∀ j, j ≠ 7 → h1 76 j = h0 76 j) ∧ (∀ i, i < v.length → h1 78 i = nI (v.getD i 0)) ∧ (∀ b, b < 6 → h1 80 b = nI (pf_lc v b)) ∧ px_sR h1 n s
-- the table of losses
def px_tb (h h0 : ix_H) (cs : List (Nat × Nat)) (B N q : Nat) : Prop := ∀ k b m, k < N → q / 2 ^ k % 2 = 1 → b < B → m < 4 → h0 77 ((pf_on q k * 6 + b) * 4 + m) = nI (pf_pc h cs k b m)
theorem sp_54 {h0 h1 : ix_H} {q : Nat} {v : List Nat} {s : Option (Nat × List Nat)} (hI : px_I h B N T cs L W I t) (hn : h0 76 6 = nI (pf_on q N)) (hn5 : pf_on q N ≤ 5) (hv : v.length = pf_on q N) (vb : ∀ i, i < v.length → v.getD i 0 < B) (lc : ∀ b, b < B → pf_lc v b ≤ 4) (tb : px_tb h h0 cs B N q) (R : px_pR h0 h1 (pf_on q N) v s) : px_PU 2 54 [.ref 76] h1 (fun h2 => px_pR h0 h2 (pf_on q N) v (pf_jd (pf_co h cs N q) v s)) := by
  have l3 := hI.1.2.2.1
  obtain ⟨r1, r2, r3, r4, r5⟩ := R
  have hg : ∃ g : Nat → Nat, g = fun i => (h0 77 ((i * 6 + v.getD i 0) * 4 + (pf_lc v (v.getD i 0) - 1))).toNatClampNeg := ⟨_, rfl⟩
  obtain ⟨g, hg⟩ := hg
  have gk : ∀ k, k < N → q / 2 ^ k % 2 = 1 → pf_on q k < pf_on q N → h0 77 ((pf_on q k * 6 + v.getD (pf_on q k) 0) * 4 + (pf_lc v (v.getD (pf_on q k) 0) - 1)) = nI (pf_pc h cs k (v.getD (pf_on q k) 0) (pf_lc v (v.getD (pf_on q k) 0) - 1)) := by
    intro k hk hb hlt
    have b1 := vb (pf_on q k) (by omega)
    have b2 := lc _ b1
    exact tb k _ _ hk hb b1 (by omega)
  have gi : ∀ i, i < pf_on q N → h0 77 ((i * 6 + v.getD i 0) * 4 + (pf_lc v (v.getD i 0) - 1)) = nI (g i) ∧ g i ≤ 99 := by
    intro i hi
    obtain ⟨k, k1, k2, k3⟩ := pf_rank_ex q N i hi
    have := gk k k1 k2 (by omega)
    rw [k3] at this
    have le := (pf_pc_eq (cs := cs) (b := v.getD i 0) (m := pf_lc v (v.getD i 0) - 1) hI k1).2
    rw [hg]
    show _ = nI (h0 77 _).toNatClampNeg ∧ (h0 77 _).toNatClampNeg ≤ 99
    rw [this, nI_clamp (by omega)]
    exact ⟨rfl, le⟩
  have co : pf_co h cs N q v = px_fold (fun i a => a + g i) (pf_on q N) 0 := by
    rw [← pf_rank]
    refine px_fold_congr N _ (fun k a hk => ?_)
    by_cases hb : q / 2 ^ k % 2 = 1
    · rw [if_pos hb, if_pos hb]
      congr 1
      have hlt : pf_on q k < pf_on q N := by
        have := pf_on_mono q (show k + 1 ≤ N by omega)
        rw [pf_on] at this
        omega
      have := gk k hk hb hlt
      rw [(gi _ hlt).1] at this
      have le := (pf_pc_eq (cs := cs) (b := v.getD (pf_on q k) 0) (m := pf_lc v (v.getD (pf_on q k) 0) - 1) hI hk).2
      have le2 := (gi _ hlt).2
      exact ((px_neq (by omega) (by omega)).mp this).symm
    · rw [if_neg hb, if_neg hb]
  have e6 : h1 76 6 = nI (pf_on q N) := (r2 6 (by decide)).trans hn
  have e77 := r1 77 (by decide)
  have big := pf_cntm g 99 (pf_on q N) (fun i hi => (gi i hi).2)
  refine px_M (M := mt_54) (ops := mo_54) tb_54 rfl rfl rfl rfl rfl ?_
  refine w_ic (n := 0) (j := 1) rfl rfl ?_
  refine w_is (j := 2) rfl rfl rfl ?_
  refine w_ic (n := 0) (j := 3) rfl rfl ?_
  refine w_is (j := 4) rfl rfl rfl ?_
  refine px_forI (fun i ls h2 => h2 = h1 ∧ ls = [.ref 76, .int (nI (px_fold (fun i a => a + g i) i 0)), .int (nI i)]) (pf_on q N) ?_ ?_ ⟨rfl, rfl⟩
  · rintro i _ h2 hi ⟨rfl, rfl⟩ H
    have t1 := r3 i (by omega)
    have b1 := vb i (by omega)
    have t2 := r4 (v.getD i 0) (by omega)
    have p1 := pf_lc_pos (v := v) (i := i) (by omega)
    have b2 := lc _ b1
    have t3 : h2 77 ((i * 6 + v.getD i 0) * 4 + (pf_lc v (v.getD i 0) - 1)) = nI (g i) := by rw [e77]; exact (gi i hi).1
    refine w_il (j := 5) rfl rfl rfl ?_
    refine w_al (j := 6) rfl rfl rfl ?_
    first | refine w_gr (j := 7) rfl rfl (by first | assumption | rfl) (by first | assumption | rfl) rfl ?_ | refine w_gi (j := 7) rfl rfl (by first | assumption | rfl) (by first | assumption | rfl) rfl e6 ?_
    refine w_geN (j := 8) rfl rfl (by omega) (by omega) (fun c => absurd c (fun c => by omega)) (fun _ => ?_)
    refine w_il (j := 9) rfl rfl rfl ?_
    refine w_al (j := 10) rfl rfl rfl ?_
    first | refine w_gr (j := 11) rfl rfl (by first | assumption | rfl) (by first | assumption | rfl) rfl ?_ | refine w_gi (j := 11) rfl rfl (by first | assumption | rfl) (by first | assumption | rfl) rfl rfl ?_
    refine w_il (j := 12) rfl rfl rfl ?_
    refine w_al (j := 13) rfl rfl rfl ?_
    first | refine w_gr (j := 14) rfl rfl (by first | assumption | rfl) (by first | assumption | rfl) rfl ?_ | refine w_gi (j := 14) rfl rfl (by first | assumption | rfl) (by first | assumption | rfl) rfl rfl ?_
    refine w_il (j := 15) rfl rfl rfl ?_
    refine w_ial (j := 16) rfl rfl (by first | assumption | rfl) rfl (by omega) rfl t1 ?_
    refine w_al (j := 17) rfl rfl rfl ?_
    first | refine w_gr (j := 18) rfl rfl (by first | assumption | rfl) (by first | assumption | rfl) rfl ?_ | refine w_gi (j := 18) rfl rfl (by first | assumption | rfl) (by first | assumption | rfl) rfl rfl ?_
    refine w_al (j := 19) rfl rfl rfl ?_
    first | refine w_gr (j := 20) rfl rfl (by first | assumption | rfl) (by first | assumption | rfl) rfl ?_ | refine w_gi (j := 20) rfl rfl (by first | assumption | rfl) (by first | assumption | rfl) rfl rfl ?_
    refine w_il (j := 21) rfl rfl rfl ?_
    refine w_ial (j := 22) rfl rfl (by first | assumption | rfl) rfl (by omega) rfl t1 ?_
    refine w_ial (j := 23) rfl rfl (by first | assumption | rfl) rfl (by omega) rfl t2 ?_
    refine w_ic (n := 1) (j := 24) rfl rfl ?_
    first | refine w_subN (j := 25) rfl rfl (by omega) ?_ | refine w_sub (j := 25) rfl rfl ?_
    refine w_csI (j := 26) rfl rfl rfl rfl rfl (sp_52) rfl ?_
    refine w_ial (j := 27) rfl rfl (by first | assumption | rfl) rfl (by omega) rfl t3 ?_
    first | refine w_add0 (j := 28) rfl rfl ?_ | refine w_addN (j := 28) rfl rfl ?_ | refine w_add (j := 28) rfl rfl ?_
    refine w_is (j := 29) rfl rfl rfl ?_
    first | refine w_incN (j := 30) rfl rfl rfl ?_ | refine w_inc (j := 30) rfl rfl rfl rfl ?_
    refine w_go rfl ?_
    exact H _ _ ⟨rfl, rfl⟩
  · rintro _ h2 ⟨rfl, rfl⟩
    rw [← co]
    rw [← co] at big
    have j1 : pf_jd (pf_co h cs N q) v none = some (pf_co h cs N q v, v) := rfl
    have j2 : ∀ p, pf_jd (pf_co h cs N q) v (some p) = if pf_co h cs N q v < p.1 then some (pf_co h cs N q v, v) else some p := fun _ => rfl
    generalize pf_co h cs N q v = C at big j1 j2 ⊢
    have fin : px_R px_E 1 mo_54 [] 39 [.ref 76, .int (nI C), .int (nI (pf_on q N))] [] h2 0 (fun r => ∃ h', r = (.inl none, h', 0) ∧ px_pR h0 h' (pf_on q N) v (some (C, v))) := by
      refine w_al (j := 40) rfl rfl rfl ?_
      refine w_il (j := 41) rfl rfl rfl ?_
      refine w_pf (j := 42) rfl rfl (by first | assumption | rfl) (by first | assumption | rfl) rfl ?_
      refine w_al (j := 43) rfl rfl rfl ?_
      first | refine w_gr (j := 44) rfl rfl (by first | assumption | rfl) (by first | assumption | rfl) rfl ?_ | refine w_gi (j := 44) rfl rfl (by first | assumption | rfl) (by first | assumption | rfl) rfl rfl ?_
      refine w_ic (n := 0) (j := 45) rfl rfl ?_
      refine w_al (j := 46) rfl rfl rfl ?_
      first | refine w_gr (j := 47) rfl rfl (by first | assumption | rfl) (by first | assumption | rfl) rfl ?_ | refine w_gi (j := 47) rfl rfl (by first | assumption | rfl) (by first | assumption | rfl) rfl rfl ?_
      refine w_ic (n := 0) (j := 48) rfl rfl ?_
      refine w_ic (n := 5) (j := 49) rfl rfl ?_
      refine w_ac (j := 50) rfl rfl (by first | assumption | rfl) (by first | assumption | rfl) rfl rfl rfl rfl rfl (by omega) (by omega) rfl ?_
      refine w_rt rfl ?_
      refine ⟨_, rfl, ?_, fun j hj => ?_, fun i hi => ?_, fun b hb => ?_, ?_, by show C ≤ 1000; omega, hv, fun i hi => ?_⟩
      · refine px_fr.tr r1 ?_
        repeat first | exact px_fr.rf | refine px_fr.up ?_ (by decide) | refine px_fr.row ?_ (by decide)
      · rw [px_cpy_na (by decide), px_up_nk hj]; exact r2 j hj
      · rw [px_cpy_na (by decide), px_up_na (by decide)]; exact r3 i hi
      · rw [px_cpy_na (by decide), px_up_na (by decide)]; exact r4 b hb
      · rw [px_cpy_na (by decide), px_up_at]
      · rw [px_cpy_in (by omega) (by omega), px_up_na (by decide), Nat.sub_zero, Nat.zero_add]; exact r3 i (by omega)
    cases s with
    | none =>
      have r5 : h2 76 7 = -1 := r5
      refine w_il (j := 5) rfl rfl rfl ?_
      refine w_al (j := 6) rfl rfl rfl ?_
      first | refine w_gr (j := 7) rfl rfl (by first | assumption | rfl) (by first | assumption | rfl) rfl ?_ | refine w_gi (j := 7) rfl rfl (by first | assumption | rfl) (by first | assumption | rfl) rfl e6 ?_
      refine w_geN (j := 8) rfl rfl (by omega) (by omega) (fun _ => ?_) (fun c => absurd c (fun c => by omega))
      refine w_al (j := 32) rfl rfl rfl ?_
      first | refine w_gr (j := 33) rfl rfl (by first | assumption | rfl) (by first | assumption | rfl) rfl ?_ | refine w_gi (j := 33) rfl rfl (by first | assumption | rfl) (by first | assumption | rfl) rfl r5 ?_
      refine w_im (j := 34) rfl rfl ?_
      refine w_eq (j := 35) rfl rfl (fun _ => ?_) (fun c => absurd c (fun q => q rfl))
      rw [j1]
      exact fin
    | some p =>
      obtain ⟨s1, s2, s3, s4⟩ := r5
      refine w_il (j := 5) rfl rfl rfl ?_
      refine w_al (j := 6) rfl rfl rfl ?_
      first | refine w_gr (j := 7) rfl rfl (by first | assumption | rfl) (by first | assumption | rfl) rfl ?_ | refine w_gi (j := 7) rfl rfl (by first | assumption | rfl) (by first | assumption | rfl) rfl e6 ?_
      refine w_geN (j := 8) rfl rfl (by omega) (by omega) (fun _ => ?_) (fun c => absurd c (fun c => by omega))
      refine w_al (j := 32) rfl rfl rfl ?_
      first | refine w_gr (j := 33) rfl rfl (by first | assumption | rfl) (by first | assumption | rfl) rfl ?_ | refine w_gi (j := 33) rfl rfl (by first | assumption | rfl) (by first | assumption | rfl) rfl s1 ?_
      refine w_im (j := 34) rfl rfl ?_
      refine w_eq (j := 35) rfl rfl (fun c => absurd c (px_nm1 (by omega))) (fun _ => ?_)
      refine w_il (j := 36) rfl rfl rfl ?_
      refine w_al (j := 37) rfl rfl rfl ?_
      first | refine w_gr (j := 38) rfl rfl (by first | assumption | rfl) (by first | assumption | rfl) rfl ?_ | refine w_gi (j := 38) rfl rfl (by first | assumption | rfl) (by first | assumption | rfl) rfl s1 ?_
      rw [j2]
      refine w_geN (j := 39) rfl rfl (by omega) (by omega) (fun d1 => ?_) (fun d1 => ?_)
      ·
        rw [if_neg (by omega)]
        refine w_rt rfl ?_
        exact ⟨_, rfl, r1, r2, r3, r4, s1, s2, s3, s4⟩
      ·
        rw [if_pos d1]
        exact fin
theorem sp_53 {h0 : ix_H} {q : Nat} (hI : px_I h B N T cs L W I t) (hI0 : px_I h0 B N T cs L W I t) (eh5 : h0 5 = h 5) (hn : h0 76 6 = nI (pf_on q N)) (hn5 : pf_on q N ≤ 5) (tb : px_tb h h0 cs B N q) : ∀ k v s h1, v.length + k = pf_on q N → (∀ i, i < v.length → v.getD i 0 < B) → (∀ b, b < B → pf_lc v b ≤ pf_hd h b) → px_pR h0 h1 (pf_on q N) v s → px_PU (k + 3) 53 [.ref 76, .int (nI v.length)] h1 (fun h2 => px_pR h0 h2 (pf_on q N) v (pf_tr (pf_hd h) B (pf_co h cs N q) k v s)) := by
  have l3 := hI.1.2.2.1
  intro k
  induction k with
  | zero =>
    intro v s h1 hv vb lc R
    have e6 : h1 76 6 = nI (pf_on q N) := (R.2.1 6 (by decide)).trans hn
    refine px_M (M := mt_53) (ops := mo_53) tb_53 rfl rfl rfl rfl rfl ?_
    refine w_il (j := 1) rfl rfl rfl ?_
    refine w_al (j := 2) rfl rfl rfl ?_
    first | refine w_gr (j := 3) rfl rfl (by first | assumption | rfl) (by first | assumption | rfl) rfl ?_ | refine w_gi (j := 3) rfl rfl (by first | assumption | rfl) (by first | assumption | rfl) rfl e6 ?_
    refine w_ltN (j := 4) rfl rfl (by omega) (by omega) (fun c => absurd c (fun c => by omega)) (fun _ => ?_)
    refine w_al (j := 5) rfl rfl rfl ?_
    refine w_cvPU (j := 6) rfl rfl rfl rfl (by first | assumption | rfl) rfl rfl (sp_54 hI hn hn5 (by omega) vb (fun b hb => by have := lc b hb; have := (pf_hd_eq hI hb).2.2; omega) tb R) rfl ?_
    rintro h2 R2
    refine w_rt rfl ?_
    exact ⟨_, rfl, R2⟩
  | succ k ih =>
    intro v s h1 hv vb lc R
    have e6 : h1 76 6 = nI (pf_on q N) := (R.2.1 6 (by decide)).trans hn
    refine px_M (M := mt_53) (ops := mo_53) tb_53 rfl rfl rfl rfl rfl ?_
    refine w_il (j := 1) rfl rfl rfl ?_
    refine w_al (j := 2) rfl rfl rfl ?_
    first | refine w_gr (j := 3) rfl rfl (by first | assumption | rfl) (by first | assumption | rfl) rfl ?_ | refine w_gi (j := 3) rfl rfl (by first | assumption | rfl) (by first | assumption | rfl) rfl e6 ?_
    refine w_ltN (j := 4) rfl rfl (by omega) (by omega) (fun _ => ?_) (fun c => absurd c (fun c => by omega))
    refine w_ic (n := 0) (j := 8) rfl rfl ?_
    refine w_is (j := 9) rfl rfl rfl ?_
    refine px_forI (fun b ls h2 => ls = [.ref 76, .int (nI v.length), .int (nI b)] ∧ px_pR h0 h2 (pf_on q N) v (px_fold (fun b s => if pf_lc v b < pf_hd h b then pf_tr (pf_hd h) B (pf_co h cs N q) k (v ++ [b]) s else s) b s)) B ?_ ?_ ⟨rfl, R⟩
    · rintro b _ h2 hb ⟨rfl, R2⟩ H
      rw [px_fold] at H
      generalize px_fold (fun b s => if pf_lc v b < pf_hd h b then pf_tr (pf_hd h) B (pf_co h cs N q) k (v ++ [b]) s else s) b s = s2 at R2 H
      obtain ⟨r1, r2, r3, r4, r5⟩ := R2
      have e36 : h2 3 6 = nI B := by rw [r1 3 (by decide)]; exact hI0.1.1
      obtain ⟨d1, d2, d3⟩ := pf_hd_eq hI hb
      have e5 : h2 5 b = nI (pf_hd h b) := by rw [r1 5 (by decide), eh5]; exact d1
      have e80 := r4 b (by omega)
      have lb := lc b hb
      refine w_il (j := 10) rfl rfl rfl ?_
      refine w_al (j := 11) rfl rfl rfl ?_
      first | refine w_gr (j := 12) rfl rfl (by first | assumption | rfl) (by first | assumption | rfl) rfl ?_ | refine w_gi (j := 12) rfl rfl (by first | assumption | rfl) (by first | assumption | rfl) rfl rfl ?_
      first | refine w_gr (j := 13) rfl rfl (by first | assumption | rfl) (by first | assumption | rfl) rfl ?_ | refine w_gi (j := 13) rfl rfl (by first | assumption | rfl) (by first | assumption | rfl) rfl e36 ?_
      refine w_geN (j := 14) rfl rfl (by omega) (by omega) (fun c => absurd c (fun c => by omega)) (fun _ => ?_)
      refine w_al (j := 15) rfl rfl rfl ?_
      first | refine w_gr (j := 16) rfl rfl (by first | assumption | rfl) (by first | assumption | rfl) rfl ?_ | refine w_gi (j := 16) rfl rfl (by first | assumption | rfl) (by first | assumption | rfl) rfl rfl ?_
      refine w_il (j := 17) rfl rfl rfl ?_
      refine w_ial (j := 18) rfl rfl (by first | assumption | rfl) rfl (by omega) rfl e80 ?_
      refine w_al (j := 19) rfl rfl rfl ?_
      first | refine w_gr (j := 20) rfl rfl (by first | assumption | rfl) (by first | assumption | rfl) rfl ?_ | refine w_gi (j := 20) rfl rfl (by first | assumption | rfl) (by first | assumption | rfl) rfl rfl ?_
      first | refine w_gr (j := 21) rfl rfl (by first | assumption | rfl) (by first | assumption | rfl) rfl ?_ | refine w_gi (j := 21) rfl rfl (by first | assumption | rfl) (by first | assumption | rfl) rfl rfl ?_
      refine w_il (j := 22) rfl rfl rfl ?_
      refine w_ial (j := 23) rfl rfl (by first | assumption | rfl) rfl (by omega) rfl e5 ?_
      refine w_geN (j := 24) rfl rfl (by omega) (by omega) (fun c1 => ?_) (fun c1 => ?_)
      ·
        rw [if_neg (by omega)] at H
        first | refine w_incN (j := 51) rfl rfl rfl ?_ | refine w_inc (j := 51) rfl rfl rfl rfl ?_
        refine w_go rfl ?_
        exact H _ _ ⟨rfl, r1, r2, r3, r4, r5⟩
      rw [if_pos c1] at H
      have e80' : ix_up h2 78 v.length (nI b) 80 b = nI (pf_lc v b) := by rw [px_up_na (by decide)]; exact e80
      refine w_al (j := 25) rfl rfl rfl ?_
      first | refine w_gr (j := 26) rfl rfl (by first | assumption | rfl) (by first | assumption | rfl) rfl ?_ | refine w_gi (j := 26) rfl rfl (by first | assumption | rfl) (by first | assumption | rfl) rfl rfl ?_
      refine w_il (j := 27) rfl rfl rfl ?_
      refine w_il (j := 28) rfl rfl rfl ?_
      refine w_ias (j := 29) rfl rfl (by first | assumption | rfl) rfl (by omega) rfl ?_
      refine w_al (j := 30) rfl rfl rfl ?_
      first | refine w_gr (j := 31) rfl rfl (by first | assumption | rfl) (by first | assumption | rfl) rfl ?_ | refine w_gi (j := 31) rfl rfl (by first | assumption | rfl) (by first | assumption | rfl) rfl rfl ?_
      refine w_il (j := 32) rfl rfl rfl ?_
      refine w_dup2 (j := 33) rfl rfl ?_
      refine w_ial (j := 34) rfl rfl (by first | assumption | rfl) rfl (by omega) rfl e80' ?_
      refine w_ic (n := 1) (j := 35) rfl rfl ?_
      first | refine w_add0 (j := 36) rfl rfl ?_ | refine w_addN (j := 36) rfl rfl ?_ | refine w_add (j := 36) rfl rfl ?_
      refine w_ias (j := 37) rfl rfl (by first | assumption | rfl) rfl (by omega) rfl ?_
      refine w_al (j := 38) rfl rfl rfl ?_
      refine w_il (j := 39) rfl rfl rfl ?_
      refine w_ic (n := 1) (j := 40) rfl rfl ?_
      first | refine w_add0 (j := 41) rfl rfl ?_ | refine w_addN (j := 41) rfl rfl ?_ | refine w_add (j := 41) rfl rfl ?_
      have RA : px_pR h0 (ix_up (ix_up h2 78 v.length (nI b)) 80 b (nI (pf_lc v b + 1))) (pf_on q N) (v ++ [b]) s2 := by
        refine ⟨(r1.up (by decide)).up (by decide), fun j hj => ?_, fun i hi => ?_, fun b' hb' => ?_, ?_⟩
        · rw [px_up_na (by decide), px_up_na (by decide)]; exact r2 j hj
        · rw [List.length_append, List.length_singleton] at hi
          rw [px_up_na (by decide)]
          by_cases e : i = v.length
          · subst e; rw [px_up_at, pf_getr]
          · rw [px_up_nk e, pf_getl (by omega)]; exact r3 i (by omega)
        · rw [pf_lc_app]
          by_cases e : b' = b
          · subst e; rw [px_up_at, if_pos rfl]
          · rw [px_up_nk e, px_up_na (by decide), if_neg (fun z => e z.symm)]; exact r4 b' hb'
        · cases s2 with
          | none => exact r5
          | some p => exact r5
      have ihx := ih (v ++ [b]) s2 _ (by rw [List.length_append, List.length_singleton]; omega) (fun i hi => by
        rw [List.length_append, List.length_singleton] at hi
        by_cases e : i = v.length
        · subst e; rw [pf_getr]; exact hb
        · rw [pf_getl (by omega)]; exact vb i (by omega)) (fun b' hb' => by
        rw [pf_lc_app]
        by_cases e : b = b'
        · subst e; rw [if_pos rfl]; omega
        · rw [if_neg e]; exact lc b' hb') RA
      rw [List.length_append, List.length_singleton] at ihx
      refine w_cvPU (j := 42) rfl rfl rfl rfl (by first | assumption | rfl) rfl rfl (ihx) (Nat.ble_eq.mpr (by omega)) ?_
      rintro h3 R3
      obtain ⟨u1, u2, u3, u4, u5⟩ := R3
      have e80'' := u4 b (by omega)
      rw [pf_lc_app, if_pos rfl] at e80''
      refine w_al (j := 43) rfl rfl rfl ?_
      first | refine w_gr (j := 44) rfl rfl (by first | assumption | rfl) (by first | assumption | rfl) rfl ?_ | refine w_gi (j := 44) rfl rfl (by first | assumption | rfl) (by first | assumption | rfl) rfl rfl ?_
      refine w_il (j := 45) rfl rfl rfl ?_
      refine w_dup2 (j := 46) rfl rfl ?_
      refine w_ial (j := 47) rfl rfl (by first | assumption | rfl) rfl (by omega) rfl e80'' ?_
      refine w_ic (n := 1) (j := 48) rfl rfl ?_
      first | refine w_subN (j := 49) rfl rfl (by omega) ?_ | refine w_sub (j := 49) rfl rfl ?_
      refine w_ias (j := 50) rfl rfl (by first | assumption | rfl) rfl (by omega) rfl ?_
      first | refine w_incN (j := 51) rfl rfl rfl ?_ | refine w_inc (j := 51) rfl rfl rfl rfl ?_
      refine w_go rfl ?_
      rw [Nat.add_sub_cancel]
      refine H _ _ ⟨rfl, u1.up (by decide), fun j hj => ?_, fun i hi => ?_, fun b' hb' => ?_, ?_⟩
      · rw [px_up_na (by decide)]; exact u2 j hj
      · rw [px_up_na (by decide), u3 i (by rw [List.length_append, List.length_singleton]; omega), pf_getl hi]
      · by_cases e : b' = b
        · subst e; rw [px_up_at]
        · rw [px_up_nk e, u4 b' hb', pf_lc_app, if_neg (fun z => e z.symm), Nat.add_zero]
      · generalize pf_tr (pf_hd h) B (pf_co h cs N q) k (v ++ [b]) s2 = s3 at u5 ⊢
        cases s3 with
        | none => exact u5
        | some p => exact u5
    · rintro _ h2 ⟨rfl, R2⟩
      have e36 : h2 3 6 = nI B := by rw [R2.1 3 (by decide)]; exact hI0.1.1
      refine w_il (j := 10) rfl rfl rfl ?_
      refine w_al (j := 11) rfl rfl rfl ?_
      first | refine w_gr (j := 12) rfl rfl (by first | assumption | rfl) (by first | assumption | rfl) rfl ?_ | refine w_gi (j := 12) rfl rfl (by first | assumption | rfl) (by first | assumption | rfl) rfl rfl ?_
      first | refine w_gr (j := 13) rfl rfl (by first | assumption | rfl) (by first | assumption | rfl) rfl ?_ | refine w_gi (j := 13) rfl rfl (by first | assumption | rfl) (by first | assumption | rfl) rfl e36 ?_
      refine w_geN (j := 14) rfl rfl (by omega) (by omega) (fun _ => ?_) (fun c => absurd c (fun c => by omega))
      refine w_rt rfl ?_
      exact ⟨_, rfl, R2⟩
end PL
