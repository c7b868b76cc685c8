abbrev px_S : Type := (Nat → Int32) × (Nat → Int32) × (Nat → Int32) × Int32 × Int32
def pf_yr (cs : List (Nat × Nat)) (N : Nat) (fd pt : Nat → Int32) (S : px_S) : px_S := (fun j => if j < N then S.1 j - pf_ls cs N fd pt S.1 S.2.1 S.2.2.1 (pf_bt S.2.2.2.1) S.2.2.2.2 j else S.1 j, fun j => if j < N ∧ S.2.2.1 j ≠ -2 then S.2.1 j + nI 1 else S.2.1 j, S.2.2.1, S.2.2.2.1, S.2.2.2.2 + nI 1)
def pf_cS (h : ix_H) (x : Nat) : px_S := (h (x + 1), h (x + 2), h (x + 3), h x 4, h x 6)
def pf_cR (S : px_S) (h : ix_H) (x : Nat) : Prop := (∀ c, c < 8 → h (x + 1) c = S.1 c) ∧ (∀ c, c < 8 → h (x + 2) c = S.2.1 c) ∧ (∀ c, c < 8 → h (x + 3) c = S.2.2.1 c) ∧ h x 4 = S.2.2.2.1 ∧ h x 6 = S.2.2.2.2
def pf_mR (S : px_S) (m : Nat → Int32) : Prop := (∀ c, c < 8 → m (8 + c) = S.1 c) ∧ (∀ c, c < 8 → m (16 + c) = S.2.1 c) ∧ (∀ c, c < 8 → m c = S.2.2.1 c) ∧ (∀ b, b < 6 → m (24 + b) = pf_bt S.2.2.2.1 b) ∧ m 31 = S.2.2.2.2
def pf_oS (B : Nat) (S : px_S) : Prop := (∀ c, c < 8 → ∃ q, q ≤ 99 ∧ S.1 c = nI q) ∧ (∀ c, c < 8 → S.2.2.1 c = -2 ∨ S.2.2.1 c = -1 ∨ ∃ b, b < B ∧ S.2.2.1 c = nI b) ∧ ∃ q, q < 64 ∧ S.2.2.2.1 = nI q
theorem pf_cl_nat (v : Int32) : ∃ l, l ≤ 99 ∧ pf_cl v = nI l := by
  unfold pf_cl
  have e0 : (nI 0).toInt = 0 := nI_toInt (by decide)
  have e9 : (nI 99).toInt = 99 := nI_toInt (by decide)
  by_cases h2 : nI 99 < v
  · rw [if_pos h2, if_pos (by decide)]
    exact ⟨99, by decide, rfl⟩
  · rw [if_neg h2]
    by_cases h4 : nI 0 < v
    · rw [if_pos h4]
      obtain ⟨m, h5, h6⟩ := px_bnd2 (B := 99) (b := v) (by decide) ⟨by rw [Int32.le_iff_toInt_le]; rw [Int32.lt_iff_toInt_lt] at h4; omega, px_not_lt.mp h2⟩
      exact ⟨m, h5, h6⟩
    · rw [if_neg h4]
      exact ⟨0, by decide, rfl⟩
theorem pf_li_le {cs : List (Nat × Nat)} {f m t p a b y : Int32} {q : Nat} (hq : q ≤ 99) : ∃ l, l ≤ q ∧ pf_li cs f m t (nI q) p a b y = nI l := by
  unfold pf_li
  by_cases hs : nI q = 0
  · rw [if_pos hs]
    exact ⟨0, by omega, rfl⟩
  · rw [if_neg hs]
    obtain ⟨l, hl, e⟩ : ∃ l, l ≤ 99 ∧ pf_ev cs (pf_gv f m t (nI q) p a b y) = nI l := pf_cl_nat _
    rw [e]
    by_cases h1 : nI q < nI l
    · rw [if_pos h1]; exact ⟨q, Nat.le_refl _, rfl⟩
    · rw [if_neg h1]
      have : ¬ q < l := fun z => h1 (nI_lt z (by omega))
      exact ⟨l, by omega, rfl⟩
theorem pf_ls_le {cs : List (Nat × Nat)} {N c q : Nat} {f g s a p t : Nat → Int32} {y : Int32} (hq : q ≤ 99) (hs : s c = nI q) : ∃ l, l ≤ q ∧ pf_ls cs N f g s a p t y c = nI l := by
  unfold pf_ls
  rw [hs]
  by_cases h1 : p c = -2
  · rw [if_pos h1]; exact ⟨0, by omega, rfl⟩
  · rw [if_neg h1]
    by_cases h2 : p c = -1
    · rw [if_pos h2, px_d2 q (by omega), px_nsub (by omega)]
      exact ⟨q - q / 2, by omega, rfl⟩
    · rw [if_neg h2]
      exact pf_li_le hq
theorem pf_yrO {cs : List (Nat × Nat)} {N B : Nat} {fd pt : Nat → Int32} {S : px_S} (o : pf_oS B S) : pf_oS B (pf_yr cs N fd pt S) := by
  obtain ⟨o1, o2, o3⟩ := o
  refine ⟨fun c hc => ?_, o2, o3⟩
  obtain ⟨q, hq, e⟩ := o1 c hc
  show ∃ q, q ≤ 99 ∧ (if c < N then _ else _) = nI q
  by_cases hcN : c < N
  · rw [if_pos hcN]
    obtain ⟨l, hl, el⟩ := pf_ls_le (cs := cs) (N := N) (f := fd) (g := pt) (a := S.2.1) (p := S.2.2.1) (t := pf_bt S.2.2.2.1) (y := S.2.2.2.2) hq e
    rw [el, e, px_nsub hl]
    exact ⟨q - l, by omega, rfl⟩
  · rw [if_neg hcN]
    exact ⟨q, hq, e⟩
section YR
variable {h : ix_H} {B N : Nat} {cs : List (Nat × Nat)} {fd pt : Nat → Int32} {S : px_S}
theorem px_pass {x : Nat} (hx : px_St x) (hN : h 3 7 = nI N) (hN8 : N ≤ 8) (hB : h 3 6 = nI B) (hB6 : B ≤ 6) (hl : px_lw h cs) (hw : pf_wf cs 0 1) (r4 : h 4 = fd) (r6 : h 6 = pt) (R : pf_cR S h x) (o : pf_oS B S) : px_PU 5 72 [.ref 62, .ref x] h (fun h' => px_fr [42, 45, 63, x, x + 1, x + 2] h h' ∧ pf_cR (pf_yr cs N fd pt S) h' x ∧ h' x 5 = h x 5) := by
  obtain ⟨R1, R2, R3, R4, R5⟩ := R
  obtain ⟨o1, o2, o3⟩ := o
  have hp : px_pl h x B := fun c hc => by rw [R3 c hc]; exact o2 c hc
  refine px_PUm (sp_72 hx hN hN8 hB hB6 hp hl hw) ?_
  rintro h' ⟨f1, f2, f3, f4⟩
  have hx7 : x + 3 ∉ [42, 45, 63, x, x + 1, x + 2] := by
    obtain ⟨-, -, -, -, -, y1, y2⟩ := hx
    simp
    omega
  refine ⟨f1, ⟨fun c hc => ?_, fun c hc => ?_, fun c hc => ?_, ?_, ?_⟩, ?_⟩
  · rw [f2]
    show _ = if c < N then _ else _
    by_cases hcN : c < N
    · rw [if_pos hcN, if_pos hcN, R1 c hc]
      congr 1
      exact pf_ls_congr (B := B) (fun j hj => R3 j (by omega)) (R3 c hc) (hp c hc) hB6 (R1 c hc) (R2 c hc) (by rw [r6]) (fun b hb => ⟨by rw [r4], by rw [R4]⟩) R5
    · rw [if_neg hcN, if_neg hcN, R1 c hc]
  · rw [f3]
    show _ = if c < N ∧ S.2.2.1 c ≠ -2 then _ else _
    rw [R3 c hc, R2 c hc]
  · rw [f1 _ hx7]
    exact R3 c hc
  · rw [f4, if_neg (by decide)]; exact R4
  · rw [f4, if_pos rfl, R5]
    rfl
  · rw [f4, if_neg (by decide)]
theorem px_passM {r : Nat} (hr : px_Rw r) (hN : h 104 1 = nI N) (hN8 : N ≤ 8) (hB6 : B ≤ 6) (hl : px_mw h cs) (hw : pf_wf cs 0 1) (r4 : ∀ b, b < B → h (113 + b) 0 = fd b) (r6 : ∀ c, c < N → h (129 + c) 0 = pt c) (R : pf_mR S (h r)) (o : pf_oS B S) : px_PU 7 201 [.ref 100, .ref r] h (fun h' => px_fr [494, 495, 579, r] h h' ∧ pf_mR (pf_yr cs N fd pt S) (h' r) ∧ h' r 30 = h r 30) := by
  obtain ⟨R1, R2, R3, R4, R5⟩ := R
  obtain ⟨o1, o2, o3⟩ := o
  have hp : px_mpl h r B := fun c hc => by rw [R3 c hc]; exact o2 c hc
  refine px_PUm (sp_201 hr hN hN8 hB6 hp hl hw) ?_
  rintro h' ⟨f1, f2, f3, f4, f5⟩
  refine ⟨f1, ⟨fun c hc => ?_, fun c hc => ?_, fun c hc => ?_, fun b hb => ?_, ?_⟩, ?_⟩
  · rw [f2 c hc]
    show _ = if c < N then _ else _
    by_cases hcN : c < N
    · rw [if_pos hcN, if_pos hcN, R1 c hc]
      congr 1
      exact pf_ls_congr (B := B) (fun j hj => R3 j (by omega)) (R3 c hc) (hp c hc) hB6 (R1 c hc) (R2 c hc) (by rw [pf_rr_lt (by omega)]; exact r6 c hcN) (fun b hb => ⟨by rw [pf_rr_lt (by omega)]; exact r4 b hb, R4 b (by omega)⟩) R5
    · rw [if_neg hcN, if_neg hcN, R1 c hc]
  · rw [f3 c hc]
    show _ = if c < N ∧ S.2.2.1 c ≠ -2 then _ else _
    rw [R3 c hc, R2 c hc]
  · rw [f4 c (by omega)]; exact R3 c hc
  · rw [f4 (24 + b) (by omega)]; exact R4 b hb
  · rw [f5, R5]; rfl
  · rw [f4 30 (by omega)]
theorem px_nowS {Y : Nat} (nw : px_now h 64 577 B Y) : pf_mR (pf_cS h 64) (h 577) ∧ pf_oS B (pf_cS h 64) := by
  obtain ⟨n1, n2, n3, n4, n5, n6, n7, n8⟩ := nw
  exact ⟨⟨fun c hc => (n1 c hc).1.symm, fun c hc => (n2 c hc).symm, fun c hc => (n3 c hc).1.symm, fun b hb => (n5 b hb).symm, n7.symm⟩, fun c hc => (n1 c hc).2, fun c hc => (n3 c hc).2, n4⟩
theorem sp_74 : px_PU 1 74 [.ref 68, .ref 64] h (fun h1 => px_fr [68, 69, 70, 71] h h1 ∧ pf_cR (pf_cS h 64) h1 68) := by
  refine px_M (M := mt_74) (ops := mo_74) tb_74 rfl rfl rfl rfl rfl ?_
  refine w_al (j := 1) rfl rfl rfl ?_
  first | refine w_gr (j := 2) rfl rfl (by first | assumption | rfl) (by first | assumption | rfl) rfl ?_ | refine w_gi (j := 2) rfl rfl (by first | assumption | rfl) (by first | assumption | rfl) rfl rfl ?_
  refine w_ic (n := 0) (j := 3) rfl rfl ?_
  refine w_al (j := 4) rfl rfl rfl ?_
  first | refine w_gr (j := 5) rfl rfl (by first | assumption | rfl) (by first | assumption | rfl) rfl ?_ | refine w_gi (j := 5) rfl rfl (by first | assumption | rfl) (by first | assumption | rfl) rfl rfl ?_
  refine w_ic (n := 0) (j := 6) rfl rfl ?_
  refine w_bi (j := 7) (a := nI 8) rfl rfl (by decide) ?_
  refine w_ac (j := 8) rfl rfl (by first | assumption | rfl) (by first | assumption | rfl) rfl rfl rfl rfl rfl (by omega) (by omega) rfl ?_
  refine w_al (j := 9) rfl rfl rfl ?_
  first | refine w_gr (j := 10) rfl rfl (by first | assumption | rfl) (by first | assumption | rfl) rfl ?_ | refine w_gi (j := 10) rfl rfl (by first | assumption | rfl) (by first | assumption | rfl) rfl rfl ?_
  refine w_ic (n := 0) (j := 11) rfl rfl ?_
  refine w_al (j := 12) rfl rfl rfl ?_
  first | refine w_gr (j := 13) rfl rfl (by first | assumption | rfl) (by first | assumption | rfl) rfl ?_ | refine w_gi (j := 13) rfl rfl (by first | assumption | rfl) (by first | assumption | rfl) rfl rfl ?_
  refine w_ic (n := 0) (j := 14) rfl rfl ?_
  refine w_bi (j := 15) (a := nI 8) rfl rfl (by decide) ?_
  refine w_ac (j := 16) rfl rfl (by first | assumption | rfl) (by first | assumption | rfl) rfl rfl rfl rfl rfl (by omega) (by omega) rfl ?_
  refine w_al (j := 17) rfl rfl rfl ?_
  first | refine w_gr (j := 18) rfl rfl (by first | assumption | rfl) (by first | assumption | rfl) rfl ?_ | refine w_gi (j := 18) rfl rfl (by first | assumption | rfl) (by first | assumption | rfl) rfl rfl ?_
  refine w_ic (n := 0) (j := 19) rfl rfl ?_
  refine w_al (j := 20) rfl rfl rfl ?_
  first | refine w_gr (j := 21) rfl rfl (by first | assumption | rfl) (by first | assumption | rfl) rfl ?_ | refine w_gi (j := 21) rfl rfl (by first | assumption | rfl) (by first | assumption | rfl) rfl rfl ?_
  refine w_ic (n := 0) (j := 22) rfl rfl ?_
  refine w_bi (j := 23) (a := nI 8) rfl rfl (by decide) ?_
  refine w_ac (j := 24) rfl rfl (by first | assumption | rfl) (by first | assumption | rfl) rfl rfl rfl rfl rfl (by omega) (by omega) rfl ?_
  refine w_al (j := 25) rfl rfl rfl ?_
  refine w_al (j := 26) rfl rfl rfl ?_
  first | refine w_gr (j := 27) rfl rfl (by first | assumption | rfl) (by first | assumption | rfl) rfl ?_ | refine w_gi (j := 27) rfl rfl (by first | assumption | rfl) (by first | assumption | rfl) rfl rfl ?_
  refine w_pf (j := 28) rfl rfl (by first | assumption | rfl) (by first | assumption | rfl) rfl ?_
  refine w_al (j := 29) rfl rfl rfl ?_
  refine w_al (j := 30) rfl rfl rfl ?_
  first | refine w_gr (j := 31) rfl rfl (by first | assumption | rfl) (by first | assumption | rfl) rfl ?_ | refine w_gi (j := 31) rfl rfl (by first | assumption | rfl) (by first | assumption | rfl) rfl rfl ?_
  refine w_pf (j := 32) rfl rfl (by first | assumption | rfl) (by first | assumption | rfl) rfl ?_
  refine w_al (j := 33) rfl rfl rfl ?_
  refine w_al (j := 34) rfl rfl rfl ?_
  first | refine w_gr (j := 35) rfl rfl (by first | assumption | rfl) (by first | assumption | rfl) rfl ?_ | refine w_gi (j := 35) rfl rfl (by first | assumption | rfl) (by first | assumption | rfl) rfl rfl ?_
  refine w_pf (j := 36) rfl rfl (by first | assumption | rfl) (by first | assumption | rfl) rfl ?_
  refine w_rt rfl ?_
  refine ⟨_, rfl, ?_, ⟨fun c hc => ?_, fun c hc => ?_, fun c hc => ?_, ?_, ?_⟩⟩
  · repeat first | exact px_fr.rf | refine px_fr.up ?_ (by decide) | refine px_fr.row ?_ (by decide)
  all_goals simp [ix_up, ix_cpy, ix_row, va_cpy, pf_cS]
  all_goals (intro q; omega)
theorem sp_179 {a b : Nat} (ha : ix_sh a = (1, 32, 0)) (hb : ix_sh b = (1, 32, 0)) (hab : a ≠ b) : px_PU 1 179 [.ref a, .ref b] h (fun h1 => px_fr [b] h h1 ∧ ∀ j, j < 32 → h1 b j = h a j) := by
  refine px_M (M := mt_179) (ops := mo_179) tb_179 rfl rfl rfl rfl rfl ?_
  refine w_ic (n := 0) (j := 1) rfl rfl ?_
  refine w_is (j := 2) rfl rfl rfl ?_
  refine px_forI (fun c ls h1 => ls = [.ref a, .ref b, .int (nI c)] ∧ px_fr [b] h h1 ∧ ∀ j, j < c → h1 b j = h a j) 32 ?_ ?_ ⟨rfl, px_fr.rf, fun j hj => by omega⟩
  · rintro c _ h1 hc ⟨rfl, fr, he⟩ H
    refine w_il (j := 3) rfl rfl rfl ?_
    refine w_bi (j := 4) (a := nI 32) rfl rfl (by decide) ?_
    refine w_geN (j := 5) rfl rfl (by omega) (by omega) (fun c => absurd c (fun c => by omega)) (fun _ => ?_)
    refine w_al (j := 6) rfl rfl rfl ?_
    refine w_il (j := 7) rfl rfl rfl ?_
    refine w_al (j := 8) rfl rfl rfl ?_
    refine w_il (j := 9) rfl rfl rfl ?_
    refine w_ial (j := 10) rfl rfl (by first | assumption | rfl) rfl (by omega) rfl rfl ?_
    refine w_ias (j := 11) rfl rfl (by first | assumption | rfl) rfl (by omega) rfl ?_
    first | refine w_incN (j := 12) rfl rfl rfl ?_ | refine w_inc (j := 12) rfl rfl rfl rfl ?_
    refine w_go rfl ?_
    refine H _ _ ⟨rfl, fr.up (by simp), fun j hj => ?_⟩
    by_cases hjc : j = c
    · subst hjc
      rw [px_up_at, fr a (by simpa using hab)]
    · rw [px_up_nk hjc]; exact he j (by omega)
  · rintro _ h1 ⟨rfl, fr, he⟩
    refine w_il (j := 3) rfl rfl rfl ?_
    refine w_bi (j := 4) (a := nI 32) rfl rfl (by decide) ?_
    refine w_geN (j := 5) rfl rfl (by omega) (by omega) (fun _ => ?_) (fun c => absurd c (fun c => by omega))
    refine w_rt rfl ?_
    exact ⟨_, rfl, fr, he⟩
end YR
def pf_Y (h : ix_H) (cs : List (Nat × Nat)) (N n : Nat) : px_S := px_fold (fun _ => pf_yr cs N (h 4) (h 6)) n (pf_cS h 64)
section OPS
variable {h : ix_H} {B N T L W I t : Nat} {cs : List (Nat × Nat)}
theorem pf_Y_kp {h h' : ix_H} {n : Nat} (k : px_kp h h') : pf_Y h' cs N n = pf_Y h cs N n := by
  unfold pf_Y pf_cS
  rw [k.1 4 (by decide), k.1 6 (by decide), k.1 64 (by decide), show h' (64 + 1) = h (64 + 1) from k.1 65 (by decide), show h' (64 + 2) = h (64 + 2) from k.1 66 (by decide), show h' (64 + 3) = h (64 + 3) from k.1 67 (by decide)]
theorem pf_YO (nw : px_now h 64 577 B 300) : ∀ n, pf_oS B (pf_Y h cs N n)
  | 0 => (px_nowS nw).2
  | n + 1 => pf_yrO (pf_YO nw n)
-- the class's trial after n years
def px_tr (h h1 : ix_H) (cs : List (Nat × Nat)) (N n : Nat) : Prop := px_fr [42, 45, 63, 68, 69, 70, 71] h h1 ∧ pf_cR (pf_Y h cs N n) h1 68
theorem px_trP {h1 : ix_H} {n : Nat} (hI : px_I h B N T cs L W I t) (R : px_tr h h1 cs N n) : px_PU 5 72 [.ref 62, .ref 68] h1 (fun h' => px_tr h h' cs N (n + 1)) := by
  obtain ⟨⟨l1, l2, l3, l4, l5, l6, l7, l8, l9⟩, lw, -, nw, -⟩ := hI
  obtain ⟨fr, R⟩ := R
  refine px_PUm (px_pass (fd := h 4) (pt := h 6) px_St68 (px_f3 fr l4 (by decide)) l6 (px_f3 fr l1 (by decide)) l3 (lw.1.fr fr (by decide)) lw.2.2 (fr 4 (by decide)) (fr 6 (by decide)) R (pf_YO nw n)) ?_
  rintro h' ⟨f1, f2, -⟩
  exact ⟨fr.tr (f1.sub (by decide)), f2⟩
theorem px_tr0 : px_PU 1 74 [.ref 68, .ref 64] h (fun h1 => px_tr h h1 cs N 0) := px_PUm sp_74 (fun h1 q => ⟨q.1.sub (by decide), q.2⟩)
theorem px_trk {h1 : ix_H} {n : Nat} (R : px_tr h h1 cs N n) : px_kp h h1 := px_kp.of R.1 (by decide)
-- the model's trial after n years
def px_mt (h h1 : ix_H) (cs : List (Nat × Nat)) (N n : Nat) : Prop := px_fr [494, 495, 579, 578] h h1 ∧ pf_mR (pf_Y h cs N n) (h1 578)
theorem px_mtP {h1 : ix_H} {n : Nat} (hI : px_I h B N T cs L W I t) (R : px_mt h h1 cs N n) : px_PU 7 201 [.ref 100, .ref 578] h1 (fun h' => px_mt h h' cs N (n + 1)) := by
  obtain ⟨⟨l1, l2, l3, l4, l5, l6, l7, l8, l9, l10, l11, l12, l13, l14, l15⟩, lw, -, nw, -⟩ := hI
  obtain ⟨fr, R⟩ := R
  refine px_PUm (px_passM (B := B) (fd := h 4) (pt := h 6) px_Rw578 (px_f3 fr l5 (by decide)) l6 l3 (lw.2.1.fr fr (by constructor; decide; intro a h1 h2; simp; omega)) lw.2.2 (fun b hb => ?_) (fun c hc => ?_) R (pf_YO nw n)) ?_
  · rw [fr (113 + b) (by simp; omega)]; exact (l12 b hb).1.symm
  · rw [fr (129 + c) (by simp; omega)]; exact (l13 c hc).1.symm
  · rintro h' ⟨f1, f2, -⟩
    exact ⟨fr.tr f1, f2⟩
theorem px_mt0 (nw : px_now h 64 577 B 300) : px_PU 1 179 [.ref 577, .ref 578] h (fun h1 => px_mt h h1 cs N 0) := by
  refine px_PUm (sp_179 (by decide) (by decide) (by decide)) ?_
  rintro h1 ⟨f1, f2⟩
  obtain ⟨⟨R1, R2, R3, R4, R5⟩, -⟩ := px_nowS nw
  refine ⟨f1.sub (by decide), fun c hc => ?_, fun c hc => ?_, fun c hc => ?_, fun b hb => ?_, ?_⟩
  · rw [f2 _ (by omega)]; exact R1 c hc
  · rw [f2 _ (by omega)]; exact R2 c hc
  · rw [f2 _ (by omega)]; exact R3 c hc
  · rw [f2 _ (by omega)]; exact R4 b hb
  · rw [f2 _ (by omega)]; exact R5
theorem px_mtk {h0 h h1 : ix_H} {n : Nat} (k : px_kp h0 h) (R : px_mt h h1 cs N n) : px_kp h0 h1 := k.fr R.1 (by decide)
theorem px_mt9 {h1 : ix_H} {n : Nat} (R : px_mt h h1 cs N n) : h1 100 = h 100 := R.1 100 (by decide)
-- ahead
def pf_ah (S : px_S) (N m : Nat) : Int32 := if m = 0 then pf_sum S.1 N else px_fold (pf_fb (fun c => S.1 c = 0)) N (nI 0)
theorem C_ahead {a w : Int32} (hI : px_I h B N T cs L W I t) : px_CO 8 117 [.ref 0, .int a, .int w] h (fun v h1 => ∃ n m, n ≤ 99 ∧ m ≤ 1 ∧ a = nI n ∧ w = nI m ∧ v = pf_ah (pf_Y h cs N n) N m ∧ px_kp h h1) (fun x h1 => x = 0 ∧ ¬ ((nI 0 ≤ a ∧ a ≤ nI 99) ∧ nI 0 ≤ w ∧ w ≤ nI 1) ∧ h1 = px_hX 0 h) := by
  have hI' := hI
  obtain ⟨⟨l1, l2, l3, l4, l5, l6, l7, l8, l9⟩, lw, -, nw, -⟩ := hI
  refine px_M (M := mt_117) (ops := mo_117) tb_117 rfl rfl rfl rfl rfl ?_
  refine w_al (j := 1) rfl rfl rfl ?_
  refine w_il (j := 2) rfl rfl rfl ?_
  refine w_ic (n := 0) (j := 3) rfl rfl ?_
  refine w_bi (j := 4) (a := nI 99) rfl rfl (by decide) ?_
  refine w_chk (j := 5) rfl rfl rfl rfl (by first | assumption | rfl) rfl rfl (sp_147) rfl (fun c1 => ?_) (fun c1 => ?_)
  · exact Or.inr ⟨_, _, rfl, rfl, fun q => c1 q.1, rfl⟩
  refine w_al (j := 6) rfl rfl rfl ?_
  refine w_il (j := 7) rfl rfl rfl ?_
  refine w_ic (n := 0) (j := 8) rfl rfl ?_
  refine w_ic (n := 1) (j := 9) rfl rfl ?_
  refine w_chk (j := 10) rfl rfl rfl rfl (by first | assumption | rfl) rfl rfl (sp_147) rfl (fun c2 => ?_) (fun c2 => ?_)
  · exact Or.inr ⟨_, _, rfl, rfl, fun q => c2 q.2, rfl⟩
  obtain ⟨n, hn, rfl⟩ := px_bnd2 (by decide) c1
  obtain ⟨m, hm, rfl⟩ := px_bnd2 (by decide) c2
  refine w_al (j := 11) rfl rfl rfl ?_
  first | refine w_gr (j := 12) rfl rfl (by first | assumption | rfl) (by first | assumption | rfl) rfl ?_ | refine w_gi (j := 12) rfl rfl (by first | assumption | rfl) (by first | assumption | rfl) rfl rfl ?_
  refine w_al (j := 13) rfl rfl rfl ?_
  first | refine w_gr (j := 14) rfl rfl (by first | assumption | rfl) (by first | assumption | rfl) rfl ?_ | refine w_gi (j := 14) rfl rfl (by first | assumption | rfl) (by first | assumption | rfl) rfl rfl ?_
  refine w_cvPU (j := 15) rfl rfl rfl rfl (by first | assumption | rfl) rfl rfl (px_tr0 (cs := cs) (N := N)) rfl ?_
  rintro h1 R
  refine w_ic (n := 0) (j := 16) rfl rfl ?_
  refine w_is (j := 17) rfl rfl rfl ?_
  refine px_forI (fun c ls h2 => ls = [.ref 0, .int (nI n), .int (nI m), .int (nI c)] ∧ px_tr h h2 cs N c) n ?_ ?_ ⟨rfl, R⟩
  · rintro c _ h2 hc ⟨rfl, R2⟩ H
    refine w_il (j := 18) rfl rfl rfl ?_
    refine w_il (j := 19) rfl rfl rfl ?_
    refine w_geN (j := 20) rfl rfl (by omega) (by omega) (fun c => absurd c (fun c => by omega)) (fun _ => ?_)
    refine w_al (j := 21) rfl rfl rfl ?_
    first | refine w_gr (j := 22) rfl rfl (by first | assumption | rfl) (by first | assumption | rfl) rfl ?_ | refine w_gi (j := 22) rfl rfl (by first | assumption | rfl) (by first | assumption | rfl) rfl rfl ?_
    refine w_al (j := 23) rfl rfl rfl ?_
    first | refine w_gr (j := 24) rfl rfl (by first | assumption | rfl) (by first | assumption | rfl) rfl ?_ | refine w_gi (j := 24) rfl rfl (by first | assumption | rfl) (by first | assumption | rfl) rfl rfl ?_
    refine w_cvPU (j := 25) rfl rfl rfl rfl (by first | assumption | rfl) rfl rfl (px_trP hI' R2) rfl ?_
    rintro h3 R3
    first | refine w_incN (j := 26) rfl rfl rfl ?_ | refine w_inc (j := 26) rfl rfl rfl rfl ?_
    refine w_go rfl ?_
    exact H _ _ ⟨rfl, R3⟩
  · rintro _ h2 ⟨rfl, R2⟩
    have e7 := px_f3 R2.1 l4 (by decide)
    have ok := pf_YO (cs := cs) (N := N) nw n
    refine w_il (j := 18) rfl rfl rfl ?_
    refine w_il (j := 19) rfl rfl rfl ?_
    refine w_geN (j := 20) rfl rfl (by omega) (by omega) (fun _ => ?_) (fun c => absurd c (fun c => by omega))
    refine w_il (j := 28) rfl rfl rfl ?_
    obtain rfl | rfl : m = 0 ∨ m = 1 := by omega
    ·
      refine w_neM (j := 29) rfl rfl (by omega) (fun c => absurd c (fun c => by omega)) (fun _ => ?_)
      refine w_al (j := 30) rfl rfl rfl ?_
      first | refine w_gr (j := 31) rfl rfl (by first | assumption | rfl) (by first | assumption | rfl) rfl ?_ | refine w_gi (j := 31) rfl rfl (by first | assumption | rfl) (by first | assumption | rfl) rfl rfl ?_
      refine w_cvI (j := 32) rfl rfl rfl rfl (by first | assumption | rfl) rfl rfl (sp_82 px_St68 e7 l6 (fun c hc => by rw [R2.2.1 c (by omega)]; exact ok.1 c (by omega))) rfl ?_
      refine w_go rfl ?_
      refine w_ir rfl ?_
      exact Or.inl ⟨_, _, rfl, n, 0, hn, hm, rfl, rfl, pf_sum_congr (fun c hc => R2.2.1 c (by omega)), px_trk R2⟩
    ·
      refine w_neM (j := 29) rfl rfl (by omega) (fun _ => ?_) (fun c => absurd c (fun c => by omega))
      refine w_al (j := 34) rfl rfl rfl ?_
      first | refine w_gr (j := 35) rfl rfl (by first | assumption | rfl) (by first | assumption | rfl) rfl ?_ | refine w_gi (j := 35) rfl rfl (by first | assumption | rfl) (by first | assumption | rfl) rfl rfl ?_
      refine w_cvI (j := 36) rfl rfl rfl rfl (by first | assumption | rfl) rfl rfl (sp_80 px_St68 e7 l6) rfl ?_
      refine w_ir rfl ?_
      exact Or.inl ⟨_, _, rfl, n, 1, hn, hm, rfl, rfl, pf_fb_congr (fun c hc => by rw [R2.2.1 c (by omega)]), px_trk R2⟩
theorem M_ahead {n m : Nat} (hI : px_I h B N T cs L W I t) (hn : n ≤ 99) (hm : m ≤ 1) : px_PI 9 219 [.ref 100, .int (nI n), .int (nI m)] h (fun w h2 => w = pf_ah (pf_Y h cs N n) N m ∧ h2 100 0 = nI 0 ∧ px_kp h h2) := by
  refine px_M (M := mt_219) (ops := mo_219) tb_219 rfl rfl rfl rfl rfl ?_
  refine w_al (j := 1) rfl rfl rfl ?_
  refine w_ic (n := 0) (j := 2) rfl rfl ?_
  refine w_pf (j := 3) rfl rfl (by first | assumption | rfl) (by first | assumption | rfl) rfl ?_
  obtain ⟨I1, k1, t0⟩ := px_thr (v := nI 0) hI
  generalize ix_up h 100 0 (nI 0) = h1 at I1 k1 t0 ⊢
  rw [← pf_Y_kp k1]
  have I1' := I1
  obtain ⟨⟨l1, l2, l3, l4, l5, l6, l7, l8, l9⟩, lw, -, nw, -⟩ := I1
  refine w_al (j := 4) rfl rfl rfl ?_
  refine w_il (j := 5) rfl rfl rfl ?_
  refine w_ic (n := 0) (j := 6) rfl rfl ?_
  refine w_bi (j := 7) (a := nI 99) rfl rfl (by decide) ?_
  refine w_csI (j := 8) rfl rfl rfl rfl rfl (sp_155) rfl ?_
  rw [px_ofN hn (by decide)]
  refine w_eqB (j := 9) rfl rfl (fun c => absurd c (by simp)) (fun _ => ?_)
  refine w_il (j := 10) rfl rfl rfl ?_
  refine w_ic (n := 0) (j := 11) rfl rfl ?_
  refine w_ic (n := 1) (j := 12) rfl rfl ?_
  refine w_csI (j := 13) rfl rfl rfl rfl rfl (sp_155) rfl ?_
  rw [px_ofN hm (by decide)]
  refine w_neB (j := 14) rfl rfl (fun _ => ?_) (fun c => absurd c (by simp))
  refine w_ic (n := 0) (j := 17) rfl rfl ?_
  refine w_ic (n := 1) (j := 18) rfl rfl ?_
  refine w_ic (n := 1) (j := 19) rfl rfl ?_
  refine w_cvI (j := 20) rfl rfl rfl rfl (by first | assumption | rfl) rfl rfl (sp_154f t0) rfl ?_
  refine w_eqB (j := 21) rfl rfl (fun _ => ?_) (fun c => absurd c (by simp))
  refine w_al (j := 24) rfl rfl rfl ?_
  first | refine w_gr (j := 25) rfl rfl (by first | assumption | rfl) (by first | assumption | rfl) rfl ?_ | refine w_gi (j := 25) rfl rfl (by first | assumption | rfl) (by first | assumption | rfl) rfl rfl ?_
  refine w_al (j := 26) rfl rfl rfl ?_
  first | refine w_gr (j := 27) rfl rfl (by first | assumption | rfl) (by first | assumption | rfl) rfl ?_ | refine w_gi (j := 27) rfl rfl (by first | assumption | rfl) (by first | assumption | rfl) rfl rfl ?_
  refine w_csPU (j := 28) rfl rfl rfl rfl rfl (px_mt0 (cs := cs) (N := N) nw) rfl ?_
  rintro h2 R
  refine w_ic (n := 0) (j := 29) rfl rfl ?_
  refine w_is (j := 30) rfl rfl rfl ?_
  refine px_forI (fun c ls h2 => ls = [.ref 100, .int (nI n), .int (nI m), .int (nI c)] ∧ px_mt h1 h2 cs N c) n ?_ ?_ ⟨rfl, R⟩
  · rintro c _ h2 hc ⟨rfl, R2⟩ H
    refine w_il (j := 31) rfl rfl rfl ?_
    refine w_il (j := 32) rfl rfl rfl ?_
    refine w_geN (j := 33) rfl rfl (by omega) (by omega) (fun c => absurd c (fun c => by omega)) (fun _ => ?_)
    refine w_al (j := 34) rfl rfl rfl ?_
    refine w_al (j := 35) rfl rfl rfl ?_
    first | refine w_gr (j := 36) rfl rfl (by first | assumption | rfl) (by first | assumption | rfl) rfl ?_ | refine w_gi (j := 36) rfl rfl (by first | assumption | rfl) (by first | assumption | rfl) rfl rfl ?_
    refine w_cvPU (j := 37) rfl rfl rfl rfl (by first | assumption | rfl) rfl rfl (px_mtP I1' R2) rfl ?_
    rintro h3 R3
    first | refine w_incN (j := 38) rfl rfl rfl ?_ | refine w_inc (j := 38) rfl rfl rfl rfl ?_
    refine w_go rfl ?_
    exact H _ _ ⟨rfl, R3⟩
  · rintro _ h2 ⟨rfl, R2⟩
    have e7 := px_f3 R2.1 l5 (by decide)
    have t9 : h2 100 0 = nI 0 := by rw [px_mt9 R2]; exact t0
    refine w_il (j := 31) rfl rfl rfl ?_
    refine w_il (j := 32) rfl rfl rfl ?_
    refine w_geN (j := 33) rfl rfl (by omega) (by omega) (fun _ => ?_) (fun c => absurd c (fun c => by omega))
    refine w_il (j := 40) rfl rfl rfl ?_
    obtain rfl | rfl : m = 0 ∨ m = 1 := by omega
    ·
      refine w_neM (j := 41) rfl rfl (by omega) (fun c => absurd c (fun c => by omega)) (fun _ => ?_)
      refine w_al (j := 42) rfl rfl rfl ?_
      refine w_al (j := 43) rfl rfl rfl ?_
      first | refine w_gr (j := 44) rfl rfl (by first | assumption | rfl) (by first | assumption | rfl) rfl ?_ | refine w_gi (j := 44) rfl rfl (by first | assumption | rfl) (by first | assumption | rfl) rfl rfl ?_
      refine w_cvI (j := 45) rfl rfl rfl rfl (by first | assumption | rfl) rfl rfl (sp_209 px_Rw578 e7 l6) rfl ?_
      refine w_go rfl ?_
      refine w_ir rfl ?_
      exact ⟨_, _, rfl, pf_sum_congr (fun c hc => R2.2.1 c (by omega)), t9, px_mtk k1 R2⟩
    ·
      refine w_neM (j := 41) rfl rfl (by omega) (fun _ => ?_) (fun c => absurd c (fun c => by omega))
      refine w_al (j := 47) rfl rfl rfl ?_
      refine w_al (j := 48) rfl rfl rfl ?_
      first | refine w_gr (j := 49) rfl rfl (by first | assumption | rfl) (by first | assumption | rfl) rfl ?_ | refine w_gi (j := 49) rfl rfl (by first | assumption | rfl) (by first | assumption | rfl) rfl rfl ?_
      refine w_cvI (j := 50) rfl rfl rfl rfl (by first | assumption | rfl) rfl rfl (sp_210 px_Rw578 e7 l6) rfl ?_
      refine w_ir rfl ?_
      exact ⟨_, _, rfl, pf_fb_congr (fun c hc => by rw [R2.2.1 c (by omega)]), t9, px_mtk k1 R2⟩
theorem MX_ahead {iv w : Int32} (ok : ¬ ((nI 0 ≤ iv ∧ iv ≤ nI 99) ∧ nI 0 ≤ w ∧ w ≤ nI 1)) : px_PI 3 219 [.ref 100, .int iv, .int w] h (fun v h2 => h2 100 0 = nI 1 ∧ px_kp (ix_up h 102 1 (h 102 1 + nI 1)) h2) := by
  have tail : px_R px_E 2 mo_219 [] 14 [.ref 100, .int iv, .int w, .null] [.ref 100] (ix_up h 100 0 (nI 0)) 0 (fun r => ∃ v h', r = (.inl (some (.int v)), h', 0) ∧ h' 100 0 = nI 1 ∧ px_kp (ix_up h 102 1 (h 102 1 + nI 1)) h') := by
    refine w_ic (n := 1) (j := 15) rfl rfl ?_
    refine w_go rfl ?_
    refine w_ic (n := 1) (j := 18) rfl rfl ?_
    refine w_ic (n := 1) (j := 19) rfl rfl ?_
    refine w_cvI (j := 20) rfl rfl rfl rfl (by first | assumption | rfl) rfl rfl (sp_154t (p := 1) (w := 1) rfl (by decide) (by decide) (by decide)) rfl ?_
    refine w_eqB (j := 21) rfl rfl (fun c => absurd c (by simp)) (fun _ => ?_)
    refine w_ic (n := 0) (j := 22) rfl rfl ?_
    refine w_ir rfl ?_
    exact ⟨_, _, rfl, rfl, px_kpX (by decide)⟩
  refine px_M (M := mt_219) (ops := mo_219) tb_219 rfl rfl rfl rfl rfl ?_
  refine w_al (j := 1) rfl rfl rfl ?_
  refine w_ic (n := 0) (j := 2) rfl rfl ?_
  refine w_pf (j := 3) rfl rfl (by first | assumption | rfl) (by first | assumption | rfl) rfl ?_
  refine w_al (j := 4) rfl rfl rfl ?_
  refine w_il (j := 5) rfl rfl rfl ?_
  refine w_ic (n := 0) (j := 6) rfl rfl ?_
  refine w_bi (j := 7) (a := nI 99) rfl rfl (by decide) ?_
  refine w_csI (j := 8) rfl rfl rfl rfl rfl (sp_155) rfl ?_
  by_cases c1 : nI 0 ≤ iv ∧ iv ≤ nI 99
  rw [decide_eq_true c1]
  rotate_left
  · rw [decide_eq_false c1]
    refine w_eqB rfl rfl (fun _ => tail) (fun c => absurd c (by simp))
  refine w_eqB (j := 9) rfl rfl (fun c => absurd c (by simp)) (fun _ => ?_)
  refine w_il (j := 10) rfl rfl rfl ?_
  refine w_ic (n := 0) (j := 11) rfl rfl ?_
  refine w_ic (n := 1) (j := 12) rfl rfl ?_
  refine w_csI (j := 13) rfl rfl rfl rfl rfl (sp_155) rfl ?_
  rw [decide_eq_false (fun q => ok ⟨c1, q⟩)]
  refine w_neB (j := 14) rfl rfl (fun c => absurd c (by simp)) (fun _ => ?_)
  exact tail
-- lasts
def pf_lst (h : ix_H) (cs : List (Nat × Nat)) (N c : Nat) : Int32 := pf_fs (fun n => decide ((pf_Y h cs N n).1 c = 0)) 61 0
theorem pf_lst_kp {h h' : ix_H} {c : Nat} (k : px_kp h h') : pf_lst h' cs N c = pf_lst h cs N c := by
  unfold pf_lst
  exact pf_fs_congr _ _ (fun j _ _ => by rw [pf_Y_kp k])
theorem C_lasts {a : Int32} (hI : px_I h B N T cs L W I t) : px_CO 8 118 [.ref 0, .int a] h (fun v h1 => ∃ c, c < N ∧ a = nI c ∧ v = pf_lst h cs N c ∧ px_kp h h1) (fun x h1 => x = 1 ∧ ¬ (0 ≤ a ∧ a < nI N) ∧ h1 = px_hX 1 h) := by
  have hI' := hI
  obtain ⟨⟨l1, l2, l3, l4, l5, l6, l7, l8, l9⟩, lw, -, nw, -⟩ := hI
  refine px_M (M := mt_118) (ops := mo_118) tb_118 rfl rfl rfl rfl rfl ?_
  refine w_al (j := 1) rfl rfl rfl ?_
  refine w_il (j := 2) rfl rfl rfl ?_
  refine w_chk (j := 3) rfl rfl rfl rfl (by first | assumption | rfl) rfl rfl (sp_150) rfl (fun c1 => ?_) (fun c1 => ?_)
  · rw [l4] at c1
    exact Or.inr ⟨_, _, rfl, rfl, c1, rfl⟩
  rw [l4] at c1
  obtain ⟨c, hc, rfl⟩ := px_bnd (by omega) c1
  refine w_al (j := 4) rfl rfl rfl ?_
  first | refine w_gr (j := 5) rfl rfl (by first | assumption | rfl) (by first | assumption | rfl) rfl ?_ | refine w_gi (j := 5) rfl rfl (by first | assumption | rfl) (by first | assumption | rfl) rfl rfl ?_
  refine w_al (j := 6) rfl rfl rfl ?_
  first | refine w_gr (j := 7) rfl rfl (by first | assumption | rfl) (by first | assumption | rfl) rfl ?_ | refine w_gi (j := 7) rfl rfl (by first | assumption | rfl) (by first | assumption | rfl) rfl rfl ?_
  refine w_cvPU (j := 8) rfl rfl rfl rfl (by first | assumption | rfl) rfl rfl (px_tr0 (cs := cs) (N := N)) rfl ?_
  rintro h1 R
  refine w_ic (n := 0) (j := 9) rfl rfl ?_
  refine w_is (j := 10) rfl rfl rfl ?_
  refine px_forI (fun n ls h2 => ls = [.ref 0, .int (nI c), .int (nI n)] ∧ px_tr h h2 cs N n ∧ pf_fs (fun n => decide ((pf_Y h cs N n).1 c = 0)) (61 - n) n = pf_lst h cs N c) 61 ?_ ?_ ⟨rfl, R, rfl⟩
  · rintro n _ h2 hn ⟨rfl, R2, hs⟩ H
    have es : h2 69 c = (pf_Y h cs N n).1 c := R2.2.1 c (by omega)
    rw [show 61 - n = (61 - (n + 1)) + 1 by omega, pf_fs] at hs
    refine w_il (j := 11) rfl rfl rfl ?_
    refine w_bi (j := 12) (a := nI 60) rfl rfl (by decide) ?_
    refine w_gtN (j := 13) rfl rfl (by omega) (by omega) (fun c => absurd c (fun c => by omega)) (fun _ => ?_)
    refine w_al (j := 14) rfl rfl rfl ?_
    first | refine w_gr (j := 15) rfl rfl (by first | assumption | rfl) (by first | assumption | rfl) rfl ?_ | refine w_gi (j := 15) rfl rfl (by first | assumption | rfl) (by first | assumption | rfl) rfl rfl ?_
    first | refine w_gr (j := 16) rfl rfl (by first | assumption | rfl) (by first | assumption | rfl) rfl ?_ | refine w_gi (j := 16) rfl rfl (by first | assumption | rfl) (by first | assumption | rfl) rfl rfl ?_
    refine w_il (j := 17) rfl rfl rfl ?_
    refine w_ial (j := 18) rfl rfl (by first | assumption | rfl) rfl (by omega) rfl rfl ?_
    refine w_neZ (j := 19) rfl rfl (fun d1 => ?_) (fun d1 => ?_)
    ·
      rw [es] at d1
      rw [if_neg (fun q => d1 (of_decide_eq_true q))] at hs
      refine w_al (j := 22) rfl rfl rfl ?_
      first | refine w_gr (j := 23) rfl rfl (by first | assumption | rfl) (by first | assumption | rfl) rfl ?_ | refine w_gi (j := 23) rfl rfl (by first | assumption | rfl) (by first | assumption | rfl) rfl rfl ?_
      refine w_al (j := 24) rfl rfl rfl ?_
      first | refine w_gr (j := 25) rfl rfl (by first | assumption | rfl) (by first | assumption | rfl) rfl ?_ | refine w_gi (j := 25) rfl rfl (by first | assumption | rfl) (by first | assumption | rfl) rfl rfl ?_
      refine w_cvPU (j := 26) rfl rfl rfl rfl (by first | assumption | rfl) rfl rfl (px_trP hI' R2) rfl ?_
      rintro h3 R3
      first | refine w_incN (j := 27) rfl rfl rfl ?_ | refine w_inc (j := 27) rfl rfl rfl rfl ?_
      refine w_go rfl ?_
      exact H _ _ ⟨rfl, R3, hs⟩
    ·
      rw [es] at d1
      rw [if_pos (decide_eq_true d1)] at hs
      refine w_il (j := 20) rfl rfl rfl ?_
      refine w_ir rfl ?_
      exact Or.inl ⟨_, _, rfl, c, hc, rfl, hs, px_trk R2⟩
  · rintro _ h2 ⟨rfl, R2, hs⟩
    refine w_il (j := 11) rfl rfl rfl ?_
    refine w_bi (j := 12) (a := nI 60) rfl rfl (by decide) ?_
    refine w_gtN (j := 13) rfl rfl (by omega) (by omega) (fun _ => ?_) (fun c => absurd c (fun c => by omega))
    refine w_im (j := 29) rfl rfl ?_
    refine w_ir rfl ?_
    exact Or.inl ⟨_, _, rfl, c, hc, rfl, hs, px_trk R2⟩
theorem M_lasts {c : Nat} (hI : px_I h B N T cs L W I t) (hc : c < N) : px_PI 9 220 [.ref 100, .int (nI c)] h (fun w h2 => w = pf_lst h cs N c ∧ h2 100 0 = nI 0 ∧ px_kp h h2) := by
  refine px_M (M := mt_220) (ops := mo_220) tb_220 rfl rfl rfl rfl rfl ?_
  refine w_al (j := 1) rfl rfl rfl ?_
  refine w_ic (n := 0) (j := 2) rfl rfl ?_
  refine w_pf (j := 3) rfl rfl (by first | assumption | rfl) (by first | assumption | rfl) rfl ?_
  obtain ⟨I1, k1, t0⟩ := px_thr (v := nI 0) hI
  generalize ix_up h 100 0 (nI 0) = h1 at I1 k1 t0 ⊢
  rw [← pf_lst_kp k1]
  have I1' := I1
  obtain ⟨⟨l1, l2, l3, l4, l5, l6, l7, l8, l9⟩, lw, -, nw, -⟩ := I1
  refine w_al (j := 4) rfl rfl rfl ?_
  refine w_al (j := 5) rfl rfl rfl ?_
  refine w_il (j := 6) rfl rfl rfl ?_
  refine w_cvI (j := 7) rfl rfl rfl rfl (by first | assumption | rfl) rfl rfl (sp_213 l5 l6) rfl ?_
  rw [px_ofB hc l6]
  refine w_neB (j := 8) rfl rfl (fun _ => ?_) (fun c => absurd c (by simp))
  refine w_ic (n := 0) (j := 11) rfl rfl ?_
  refine w_ic (n := 1) (j := 12) rfl rfl ?_
  refine w_ic (n := 0) (j := 13) rfl rfl ?_
  refine w_cvI (j := 14) rfl rfl rfl rfl (by first | assumption | rfl) rfl rfl (sp_154f t0) rfl ?_
  refine w_eqB (j := 15) rfl rfl (fun _ => ?_) (fun c => absurd c (by simp))
  refine w_al (j := 18) rfl rfl rfl ?_
  first | refine w_gr (j := 19) rfl rfl (by first | assumption | rfl) (by first | assumption | rfl) rfl ?_ | refine w_gi (j := 19) rfl rfl (by first | assumption | rfl) (by first | assumption | rfl) rfl rfl ?_
  refine w_al (j := 20) rfl rfl rfl ?_
  first | refine w_gr (j := 21) rfl rfl (by first | assumption | rfl) (by first | assumption | rfl) rfl ?_ | refine w_gi (j := 21) rfl rfl (by first | assumption | rfl) (by first | assumption | rfl) rfl rfl ?_
  refine w_csPU (j := 22) rfl rfl rfl rfl rfl (px_mt0 (cs := cs) (N := N) nw) rfl ?_
  rintro h2 R
  refine w_ic (n := 0) (j := 23) rfl rfl ?_
  refine w_is (j := 24) rfl rfl rfl ?_
  refine px_forI (fun n ls h2 => ls = [.ref 100, .int (nI c), .int (nI n)] ∧ px_mt h1 h2 cs N n ∧ pf_fs (fun n => decide ((pf_Y h1 cs N n).1 c = 0)) (61 - n) n = pf_lst h1 cs N c) 61 ?_ ?_ ⟨rfl, R, rfl⟩
  · rintro n _ h2 hn ⟨rfl, R2, hs⟩ H
    have es : h2 578 (8 + c) = (pf_Y h1 cs N n).1 c := R2.2.1 c (by omega)
    have t9 : h2 100 0 = nI 0 := by rw [px_mt9 R2]; exact t0
    rw [show 61 - n = (61 - (n + 1)) + 1 by omega, pf_fs] at hs
    refine w_il (j := 25) rfl rfl rfl ?_
    refine w_bi (j := 26) (a := nI 60) rfl rfl (by decide) ?_
    refine w_gtN (j := 27) rfl rfl (by omega) (by omega) (fun c => absurd c (fun c => by omega)) (fun _ => ?_)
    refine w_al (j := 28) rfl rfl rfl ?_
    first | refine w_gr (j := 29) rfl rfl (by first | assumption | rfl) (by first | assumption | rfl) rfl ?_ | refine w_gi (j := 29) rfl rfl (by first | assumption | rfl) (by first | assumption | rfl) rfl rfl ?_
    refine w_bi (j := 30) (a := nI 8) rfl rfl (by decide) ?_
    refine w_il (j := 31) rfl rfl rfl ?_
    first | refine w_add0 (j := 32) rfl rfl ?_ | refine w_addN (j := 32) rfl rfl ?_ | refine w_add (j := 32) rfl rfl ?_
    refine w_ial (j := 33) rfl rfl (by first | assumption | rfl) rfl (by omega) rfl rfl ?_
    refine w_neZ (j := 34) rfl rfl (fun d1 => ?_) (fun d1 => ?_)
    ·
      rw [es] at d1
      rw [if_neg (fun q => d1 (of_decide_eq_true q))] at hs
      refine w_al (j := 37) rfl rfl rfl ?_
      refine w_al (j := 38) rfl rfl rfl ?_
      first | refine w_gr (j := 39) rfl rfl (by first | assumption | rfl) (by first | assumption | rfl) rfl ?_ | refine w_gi (j := 39) rfl rfl (by first | assumption | rfl) (by first | assumption | rfl) rfl rfl ?_
      refine w_cvPU (j := 40) rfl rfl rfl rfl (by first | assumption | rfl) rfl rfl (px_mtP I1' R2) rfl ?_
      rintro h3 R3
      first | refine w_incN (j := 41) rfl rfl rfl ?_ | refine w_inc (j := 41) rfl rfl rfl rfl ?_
      refine w_go rfl ?_
      exact H _ _ ⟨rfl, R3, hs⟩
    ·
      rw [es] at d1
      rw [if_pos (decide_eq_true d1)] at hs
      refine w_il (j := 35) rfl rfl rfl ?_
      refine w_ir rfl ?_
      exact ⟨_, _, rfl, hs, t9, px_mtk k1 R2⟩
  · rintro _ h2 ⟨rfl, R2, hs⟩
    have t9 : h2 100 0 = nI 0 := by rw [px_mt9 R2]; exact t0
    refine w_il (j := 25) rfl rfl rfl ?_
    refine w_bi (j := 26) (a := nI 60) rfl rfl (by decide) ?_
    refine w_gtN (j := 27) rfl rfl (by omega) (by omega) (fun _ => ?_) (fun c => absurd c (fun c => by omega))
    refine w_im (j := 43) rfl rfl ?_
    refine w_ir rfl ?_
    exact ⟨_, _, rfl, hs, t9, px_mtk k1 R2⟩
theorem MX_lasts {a : Int32} (l5 : h 104 1 = nI N) (l6 : N ≤ 8) (ok : ¬ (0 ≤ a ∧ a < nI N)) : px_PI 3 220 [.ref 100, .int a] h (fun v h2 => h2 100 0 = nI 1 ∧ px_kp (ix_up h 102 0 (h 102 0 + nI 1)) h2) := by
  refine px_M (M := mt_220) (ops := mo_220) tb_220 rfl rfl rfl rfl rfl ?_
  refine w_al (j := 1) rfl rfl rfl ?_
  refine w_ic (n := 0) (j := 2) rfl rfl ?_
  refine w_pf (j := 3) rfl rfl (by first | assumption | rfl) (by first | assumption | rfl) rfl ?_
  refine w_al (j := 4) rfl rfl rfl ?_
  refine w_al (j := 5) rfl rfl rfl ?_
  refine w_il (j := 6) rfl rfl rfl ?_
  refine w_cvI (j := 7) rfl rfl rfl rfl (by first | assumption | rfl) rfl rfl (sp_213 (N := N) l5 l6) rfl ?_
  rw [decide_eq_false ok]
  refine w_neB (j := 8) rfl rfl (fun c => absurd c (by simp)) (fun _ => ?_)
  refine w_ic (n := 1) (j := 9) rfl rfl ?_
  refine w_go rfl ?_
  refine w_ic (n := 1) (j := 12) rfl rfl ?_
  refine w_ic (n := 0) (j := 13) rfl rfl ?_
  refine w_cvI (j := 14) rfl rfl rfl rfl (by first | assumption | rfl) rfl rfl (sp_154t (p := 0) (w := 1) rfl (by decide) (by decide) (by decide)) rfl ?_
  refine w_eqB (j := 15) rfl rfl (fun c => absurd c (by simp)) (fun _ => ?_)
  refine w_ic (n := 0) (j := 16) rfl rfl ?_
  refine w_ir rfl ?_
  exact ⟨_, _, rfl, rfl, px_kpX (by decide)⟩
-- ripe
def pf_rip (h : ix_H) (cs : List (Nat × Nat)) (N T c : Nat) : Int32 := (pf_Y h cs N (T - (h 66 c).toNatClampNeg)).1 c
theorem pf_rip_kp {h h' : ix_H} {c : Nat} (k : px_kp h h') : pf_rip h' cs N T c = pf_rip h cs N T c := by
  unfold pf_rip
  rw [pf_Y_kp k, k.1 66 (by decide)]
theorem C_ripe {a : Int32} (hI : px_I h B N T cs L W I t) : px_CO 8 119 [.ref 0, .int a] h (fun v h1 => ∃ c, c < N ∧ a = nI c ∧ v = pf_rip h cs N T c ∧ px_kp h h1) (fun x h1 => x = 1 ∧ ¬ (0 ≤ a ∧ a < nI N) ∧ h1 = px_hX 1 h) := by
  have hI' := hI
  obtain ⟨⟨l1, l2, l3, l4, l5, l6, l7, l8, l9, l10, l11⟩, lw, -, nw, -⟩ := hI
  refine px_M (M := mt_119) (ops := mo_119) tb_119 rfl rfl rfl rfl rfl ?_
  refine w_al (j := 1) rfl rfl rfl ?_
  refine w_il (j := 2) rfl rfl rfl ?_
  refine w_chk (j := 3) rfl rfl rfl rfl (by first | assumption | rfl) rfl rfl (sp_150) rfl (fun c1 => ?_) (fun c1 => ?_)
  · rw [l4] at c1
    exact Or.inr ⟨_, _, rfl, rfl, c1, rfl⟩
  rw [l4] at c1
  obtain ⟨c, hc, rfl⟩ := px_bnd (by omega) c1
  refine w_al (j := 4) rfl rfl rfl ?_
  first | refine w_gr (j := 5) rfl rfl (by first | assumption | rfl) (by first | assumption | rfl) rfl ?_ | refine w_gi (j := 5) rfl rfl (by first | assumption | rfl) (by first | assumption | rfl) rfl rfl ?_
  refine w_al (j := 6) rfl rfl rfl ?_
  first | refine w_gr (j := 7) rfl rfl (by first | assumption | rfl) (by first | assumption | rfl) rfl ?_ | refine w_gi (j := 7) rfl rfl (by first | assumption | rfl) (by first | assumption | rfl) rfl rfl ?_
  refine w_cvPU (j := 8) rfl rfl rfl rfl (by first | assumption | rfl) rfl rfl (px_tr0 (cs := cs) (N := N)) rfl ?_
  rintro h1 R
  obtain ⟨y, hy, -, ag⟩ := nw.2.2.2.2.2.2.2
  obtain ⟨g, hg, eg⟩ := ag c (by omega)
  have eg0 : h 66 c = nI g := eg
  have eg1 : h1 66 c = nI g := by rw [R.1 66 (by decide)]; exact eg
  have er : pf_rip h cs N T c = (pf_Y h cs N (T - g)).1 c := by unfold pf_rip; rw [eg0, nI_clamp (by omega)]
  refine w_al (j := 9) rfl rfl rfl ?_
  first | refine w_gr (j := 10) rfl rfl (by first | assumption | rfl) (by first | assumption | rfl) rfl ?_ | refine w_gi (j := 10) rfl rfl (by first | assumption | rfl) (by first | assumption | rfl) rfl rfl ?_
  first | refine w_gr (j := 11) rfl rfl (by first | assumption | rfl) (by first | assumption | rfl) rfl ?_ | refine w_gi (j := 11) rfl rfl (by first | assumption | rfl) (by first | assumption | rfl) rfl rfl ?_
  refine w_il (j := 12) rfl rfl rfl ?_
  refine w_ial (j := 13) rfl rfl (by first | assumption | rfl) rfl (by omega) rfl eg1 ?_
  refine w_is (j := 14) rfl rfl rfl ?_
  refine px_forI (fun n ls h2 => ls = [.ref 0, .int (nI c), .int (nI (g + n))] ∧ px_tr h h2 cs N n) (T - g) ?_ ?_ ⟨rfl, R⟩
  · rintro n _ h2 hn ⟨rfl, R2⟩ H
    have e8 := px_f3 R2.1 l7 (by decide)
    refine w_il (j := 15) rfl rfl rfl ?_
    refine w_al (j := 16) rfl rfl rfl ?_
    first | refine w_gr (j := 17) rfl rfl (by first | assumption | rfl) (by first | assumption | rfl) rfl ?_ | refine w_gi (j := 17) rfl rfl (by first | assumption | rfl) (by first | assumption | rfl) rfl rfl ?_
    first | refine w_gr (j := 18) rfl rfl (by first | assumption | rfl) (by first | assumption | rfl) rfl ?_ | refine w_gi (j := 18) rfl rfl (by first | assumption | rfl) (by first | assumption | rfl) rfl e8 ?_
    refine w_geN (j := 19) rfl rfl (by omega) (by omega) (fun c => absurd c (fun c => by omega)) (fun _ => ?_)
    refine w_al (j := 20) rfl rfl rfl ?_
    first | refine w_gr (j := 21) rfl rfl (by first | assumption | rfl) (by first | assumption | rfl) rfl ?_ | refine w_gi (j := 21) rfl rfl (by first | assumption | rfl) (by first | assumption | rfl) rfl rfl ?_
    refine w_al (j := 22) rfl rfl rfl ?_
    first | refine w_gr (j := 23) rfl rfl (by first | assumption | rfl) (by first | assumption | rfl) rfl ?_ | refine w_gi (j := 23) rfl rfl (by first | assumption | rfl) (by first | assumption | rfl) rfl rfl ?_
    refine w_cvPU (j := 24) rfl rfl rfl rfl (by first | assumption | rfl) rfl rfl (px_trP hI' R2) rfl ?_
    rintro h3 R3
    first | refine w_incN (j := 25) rfl rfl rfl ?_ | refine w_inc (j := 25) rfl rfl rfl rfl ?_
    refine w_go rfl ?_
    exact H _ _ ⟨rfl, R3⟩
  · rintro _ h2 ⟨rfl, R2⟩
    have e8 := px_f3 R2.1 l7 (by decide)
    refine w_il (j := 15) rfl rfl rfl ?_
    refine w_al (j := 16) rfl rfl rfl ?_
    first | refine w_gr (j := 17) rfl rfl (by first | assumption | rfl) (by first | assumption | rfl) rfl ?_ | refine w_gi (j := 17) rfl rfl (by first | assumption | rfl) (by first | assumption | rfl) rfl rfl ?_
    first | refine w_gr (j := 18) rfl rfl (by first | assumption | rfl) (by first | assumption | rfl) rfl ?_ | refine w_gi (j := 18) rfl rfl (by first | assumption | rfl) (by first | assumption | rfl) rfl e8 ?_
    refine w_geN (j := 19) rfl rfl (by omega) (by omega) (fun _ => ?_) (fun c => absurd c (fun c => by omega))
    refine w_al (j := 27) rfl rfl rfl ?_
    first | refine w_gr (j := 28) rfl rfl (by first | assumption | rfl) (by first | assumption | rfl) rfl ?_ | refine w_gi (j := 28) rfl rfl (by first | assumption | rfl) (by first | assumption | rfl) rfl rfl ?_
    first | refine w_gr (j := 29) rfl rfl (by first | assumption | rfl) (by first | assumption | rfl) rfl ?_ | refine w_gi (j := 29) rfl rfl (by first | assumption | rfl) (by first | assumption | rfl) rfl rfl ?_
    refine w_il (j := 30) rfl rfl rfl ?_
    refine w_ial (j := 31) rfl rfl (by first | assumption | rfl) rfl (by omega) rfl rfl ?_
    refine w_ir rfl ?_
    exact Or.inl ⟨_, _, rfl, c, hc, rfl, (R2.2.1 c (by omega)).trans er.symm, px_trk R2⟩
theorem pf_Y_p {n : Nat} : ∀ n, (pf_Y h cs N n).2.2.1 = h 67
  | 0 => rfl
  | n + 1 => pf_Y_p (n := n) n
theorem pf_Y_out {c : Nat} (ho : h 67 c = -2) : ∀ n, (pf_Y h cs N n).1 c = h 65 c
  | 0 => rfl
  | n + 1 => by
    have ih := pf_Y_out ho n
    have ep := pf_Y_p (h := h) (cs := cs) (N := N) (n := 0) n
    show (if c < N then _ else _) = _
    by_cases hc : c < N
    · rw [if_pos hc]
      have : pf_ls cs N (h 4) (h 6) (pf_Y h cs N n).1 (pf_Y h cs N n).2.1 (pf_Y h cs N n).2.2.1 (pf_bt (pf_Y h cs N n).2.2.2.1) (pf_Y h cs N n).2.2.2.2 c = nI 0 := by
        unfold pf_ls
        rw [ep, if_pos ho]
      show (pf_Y h cs N n).1 c - pf_ls cs N (h 4) (h 6) (pf_Y h cs N n).1 (pf_Y h cs N n).2.1 (pf_Y h cs N n).2.2.1 (pf_bt (pf_Y h cs N n).2.2.2.1) (pf_Y h cs N n).2.2.2.2 c = _
      rw [this, ih]
      exact Int32.sub_zero _
    · rw [if_neg hc]; exact ih
theorem pf_Y_age {c g : Nat} (hc : c < N) (hg : h 66 c = nI g) (ho : h 67 c ≠ -2) : ∀ n, (pf_Y h cs N n).2.1 c = nI (g + n)
  | 0 => hg
  | n + 1 => by
    have ih := pf_Y_age hc hg ho n
    have ep := pf_Y_p (h := h) (cs := cs) (N := N) (n := 0) n
    show (if c < N ∧ (pf_Y h cs N n).2.2.1 c ≠ -2 then _ else _) = _
    rw [if_pos ⟨hc, by rw [ep]; exact ho⟩]
    show (pf_Y h cs N n).2.1 c + nI 1 = _
    rw [ih, px_nadd, Nat.add_assoc]
theorem M_ripe {c : Nat} (hI : px_I h B N T cs L W I t) (hc : c < N) : px_PI 9 221 [.ref 100, .int (nI c)] h (fun w h2 => w = pf_rip h cs N T c ∧ h2 100 0 = nI 0 ∧ px_kp h h2) := by
  refine px_M (M := mt_221) (ops := mo_221) tb_221 rfl rfl rfl rfl rfl ?_
  refine w_al (j := 1) rfl rfl rfl ?_
  refine w_ic (n := 0) (j := 2) rfl rfl ?_
  refine w_pf (j := 3) rfl rfl (by first | assumption | rfl) (by first | assumption | rfl) rfl ?_
  obtain ⟨I1, k1, t0⟩ := px_thr (v := nI 0) hI
  generalize ix_up h 100 0 (nI 0) = h1 at I1 k1 t0 ⊢
  rw [← pf_rip_kp k1]
  have I1' := I1
  obtain ⟨⟨l1, l2, l3, l4, l5, l6, l7, l8, l9, l10, l11⟩, lw, -, nw, -⟩ := I1
  obtain ⟨y, hy, -, ag⟩ := nw.2.2.2.2.2.2.2
  obtain ⟨g, hg, eg⟩ := ag c (by omega)
  have eg0 : h1 66 c = nI g := eg
  have er : pf_rip h1 cs N T c = (pf_Y h1 cs N (T - g)).1 c := by unfold pf_rip; rw [eg0, nI_clamp (by omega)]
  rw [er]
  refine w_al (j := 4) rfl rfl rfl ?_
  refine w_al (j := 5) rfl rfl rfl ?_
  refine w_il (j := 6) rfl rfl rfl ?_
  refine w_cvI (j := 7) rfl rfl rfl rfl (by first | assumption | rfl) rfl rfl (sp_213 l5 l6) rfl ?_
  rw [px_ofB hc l6]
  refine w_neB (j := 8) rfl rfl (fun _ => ?_) (fun c => absurd c (by simp))
  refine w_ic (n := 0) (j := 11) rfl rfl ?_
  refine w_ic (n := 1) (j := 12) rfl rfl ?_
  refine w_ic (n := 0) (j := 13) rfl rfl ?_
  refine w_cvI (j := 14) rfl rfl rfl rfl (by first | assumption | rfl) rfl rfl (sp_154f t0) rfl ?_
  refine w_eqB (j := 15) rfl rfl (fun _ => ?_) (fun c => absurd c (by simp))
  refine w_al (j := 18) rfl rfl rfl ?_
  first | refine w_gr (j := 19) rfl rfl (by first | assumption | rfl) (by first | assumption | rfl) rfl ?_ | refine w_gi (j := 19) rfl rfl (by first | assumption | rfl) (by first | assumption | rfl) rfl rfl ?_
  refine w_al (j := 20) rfl rfl rfl ?_
  first | refine w_gr (j := 21) rfl rfl (by first | assumption | rfl) (by first | assumption | rfl) rfl ?_ | refine w_gi (j := 21) rfl rfl (by first | assumption | rfl) (by first | assumption | rfl) rfl rfl ?_
  refine w_csPU (j := 22) rfl rfl rfl rfl rfl (px_mt0 (cs := cs) (N := N) nw) rfl ?_
  rintro h2 R
  have fin : ∀ n h3, px_mt h1 h3 cs N n → (pf_Y h1 cs N n).1 c = (pf_Y h1 cs N (T - g)).1 c → px_R px_E 8 mo_221 [] 46 [.ref 100, .int (nI c)] [] h3 0 (fun r => ∃ v h', r = (.inl (some (.int v)), h', 0) ∧ v = (pf_Y h1 cs N (T - g)).1 c ∧ h' 100 0 = nI 0 ∧ px_kp h h') := by
    intro n h3 R3 e3
    refine w_al (j := 47) rfl rfl rfl ?_
    first | refine w_gr (j := 48) rfl rfl (by first | assumption | rfl) (by first | assumption | rfl) rfl ?_ | refine w_gi (j := 48) rfl rfl (by first | assumption | rfl) (by first | assumption | rfl) rfl rfl ?_
    refine w_bi (j := 49) (a := nI 8) rfl rfl (by decide) ?_
    refine w_il (j := 50) rfl rfl rfl ?_
    first | refine w_add0 (j := 51) rfl rfl ?_ | refine w_addN (j := 51) rfl rfl ?_ | refine w_add (j := 51) rfl rfl ?_
    refine w_ial (j := 52) rfl rfl (by first | assumption | rfl) rfl (by omega) rfl rfl ?_
    refine w_ir rfl ?_
    exact ⟨_, _, rfl, (R3.2.1 c (by omega)).trans e3, by rw [px_mt9 R3]; exact t0, px_mtk k1 R3⟩
  by_cases ho : h1 67 c = -2
  · have e0 : h2 578 c = -2 := by exact (R.2.2.2.1 c (by omega)).trans ho
    refine w_al (j := 23) rfl rfl rfl ?_
    first | refine w_gr (j := 24) rfl rfl (by first | assumption | rfl) (by first | assumption | rfl) rfl ?_ | refine w_gi (j := 24) rfl rfl (by first | assumption | rfl) (by first | assumption | rfl) rfl rfl ?_
    refine w_ic (n := 0) (j := 25) rfl rfl ?_
    refine w_il (j := 26) rfl rfl rfl ?_
    first | refine w_add0 (j := 27) rfl rfl ?_ | refine w_addN (j := 27) rfl rfl ?_ | refine w_add (j := 27) rfl rfl ?_
    refine w_ial (j := 28) rfl rfl (by first | assumption | rfl) rfl (by omega) rfl e0 ?_
    refine w_bi (j := 29) (a := (-2)) rfl rfl (by decide) ?_
    refine w_eq (j := 30) rfl rfl (fun _ => ?_) (fun c => absurd c (fun q => q rfl))
    exact fin 0 h2 R (by rw [pf_Y_out ho, pf_Y_out ho])
  · refine px_forI (fun n ls h3 => ls = [.ref 100, .int (nI c)] ∧ px_mt h1 h3 cs N n) (T - g) ?_ ?_ ⟨rfl, R⟩
    · rintro n _ h3 hn ⟨rfl, R3⟩ H
      have e0 : h3 578 c = h1 67 c := by exact (R3.2.2.2.1 c (by omega)).trans (by rw [pf_Y_p (n := 0)])
      have e1 : h3 578 (16 + c) = nI (g + n) := (R3.2.2.1 c (by omega)).trans (pf_Y_age hc eg0 ho n)
      have e2 := px_f3 R3.1 l8 (by decide)
      refine w_al (j := 23) rfl rfl rfl ?_
      first | refine w_gr (j := 24) rfl rfl (by first | assumption | rfl) (by first | assumption | rfl) rfl ?_ | refine w_gi (j := 24) rfl rfl (by first | assumption | rfl) (by first | assumption | rfl) rfl rfl ?_
      refine w_ic (n := 0) (j := 25) rfl rfl ?_
      refine w_il (j := 26) rfl rfl rfl ?_
      first | refine w_add0 (j := 27) rfl rfl ?_ | refine w_addN (j := 27) rfl rfl ?_ | refine w_add (j := 27) rfl rfl ?_
      refine w_ial (j := 28) rfl rfl (by first | assumption | rfl) rfl (by omega) rfl e0 ?_
      refine w_bi (j := 29) (a := (-2)) rfl rfl (by decide) ?_
      refine w_eq (j := 30) rfl rfl (fun c => absurd c (fun q => ho q)) (fun _ => ?_)
      refine w_al (j := 31) rfl rfl rfl ?_
      first | refine w_gr (j := 32) rfl rfl (by first | assumption | rfl) (by first | assumption | rfl) rfl ?_ | refine w_gi (j := 32) rfl rfl (by first | assumption | rfl) (by first | assumption | rfl) rfl rfl ?_
      refine w_bi (j := 33) (a := nI 16) rfl rfl (by decide) ?_
      refine w_il (j := 34) rfl rfl rfl ?_
      first | refine w_add0 (j := 35) rfl rfl ?_ | refine w_addN (j := 35) rfl rfl ?_ | refine w_add (j := 35) rfl rfl ?_
      refine w_ial (j := 36) rfl rfl (by first | assumption | rfl) rfl (by omega) rfl e1 ?_
      refine w_al (j := 37) rfl rfl rfl ?_
      first | refine w_gr (j := 38) rfl rfl (by first | assumption | rfl) (by first | assumption | rfl) rfl ?_ | refine w_gi (j := 38) rfl rfl (by first | assumption | rfl) (by first | assumption | rfl) rfl rfl ?_
      refine w_ic (n := 2) (j := 39) rfl rfl ?_
      refine w_ial (j := 40) rfl rfl (by first | assumption | rfl) rfl (by omega) rfl e2 ?_
      refine w_geN (j := 41) rfl rfl (by omega) (by omega) (fun c => absurd c (fun c => by omega)) (fun _ => ?_)
      refine w_al (j := 42) rfl rfl rfl ?_
      refine w_al (j := 43) rfl rfl rfl ?_
      first | refine w_gr (j := 44) rfl rfl (by first | assumption | rfl) (by first | assumption | rfl) rfl ?_ | refine w_gi (j := 44) rfl rfl (by first | assumption | rfl) (by first | assumption | rfl) rfl rfl ?_
      refine w_cvPU (j := 45) rfl rfl rfl rfl (by first | assumption | rfl) rfl rfl (px_mtP I1' R3) rfl ?_
      rintro h4 R4
      refine w_go rfl ?_
      exact H _ _ ⟨rfl, R4⟩
    · rintro _ h3 ⟨rfl, R3⟩
      have e0 : h3 578 c = h1 67 c := by exact (R3.2.2.2.1 c (by omega)).trans (by rw [pf_Y_p (n := 0)])
      have e1 : h3 578 (16 + c) = nI (g + (T - g)) := (R3.2.2.1 c (by omega)).trans (pf_Y_age hc eg0 ho _)
      have e2 := px_f3 R3.1 l8 (by decide)
      refine w_al (j := 23) rfl rfl rfl ?_
      first | refine w_gr (j := 24) rfl rfl (by first | assumption | rfl) (by first | assumption | rfl) rfl ?_ | refine w_gi (j := 24) rfl rfl (by first | assumption | rfl) (by first | assumption | rfl) rfl rfl ?_
      refine w_ic (n := 0) (j := 25) rfl rfl ?_
      refine w_il (j := 26) rfl rfl rfl ?_
      first | refine w_add0 (j := 27) rfl rfl ?_ | refine w_addN (j := 27) rfl rfl ?_ | refine w_add (j := 27) rfl rfl ?_
      refine w_ial (j := 28) rfl rfl (by first | assumption | rfl) rfl (by omega) rfl e0 ?_
      refine w_bi (j := 29) (a := (-2)) rfl rfl (by decide) ?_
      refine w_eq (j := 30) rfl rfl (fun c => absurd c (fun q => ho q)) (fun _ => ?_)
      refine w_al (j := 31) rfl rfl rfl ?_
      first | refine w_gr (j := 32) rfl rfl (by first | assumption | rfl) (by first | assumption | rfl) rfl ?_ | refine w_gi (j := 32) rfl rfl (by first | assumption | rfl) (by first | assumption | rfl) rfl rfl ?_
      refine w_bi (j := 33) (a := nI 16) rfl rfl (by decide) ?_
      refine w_il (j := 34) rfl rfl rfl ?_
      first | refine w_add0 (j := 35) rfl rfl ?_ | refine w_addN (j := 35) rfl rfl ?_ | refine w_add (j := 35) rfl rfl ?_
      refine w_ial (j := 36) rfl rfl (by first | assumption | rfl) rfl (by omega) rfl e1 ?_
      refine w_al (j := 37) rfl rfl rfl ?_
      first | refine w_gr (j := 38) rfl rfl (by first | assumption | rfl) (by first | assumption | rfl) rfl ?_ | refine w_gi (j := 38) rfl rfl (by first | assumption | rfl) (by first | assumption | rfl) rfl rfl ?_
      refine w_ic (n := 2) (j := 39) rfl rfl ?_
      refine w_ial (j := 40) rfl rfl (by first | assumption | rfl) rfl (by omega) rfl e2 ?_
      refine w_geN (j := 41) rfl rfl (by omega) (by omega) (fun _ => ?_) (fun c => absurd c (fun c => by omega))
      exact fin _ h3 R3 rfl
theorem MX_ripe {a : Int32} (l5 : h 104 1 = nI N) (l6 : N ≤ 8) (ok : ¬ (0 ≤ a ∧ a < nI N)) : px_PI 3 221 [.ref 100, .int a] h (fun v h2 => h2 100 0 = nI 1 ∧ px_kp (ix_up h 102 0 (h 102 0 + nI 1)) h2) := by
  refine px_M (M := mt_221) (ops := mo_221) tb_221 rfl rfl rfl rfl rfl ?_
  refine w_al (j := 1) rfl rfl rfl ?_
  refine w_ic (n := 0) (j := 2) rfl rfl ?_
  refine w_pf (j := 3) rfl rfl (by first | assumption | rfl) (by first | assumption | rfl) rfl ?_
  refine w_al (j := 4) rfl rfl rfl ?_
  refine w_al (j := 5) rfl rfl rfl ?_
  refine w_il (j := 6) rfl rfl rfl ?_
  refine w_cvI (j := 7) rfl rfl rfl rfl (by first | assumption | rfl) rfl rfl (sp_213 (N := N) l5 l6) rfl ?_
  rw [decide_eq_false ok]
  refine w_neB (j := 8) rfl rfl (fun c => absurd c (by simp)) (fun _ => ?_)
  refine w_ic (n := 1) (j := 9) rfl rfl ?_
  refine w_go rfl ?_
  refine w_ic (n := 1) (j := 12) rfl rfl ?_
  refine w_ic (n := 0) (j := 13) rfl rfl ?_
  refine w_cvI (j := 14) rfl rfl rfl rfl (by first | assumption | rfl) rfl rfl (sp_154t (p := 0) (w := 1) rfl (by decide) (by decide) (by decide)) rfl ?_
  refine w_eqB (j := 15) rfl rfl (fun c => absurd c (by simp)) (fun _ => ?_)
  refine w_ic (n := 0) (j := 16) rfl rfl ?_
  refine w_ir rfl ?_
  exact ⟨_, _, rfl, rfl, px_kpX (by decide)⟩
end OPS
