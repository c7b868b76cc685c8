def gx_run (P : Nat → Bool) (tx : Nat → Nat) (n : Nat) : Nat → Nat → Nat
  | 0, p => p
  | f + 1, p => if p < n ∧ P (tx p) = true then gx_run P tx n f (p + 1) else p
def gx_end (P : Nat → Bool) (tx : Nat → Nat) (n p : Nat) : Nat := gx_run P tx n (n - p) p
theorem gx_run_spec (P : Nat → Bool) (tx : Nat → Nat) (n : Nat) : ∀ f p, p + f = n → p ≤ gx_run P tx n f p ∧ gx_run P tx n f p ≤ n ∧ (∀ i, p ≤ i → i < gx_run P tx n f p → P (tx i) = true) ∧ (gx_run P tx n f p = n ∨ P (tx (gx_run P tx n f p)) = false)
  | 0, p, hp => ⟨Nat.le_refl _, by rw [gx_run]; omega, fun i h1 h2 => by rw [gx_run] at h2; omega, Or.inl hp⟩
  | f + 1, p, hp => by
    rw [gx_run]
    by_cases hc : p < n ∧ P (tx p) = true
    · rw [if_pos hc]
      obtain ⟨a, b, c, d⟩ := gx_run_spec P tx n f (p + 1) (by omega)
      refine ⟨by omega, b, fun i h1 h2 => ?_, d⟩
      by_cases e : i = p
      · rw [e]; exact hc.2
      · exact c i (by omega) h2
    · rw [if_neg hc]
      refine ⟨Nat.le_refl _, by omega, fun i h1 h2 => by omega, Or.inr ?_⟩
      cases hP : P (tx p) with
      | false => rfl
      | true => exact absurd ⟨by omega, hP⟩ hc
theorem gx_end_spec {P : Nat → Bool} {tx : Nat → Nat} {n p : Nat} (hp : p ≤ n) : p ≤ gx_end P tx n p ∧ gx_end P tx n p ≤ n ∧ (∀ i, p ≤ i → i < gx_end P tx n p → P (tx i) = true) ∧ (gx_end P tx n p = n ∨ P (tx (gx_end P tx n p)) = false) := gx_run_spec P tx n (n - p) p (by omega)
theorem gx_end_fix {P : Nat → Bool} {tx : Nat → Nat} {n e : Nat} (hp : e ≤ n) (h : e = n ∨ P (tx e) = false) : gx_end P tx n e = e := by
  obtain ⟨a, b, c, d⟩ := gx_end_spec (P := P) (tx := tx) hp
  rcases Nat.lt_or_ge e (gx_end P tx n e) with z | z
  · have := c e (Nat.le_refl _) z
    rcases h with h | h
    · omega
    · rw [h] at this; cases this
  · omega
abbrev gx_bk (c : Nat) : Bool := decide (c = 32)
abbrev gx_dd (c : Nat) : Bool := decide (48 ≤ c ∧ c ≤ 57)
abbrev gx_ll (c : Nat) : Bool := decide (97 ≤ c ∧ c ≤ 122)
def gx_sk (tx : Nat → Nat) (n p : Nat) : Nat := gx_end gx_bk tx n p
def gx_dg (tx : Nat → Nat) (n p : Nat) : Nat := gx_end gx_dd tx n p
def gx_lt (tx : Nat → Nat) (n p : Nat) : Nat := gx_end gx_ll tx n p
theorem gx_sk_le {tx : Nat → Nat} {n p : Nat} (hp : p ≤ n) : p ≤ gx_sk tx n p ∧ gx_sk tx n p ≤ n := ⟨(gx_end_spec hp).1, (gx_end_spec hp).2.1⟩
theorem gx_sk_sk {tx : Nat → Nat} {n p : Nat} (hp : p ≤ n) : gx_sk tx n (gx_sk tx n p) = gx_sk tx n p := gx_end_fix (gx_end_spec hp).2.1 (gx_end_spec hp).2.2.2
theorem gx_sk_at {tx : Nat → Nat} {n s : Nat} (hs : s < n) (h : tx s ≠ 32) : gx_sk tx n s = s := gx_end_fix (by omega) (Or.inr (decide_eq_false h))
theorem gx_dg_le {tx : Nat → Nat} {n p : Nat} (hp : p ≤ n) : p ≤ gx_dg tx n p ∧ gx_dg tx n p ≤ n := ⟨(gx_end_spec hp).1, (gx_end_spec hp).2.1⟩
theorem gx_lt_le {tx : Nat → Nat} {n p : Nat} (hp : p ≤ n) : p ≤ gx_lt tx n p ∧ gx_lt tx n p ≤ n := ⟨(gx_end_spec hp).1, (gx_end_spec hp).2.1⟩
def gx_val (tx : Nat → Nat) (s : Nat) : Nat → Nat
  | 0 => 0
  | c + 1 => 10 * gx_val tx s c + (tx (s + c) - 48)
-- the kind of a number's fault (0: none)
def gx_nk (tx : Nat → Nat) (n lo H p : Nat) : Nat := if gx_dg tx n (gx_sk tx n p) = gx_sk tx n p then 1 else if lo ≤ gx_val tx (gx_sk tx n p) (gx_dg tx n (gx_sk tx n p) - gx_sk tx n p) ∧ gx_val tx (gx_sk tx n p) (gx_dg tx n (gx_sk tx n p) - gx_sk tx n p) < H then 0 else 2
def gx_nv (tx : Nat → Nat) (n p : Nat) : Nat := gx_val tx (gx_sk tx n p) (gx_dg tx n (gx_sk tx n p) - gx_sk tx n p)
def gx_ne (tx : Nat → Nat) (n p : Nat) : Nat := gx_dg tx n (gx_sk tx n p)
theorem sb_32 : ∀ q, q < 256 → (pf_sb q = nI 32 ↔ q = 32) := by decide +kernel
theorem sb_255 : ∀ q, q < 256 → pf_sb q &&& nI 255 = nI q := by decide +kernel
theorem sb_dd : ∀ q, q < 256 → (nI 48 ≤ pf_sb q ∧ pf_sb q ≤ nI 57 ↔ gx_dd q = true) := by decide +kernel
theorem sb_ll : ∀ q, q < 256 → (nI 97 ≤ pf_sb q ∧ pf_sb q ≤ nI 122 ↔ gx_ll q = true) := by decide +kernel
theorem sb_lo : ∀ q, q < 128 → pf_sb q = nI q := by decide +kernel
theorem sb_ch : ∀ q, q < 256 → ∀ c, c < 128 → (pf_sb q = nI c ↔ q = c) := by decide +kernel
def px_tx (h : ix_H) (tx : Nat → Nat) (n : Nat) : Prop := n ≤ 600 ∧ ∀ i, i < n → tx i < 256 ∧ h 1 i = pf_sb (tx i) ∧ h 101 i = nI (tx i)
theorem px_tx.of {h h' : ix_H} {tx : Nat → Nat} {n : Nat} (e1 : h' 1 = h 1) (e2 : h' 101 = h 101) (x : px_tx h tx n) : px_tx h' tx n := by
  unfold px_tx at x ⊢
  rw [e1, e2]
  exact x
def px_rd (h : ix_H) (tx : Nat → Nat) (n p pc o k : Nat) (pl : Int32) : Prop := px_tx h tx n ∧ h 2 1 = nI n ∧ h 2 2 = nI p ∧ p ≤ n ∧ h 2 3 = nI pc ∧ pc ≤ p ∧ h 2 4 = nI o ∧ o ≤ 1000 ∧ h 2 5 = nI k ∧ k ≤ 3 ∧ h 2 6 = pl
theorem px_rd.fr {S : List Nat} {h h' : ix_H} {tx : Nat → Nat} {n p pc o k : Nat} {pl : Int32} (f : px_fr S h h') (r : px_rd h tx n p pc o k pl) (h1 : 1 ∉ S) (h2 : 2 ∉ S) (h3 : 101 ∉ S) : px_rd h' tx n p pc o k pl := by
  unfold px_rd at r ⊢
  rw [f 2 h2]
  exact ⟨r.1.of (f 1 h1) (f 101 h3), r.2⟩
def gx_fk (k kd : Nat) : Nat := if k = 0 then kd else k
def gx_fp (k : Nat) (pl : Int32) (pc : Nat) : Int32 := if k = 0 then nI pc else pl
section RD
variable {h : ix_H} {tx : Nat → Nat} {n p pc o k : Nat} {pl : Int32}
theorem px_up2 {j : Nat} {v : Int32} (r : px_rd h tx n p pc o k pl) : px_tx (ix_up h 2 j v) tx n := r.1.of (ix_up_ne (by decide)) (ix_up_ne (by decide))
theorem sp_59 {kd : Nat} (hk : kd ≤ 3) (r : px_rd h tx n p pc o k pl) : px_PU 1 59 [.ref 2, .int (nI kd)] h (fun h1 => px_fr [2] h h1 ∧ px_rd h1 tx n p pc o (gx_fk k kd) (gx_fp k pl pc)) := by
  obtain ⟨t, r1, r2, r3, r4, r5, r6, r7, r8, r9, r10⟩ := r
  refine px_M (M := mt_59) (ops := mo_59) tb_59 rfl rfl rfl rfl rfl ?_
  refine w_al (j := 1) rfl rfl rfl ?_
  first | refine w_gr (j := 2) rfl rfl (by first | assumption | rfl) (by first | assumption | rfl) rfl ?_ | refine w_gi (j := 2) rfl rfl (by first | assumption | rfl) (by first | assumption | rfl) rfl r8 ?_
  refine w_neM (j := 3) rfl rfl (by omega) (fun c => ?_) (fun c => ?_)
  ·
    refine w_rt rfl ?_
    unfold gx_fk gx_fp
    rw [if_neg c, if_neg c]
    exact ⟨_, rfl, px_fr.rf, t, r1, r2, r3, r4, r5, r6, r7, r8, r9, r10⟩
  ·
    have r4' : ix_up h 2 5 (nI kd) 2 3 = nI pc := by rw [px_up_nk (by decide)]; exact r4
    refine w_al (j := 4) rfl rfl rfl ?_
    refine w_il (j := 5) rfl rfl rfl ?_
    refine w_pf (j := 6) rfl rfl (by first | assumption | rfl) (by first | assumption | rfl) rfl ?_
    refine w_al (j := 7) rfl rfl rfl ?_
    refine w_al (j := 8) rfl rfl rfl ?_
    first | refine w_gr (j := 9) rfl rfl (by first | assumption | rfl) (by first | assumption | rfl) rfl ?_ | refine w_gi (j := 9) rfl rfl (by first | assumption | rfl) (by first | assumption | rfl) rfl r4' ?_
    refine w_pf (j := 10) rfl rfl (by first | assumption | rfl) (by first | assumption | rfl) rfl ?_
    refine w_rt rfl ?_
    unfold gx_fk gx_fp
    rw [if_pos c, if_pos c]
    refine ⟨_, rfl, (px_fr.rf.up (by decide)).up (by decide), (t.of (h' := ix_up h 2 5 (nI kd)) (ix_up_ne (by decide)) (ix_up_ne (by decide))).of (ix_up_ne (by decide)) (ix_up_ne (by decide)), ?_, ?_, r3, ?_, r5, ?_, r7, ?_, hk, px_up_at⟩
    · rw [px_up_nk (by decide), px_up_nk (by decide)]; exact r1
    · rw [px_up_nk (by decide), px_up_nk (by decide)]; exact r2
    · rw [px_up_nk (by decide)]; exact r4'
    · rw [px_up_nk (by decide), px_up_nk (by decide)]; exact r6
    · rw [px_up_nk (by decide), px_up_at]
theorem sp_56 (r : px_rd h tx n p pc o k pl) : px_V 1 56 [.ref 2] h (some (.int (px_b (decide (k ≠ 0))))) h := by
  obtain ⟨t, r1, r2, r3, r4, r5, r6, r7, r8, r9, r10⟩ := r
  refine px_M (M := mt_56) (ops := mo_56) tb_56 rfl rfl rfl rfl rfl ?_
  refine w_al (j := 1) rfl rfl rfl ?_
  first | refine w_gr (j := 2) rfl rfl (by first | assumption | rfl) (by first | assumption | rfl) rfl ?_ | refine w_gi (j := 2) rfl rfl (by first | assumption | rfl) (by first | assumption | rfl) rfl r8 ?_
  refine w_eqM (j := 3) rfl rfl (by omega) (fun c => ?_) (fun c => ?_)
  ·
    refine w_ic (n := 0) (j := 6) rfl rfl ?_
    refine w_irB rfl (by first | exact Or.inl rfl | exact Or.inr rfl | exact px_b01 _) ?_
    exact px_rb0 (fun z => z c)
  ·
    refine w_ic (n := 1) (j := 4) rfl rfl ?_
    refine w_go rfl ?_
    refine w_irB rfl (by first | exact Or.inl rfl | exact Or.inr rfl | exact px_b01 _) ?_
    exact px_rb1 c
theorem sp_60 (r : px_rd h tx n p pc o k pl) : px_PI 1 60 [.ref 2] h (fun v h1 => v = (if gx_sk tx n p < n then nI (tx (gx_sk tx n p)) else -1) ∧ px_fr [2] h h1 ∧ px_rd h1 tx n (gx_sk tx n p) (gx_sk tx n p) o k pl) := by
  obtain ⟨t, r1, r2, r3, r4, r5, r6, r7, r8, r9, r10⟩ := r
  obtain ⟨s1, s2, s3, s4⟩ := gx_end_spec (P := gx_bk) (tx := tx) r3
  have hs : gx_end gx_bk tx n p = gx_sk tx n p := rfl
  rw [hs] at s1 s2 s3 s4
  generalize gx_sk tx n p = s at s1 s2 s3 s4
  have n6 := t.1
  refine px_M (M := mt_60) (ops := mo_60) tb_60 rfl rfl rfl rfl rfl ?_
  refine px_forI (fun c ls h1 => ls = [.ref 2] ∧ px_fr [2] h h1 ∧ px_rd h1 tx n (p + c) pc o k pl) (s - p) ?_ ?_ ⟨rfl, px_fr.rf, t, r1, r2, r3, r4, r5, r6, r7, r8, r9, r10⟩
  · rintro c _ h1 hc ⟨rfl, fr, q0, q1, q2, q3, q4, q5, q6, q7, q8, q9, q10⟩ H
    obtain ⟨b1, b2, b3⟩ := q0.2 (p + c) (by omega)
    have b4 := of_decide_eq_true (s3 (p + c) (by omega) (by omega))
    rw [b4] at b2
    refine w_al (j := 1) rfl rfl rfl ?_
    first | refine w_gr (j := 2) rfl rfl (by first | assumption | rfl) (by first | assumption | rfl) rfl ?_ | refine w_gi (j := 2) rfl rfl (by first | assumption | rfl) (by first | assumption | rfl) rfl q2 ?_
    refine w_al (j := 3) rfl rfl rfl ?_
    first | refine w_gr (j := 4) rfl rfl (by first | assumption | rfl) (by first | assumption | rfl) rfl ?_ | refine w_gi (j := 4) rfl rfl (by first | assumption | rfl) (by first | assumption | rfl) rfl q1 ?_
    refine w_geN (j := 5) rfl rfl (by omega) (by omega) (fun c => absurd c (fun c => by omega)) (fun _ => ?_)
    refine w_al (j := 6) rfl rfl rfl ?_
    first | refine w_gr (j := 7) rfl rfl (by first | assumption | rfl) (by first | assumption | rfl) rfl ?_ | refine w_gi (j := 7) rfl rfl (by first | assumption | rfl) (by first | assumption | rfl) rfl rfl ?_
    refine w_al (j := 8) rfl rfl rfl ?_
    first | refine w_gr (j := 9) rfl rfl (by first | assumption | rfl) (by first | assumption | rfl) rfl ?_ | refine w_gi (j := 9) rfl rfl (by first | assumption | rfl) (by first | assumption | rfl) rfl q2 ?_
    refine w_bal (j := 10) rfl rfl (by first | assumption | rfl) rfl (by omega) rfl b2 ?_
    refine w_bi (j := 11) (a := nI 32) rfl rfl (by decide) ?_
    refine w_ne (j := 12) rfl rfl (fun c => absurd c (fun z => z (by decide))) (fun _ => ?_)
    refine w_al (j := 13) rfl rfl rfl ?_
    first | refine w_dupr (j := 14) rfl rfl ?_ | refine w_dupi (j := 14) rfl rfl ?_
    first | refine w_gr (j := 15) rfl rfl (by first | assumption | rfl) (by first | assumption | rfl) rfl ?_ | refine w_gi (j := 15) rfl rfl (by first | assumption | rfl) (by first | assumption | rfl) rfl q2 ?_
    refine w_ic (n := 1) (j := 16) rfl rfl ?_
    first | refine w_add0 (j := 17) rfl rfl ?_ | refine w_addN (j := 17) rfl rfl ?_ | refine w_add (j := 17) rfl rfl ?_
    refine w_pf (j := 18) rfl rfl (by first | assumption | rfl) (by first | assumption | rfl) rfl ?_
    refine w_go rfl ?_
    refine H _ _ ⟨rfl, fr.up (by decide), q0.of (ix_up_ne (by decide)) (ix_up_ne (by decide)), ?_, px_up_at, by omega, ?_, by omega, ?_, q7, ?_, q9, ?_⟩
    · rw [px_up_nk (by decide)]; exact q1
    · rw [px_up_nk (by decide)]; exact q4
    · rw [px_up_nk (by decide)]; exact q6
    · rw [px_up_nk (by decide)]; exact q8
    · rw [px_up_nk (by decide)]; exact q10
  · rintro _ h1 ⟨rfl, fr, q0, q1, q2, q3, q4, q5, q6, q7, q8, q9, q10⟩
    rw [show p + (s - p) = s by omega] at q2
    have R2 : px_rd (ix_up h1 2 3 (nI s)) tx n s s o k pl := by
      refine ⟨q0.of (ix_up_ne (by decide)) (ix_up_ne (by decide)), ?_, ?_, s2, px_up_at, Nat.le_refl _, ?_, q7, ?_, q9, ?_⟩
      · rw [px_up_nk (by decide)]; exact q1
      · rw [px_up_nk (by decide)]; exact q2
      · rw [px_up_nk (by decide)]; exact q6
      · rw [px_up_nk (by decide)]; exact q8
      · rw [px_up_nk (by decide)]; exact q10
    have tail : px_R px_E 0 mo_60 [] 19 [.ref 2] [] h1 0 (fun r => ∃ v h', r = (.inl (some (.int v)), h', 0) ∧ v = (if s < n then nI (tx s) else -1) ∧ px_fr [2] h h' ∧ px_rd h' tx n s s o k pl) := by
      refine w_al (j := 20) rfl rfl rfl ?_
      refine w_al (j := 21) rfl rfl rfl ?_
      first | refine w_gr (j := 22) rfl rfl (by first | assumption | rfl) (by first | assumption | rfl) rfl ?_ | refine w_gi (j := 22) rfl rfl (by first | assumption | rfl) (by first | assumption | rfl) rfl q2 ?_
      refine w_pf (j := 23) rfl rfl (by first | assumption | rfl) (by first | assumption | rfl) rfl ?_
      have z1 := R2.2.1
      have z2 := R2.2.2.1
      refine w_al (j := 24) rfl rfl rfl ?_
      first | refine w_gr (j := 25) rfl rfl (by first | assumption | rfl) (by first | assumption | rfl) rfl ?_ | refine w_gi (j := 25) rfl rfl (by first | assumption | rfl) (by first | assumption | rfl) rfl z2 ?_
      refine w_al (j := 26) rfl rfl rfl ?_
      first | refine w_gr (j := 27) rfl rfl (by first | assumption | rfl) (by first | assumption | rfl) rfl ?_ | refine w_gi (j := 27) rfl rfl (by first | assumption | rfl) (by first | assumption | rfl) rfl z1 ?_
      refine w_geN (j := 28) rfl rfl (by omega) (by omega) (fun d => ?_) (fun d => ?_)
      ·
        refine w_im (j := 37) rfl rfl ?_
        refine w_ir rfl ?_
        exact ⟨_, _, rfl, by rw [if_neg (by omega)], fr.up (by decide), R2⟩
      ·
        obtain ⟨b1, b2, b3⟩ := R2.1.2 s d
        refine w_al (j := 29) rfl rfl rfl ?_
        first | refine w_gr (j := 30) rfl rfl (by first | assumption | rfl) (by first | assumption | rfl) rfl ?_ | refine w_gi (j := 30) rfl rfl (by first | assumption | rfl) (by first | assumption | rfl) rfl rfl ?_
        refine w_al (j := 31) rfl rfl rfl ?_
        first | refine w_gr (j := 32) rfl rfl (by first | assumption | rfl) (by first | assumption | rfl) rfl ?_ | refine w_gi (j := 32) rfl rfl (by first | assumption | rfl) (by first | assumption | rfl) rfl z2 ?_
        refine w_bal (j := 33) rfl rfl (by first | assumption | rfl) rfl (by omega) rfl b2 ?_
        refine w_si (j := 34) (a := nI 255) rfl rfl (by decide) ?_
        refine w_and (j := 35) rfl rfl ?_
        refine w_go rfl ?_
        refine w_ir rfl ?_
        exact ⟨_, _, rfl, by rw [sb_255 _ b1, if_pos d], fr.up (by decide), R2⟩
    refine w_al (j := 1) rfl rfl rfl ?_
    first | refine w_gr (j := 2) rfl rfl (by first | assumption | rfl) (by first | assumption | rfl) rfl ?_ | refine w_gi (j := 2) rfl rfl (by first | assumption | rfl) (by first | assumption | rfl) rfl q2 ?_
    refine w_al (j := 3) rfl rfl rfl ?_
    first | refine w_gr (j := 4) rfl rfl (by first | assumption | rfl) (by first | assumption | rfl) rfl ?_ | refine w_gi (j := 4) rfl rfl (by first | assumption | rfl) (by first | assumption | rfl) rfl q1 ?_
    refine w_geN (j := 5) rfl rfl (by omega) (by omega) (fun d => ?_) (fun d => ?_)
    · exact tail
    obtain ⟨b1, b2, b3⟩ := q0.2 s d
    have b4 : tx s ≠ 32 := by
      rcases s4 with z | z
      · omega
      · exact of_decide_eq_false z
    refine w_al (j := 6) rfl rfl rfl ?_
    first | refine w_gr (j := 7) rfl rfl (by first | assumption | rfl) (by first | assumption | rfl) rfl ?_ | refine w_gi (j := 7) rfl rfl (by first | assumption | rfl) (by first | assumption | rfl) rfl rfl ?_
    refine w_al (j := 8) rfl rfl rfl ?_
    first | refine w_gr (j := 9) rfl rfl (by first | assumption | rfl) (by first | assumption | rfl) rfl ?_ | refine w_gi (j := 9) rfl rfl (by first | assumption | rfl) (by first | assumption | rfl) rfl q2 ?_
    refine w_bal (j := 10) rfl rfl (by first | assumption | rfl) rfl (by omega) rfl b2 ?_
    refine w_bi (j := 11) (a := nI 32) rfl rfl (by decide) ?_
    refine w_ne (j := 12) rfl rfl (fun _ => ?_) (fun c => absurd c (fun z => b4 ((sb_32 _ b1).mp z)))
    exact tail
end RD
