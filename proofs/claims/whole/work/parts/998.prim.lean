abbrev pw_X : Type := px_S × Int32
def pw_cR (X : pw_X) (h : ix_H) : Prop := pf_cR X.1 h 64 ∧ h 64 5 = X.2
def pw_mR (X : pw_X) (m : Nat → Int32) : Prop := pf_mR X.1 m ∧ m 30 = X.2
def pw_k0 (N : Nat) (hd : Nat → Int32) (c b : Nat) (X : pw_X) : Bool × pw_X := if X.1.2.2.1 c = -2 ∨ X.1.2.2.1 c = nI b ∨ hd b ≤ nI (pf_ct X.1.2.2.1 (nI b) N) then (false, X) else (true, ((X.1.1, X.1.2.1, upd X.1.2.2.1 c (nI b), X.1.2.2.2), X.2))
def pw_k3 (c : Nat) (X : pw_X) : Bool × pw_X := if 0 ≤ X.1.2.2.1 c then (true, ((X.1.1, X.1.2.1, upd X.1.2.2.1 c (-1), X.1.2.2.2), X.2)) else (false, X)
def pw_k4 (c a : Nat) (X : pw_X) : Bool × pw_X := if X.1.2.2.1 c = -2 ∨ nI 99 ≤ X.1.1 c then (false, X) else (true, ((upd X.1.1 c (if nI 99 < X.1.1 c + nI a then nI 99 else X.1.1 c + nI a), X.1.2), X.2))
def pw_k5 (T c : Nat) (X : pw_X) : Bool × pw_X := if X.1.2.2.1 c ≠ -2 ∧ nI T ≤ X.1.2.1 c then (true, ((X.1.1, X.1.2.1, upd X.1.2.2.1 c (-2), X.1.2.2.2), X.2)) else (false, X)
def pw_k1 (b : Nat) (X : pw_X) : Bool × pw_X := if pf_bt X.1.2.2.2.1 b = nI 1 ∨ X.2 = 0 then (false, X) else (true, ((X.1.1, X.1.2.1, X.1.2.2.1, X.1.2.2.2.1 ||| pf_bit b, X.1.2.2.2.2), X.2 - nI 1))
def pw_k2 (b : Nat) (X : pw_X) : Bool × pw_X := if pf_bt X.1.2.2.2.1 b ≠ 0 then (true, ((X.1.1, X.1.2.1, X.1.2.2.1, X.1.2.2.2.1 &&& (pf_bit b ^^^ (-1)), X.1.2.2.2.2), X.2 + nI 1)) else (false, X)
section PW
variable {h : ix_H} {B N T : Nat} {X : pw_X}
theorem pw_cR.pl {c : Nat} {v : Int32} (R : pw_cR X h) : pw_cR ((X.1.1, X.1.2.1, upd X.1.2.2.1 c v, X.1.2.2.2), X.2) (ix_up h 67 c v) := by
  obtain ⟨⟨r1, r2, r3, r4, r5⟩, r6⟩ := R
  refine ⟨⟨fun d hd => ?_, fun d hd => ?_, fun d hd => ?_, ?_, ?_⟩, ?_⟩
  · rw [px_up_na (by decide)]; exact r1 d hd
  · rw [px_up_na (by decide)]; exact r2 d hd
  · show ix_up h 67 c v 67 d = upd X.1.2.2.1 c v d
    by_cases e : d = c
    · rw [e, px_up_at, pk_us]
    · rw [px_up_nk e, pk_un e]; exact r3 d hd
  · rw [px_up_na (by decide)]; exact r4
  · rw [px_up_na (by decide)]; exact r5
  · rw [px_up_na (by decide)]; exact r6
theorem sp_86 {c b : Nat} {hd : Nat → Int32} (hN : h 3 7 = nI N) (hN8 : N ≤ 8) (hB : h 3 6 = nI B) (hB6 : B ≤ 6) (hc : c < N) (hb : b < B) (hh : h 5 b = hd b) (R : pw_cR X h) : px_PI 3 86 [.ref 64, .int (nI c), .int (nI b)] h (fun v h1 => v = px_b (pw_k0 N hd c b X).1 ∧ px_fr [64, 65, 66, 67] h h1 ∧ pw_cR (pw_k0 N hd c b X).2 h1) := by
  have p3 : h 67 c = X.1.2.2.1 c := R.1.2.2.1 c (by omega)
  have ct : pf_ct (h 67) (nI b) N = pf_ct X.1.2.2.1 (nI b) N := pf_ct_congr (fun d hd => R.1.2.2.1 d (by omega))
  have c1 := sp_26 (h := h) (x := 3) (b := nI c) px_Ld3
  rw [hN, px_ofBd hc hN8] at c1
  have c2 := sp_25 (h := h) (x := 3) (b := nI b) px_Ld3
  rw [hB, px_ofBd hb (by omega)] at c2
  have no : (X.1.2.2.1 c = -2 ∨ X.1.2.2.1 c = nI b ∨ hd b ≤ nI (pf_ct X.1.2.2.1 (nI b) N)) → ∃ v h1, ((.inl (some (.int (nI 0))), h, 0) : ix_R) = (.inl (some (.int v)), h1, 0) ∧ v = px_b (pw_k0 N hd c b X).1 ∧ px_fr [64, 65, 66, 67] h h1 ∧ pw_cR (pw_k0 N hd c b X).2 h1 := fun z => by
    unfold pw_k0
    rw [if_pos z]
    exact ⟨_, _, rfl, rfl, px_fr.rf, R⟩
  refine px_M (M := mt_86) (ops := mo_86) tb_86 rfl rfl rfl rfl rfl ?_
  refine w_al (j := 1) rfl rfl rfl ?_
  first | refine w_gr (j := 2) rfl rfl (by first | assumption | rfl) (by first | assumption | rfl) rfl ?_ | refine w_gi (j := 2) rfl rfl (by first | assumption | rfl) (by first | assumption | rfl) rfl rfl ?_
  refine w_il (j := 3) rfl rfl rfl ?_
  refine w_cvI (j := 4) rfl rfl rfl rfl (by first | assumption | rfl) rfl rfl (c1) rfl ?_
  refine w_eqB (j := 5) rfl rfl (fun c => absurd c (by simp)) (fun _ => ?_)
  refine w_al (j := 6) rfl rfl rfl ?_
  first | refine w_gr (j := 7) rfl rfl (by first | assumption | rfl) (by first | assumption | rfl) rfl ?_ | refine w_gi (j := 7) rfl rfl (by first | assumption | rfl) (by first | assumption | rfl) rfl rfl ?_
  refine w_il (j := 8) rfl rfl rfl ?_
  refine w_cvI (j := 9) rfl rfl rfl rfl (by first | assumption | rfl) rfl rfl (c2) rfl ?_
  refine w_eqB (j := 10) rfl rfl (fun c => absurd c (by simp)) (fun _ => ?_)
  refine w_al (j := 11) rfl rfl rfl ?_
  first | refine w_gr (j := 12) rfl rfl (by first | assumption | rfl) (by first | assumption | rfl) rfl ?_ | refine w_gi (j := 12) rfl rfl (by first | assumption | rfl) (by first | assumption | rfl) rfl rfl ?_
  refine w_il (j := 13) rfl rfl rfl ?_
  refine w_ial (j := 14) rfl rfl (by first | assumption | rfl) rfl (by omega) rfl p3 ?_
  refine w_bi (j := 15) (a := (-2)) rfl rfl (by decide) ?_
  refine w_eq (j := 16) rfl rfl (fun d1 => ?_) (fun d1 => ?_)
  ·
    refine w_ic (n := 0) (j := 23) rfl rfl ?_
    refine w_irB rfl (by first | exact Or.inl rfl | exact Or.inr rfl | exact px_b01 _) ?_
    exact no (Or.inl d1)
  refine w_al (j := 17) rfl rfl rfl ?_
  first | refine w_gr (j := 18) rfl rfl (by first | assumption | rfl) (by first | assumption | rfl) rfl ?_ | refine w_gi (j := 18) rfl rfl (by first | assumption | rfl) (by first | assumption | rfl) rfl rfl ?_
  refine w_il (j := 19) rfl rfl rfl ?_
  refine w_ial (j := 20) rfl rfl (by first | assumption | rfl) rfl (by omega) rfl p3 ?_
  refine w_il (j := 21) rfl rfl rfl ?_
  refine w_ne (j := 22) rfl rfl (fun d2 => ?_) (fun d2 => ?_)
  rotate_left
  ·
    refine w_ic (n := 0) (j := 23) rfl rfl ?_
    refine w_irB rfl (by first | exact Or.inl rfl | exact Or.inr rfl | exact px_b01 _) ?_
    exact no (Or.inr (Or.inl d2))
  refine w_al (j := 25) rfl rfl rfl ?_
  refine w_il (j := 26) rfl rfl rfl ?_
  refine w_cvI (j := 27) rfl rfl rfl rfl (by first | assumption | rfl) rfl rfl (sp_77 px_St64 hN hN8) rfl ?_
  rw [show h (64 + 3) = h 67 from rfl]
  refine w_csI (j := 28) rfl rfl rfl rfl rfl (sp_259) rfl ?_
  rw [pf_bck hN8, ct]
  refine w_al (j := 29) rfl rfl rfl ?_
  first | refine w_gr (j := 30) rfl rfl (by first | assumption | rfl) (by first | assumption | rfl) rfl ?_ | refine w_gi (j := 30) rfl rfl (by first | assumption | rfl) (by first | assumption | rfl) rfl rfl ?_
  first | refine w_gr (j := 31) rfl rfl (by first | assumption | rfl) (by first | assumption | rfl) rfl ?_ | refine w_gi (j := 31) rfl rfl (by first | assumption | rfl) (by first | assumption | rfl) rfl rfl ?_
  refine w_il (j := 32) rfl rfl rfl ?_
  refine w_ial (j := 33) rfl rfl (by first | assumption | rfl) rfl (by omega) rfl hh ?_
  refine w_lt (j := 34) rfl rfl (fun d3 => ?_) (fun d3 => ?_)
  rotate_left
  ·
    refine w_ic (n := 0) (j := 35) rfl rfl ?_
    refine w_irB rfl (by first | exact Or.inl rfl | exact Or.inr rfl | exact px_b01 _) ?_
    exact no (Or.inr (Or.inr d3))
  refine w_al (j := 37) rfl rfl rfl ?_
  first | refine w_gr (j := 38) rfl rfl (by first | assumption | rfl) (by first | assumption | rfl) rfl ?_ | refine w_gi (j := 38) rfl rfl (by first | assumption | rfl) (by first | assumption | rfl) rfl rfl ?_
  refine w_il (j := 39) rfl rfl rfl ?_
  refine w_il (j := 40) rfl rfl rfl ?_
  refine w_ias (j := 41) rfl rfl (by first | assumption | rfl) rfl (by omega) rfl ?_
  refine w_ic (n := 1) (j := 42) rfl rfl ?_
  refine w_irB rfl (by first | exact Or.inl rfl | exact Or.inr rfl | exact px_b01 _) ?_
  unfold pw_k0
  rw [if_neg (fun z => by
    rcases z with z | z | z
    · exact d1 z
    · exact d2 z
    · exact px_not_lt.mpr z d3)]
  exact ⟨_, _, rfl, rfl, px_fr.rf.up (by decide), R.pl⟩
theorem pw_cR.ft {w fl : Int32} (R : pw_cR X h) : pw_cR ((X.1.1, X.1.2.1, X.1.2.2.1, w, X.1.2.2.2.2), fl) (ix_up (ix_up h 64 4 w) 64 5 fl) := by
  obtain ⟨⟨r1, r2, r3, r4, r5⟩, r6⟩ := R
  refine ⟨⟨fun d hd => ?_, fun d hd => ?_, fun d hd => ?_, ?_, ?_⟩, px_up_at⟩
  · rw [px_up_na (by decide), px_up_na (by decide)]; exact r1 d hd
  · rw [px_up_na (by decide), px_up_na (by decide)]; exact r2 d hd
  · rw [px_up_na (by decide), px_up_na (by decide)]; exact r3 d hd
  · rw [px_up_nk (by decide), px_up_at]
  · rw [px_up_nk (by decide), px_up_nk (by decide)]; exact r5
theorem sp_87 {b : Nat} (hB : h 3 6 = nI B) (hB6 : B ≤ 6) (hb : b < B) (R : pw_cR X h) : px_PI 3 87 [.ref 64, .int (nI b)] h (fun v h1 => v = px_b (pw_k1 b X).1 ∧ px_fr [64, 65, 66, 67] h h1 ∧ pw_cR (pw_k1 b X).2 h1) := by
  have q4 : h 64 4 = X.1.2.2.2.1 := R.1.2.2.2.1
  have q5 : h 64 5 = X.2 := R.2
  have c2 := sp_25 (h := h) (x := 3) (b := nI b) px_Ld3
  rw [hB, px_ofBd hb (by omega)] at c2
  have no : (pf_bt X.1.2.2.2.1 b = nI 1 ∨ X.2 = 0) → ∃ v h1, ((.inl (some (.int (nI 0))), h, 0) : ix_R) = (.inl (some (.int v)), h1, 0) ∧ v = px_b (pw_k1 b X).1 ∧ px_fr [64, 65, 66, 67] h h1 ∧ pw_cR (pw_k1 b X).2 h1 := fun z => by
    unfold pw_k1
    rw [if_pos z]
    exact ⟨_, _, rfl, rfl, px_fr.rf, R⟩
  refine px_M (M := mt_87) (ops := mo_87) tb_87 rfl rfl rfl rfl rfl ?_
  refine w_al (j := 1) rfl rfl rfl ?_
  first | refine w_gr (j := 2) rfl rfl (by first | assumption | rfl) (by first | assumption | rfl) rfl ?_ | refine w_gi (j := 2) rfl rfl (by first | assumption | rfl) (by first | assumption | rfl) rfl rfl ?_
  refine w_il (j := 3) rfl rfl rfl ?_
  refine w_cvI (j := 4) rfl rfl rfl rfl (by first | assumption | rfl) rfl rfl (c2) rfl ?_
  refine w_eqB (j := 5) rfl rfl (fun c => absurd c (by simp)) (fun _ => ?_)
  refine w_al (j := 6) rfl rfl rfl ?_
  refine w_il (j := 7) rfl rfl rfl ?_
  refine w_cvI (j := 8) rfl rfl rfl rfl (by first | assumption | rfl) rfl rfl (sp_84 px_St64) rfl ?_
  rw [q4]
  refine w_ic (n := 1) (j := 9) rfl rfl ?_
  refine w_eq (j := 10) rfl rfl (fun d1 => ?_) (fun d1 => ?_)
  ·
    refine w_ic (n := 0) (j := 14) rfl rfl ?_
    refine w_irB rfl (by first | exact Or.inl rfl | exact Or.inr rfl | exact px_b01 _) ?_
    exact no (Or.inl d1)
  refine w_al (j := 11) rfl rfl rfl ?_
  first | refine w_gr (j := 12) rfl rfl (by first | assumption | rfl) (by first | assumption | rfl) rfl ?_ | refine w_gi (j := 12) rfl rfl (by first | assumption | rfl) (by first | assumption | rfl) rfl q5 ?_
  refine w_neZ (j := 13) rfl rfl (fun d2 => ?_) (fun d2 => ?_)
  rotate_left
  ·
    refine w_ic (n := 0) (j := 14) rfl rfl ?_
    refine w_irB rfl (by first | exact Or.inl rfl | exact Or.inr rfl | exact px_b01 _) ?_
    exact no (Or.inr d2)
  refine w_al (j := 16) rfl rfl rfl ?_
  first | refine w_dupr (j := 17) rfl rfl ?_ | refine w_dupi (j := 17) rfl rfl ?_
  first | refine w_gr (j := 18) rfl rfl (by first | assumption | rfl) (by first | assumption | rfl) rfl ?_ | refine w_gi (j := 18) rfl rfl (by first | assumption | rfl) (by first | assumption | rfl) rfl q4 ?_
  refine w_ic (n := 1) (j := 19) rfl rfl ?_
  refine w_il (j := 20) rfl rfl rfl ?_
  refine w_shl (j := 21) rfl rfl ?_
  refine w_or (j := 22) rfl rfl ?_
  refine w_pf (j := 23) rfl rfl (by first | assumption | rfl) (by first | assumption | rfl) rfl ?_
  have q5' : ix_up h 64 4 (X.1.2.2.2.1 ||| nI 1 <<< (nI b &&& 31)) 64 5 = X.2 := by rw [px_up_nk (by decide)]; exact q5
  refine w_al (j := 24) rfl rfl rfl ?_
  first | refine w_dupr (j := 25) rfl rfl ?_ | refine w_dupi (j := 25) rfl rfl ?_
  first | refine w_gr (j := 26) rfl rfl (by first | assumption | rfl) (by first | assumption | rfl) rfl ?_ | refine w_gi (j := 26) rfl rfl (by first | assumption | rfl) (by first | assumption | rfl) rfl q5' ?_
  refine w_ic (n := 1) (j := 27) rfl rfl ?_
  refine w_sub (j := 28) rfl rfl ?_
  refine w_pf (j := 29) rfl rfl (by first | assumption | rfl) (by first | assumption | rfl) rfl ?_
  refine w_ic (n := 1) (j := 30) rfl rfl ?_
  refine w_irB rfl (by first | exact Or.inl rfl | exact Or.inr rfl | exact px_b01 _) ?_
  unfold pw_k1
  rw [if_neg (fun z => by
    rcases z with z | z
    · exact d1 z
    · exact d2 z)]
  exact ⟨_, _, rfl, rfl, (px_fr.rf.up (by decide)).up (by decide), R.ft⟩
theorem sp_88c {b : Nat} (hB : h 3 6 = nI B) (hB6 : B ≤ 6) (hb : b < B) (R : pw_cR X h) : px_PI 2 88 [.ref 64, .int (nI b)] h (fun v h1 => v = px_b (pw_k2 b X).1 ∧ px_fr [64, 65, 66, 67] h h1 ∧ pw_cR (pw_k2 b X).2 h1) := by
  obtain ⟨r, hr, F⟩ := sp_88 (x := 64) px_St64 hB hB6 hb
  refine ⟨r, ⟨_, _, hr, ?_⟩, F⟩
  rw [show h 64 4 = X.1.2.2.2.1 from R.1.2.2.2.1, show h 64 5 = X.2 from R.2]
  unfold pw_k2
  by_cases z : pf_bt X.1.2.2.2.1 b ≠ 0
  · rw [if_pos z, if_pos z, decide_eq_true z]
    exact ⟨rfl, (px_fr.rf.up (by decide)).up (by decide), R.ft⟩
  · rw [if_neg z, if_neg z, decide_eq_false z]
    exact ⟨rfl, px_fr.rf, R⟩
theorem sp_89c {c : Nat} (hN : h 3 7 = nI N) (hN8 : N ≤ 8) (hc : c < N) (R : pw_cR X h) : px_PI 2 89 [.ref 64, .int (nI c)] h (fun v h1 => v = px_b (pw_k3 c X).1 ∧ px_fr [64, 65, 66, 67] h h1 ∧ pw_cR (pw_k3 c X).2 h1) := by
  obtain ⟨r, hr, F⟩ := sp_89 (x := 64) px_St64 hN hN8 hc
  refine ⟨r, ⟨_, _, hr, ?_⟩, F⟩
  rw [show h (64 + 3) c = X.1.2.2.1 c from R.1.2.2.1 c (by omega)]
  unfold pw_k3
  by_cases z : 0 ≤ X.1.2.2.1 c
  · rw [if_pos z, if_pos z, decide_eq_true z]
    exact ⟨rfl, px_fr.rf.up (by decide), R.pl⟩
  · rw [if_neg z, if_neg z, decide_eq_false z]
    exact ⟨rfl, px_fr.rf, R⟩
theorem pw_cR.st {c : Nat} {v : Int32} (R : pw_cR X h) : pw_cR ((upd X.1.1 c v, X.1.2), X.2) (ix_up h 65 c v) := by
  obtain ⟨⟨r1, r2, r3, r4, r5⟩, r6⟩ := R
  refine ⟨⟨fun d hd => ?_, fun d hd => ?_, fun d hd => ?_, ?_, ?_⟩, ?_⟩
  · show ix_up h 65 c v 65 d = upd X.1.1 c v d
    by_cases e : d = c
    · rw [e, px_up_at, pk_us]
    · rw [px_up_nk e, pk_un e]; exact r1 d hd
  · rw [px_up_na (by decide)]; exact r2 d hd
  · rw [px_up_na (by decide)]; exact r3 d hd
  · rw [px_up_na (by decide)]; exact r4
  · rw [px_up_na (by decide)]; exact r5
  · rw [px_up_na (by decide)]; exact r6
theorem sp_90 {c a : Nat} (hN : h 3 7 = nI N) (hN8 : N ≤ 8) (hc : c < N) (R : pw_cR X h) : px_PI 2 90 [.ref 64, .int (nI c), .int (nI a)] h (fun v h1 => v = px_b (pw_k4 c a X).1 ∧ px_fr [64, 65, 66, 67] h h1 ∧ pw_cR (pw_k4 c a X).2 h1) := by
  have p3 : h 67 c = X.1.2.2.1 c := R.1.2.2.1 c (by omega)
  have p1 : h 65 c = X.1.1 c := R.1.1 c (by omega)
  have c1 := sp_26 (h := h) (x := 3) (b := nI c) px_Ld3
  rw [hN, px_ofBd hc hN8] at c1
  have no : (X.1.2.2.1 c = -2 ∨ nI 99 ≤ X.1.1 c) → ∃ v h1, ((.inl (some (.int (nI 0))), h, 0) : ix_R) = (.inl (some (.int v)), h1, 0) ∧ v = px_b (pw_k4 c a X).1 ∧ px_fr [64, 65, 66, 67] h h1 ∧ pw_cR (pw_k4 c a X).2 h1 := fun z => by
    unfold pw_k4
    rw [if_pos z]
    exact ⟨_, _, rfl, rfl, px_fr.rf, R⟩
  refine px_M (M := mt_90) (ops := mo_90) tb_90 rfl rfl rfl rfl rfl ?_
  refine w_al (j := 1) rfl rfl rfl ?_
  first | refine w_gr (j := 2) rfl rfl (by first | assumption | rfl) (by first | assumption | rfl) rfl ?_ | refine w_gi (j := 2) rfl rfl (by first | assumption | rfl) (by first | assumption | rfl) rfl rfl ?_
  refine w_il (j := 3) rfl rfl rfl ?_
  refine w_cvI (j := 4) rfl rfl rfl rfl (by first | assumption | rfl) rfl rfl (c1) rfl ?_
  refine w_eqB (j := 5) rfl rfl (fun c => absurd c (by simp)) (fun _ => ?_)
  refine w_al (j := 6) rfl rfl rfl ?_
  first | refine w_gr (j := 7) rfl rfl (by first | assumption | rfl) (by first | assumption | rfl) rfl ?_ | refine w_gi (j := 7) rfl rfl (by first | assumption | rfl) (by first | assumption | rfl) rfl rfl ?_
  refine w_il (j := 8) rfl rfl rfl ?_
  refine w_ial (j := 9) rfl rfl (by first | assumption | rfl) rfl (by omega) rfl p3 ?_
  refine w_bi (j := 10) (a := (-2)) rfl rfl (by decide) ?_
  refine w_eq (j := 11) rfl rfl (fun d1 => ?_) (fun d1 => ?_)
  ·
    refine w_ic (n := 0) (j := 18) rfl rfl ?_
    refine w_irB rfl (by first | exact Or.inl rfl | exact Or.inr rfl | exact px_b01 _) ?_
    exact no (Or.inl d1)
  refine w_al (j := 12) rfl rfl rfl ?_
  first | refine w_gr (j := 13) rfl rfl (by first | assumption | rfl) (by first | assumption | rfl) rfl ?_ | refine w_gi (j := 13) rfl rfl (by first | assumption | rfl) (by first | assumption | rfl) rfl rfl ?_
  refine w_il (j := 14) rfl rfl rfl ?_
  refine w_ial (j := 15) rfl rfl (by first | assumption | rfl) rfl (by omega) rfl p1 ?_
  refine w_bi (j := 16) (a := nI 99) rfl rfl (by decide) ?_
  refine w_lt (j := 17) rfl rfl (fun d2 => ?_) (fun d2 => ?_)
  rotate_left
  ·
    refine w_ic (n := 0) (j := 18) rfl rfl ?_
    refine w_irB rfl (by first | exact Or.inl rfl | exact Or.inr rfl | exact px_b01 _) ?_
    exact no (Or.inr d2)
  refine w_al (j := 20) rfl rfl rfl ?_
  first | refine w_gr (j := 21) rfl rfl (by first | assumption | rfl) (by first | assumption | rfl) rfl ?_ | refine w_gi (j := 21) rfl rfl (by first | assumption | rfl) (by first | assumption | rfl) rfl rfl ?_
  refine w_il (j := 22) rfl rfl rfl ?_
  refine w_al (j := 23) rfl rfl rfl ?_
  first | refine w_gr (j := 24) rfl rfl (by first | assumption | rfl) (by first | assumption | rfl) rfl ?_ | refine w_gi (j := 24) rfl rfl (by first | assumption | rfl) (by first | assumption | rfl) rfl rfl ?_
  refine w_il (j := 25) rfl rfl rfl ?_
  refine w_ial (j := 26) rfl rfl (by first | assumption | rfl) rfl (by omega) rfl p1 ?_
  refine w_il (j := 27) rfl rfl rfl ?_
  refine w_add (j := 28) rfl rfl ?_
  refine w_bi (j := 29) (a := nI 99) rfl rfl (by decide) ?_
  refine w_min (j := 30) rfl rfl rfl ?_
  refine w_ias (j := 31) rfl rfl (by first | assumption | rfl) rfl (by omega) rfl ?_
  refine w_ic (n := 1) (j := 32) rfl rfl ?_
  refine w_irB rfl (by first | exact Or.inl rfl | exact Or.inr rfl | exact px_b01 _) ?_
  have z0 : ¬ (X.1.2.2.1 c = -2 ∨ nI 99 ≤ X.1.1 c) := fun z => by
    rcases z with z | z
    · exact d1 z
    · exact px_not_lt.mpr z d2
  unfold pw_k4
  rw [if_neg z0]
  exact ⟨_, _, rfl, rfl, px_fr.rf.up (by decide), R.st⟩
theorem sp_91 {c : Nat} (hN : h 3 7 = nI N) (hN8 : N ≤ 8) (hT : h 3 8 = nI T) (hc : c < N) (R : pw_cR X h) : px_PI 3 91 [.ref 64, .int (nI c)] h (fun v h1 => v = px_b (pw_k5 T c X).1 ∧ px_fr [64, 65, 66, 67] h h1 ∧ pw_cR (pw_k5 T c X).2 h1) := by
  have c1 := sp_85 (h := h) (x := 64) (c := c) px_St64 (by omega) hN hN8
  rw [hT, show h (64 + 3) c = X.1.2.2.1 c from R.1.2.2.1 c (by omega), show h (64 + 2) c = X.1.2.1 c from R.1.2.1 c (by omega)] at c1
  refine px_M (M := mt_91) (ops := mo_91) tb_91 rfl rfl rfl rfl rfl ?_
  refine w_al (j := 1) rfl rfl rfl ?_
  refine w_il (j := 2) rfl rfl rfl ?_
  refine w_cvI (j := 3) rfl rfl rfl rfl (by first | assumption | rfl) rfl rfl (c1) rfl ?_
  by_cases z : X.1.2.2.1 c ≠ -2 ∧ nI T ≤ X.1.2.1 c
  · rw [decide_eq_true ⟨hc, z⟩]
    refine w_neB (j := 4) rfl rfl (fun _ => ?_) (fun c => absurd c (by simp))
    refine w_al (j := 7) rfl rfl rfl ?_
    first | refine w_gr (j := 8) rfl rfl (by first | assumption | rfl) (by first | assumption | rfl) rfl ?_ | refine w_gi (j := 8) rfl rfl (by first | assumption | rfl) (by first | assumption | rfl) rfl rfl ?_
    refine w_il (j := 9) rfl rfl rfl ?_
    refine w_bi (j := 10) (a := (-2)) rfl rfl (by decide) ?_
    refine w_ias (j := 11) rfl rfl (by first | assumption | rfl) rfl (by omega) rfl ?_
    refine w_ic (n := 1) (j := 12) rfl rfl ?_
    refine w_irB rfl (by first | exact Or.inl rfl | exact Or.inr rfl | exact px_b01 _) ?_
    unfold pw_k5
    rw [if_pos z]
    exact ⟨_, _, rfl, rfl, px_fr.rf.up (by decide), R.pl⟩
  · rw [decide_eq_false (fun q => z q.2)]
    refine w_neB (j := 4) rfl rfl (fun c => absurd c (by simp)) (fun _ => ?_)
    refine w_ic (n := 0) (j := 5) rfl rfl ?_
    refine w_irB rfl (by first | exact Or.inl rfl | exact Or.inr rfl | exact px_b01 _) ?_
    unfold pw_k5
    rw [if_neg z]
    exact ⟨_, _, rfl, rfl, px_fr.rf, R⟩
end PW
