def wTc (z : we) (h : ix_H) : Prop := (h 3 6 = nI z.2.2.1 ∧ z.2.2.1 ≤ 6) ∧ h 3 7 = nI z.2.1 ∧ z.2.1 ≤ 8
theorem wTc.of {z : we} {h h' : ix_H} (e : h' 3 = h 3) (x : wTc z h) : wTc z h' := by unfold wTc; rw [e]; exact x
def wcF (h h' : ix_H) : Prop := (∀ a, a ≠ 2 → ¬ (57 ≤ a ∧ a ≤ 60) → h' a = h a) ∧ ∀ k, k ≠ 4 → h' 57 k = h 57 k
theorem wcF.rf {h : ix_H} : wcF h h := ⟨fun _ _ _ => rfl, fun _ _ => rfl⟩
theorem wcF.tr {h h1 h2 : ix_H} (a : wcF h h1) (b : wcF h1 h2) : wcF h h2 := ⟨fun q q1 q2 => (b.1 q q1 q2).trans (a.1 q q1 q2), fun k hk => (b.2 k hk).trans (a.2 k hk)⟩
theorem px_fr.wc {h h' : ix_H} (f : px_fr [2] h h') : wcF h h' := ⟨fun a ha _ => f a (by simp; omega), fun k _ => by rw [f 57 (by decide)]⟩
theorem wTc.fr {z : we} {h h' : ix_H} (f : wcF h h') (x : wTc z h) : wTc z h' := x.of (f.1 3 (by decide) (by omega))
def wcR (i : Nat) (h h' : ix_H) : Prop := ∀ k, k < i → h' 58 k = h 58 k ∧ h' 59 k = h 59 k ∧ h' 60 k = h 60 k
theorem wcR.rf {i : Nat} {h : ix_H} : wcR i h h := fun _ _ => ⟨rfl, rfl, rfl⟩
theorem wcR.tr {i j : Nat} {h h1 h2 : ix_H} (a : wcR i h h1) (b : wcR j h1 h2) (hj : i ≤ j) : wcR i h h2 := fun k hk => ⟨(b k (by omega)).1.trans (a k hk).1, (b k (by omega)).2.1.trans (a k hk).2.1, (b k (by omega)).2.2.trans (a k hk).2.2⟩
theorem px_fr.wr {h h' : ix_H} {i : Nat} (f : px_fr [2] h h') : wcR i h h' := fun k _ => by rw [f 58 (by decide), f 59 (by decide), f 60 (by decide)]; exact ⟨rfl, rfl, rfl⟩
def wCS (z : we) (h : ix_H) (tx : Nat → Nat) (n p o i : Nat) : Prop := n ≤ 150 ∧ i ≤ p ∧ h 57 4 = nI i ∧ wTc z h ∧ ∃ pc, px_rd h tx n p pc o 0 (-1)
def wCF (z : we) (h : ix_H) (tx : Nat → Nat) (n o K PL : Nat) : Prop := px_rf h tx n o K (nI PL) ∧ (∃ i, i ≤ 150 ∧ h 57 4 = nI i) ∧ wTc z h
def wK (z : we) (i i' : Nat) (DD : pw_s → pw_s) (h h' : ix_H) : Prop := i ≤ i' ∧ wcR i h h' ∧ ∃ P, pw_rP i i' P ∧ P h' ∧ wcx z i i' P DD
theorem wK.pre {z : we} {i i' : Nat} {DD : pw_s → pw_s} {h h1 h' : ix_H} (f : wcR i h h1) (x : wK z i i' DD h1 h') : wK z i i' DD h h' := ⟨x.1, f.tr x.2.1 (Nat.le_refl _), x.2.2⟩
def wR (z : we) (E : Nat) (tx : Nat → Nat) (n o p i : Nat) (h h' : ix_H) : Prop := wcF h h' ∧ ((∃ K PL, wB z (E + 1) tx n o p K PL ∧ wCF z h' tx n o K PL) ∨ ∃ p' DD i', wH z E tx n o p p' DD ∧ pw_D z.2.2.1 DD ∧ wCS z h' tx n p' o i' ∧ wK z i i' DD h h')
def wRS (z : we) (E : Nat) (tx : Nat → Nat) (n o p i : Nat) (h h' : ix_H) : Prop := wcF h h' ∧ ((∃ m K PL, wSB z (E + 1) tx n o m p K PL ∧ wCF z h' tx n o K PL) ∨ ∃ m p' DD i', wSG z (E + 1) tx n o m p p' DD ∧ pw_D z.2.2.1 DD ∧ wCS z h' tx n p' o i' ∧ wK z i i' DD h h')
section WC
variable {z : we} {h : ix_H} {tx : Nat → Nat} {n p pc o k : Nat} {pl : Int32}
theorem sp_92e {i : Nat} {a b c : Int32} (hi : i < 150) (l1 : h 57 4 = nI i) : px_PU 1 92 [.ref 57, .int a, .int b, .int c] h (fun h1 => px_fr [57, 58, 59, 60] h h1 ∧ wcF h h1 ∧ h1 57 4 = nI (i + 1) ∧ wcR i h h1 ∧ h1 58 i = a ∧ h1 59 i = b ∧ h1 60 i = c) := by
  refine px_M (M := mt_92) (ops := mo_92) tb_92 rfl rfl rfl rfl rfl ?_
  refine w_al (j := 1) rfl rfl rfl ?_
  first | refine w_gr (j := 2) rfl rfl (by first | assumption | rfl) (by first | assumption | rfl) rfl ?_ | refine w_gi (j := 2) rfl rfl (by first | assumption | rfl) (by first | assumption | rfl) rfl l1 ?_
  refine w_al (j := 3) rfl rfl rfl ?_
  first | refine w_gr (j := 4) rfl rfl (by first | assumption | rfl) (by first | assumption | rfl) rfl ?_ | refine w_gi (j := 4) rfl rfl (by first | assumption | rfl) (by first | assumption | rfl) rfl rfl ?_
  refine w_alen (j := 5) rfl rfl (by first | assumption | rfl) (by decide) ?_
  refine w_geN (j := 6) rfl rfl (by omega) (by omega) (fun c => absurd c (fun c => by omega)) (fun _ => ?_)
  refine w_al (j := 7) rfl rfl rfl ?_
  first | refine w_gr (j := 8) rfl rfl (by first | assumption | rfl) (by first | assumption | rfl) rfl ?_ | refine w_gi (j := 8) rfl rfl (by first | assumption | rfl) (by first | assumption | rfl) rfl rfl ?_
  refine w_al (j := 9) rfl rfl rfl ?_
  first | refine w_gr (j := 10) rfl rfl (by first | assumption | rfl) (by first | assumption | rfl) rfl ?_ | refine w_gi (j := 10) rfl rfl (by first | assumption | rfl) (by first | assumption | rfl) rfl l1 ?_
  refine w_il (j := 11) rfl rfl rfl ?_
  refine w_ias (j := 12) rfl rfl (by first | assumption | rfl) rfl (by omega) rfl ?_
  have l1' : ix_up h 58 i a 57 4 = nI i := by rw [px_up_na (by decide)]; exact l1
  refine w_al (j := 13) rfl rfl rfl ?_
  first | refine w_gr (j := 14) rfl rfl (by first | assumption | rfl) (by first | assumption | rfl) rfl ?_ | refine w_gi (j := 14) rfl rfl (by first | assumption | rfl) (by first | assumption | rfl) rfl rfl ?_
  refine w_al (j := 15) rfl rfl rfl ?_
  first | refine w_gr (j := 16) rfl rfl (by first | assumption | rfl) (by first | assumption | rfl) rfl ?_ | refine w_gi (j := 16) rfl rfl (by first | assumption | rfl) (by first | assumption | rfl) rfl l1' ?_
  refine w_il (j := 17) rfl rfl rfl ?_
  refine w_ias (j := 18) rfl rfl (by first | assumption | rfl) rfl (by omega) rfl ?_
  have l1'' : ix_up (ix_up h 58 i a) 59 i b 57 4 = nI i := by rw [px_up_na (by decide)]; exact l1'
  refine w_al (j := 19) rfl rfl rfl ?_
  first | refine w_gr (j := 20) rfl rfl (by first | assumption | rfl) (by first | assumption | rfl) rfl ?_ | refine w_gi (j := 20) rfl rfl (by first | assumption | rfl) (by first | assumption | rfl) rfl rfl ?_
  refine w_al (j := 21) rfl rfl rfl ?_
  first | refine w_gr (j := 22) rfl rfl (by first | assumption | rfl) (by first | assumption | rfl) rfl ?_ | refine w_gi (j := 22) rfl rfl (by first | assumption | rfl) (by first | assumption | rfl) rfl l1'' ?_
  refine w_il (j := 23) rfl rfl rfl ?_
  refine w_ias (j := 24) rfl rfl (by first | assumption | rfl) rfl (by omega) rfl ?_
  have l1x : ix_up (ix_up (ix_up h 58 i a) 59 i b) 60 i c 57 4 = nI i := by rw [px_up_na (by decide)]; exact l1''
  refine w_al (j := 25) rfl rfl rfl ?_
  first | refine w_dupr (j := 26) rfl rfl ?_ | refine w_dupi (j := 26) rfl rfl ?_
  first | refine w_gr (j := 27) rfl rfl (by first | assumption | rfl) (by first | assumption | rfl) rfl ?_ | refine w_gi (j := 27) rfl rfl (by first | assumption | rfl) (by first | assumption | rfl) rfl l1x ?_
  refine w_ic (n := 1) (j := 28) rfl rfl ?_
  first | refine w_add0 (j := 29) rfl rfl ?_ | refine w_addN (j := 29) rfl rfl ?_ | refine w_add (j := 29) rfl rfl ?_
  refine w_pf (j := 30) rfl rfl (by first | assumption | rfl) (by first | assumption | rfl) rfl ?_
  refine w_rt rfl ?_
  refine ⟨_, rfl, ?_, ⟨fun a ha h5 => ?_, fun j hj => ?_⟩, px_up_at, fun k hk => ⟨?_, ?_, ?_⟩, ?_, ?_, ?_⟩
  · repeat first | exact px_fr.rf | refine px_fr.up ?_ (by decide)
  · rw [ix_up_ne (by omega), ix_up_ne (by omega), ix_up_ne (by omega), ix_up_ne (by omega)]
  · rw [px_up_nk hj, px_up_na (by decide), px_up_na (by decide), px_up_na (by decide)]
  · rw [px_up_na (by decide), px_up_na (by decide), px_up_na (by decide), px_up_nk (by omega)]
  · rw [px_up_na (by decide), px_up_na (by decide), px_up_nk (by omega), px_up_na (by decide)]
  · rw [px_up_na (by decide), px_up_nk (by omega), px_up_na (by decide), px_up_na (by decide)]
  · rw [px_up_na (by decide), px_up_na (by decide), px_up_na (by decide), px_up_at]
  · rw [px_up_na (by decide), px_up_na (by decide), px_up_at]
  · rw [px_up_na (by decide), px_up_at]
theorem sp_92f {K PL : Nat} {a b c : Int32} (F : wCF z h tx n o K PL) : px_PU 1 92 [.ref 57, .int a, .int b, .int c] h (fun h1 => wcF h h1 ∧ wCF z h1 tx n o K PL) := by
  obtain ⟨rf, ⟨i, hi, l1⟩, t⟩ := F
  by_cases hi2 : i < 150
  · exact px_PUi (sp_92e hi2 l1) (fun h1 q => ⟨q.2.1, rf.fr q.1 (by decide) (by decide) (by decide), ⟨i + 1, by omega, q.2.2.1⟩, t.fr q.2.1⟩)
  refine px_M (M := mt_92) (ops := mo_92) tb_92 rfl rfl rfl rfl rfl ?_
  refine w_al (j := 1) rfl rfl rfl ?_
  first | refine w_gr (j := 2) rfl rfl (by first | assumption | rfl) (by first | assumption | rfl) rfl ?_ | refine w_gi (j := 2) rfl rfl (by first | assumption | rfl) (by first | assumption | rfl) rfl l1 ?_
  refine w_al (j := 3) rfl rfl rfl ?_
  first | refine w_gr (j := 4) rfl rfl (by first | assumption | rfl) (by first | assumption | rfl) rfl ?_ | refine w_gi (j := 4) rfl rfl (by first | assumption | rfl) (by first | assumption | rfl) rfl rfl ?_
  refine w_alen (j := 5) rfl rfl (by first | assumption | rfl) (by decide) ?_
  refine w_geN (j := 6) rfl rfl (by omega) (by omega) (fun _ => ?_) (fun c => absurd c (fun c => by omega))
  refine w_rt rfl ?_
  exact ⟨_, rfl, wcF.rf, rf, ⟨i, hi, l1⟩, t⟩
theorem sp_92g {i k a b : Nat} (hi : i < 150) (v : pw_vk z.2.1 z.2.2.1 k a b) (l1 : h 57 4 = nI i) : px_PU 1 92 [.ref 57, .int (nI k), .int (nI a), .int (nI b)] h (fun h1 => px_fr [57, 58, 59, 60] h h1 ∧ wcF h h1 ∧ h1 57 4 = nI (i + 1) ∧ wK z i (i + 1) (pw_pr (wdo z k a b)) h h1) := by
  refine px_PUi (sp_92e hi l1) (fun h1 q => ?_)
  obtain ⟨q1, q2, q3, q4, q5, q6, q7⟩ := q
  refine ⟨q1, q2, q3, Nat.le_succ _, q4, _, ?_, ⟨q5, q6, q7⟩, pw_cx_pr hi v⟩
  rintro g g' e ⟨y1, y2, y3⟩
  obtain ⟨e1, e2, e3⟩ := e i (Nat.le_refl _) (Nat.lt_succ_self _)
  exact ⟨e1.trans y1, e2.trans y2, e3.trans y3⟩
theorem wR.frR {E i : Nat} {h h1 : ix_H} {r : ix_R} (f : px_fr [2] h h1) (q : ∃ h', r = (.inl none, h', 0) ∧ wR z E tx n o p i h1 h') : ∃ h', r = (.inl none, h', 0) ∧ wR z E tx n o p i h h' := by
  obtain ⟨h', e, q1, q2⟩ := q
  refine ⟨h', e, f.wc.tr q1, ?_⟩
  rcases q2 with q2 | ⟨p', DD, i', a1, a2, a3, a4⟩
  · exact Or.inl q2
  · exact Or.inr ⟨p', DD, i', a1, a2, a3, a4.pre f.wr⟩
theorem wRS.frR {E i : Nat} {h h1 : ix_H} {r : ix_R} (f : px_fr [2] h h1) (q : ∃ h', r = (.inl none, h', 0) ∧ wRS z E tx n o p i h1 h') : ∃ h', r = (.inl none, h', 0) ∧ wRS z E tx n o p i h h' := by
  obtain ⟨h', e, q1, q2⟩ := q
  refine ⟨h', e, f.wc.tr q1, ?_⟩
  rcases q2 with q2 | ⟨m, p', DD, i', a1, a2, a3, a4⟩
  · exact Or.inl q2
  · exact Or.inr ⟨m, p', DD, i', a1, a2, a3, a4.pre f.wr⟩
theorem c95_0 {D E i e : Nat} {g5 : Value} (hD : 3 ≤ D) (hE : 5 ≤ E) (ho : o ≤ 6) (hn : n ≤ 150) (hp : p ≤ n) (hi : i ≤ p) (l : h 57 4 = nI i) (t : wTc z h) (kw : gx_is tx (gx_sk tx n p) (gx_lt tx n (gx_sk tx n p)) (gx_V 0)) (ez : gx_lt tx n (gx_sk tx n p) = e) (r : px_rd h tx n e (gx_sk tx n p) o 0 (-1)) : px_R px_E D mo_95 [] 16 [.ref 57, .ref 2, .ref 3, .int (nI z.2.1 - nI 1), .int (nI z.2.2.1 - nI 1), g5] [] h 0 (fun r => ∃ h', r = (.inl none, h', 0) ∧ wR z E tx n o p i h h') := by
  have el := gx_V_e (by decide) hp kw ez
  have tN := t.2.2
  have tB := t.1.2
  refine w_al (j := 17) rfl rfl rfl ?_
  refine w_ic (n := 0) (j := 18) rfl rfl ?_
  refine w_il (j := 19) rfl rfl rfl ?_
  refine w_cvPI (j := 20) rfl rfl rfl rfl (by first | assumption | rfl) rfl rfl (sp_64 (lo := 0) (by decide) (px_hiB (B := z.2.1) (by omega)) (by omega) r) (Nat.ble_eq.mpr (by omega)) ?_
  rintro v h1 ⟨v1, u1, r1⟩
  skip
  by_cases c1 : gx_nk tx n 0 z.2.1 e = 0
  rotate_left
  ·
    rw [if_neg c1, if_neg c1] at r1
    subst v1
    have rf : px_rf h1 tx n o (gx_nk tx n 0 z.2.1 e) (nI (gx_sk tx n e)) := ⟨c1, _, _, r1⟩
    refine w_iS (j := 21) rfl rfl rfl ?_
    refine w_al (j := 22) rfl rfl rfl ?_
    refine w_ic (n := 0) (j := 23) rfl rfl ?_
    refine w_iL (j := 24) rfl rfl rfl ?_
    refine w_al (j := 25) rfl rfl rfl ?_
    refine w_ic (n := 0) (j := 26) rfl rfl ?_
    refine w_iL (j := 27) rfl rfl rfl ?_
    refine w_cvPI (j := 28) rfl rfl rfl rfl (by first | assumption | rfl) rfl rfl (sp_64f (lo := 0) (by decide) (px_hiB (B := z.2.2.1) (by omega)) (by omega) rf) (Nat.ble_eq.mpr (by omega)) ?_
    rintro v h2 ⟨u2, rf, q, q1, rfl⟩
    skip
    have F : wCF z h2 tx n o (gx_nk tx n 0 z.2.1 e) (gx_sk tx n e) := ⟨rf, ⟨i, by omega, by rw [((u1).tr u2) 57 (by decide)]; exact l⟩, t.fr ((u1).tr u2).wc⟩
    refine w_cvPU (j := 29) rfl rfl rfl rfl (by first | assumption | rfl) rfl rfl (sp_92f F) (Nat.ble_eq.mpr (by omega)) ?_
    rintro h9 ⟨w1, w2⟩
    refine w_go rfl ?_
    refine w_rt rfl ?_
    exact ⟨_, rfl, ((u1).tr u2).wc.tr w1, Or.inl ⟨_, _, wB_0a hE hn hp kw ez c1, w2⟩⟩
  rw [if_pos c1, if_pos c1] at r1
  have b1 := gx_nv41 c1
  have l1 := gx_ne_le (tx := tx) el.2
  rw [Nat.min_eq_left (by omega)] at v1
  subst v1
  generalize d1 : gx_ne tx n e = e1 at *
  generalize y1 : gx_nv tx n e = a at *
  refine w_iS (j := 21) rfl rfl rfl ?_
  refine w_al (j := 22) rfl rfl rfl ?_
  refine w_ic (n := 0) (j := 23) rfl rfl ?_
  refine w_iL (j := 24) rfl rfl rfl ?_
  refine w_al (j := 25) rfl rfl rfl ?_
  refine w_ic (n := 0) (j := 26) rfl rfl ?_
  refine w_iL (j := 27) rfl rfl rfl ?_
  refine w_cvPI (j := 28) rfl rfl rfl rfl (by first | assumption | rfl) rfl rfl (sp_64 (lo := 0) (by decide) (px_hiB (B := z.2.2.1) (by omega)) (by omega) r1) (Nat.ble_eq.mpr (by omega)) ?_
  rintro v h2 ⟨v2, u2, r2⟩
  skip
  by_cases c2 : gx_nk tx n 0 z.2.2.1 e1 = 0
  rotate_left
  ·
    rw [if_neg c2, if_neg c2] at r2
    subst v2
    have rf : px_rf h2 tx n o (gx_nk tx n 0 z.2.2.1 e1) (nI (gx_sk tx n e1)) := ⟨c2, _, _, r2⟩
    have F : wCF z h2 tx n o (gx_nk tx n 0 z.2.2.1 e1) (gx_sk tx n e1) := ⟨rf, ⟨i, by omega, by rw [((u1).tr u2) 57 (by decide)]; exact l⟩, t.fr ((u1).tr u2).wc⟩
    refine w_cvPU (j := 29) rfl rfl rfl rfl (by first | assumption | rfl) rfl rfl (sp_92f F) (Nat.ble_eq.mpr (by omega)) ?_
    rintro h9 ⟨w1, w2⟩
    refine w_go rfl ?_
    refine w_rt rfl ?_
    exact ⟨_, rfl, ((u1).tr u2).wc.tr w1, Or.inl ⟨_, _, wB_0b hE hn hp kw ez c1 d1 c2, w2⟩⟩
  rw [if_pos c2, if_pos c2] at r2
  have b2 := gx_nv41 c2
  have l2 := gx_ne_le (tx := tx) l1.2
  rw [Nat.min_eq_left (by omega)] at v2
  subst v2
  generalize d2 : gx_ne tx n e1 = e2 at *
  generalize y2 : gx_nv tx n e1 = b at *
  have vk : pw_vk z.2.1 z.2.2.1 0 a b := ⟨by decide, fun _ => ⟨b1.2, b2.2⟩, fun q => by omega, fun q => by omega, fun q => by omega⟩
  refine w_cvPU (j := 29) rfl rfl rfl rfl (by first | assumption | rfl) rfl rfl (sp_92g (z := z) (i := i) (k := 0) (a := a) (b := b) (by omega) vk (by rw [((u1).tr u2) 57 (by decide)]; exact l)) (Nat.ble_eq.mpr (by omega)) ?_
  rintro h9 ⟨w1, w2, w3, w4⟩
  refine w_go rfl ?_
  refine w_rt rfl ?_
  exact ⟨_, rfl, ((u1).tr u2).wc.tr w2, Or.inr ⟨_, _, i + 1, wH_0 hE ho hn hp kw ez c1 d1 y1 c2 d2 y2, pw_D_pr (fun X ok => pw_do_ok tB vk ok), ⟨hn, by omega, w3, (t.fr ((u1).tr u2).wc).fr w2, _, r2.fr w1 (by decide) (by decide) (by decide)⟩, w4.pre ((u1).tr u2).wr⟩⟩
theorem c95_1 {D E i e : Nat} {g5 : Value} (hD : 3 ≤ D) (hE : 5 ≤ E) (ho : o ≤ 6) (hn : n ≤ 150) (hp : p ≤ n) (hi : i ≤ p) (l : h 57 4 = nI i) (t : wTc z h) (kw : gx_is tx (gx_sk tx n p) (gx_lt tx n (gx_sk tx n p)) (gx_V 1)) (ez : gx_lt tx n (gx_sk tx n p) = e) (r : px_rd h tx n e (gx_sk tx n p) o 0 (-1)) : px_R px_E D mo_95 [] 34 [.ref 57, .ref 2, .ref 3, .int (nI z.2.1 - nI 1), .int (nI z.2.2.1 - nI 1), g5] [] h 0 (fun r => ∃ h', r = (.inl none, h', 0) ∧ wR z E tx n o p i h h') := by
  have el := gx_V_e (by decide) hp kw ez
  have tN := t.2.2
  have tB := t.1.2
  refine w_al (j := 35) rfl rfl rfl ?_
  refine w_ic (n := 1) (j := 36) rfl rfl ?_
  refine w_al (j := 37) rfl rfl rfl ?_
  refine w_ic (n := 0) (j := 38) rfl rfl ?_
  refine w_iL (j := 39) rfl rfl rfl ?_
  refine w_cvPI (j := 40) rfl rfl rfl rfl (by first | assumption | rfl) rfl rfl (sp_64 (lo := 0) (by decide) (px_hiB (B := z.2.2.1) (by omega)) (by omega) r) (Nat.ble_eq.mpr (by omega)) ?_
  rintro v h1 ⟨v1, u1, r1⟩
  skip
  by_cases c1 : gx_nk tx n 0 z.2.2.1 e = 0
  rotate_left
  ·
    rw [if_neg c1, if_neg c1] at r1
    subst v1
    have rf : px_rf h1 tx n o (gx_nk tx n 0 z.2.2.1 e) (nI (gx_sk tx n e)) := ⟨c1, _, _, r1⟩
    refine w_ic (n := 0) (j := 41) rfl rfl ?_
    have F : wCF z h1 tx n o (gx_nk tx n 0 z.2.2.1 e) (gx_sk tx n e) := ⟨rf, ⟨i, by omega, by rw [u1 57 (by decide)]; exact l⟩, t.fr u1.wc⟩
    refine w_cvPU (j := 42) rfl rfl rfl rfl (by first | assumption | rfl) rfl rfl (sp_92f F) (Nat.ble_eq.mpr (by omega)) ?_
    rintro h9 ⟨w1, w2⟩
    refine w_go rfl ?_
    refine w_rt rfl ?_
    exact ⟨_, rfl, u1.wc.tr w1, Or.inl ⟨_, _, wB_1a hE hn hp kw ez c1, w2⟩⟩
  rw [if_pos c1, if_pos c1] at r1
  have b1 := gx_nv41 c1
  have l1 := gx_ne_le (tx := tx) el.2
  rw [Nat.min_eq_left (by omega)] at v1
  subst v1
  generalize d1 : gx_ne tx n e = e1 at *
  generalize y1 : gx_nv tx n e = a at *
  refine w_ic (n := 0) (j := 41) rfl rfl ?_
  have vk : pw_vk z.2.1 z.2.2.1 1 a 0 := ⟨by decide, fun q => by omega, fun _ => b1.2, fun q => by omega, fun q => by omega⟩
  refine w_cvPU (j := 42) rfl rfl rfl rfl (by first | assumption | rfl) rfl rfl (sp_92g (z := z) (i := i) (k := 1) (a := a) (b := 0) (by omega) vk (by rw [u1 57 (by decide)]; exact l)) (Nat.ble_eq.mpr (by omega)) ?_
  rintro h9 ⟨w1, w2, w3, w4⟩
  refine w_go rfl ?_
  refine w_rt rfl ?_
  exact ⟨_, rfl, u1.wc.tr w2, Or.inr ⟨_, _, i + 1, wH_1 hE ho hn hp kw ez c1 d1 y1, pw_D_pr (fun X ok => pw_do_ok tB vk ok), ⟨hn, by omega, w3, (t.fr u1.wc).fr w2, _, r1.fr w1 (by decide) (by decide) (by decide)⟩, w4.pre u1.wr⟩⟩
theorem c95_2 {D E i e : Nat} {g5 : Value} (hD : 3 ≤ D) (hE : 5 ≤ E) (ho : o ≤ 6) (hn : n ≤ 150) (hp : p ≤ n) (hi : i ≤ p) (l : h 57 4 = nI i) (t : wTc z h) (kw : gx_is tx (gx_sk tx n p) (gx_lt tx n (gx_sk tx n p)) (gx_V 2)) (ez : gx_lt tx n (gx_sk tx n p) = e) (r : px_rd h tx n e (gx_sk tx n p) o 0 (-1)) : px_R px_E D mo_95 [] 47 [.ref 57, .ref 2, .ref 3, .int (nI z.2.1 - nI 1), .int (nI z.2.2.1 - nI 1), g5] [] h 0 (fun r => ∃ h', r = (.inl none, h', 0) ∧ wR z E tx n o p i h h') := by
  have el := gx_V_e (by decide) hp kw ez
  have tN := t.2.2
  have tB := t.1.2
  refine w_al (j := 48) rfl rfl rfl ?_
  refine w_ic (n := 2) (j := 49) rfl rfl ?_
  refine w_al (j := 50) rfl rfl rfl ?_
  refine w_ic (n := 0) (j := 51) rfl rfl ?_
  refine w_iL (j := 52) rfl rfl rfl ?_
  refine w_cvPI (j := 53) rfl rfl rfl rfl (by first | assumption | rfl) rfl rfl (sp_64 (lo := 0) (by decide) (px_hiB (B := z.2.2.1) (by omega)) (by omega) r) (Nat.ble_eq.mpr (by omega)) ?_
  rintro v h1 ⟨v1, u1, r1⟩
  skip
  by_cases c1 : gx_nk tx n 0 z.2.2.1 e = 0
  rotate_left
  ·
    rw [if_neg c1, if_neg c1] at r1
    subst v1
    have rf : px_rf h1 tx n o (gx_nk tx n 0 z.2.2.1 e) (nI (gx_sk tx n e)) := ⟨c1, _, _, r1⟩
    refine w_ic (n := 0) (j := 54) rfl rfl ?_
    have F : wCF z h1 tx n o (gx_nk tx n 0 z.2.2.1 e) (gx_sk tx n e) := ⟨rf, ⟨i, by omega, by rw [u1 57 (by decide)]; exact l⟩, t.fr u1.wc⟩
    refine w_cvPU (j := 55) rfl rfl rfl rfl (by first | assumption | rfl) rfl rfl (sp_92f F) (Nat.ble_eq.mpr (by omega)) ?_
    rintro h9 ⟨w1, w2⟩
    refine w_go rfl ?_
    refine w_rt rfl ?_
    exact ⟨_, rfl, u1.wc.tr w1, Or.inl ⟨_, _, wB_2a hE hn hp kw ez c1, w2⟩⟩
  rw [if_pos c1, if_pos c1] at r1
  have b1 := gx_nv41 c1
  have l1 := gx_ne_le (tx := tx) el.2
  rw [Nat.min_eq_left (by omega)] at v1
  subst v1
  generalize d1 : gx_ne tx n e = e1 at *
  generalize y1 : gx_nv tx n e = a at *
  refine w_ic (n := 0) (j := 54) rfl rfl ?_
  have vk : pw_vk z.2.1 z.2.2.1 2 a 0 := ⟨by decide, fun q => by omega, fun _ => b1.2, fun q => by omega, fun q => by omega⟩
  refine w_cvPU (j := 55) rfl rfl rfl rfl (by first | assumption | rfl) rfl rfl (sp_92g (z := z) (i := i) (k := 2) (a := a) (b := 0) (by omega) vk (by rw [u1 57 (by decide)]; exact l)) (Nat.ble_eq.mpr (by omega)) ?_
  rintro h9 ⟨w1, w2, w3, w4⟩
  refine w_go rfl ?_
  refine w_rt rfl ?_
  exact ⟨_, rfl, u1.wc.tr w2, Or.inr ⟨_, _, i + 1, wH_2 hE ho hn hp kw ez c1 d1 y1, pw_D_pr (fun X ok => pw_do_ok tB vk ok), ⟨hn, by omega, w3, (t.fr u1.wc).fr w2, _, r1.fr w1 (by decide) (by decide) (by decide)⟩, w4.pre u1.wr⟩⟩
theorem c95_3 {D E i e : Nat} {g5 : Value} (hD : 3 ≤ D) (hE : 5 ≤ E) (ho : o ≤ 6) (hn : n ≤ 150) (hp : p ≤ n) (hi : i ≤ p) (l : h 57 4 = nI i) (t : wTc z h) (kw : gx_is tx (gx_sk tx n p) (gx_lt tx n (gx_sk tx n p)) (gx_V 3)) (ez : gx_lt tx n (gx_sk tx n p) = e) (r : px_rd h tx n e (gx_sk tx n p) o 0 (-1)) : px_R px_E D mo_95 [] 60 [.ref 57, .ref 2, .ref 3, .int (nI z.2.1 - nI 1), .int (nI z.2.2.1 - nI 1), g5] [] h 0 (fun r => ∃ h', r = (.inl none, h', 0) ∧ wR z E tx n o p i h h') := by
  have el := gx_V_e (by decide) hp kw ez
  have tN := t.2.2
  have tB := t.1.2
  refine w_al (j := 61) rfl rfl rfl ?_
  refine w_ic (n := 3) (j := 62) rfl rfl ?_
  refine w_al (j := 63) rfl rfl rfl ?_
  refine w_ic (n := 0) (j := 64) rfl rfl ?_
  refine w_il (j := 65) rfl rfl rfl ?_
  refine w_cvPI (j := 66) rfl rfl rfl rfl (by first | assumption | rfl) rfl rfl (sp_64 (lo := 0) (by decide) (px_hiB (B := z.2.1) (by omega)) (by omega) r) (Nat.ble_eq.mpr (by omega)) ?_
  rintro v h1 ⟨v1, u1, r1⟩
  skip
  by_cases c1 : gx_nk tx n 0 z.2.1 e = 0
  rotate_left
  ·
    rw [if_neg c1, if_neg c1] at r1
    subst v1
    have rf : px_rf h1 tx n o (gx_nk tx n 0 z.2.1 e) (nI (gx_sk tx n e)) := ⟨c1, _, _, r1⟩
    refine w_ic (n := 0) (j := 67) rfl rfl ?_
    have F : wCF z h1 tx n o (gx_nk tx n 0 z.2.1 e) (gx_sk tx n e) := ⟨rf, ⟨i, by omega, by rw [u1 57 (by decide)]; exact l⟩, t.fr u1.wc⟩
    refine w_cvPU (j := 68) rfl rfl rfl rfl (by first | assumption | rfl) rfl rfl (sp_92f F) (Nat.ble_eq.mpr (by omega)) ?_
    rintro h9 ⟨w1, w2⟩
    refine w_go rfl ?_
    refine w_rt rfl ?_
    exact ⟨_, rfl, u1.wc.tr w1, Or.inl ⟨_, _, wB_3a hE hn hp kw ez c1, w2⟩⟩
  rw [if_pos c1, if_pos c1] at r1
  have b1 := gx_nv41 c1
  have l1 := gx_ne_le (tx := tx) el.2
  rw [Nat.min_eq_left (by omega)] at v1
  subst v1
  generalize d1 : gx_ne tx n e = e1 at *
  generalize y1 : gx_nv tx n e = a at *
  refine w_ic (n := 0) (j := 67) rfl rfl ?_
  have vk : pw_vk z.2.1 z.2.2.1 3 a 0 := ⟨by decide, fun q => by omega, fun q => by omega, fun _ => b1.2, fun q => by omega⟩
  refine w_cvPU (j := 68) rfl rfl rfl rfl (by first | assumption | rfl) rfl rfl (sp_92g (z := z) (i := i) (k := 3) (a := a) (b := 0) (by omega) vk (by rw [u1 57 (by decide)]; exact l)) (Nat.ble_eq.mpr (by omega)) ?_
  rintro h9 ⟨w1, w2, w3, w4⟩
  refine w_go rfl ?_
  refine w_rt rfl ?_
  exact ⟨_, rfl, u1.wc.tr w2, Or.inr ⟨_, _, i + 1, wH_3 hE ho hn hp kw ez c1 d1 y1, pw_D_pr (fun X ok => pw_do_ok tB vk ok), ⟨hn, by omega, w3, (t.fr u1.wc).fr w2, _, r1.fr w1 (by decide) (by decide) (by decide)⟩, w4.pre u1.wr⟩⟩
theorem c95_4 {D E i e : Nat} {g5 : Value} (hD : 3 ≤ D) (hE : 5 ≤ E) (ho : o ≤ 6) (hn : n ≤ 150) (hp : p ≤ n) (hi : i ≤ p) (l : h 57 4 = nI i) (t : wTc z h) (kw : gx_is tx (gx_sk tx n p) (gx_lt tx n (gx_sk tx n p)) (gx_V 4)) (ez : gx_lt tx n (gx_sk tx n p) = e) (r : px_rd h tx n e (gx_sk tx n p) o 0 (-1)) : px_R px_E D mo_95 [] 73 [.ref 57, .ref 2, .ref 3, .int (nI z.2.1 - nI 1), .int (nI z.2.2.1 - nI 1), g5] [] h 0 (fun r => ∃ h', r = (.inl none, h', 0) ∧ wR z E tx n o p i h h') := by
  have el := gx_V_e (by decide) hp kw ez
  have tN := t.2.2
  have tB := t.1.2
  refine w_al (j := 74) rfl rfl rfl ?_
  refine w_ic (n := 0) (j := 75) rfl rfl ?_
  refine w_il (j := 76) rfl rfl rfl ?_
  refine w_cvPI (j := 77) rfl rfl rfl rfl (by first | assumption | rfl) rfl rfl (sp_64 (lo := 0) (by decide) (px_hiB (B := z.2.1) (by omega)) (by omega) r) (Nat.ble_eq.mpr (by omega)) ?_
  rintro v h1 ⟨v1, u1, r1⟩
  skip
  by_cases c1 : gx_nk tx n 0 z.2.1 e = 0
  rotate_left
  ·
    rw [if_neg c1, if_neg c1] at r1
    subst v1
    have rf : px_rf h1 tx n o (gx_nk tx n 0 z.2.1 e) (nI (gx_sk tx n e)) := ⟨c1, _, _, r1⟩
    refine w_iS (j := 78) rfl rfl rfl ?_
    refine w_al (j := 79) rfl rfl rfl ?_
    refine w_ic (n := 4) (j := 80) rfl rfl ?_
    refine w_iL (j := 81) rfl rfl rfl ?_
    refine w_al (j := 82) rfl rfl rfl ?_
    refine w_ic (n := 1) (j := 83) rfl rfl ?_
    refine w_bi (j := 84) (a := nI 30) rfl rfl (by decide) ?_
    refine w_cvPI (j := 85) rfl rfl rfl rfl (by first | assumption | rfl) rfl rfl (sp_64f (lo := 1) (H := 31) (by decide) (px_hiN (by omega)) (by omega) rf) (Nat.ble_eq.mpr (by omega)) ?_
    rintro v h2 ⟨u2, rf, q, q1, rfl⟩
    skip
    have F : wCF z h2 tx n o (gx_nk tx n 0 z.2.1 e) (gx_sk tx n e) := ⟨rf, ⟨i, by omega, by rw [((u1).tr u2) 57 (by decide)]; exact l⟩, t.fr ((u1).tr u2).wc⟩
    refine w_cvPU (j := 86) rfl rfl rfl rfl (by first | assumption | rfl) rfl rfl (sp_92f F) (Nat.ble_eq.mpr (by omega)) ?_
    rintro h9 ⟨w1, w2⟩
    refine w_go rfl ?_
    refine w_rt rfl ?_
    exact ⟨_, rfl, ((u1).tr u2).wc.tr w1, Or.inl ⟨_, _, wB_4a hE hn hp kw ez c1, w2⟩⟩
  rw [if_pos c1, if_pos c1] at r1
  have b1 := gx_nv41 c1
  have l1 := gx_ne_le (tx := tx) el.2
  rw [Nat.min_eq_left (by omega)] at v1
  subst v1
  generalize d1 : gx_ne tx n e = e1 at *
  generalize y1 : gx_nv tx n e = a at *
  refine w_iS (j := 78) rfl rfl rfl ?_
  refine w_al (j := 79) rfl rfl rfl ?_
  refine w_ic (n := 4) (j := 80) rfl rfl ?_
  refine w_iL (j := 81) rfl rfl rfl ?_
  refine w_al (j := 82) rfl rfl rfl ?_
  refine w_ic (n := 1) (j := 83) rfl rfl ?_
  refine w_bi (j := 84) (a := nI 30) rfl rfl (by decide) ?_
  refine w_cvPI (j := 85) rfl rfl rfl rfl (by first | assumption | rfl) rfl rfl (sp_64 (lo := 1) (H := 31) (by decide) (px_hiN (by omega)) (by omega) r1) (Nat.ble_eq.mpr (by omega)) ?_
  rintro v h2 ⟨v2, u2, r2⟩
  skip
  by_cases c2 : gx_nk tx n 1 31 e1 = 0
  rotate_left
  ·
    rw [if_neg c2, if_neg c2] at r2
    subst v2
    have rf : px_rf h2 tx n o (gx_nk tx n 1 31 e1) (nI (gx_sk tx n e1)) := ⟨c2, _, _, r2⟩
    have F : wCF z h2 tx n o (gx_nk tx n 1 31 e1) (gx_sk tx n e1) := ⟨rf, ⟨i, by omega, by rw [((u1).tr u2) 57 (by decide)]; exact l⟩, t.fr ((u1).tr u2).wc⟩
    refine w_cvPU (j := 86) rfl rfl rfl rfl (by first | assumption | rfl) rfl rfl (sp_92f F) (Nat.ble_eq.mpr (by omega)) ?_
    rintro h9 ⟨w1, w2⟩
    refine w_go rfl ?_
    refine w_rt rfl ?_
    exact ⟨_, rfl, ((u1).tr u2).wc.tr w1, Or.inl ⟨_, _, wB_4b hE hn hp kw ez c1 d1 c2, w2⟩⟩
  rw [if_pos c2, if_pos c2] at r2
  have b2 := gx_nv41 c2
  have l2 := gx_ne_le (tx := tx) l1.2
  rw [Nat.min_eq_left (by omega)] at v2
  subst v2
  generalize d2 : gx_ne tx n e1 = e2 at *
  generalize y2 : gx_nv tx n e1 = b at *
  have vk : pw_vk z.2.1 z.2.2.1 4 a b := ⟨by decide, fun q => by omega, fun q => by omega, fun _ => b1.2, fun q => ⟨b2.1, by omega⟩⟩
  refine w_cvPU (j := 86) rfl rfl rfl rfl (by first | assumption | rfl) rfl rfl (sp_92g (z := z) (i := i) (k := 4) (a := a) (b := b) (by omega) vk (by rw [((u1).tr u2) 57 (by decide)]; exact l)) (Nat.ble_eq.mpr (by omega)) ?_
  rintro h9 ⟨w1, w2, w3, w4⟩
  refine w_go rfl ?_
  refine w_rt rfl ?_
  exact ⟨_, rfl, ((u1).tr u2).wc.tr w2, Or.inr ⟨_, _, i + 1, wH_4 hE ho hn hp kw ez c1 d1 y1 c2 d2 y2, pw_D_pr (fun X ok => pw_do_ok tB vk ok), ⟨hn, by omega, w3, (t.fr ((u1).tr u2).wc).fr w2, _, r2.fr w1 (by decide) (by decide) (by decide)⟩, w4.pre ((u1).tr u2).wr⟩⟩
theorem c95_5 {D E i e : Nat} {g5 : Value} (hD : 3 ≤ D) (hE : 5 ≤ E) (ho : o ≤ 6) (hn : n ≤ 150) (hp : p ≤ n) (hi : i ≤ p) (l : h 57 4 = nI i) (t : wTc z h) (kw : gx_is tx (gx_sk tx n p) (gx_lt tx n (gx_sk tx n p)) (gx_V 5)) (ez : gx_lt tx n (gx_sk tx n p) = e) (r : px_rd h tx n e (gx_sk tx n p) o 0 (-1)) : px_R px_E D mo_95 [] 91 [.ref 57, .ref 2, .ref 3, .int (nI z.2.1 - nI 1), .int (nI z.2.2.1 - nI 1), g5] [] h 0 (fun r => ∃ h', r = (.inl none, h', 0) ∧ wR z E tx n o p i h h') := by
  have el := gx_V_e (by decide) hp kw ez
  have tN := t.2.2
  have tB := t.1.2
  refine w_al (j := 92) rfl rfl rfl ?_
  refine w_ic (n := 5) (j := 93) rfl rfl ?_
  refine w_al (j := 94) rfl rfl rfl ?_
  refine w_ic (n := 0) (j := 95) rfl rfl ?_
  refine w_il (j := 96) rfl rfl rfl ?_
  refine w_cvPI (j := 97) rfl rfl rfl rfl (by first | assumption | rfl) rfl rfl (sp_64 (lo := 0) (by decide) (px_hiB (B := z.2.1) (by omega)) (by omega) r) (Nat.ble_eq.mpr (by omega)) ?_
  rintro v h1 ⟨v1, u1, r1⟩
  skip
  by_cases c1 : gx_nk tx n 0 z.2.1 e = 0
  rotate_left
  ·
    rw [if_neg c1, if_neg c1] at r1
    subst v1
    have rf : px_rf h1 tx n o (gx_nk tx n 0 z.2.1 e) (nI (gx_sk tx n e)) := ⟨c1, _, _, r1⟩
    refine w_ic (n := 0) (j := 98) rfl rfl ?_
    have F : wCF z h1 tx n o (gx_nk tx n 0 z.2.1 e) (gx_sk tx n e) := ⟨rf, ⟨i, by omega, by rw [u1 57 (by decide)]; exact l⟩, t.fr u1.wc⟩
    refine w_cvPU (j := 99) rfl rfl rfl rfl (by first | assumption | rfl) rfl rfl (sp_92f F) (Nat.ble_eq.mpr (by omega)) ?_
    rintro h9 ⟨w1, w2⟩
    refine w_go rfl ?_
    refine w_rt rfl ?_
    exact ⟨_, rfl, u1.wc.tr w1, Or.inl ⟨_, _, wB_5a hE hn hp kw ez c1, w2⟩⟩
  rw [if_pos c1, if_pos c1] at r1
  have b1 := gx_nv41 c1
  have l1 := gx_ne_le (tx := tx) el.2
  rw [Nat.min_eq_left (by omega)] at v1
  subst v1
  generalize d1 : gx_ne tx n e = e1 at *
  generalize y1 : gx_nv tx n e = a at *
  refine w_ic (n := 0) (j := 98) rfl rfl ?_
  have vk : pw_vk z.2.1 z.2.2.1 5 a 0 := ⟨by decide, fun q => by omega, fun q => by omega, fun _ => b1.2, fun q => by omega⟩
  refine w_cvPU (j := 99) rfl rfl rfl rfl (by first | assumption | rfl) rfl rfl (sp_92g (z := z) (i := i) (k := 5) (a := a) (b := 0) (by omega) vk (by rw [u1 57 (by decide)]; exact l)) (Nat.ble_eq.mpr (by omega)) ?_
  rintro h9 ⟨w1, w2, w3, w4⟩
  refine w_go rfl ?_
  refine w_rt rfl ?_
  exact ⟨_, rfl, u1.wc.tr w2, Or.inr ⟨_, _, i + 1, wH_5 hE ho hn hp kw ez c1 d1 y1, pw_D_pr (fun X ok => pw_do_ok tB vk ok), ⟨hn, by omega, w3, (t.fr u1.wc).fr w2, _, r1.fr w1 (by decide) (by decide) (by decide)⟩, w4.pre u1.wr⟩⟩
theorem c95_6 {D E i e : Nat} {g5 : Value} (hD : 3 ≤ D) (hE : 5 ≤ E) (ho : o ≤ 6) (hn : n ≤ 150) (hp : p ≤ n) (hi : i ≤ p) (l : h 57 4 = nI i) (t : wTc z h) (kw : gx_is tx (gx_sk tx n p) (gx_lt tx n (gx_sk tx n p)) (gx_V 6)) (ez : gx_lt tx n (gx_sk tx n p) = e) (r : px_rd h tx n e (gx_sk tx n p) o 0 (-1)) : px_R px_E D mo_95 [] 104 [.ref 57, .ref 2, .ref 3, .int (nI z.2.1 - nI 1), .int (nI z.2.2.1 - nI 1), g5] [] h 0 (fun r => ∃ h', r = (.inl none, h', 0) ∧ wR z E tx n o p i h h') := by
  have el := gx_V_e (by decide) hp kw ez
  have tN := t.2.2
  have tB := t.1.2
  refine w_al (j := 105) rfl rfl rfl ?_
  refine w_bi (j := 106) (a := nI 6) rfl rfl (by decide) ?_
  refine w_ic (n := 0) (j := 107) rfl rfl ?_
  refine w_ic (n := 0) (j := 108) rfl rfl ?_
  have vk : pw_vk z.2.1 z.2.2.1 6 0 0 := ⟨by decide, fun q => by omega, fun q => by omega, fun q => by omega, fun q => by omega⟩
  refine w_cvPU (j := 109) rfl rfl rfl rfl (by first | assumption | rfl) rfl rfl (sp_92g (z := z) (i := i) (k := 6) (a := 0) (b := 0) (by omega) vk l) (Nat.ble_eq.mpr (by omega)) ?_
  rintro h9 ⟨w1, w2, w3, w4⟩
  refine w_go rfl ?_
  refine w_rt rfl ?_
  exact ⟨_, rfl, w2, Or.inr ⟨_, _, i + 1, wH_6 hE ho hn hp kw ez , pw_D_pr (fun X ok => pw_do_ok tB vk ok), ⟨hn, by omega, w3, t.fr w2, _, r.fr w1 (by decide) (by decide) (by decide)⟩, w4⟩⟩
end WC
