section WM
variable {z : we} {h : ix_H} {tx : Nat → Nat} {n p f o : Nat} {fp : Int32}
theorem gx_ne_le {s : Nat} (hs : s ≤ n) : s ≤ gx_ne tx n s ∧ gx_ne tx n s ≤ n := by
  have a := gx_sk_le (tx := tx) hs
  have b := gx_dg_le (tx := tx) a.2
  exact ⟨Nat.le_trans a.1 b.1, b.2⟩
theorem gx_V_len : ∀ k, k < 8 → 3 ≤ (gx_V k).length := by decide
theorem gx_V_e {k e : Nat} (hk : k < 8) (hp : p ≤ n) (kw : gx_is tx (gx_sk tx n p) (gx_lt tx n (gx_sk tx n p)) (gx_V k)) (ez : gx_lt tx n (gx_sk tx n p) = e) : p + 3 ≤ e ∧ e ≤ n := by
  have a := gx_sk_le (tx := tx) hp
  have b := gx_lt_le (tx := tx) a.2
  have c := gx_is_len kw (by have := gx_V_len k hk; omega)
  have d := gx_V_len k hk
  omega
theorem wN_pr {h0 : ix_H} {j k p' a b : Nat} {c1 c2 : Int32} (ho : o ≤ 6) (hn : n ≤ 150) (h3 : 3 * (j + 1) ≤ p') (hp : p' ≤ n) (F : wF j h0 h) (x : wI z h tx n o j k p' c1 c2) (e3 : h (497 + j) 3 = nI (j + 1)) (v : pw_vk z.2.1 z.2.2.1 k a b) (rw : pw_row k a b (h (497 + j))) : wN z tx n o j p' (pw_pr (wdo z k a b)) h0 h := by
  obtain ⟨x1, x2, x3, x4, x5, x6, x7⟩ := x
  refine ⟨j + 1, _, Nat.le_succ _, F, ⟨hn, h3, hp, x3, x4, p', hp, rfl, x2⟩, ⟨by omega, ?_⟩, ⟨rw, e3⟩, pw_mx_pr (by omega) v⟩
  rintro g g' e ⟨y1, y2⟩
  rw [e j (Nat.le_refl _) (Nat.lt_succ_self _)]
  exact ⟨y1, y2⟩
theorem wH_0 {D e e1 e2 a b : Nat} (hD : 5 ≤ D) (ho : o ≤ 6) (hn : n ≤ 150) (hp : p ≤ n) (kw : gx_is tx (gx_sk tx n p) (gx_lt tx n (gx_sk tx n p)) (gx_V 0)) (ez : gx_lt tx n (gx_sk tx n p) = e) (c1 : gx_nk tx n 0 z.2.1 e = 0) (q1 : gx_ne tx n e = e1) (v1 : gx_nv tx n e = a) (c2 : gx_nk tx n 0 z.2.2.1 e1 = 0) (q2 : gx_ne tx n e1 = e2) (v2 : gx_nv tx n e1 = b) : wH z D tx n o p e2 (pw_pr (wdo z 0 a b)) := by
  have el := gx_V_e (by decide) hp kw ez
  have l1 := gx_ne_le (tx := tx) el.2
  have b1 := gx_nv41 c1
  rw [q1] at l1
  rw [v1] at b1
  have l2 := gx_ne_le (tx := tx) l1.2
  have b2 := gx_nv41 c2
  rw [q2] at l2
  rw [v2] at b2
  refine ⟨⟨by omega, by omega⟩, fun h j Q S H => ?_⟩
  have S2 := S.2.1
  refine mw_40 hD (by decide) S kw (by omega) ez (fun h1 w1 w2 F1 I1 => ?_)
  refine mA_do (by omega) (by decide) I1 c1 (fun h2 F2 I2 => ?_)
  rw [q1, v1] at I2
  refine mB_do (by omega) (by decide) I2 c2 (fun h3 F3 I3 => ?_)
  rw [q2, v2] at I3
  refine mC_skip (by decide) ?_
  refine mD (by decide) I3 (fun h9 F9 I9 e9 => H h9 _ _ (wN_pr ho hn (by omega) (by omega) (((F1.tr F2 (Nat.le_refl _)).tr F3 (Nat.le_refl _)).tr F9 (Nat.le_refl _)) I9 e9 ⟨by decide, fun z => ?_, fun z => ?_, fun z => ?_, fun z => ?_⟩ ⟨I9.2.2.2.2.1, fun z => ?_, fun z => ?_, fun z => ?_, fun z => ?_⟩))
  · exact ⟨b1.2, b2.2⟩
  · omega
  · omega
  · omega
  · exact ⟨I9.2.2.2.2.2.1, I9.2.2.2.2.2.2⟩
  · omega
  · omega
  · omega
theorem wB_0a {D e : Nat} (hD : 5 ≤ D) (hn : n ≤ 150) (hp : p ≤ n) (kw : gx_is tx (gx_sk tx n p) (gx_lt tx n (gx_sk tx n p)) (gx_V 0)) (ez : gx_lt tx n (gx_sk tx n p) = e) (c1 : gx_nk tx n 0 z.2.1 e ≠ 0) : wB z (D + 1) tx n o p (gx_nk tx n 0 z.2.1 e) (gx_sk tx n e) := by
  have el := gx_V_e (by decide) hp kw ez
  refine wB_open (fun h j S => ?_)
  have S2 := S.2.1
  refine mw_40 hD (by decide) S kw (by omega) ez (fun h1 w1 w2 F1 I1 => ?_)
  exact px_mono (mA_bad (by omega) (by decide) I1 c1) (fun r q => mw_fr F1 q)
theorem wB_0b {D e e1 : Nat} (hD : 5 ≤ D) (hn : n ≤ 150) (hp : p ≤ n) (kw : gx_is tx (gx_sk tx n p) (gx_lt tx n (gx_sk tx n p)) (gx_V 0)) (ez : gx_lt tx n (gx_sk tx n p) = e) (c1 : gx_nk tx n 0 z.2.1 e = 0) (q1 : gx_ne tx n e = e1) (c2 : gx_nk tx n 0 z.2.2.1 e1 ≠ 0) : wB z (D + 1) tx n o p (gx_nk tx n 0 z.2.2.1 e1) (gx_sk tx n e1) := by
  have el := gx_V_e (by decide) hp kw ez
  refine wB_open (fun h j S => ?_)
  have S2 := S.2.1
  refine mw_40 hD (by decide) S kw (by omega) ez (fun h1 w1 w2 F1 I1 => ?_)
  refine mA_do (by omega) (by decide) I1 c1 (fun h2 F2 I2 => ?_)
  rw [q1] at I2
  exact px_mono (mB_bad (by omega) (by decide) I2 c2) (fun r q => mw_fr (F1.tr F2 (Nat.le_refl _)) q)
theorem wH_1 {D e e1 a : Nat} (hD : 5 ≤ D) (ho : o ≤ 6) (hn : n ≤ 150) (hp : p ≤ n) (kw : gx_is tx (gx_sk tx n p) (gx_lt tx n (gx_sk tx n p)) (gx_V 1)) (ez : gx_lt tx n (gx_sk tx n p) = e) (c1 : gx_nk tx n 0 z.2.2.1 e = 0) (q1 : gx_ne tx n e = e1) (v1 : gx_nv tx n e = a) : wH z D tx n o p e1 (pw_pr (wdo z 1 a 0)) := by
  have el := gx_V_e (by decide) hp kw ez
  have l1 := gx_ne_le (tx := tx) el.2
  have b1 := gx_nv41 c1
  rw [q1] at l1
  rw [v1] at b1
  refine ⟨⟨by omega, by omega⟩, fun h j Q S H => ?_⟩
  have S2 := S.2.1
  refine mw_40 hD (by decide) S kw (by omega) ez (fun h1 w1 w2 F1 I1 => ?_)
  refine mA_skip (by decide) ?_
  refine mB_do (by omega) (by decide) I1 c1 (fun h2 F2 I2 => ?_)
  rw [q1, v1] at I2
  refine mC_skip (by decide) ?_
  refine mD (by decide) I2 (fun h9 F9 I9 e9 => H h9 _ _ (wN_pr ho hn (by omega) (by omega) ((F1.tr F2 (Nat.le_refl _)).tr F9 (Nat.le_refl _)) I9 e9 ⟨by decide, fun z => ?_, fun z => ?_, fun z => ?_, fun z => ?_⟩ ⟨I9.2.2.2.2.1, fun z => ?_, fun z => ?_, fun z => ?_, fun z => ?_⟩))
  · omega
  · exact b1.2
  · omega
  · omega
  · omega
  · exact I9.2.2.2.2.2.2
  · omega
  · omega
theorem wB_1a {D e : Nat} (hD : 5 ≤ D) (hn : n ≤ 150) (hp : p ≤ n) (kw : gx_is tx (gx_sk tx n p) (gx_lt tx n (gx_sk tx n p)) (gx_V 1)) (ez : gx_lt tx n (gx_sk tx n p) = e) (c1 : gx_nk tx n 0 z.2.2.1 e ≠ 0) : wB z (D + 1) tx n o p (gx_nk tx n 0 z.2.2.1 e) (gx_sk tx n e) := by
  have el := gx_V_e (by decide) hp kw ez
  refine wB_open (fun h j S => ?_)
  have S2 := S.2.1
  refine mw_40 hD (by decide) S kw (by omega) ez (fun h1 w1 w2 F1 I1 => ?_)
  refine mA_skip (by decide) ?_
  exact px_mono (mB_bad (by omega) (by decide) I1 c1) (fun r q => mw_fr F1 q)
theorem wH_2 {D e e1 a : Nat} (hD : 5 ≤ D) (ho : o ≤ 6) (hn : n ≤ 150) (hp : p ≤ n) (kw : gx_is tx (gx_sk tx n p) (gx_lt tx n (gx_sk tx n p)) (gx_V 2)) (ez : gx_lt tx n (gx_sk tx n p) = e) (c1 : gx_nk tx n 0 z.2.2.1 e = 0) (q1 : gx_ne tx n e = e1) (v1 : gx_nv tx n e = a) : wH z D tx n o p e1 (pw_pr (wdo z 2 a 0)) := by
  have el := gx_V_e (by decide) hp kw ez
  have l1 := gx_ne_le (tx := tx) el.2
  have b1 := gx_nv41 c1
  rw [q1] at l1
  rw [v1] at b1
  refine ⟨⟨by omega, by omega⟩, fun h j Q S H => ?_⟩
  have S2 := S.2.1
  refine mw_40 hD (by decide) S kw (by omega) ez (fun h1 w1 w2 F1 I1 => ?_)
  refine mA_skip (by decide) ?_
  refine mB_do (by omega) (by decide) I1 c1 (fun h2 F2 I2 => ?_)
  rw [q1, v1] at I2
  refine mC_skip (by decide) ?_
  refine mD (by decide) I2 (fun h9 F9 I9 e9 => H h9 _ _ (wN_pr ho hn (by omega) (by omega) ((F1.tr F2 (Nat.le_refl _)).tr F9 (Nat.le_refl _)) I9 e9 ⟨by decide, fun z => ?_, fun z => ?_, fun z => ?_, fun z => ?_⟩ ⟨I9.2.2.2.2.1, fun z => ?_, fun z => ?_, fun z => ?_, fun z => ?_⟩))
  · omega
  · exact b1.2
  · omega
  · omega
  · omega
  · exact I9.2.2.2.2.2.2
  · omega
  · omega
theorem wB_2a {D e : Nat} (hD : 5 ≤ D) (hn : n ≤ 150) (hp : p ≤ n) (kw : gx_is tx (gx_sk tx n p) (gx_lt tx n (gx_sk tx n p)) (gx_V 2)) (ez : gx_lt tx n (gx_sk tx n p) = e) (c1 : gx_nk tx n 0 z.2.2.1 e ≠ 0) : wB z (D + 1) tx n o p (gx_nk tx n 0 z.2.2.1 e) (gx_sk tx n e) := by
  have el := gx_V_e (by decide) hp kw ez
  refine wB_open (fun h j S => ?_)
  have S2 := S.2.1
  refine mw_40 hD (by decide) S kw (by omega) ez (fun h1 w1 w2 F1 I1 => ?_)
  refine mA_skip (by decide) ?_
  exact px_mono (mB_bad (by omega) (by decide) I1 c1) (fun r q => mw_fr F1 q)
theorem wH_3 {D e e1 a : Nat} (hD : 5 ≤ D) (ho : o ≤ 6) (hn : n ≤ 150) (hp : p ≤ n) (kw : gx_is tx (gx_sk tx n p) (gx_lt tx n (gx_sk tx n p)) (gx_V 3)) (ez : gx_lt tx n (gx_sk tx n p) = e) (c1 : gx_nk tx n 0 z.2.1 e = 0) (q1 : gx_ne tx n e = e1) (v1 : gx_nv tx n e = a) : wH z D tx n o p e1 (pw_pr (wdo z 3 a 0)) := by
  have el := gx_V_e (by decide) hp kw ez
  have l1 := gx_ne_le (tx := tx) el.2
  have b1 := gx_nv41 c1
  rw [q1] at l1
  rw [v1] at b1
  refine ⟨⟨by omega, by omega⟩, fun h j Q S H => ?_⟩
  have S2 := S.2.1
  refine mw_40 hD (by decide) S kw (by omega) ez (fun h1 w1 w2 F1 I1 => ?_)
  refine mA_do (by omega) (by decide) I1 c1 (fun h2 F2 I2 => ?_)
  rw [q1, v1] at I2
  refine mB_skip (by decide) ?_
  refine mC_skip (by decide) ?_
  refine mD (by decide) I2 (fun h9 F9 I9 e9 => H h9 _ _ (wN_pr ho hn (by omega) (by omega) ((F1.tr F2 (Nat.le_refl _)).tr F9 (Nat.le_refl _)) I9 e9 ⟨by decide, fun z => ?_, fun z => ?_, fun z => ?_, fun z => ?_⟩ ⟨I9.2.2.2.2.1, fun z => ?_, fun z => ?_, fun z => ?_, fun z => ?_⟩))
  · omega
  · omega
  · exact b1.2
  · omega
  · omega
  · omega
  · exact I9.2.2.2.2.2.1
  · omega
theorem wB_3a {D e : Nat} (hD : 5 ≤ D) (hn : n ≤ 150) (hp : p ≤ n) (kw : gx_is tx (gx_sk tx n p) (gx_lt tx n (gx_sk tx n p)) (gx_V 3)) (ez : gx_lt tx n (gx_sk tx n p) = e) (c1 : gx_nk tx n 0 z.2.1 e ≠ 0) : wB z (D + 1) tx n o p (gx_nk tx n 0 z.2.1 e) (gx_sk tx n e) := by
  have el := gx_V_e (by decide) hp kw ez
  refine wB_open (fun h j S => ?_)
  have S2 := S.2.1
  refine mw_40 hD (by decide) S kw (by omega) ez (fun h1 w1 w2 F1 I1 => ?_)
  exact px_mono (mA_bad (by omega) (by decide) I1 c1) (fun r q => mw_fr F1 q)
theorem wH_4 {D e e1 e2 a b : Nat} (hD : 5 ≤ D) (ho : o ≤ 6) (hn : n ≤ 150) (hp : p ≤ n) (kw : gx_is tx (gx_sk tx n p) (gx_lt tx n (gx_sk tx n p)) (gx_V 4)) (ez : gx_lt tx n (gx_sk tx n p) = e) (c1 : gx_nk tx n 0 z.2.1 e = 0) (q1 : gx_ne tx n e = e1) (v1 : gx_nv tx n e = a) (c2 : gx_nk tx n 1 31 e1 = 0) (q2 : gx_ne tx n e1 = e2) (v2 : gx_nv tx n e1 = b) : wH z D tx n o p e2 (pw_pr (wdo z 4 a b)) := by
  have el := gx_V_e (by decide) hp kw ez
  have l1 := gx_ne_le (tx := tx) el.2
  have b1 := gx_nv41 c1
  rw [q1] at l1
  rw [v1] at b1
  have l2 := gx_ne_le (tx := tx) l1.2
  have b2 := gx_nv41 c2
  rw [q2] at l2
  rw [v2] at b2
  refine ⟨⟨by omega, by omega⟩, fun h j Q S H => ?_⟩
  have S2 := S.2.1
  refine mw_40 hD (by decide) S kw (by omega) ez (fun h1 w1 w2 F1 I1 => ?_)
  refine mA_do (by omega) (by decide) I1 c1 (fun h2 F2 I2 => ?_)
  rw [q1, v1] at I2
  refine mB_skip (by decide) ?_
  refine mC_do (by omega) I2 c2 (fun h3 F3 I3 => ?_)
  rw [q2, v2] at I3
  refine mD (by decide) I3 (fun h9 F9 I9 e9 => H h9 _ _ (wN_pr ho hn (by omega) (by omega) (((F1.tr F2 (Nat.le_refl _)).tr F3 (Nat.le_refl _)).tr F9 (Nat.le_refl _)) I9 e9 ⟨by decide, fun z => ?_, fun z => ?_, fun z => ?_, fun z => ?_⟩ ⟨I9.2.2.2.2.1, fun z => ?_, fun z => ?_, fun z => ?_, fun z => ?_⟩))
  · omega
  · omega
  · exact b1.2
  · exact ⟨b2.1, by omega⟩
  · omega
  · omega
  · omega
  · exact ⟨I9.2.2.2.2.2.1, I9.2.2.2.2.2.2⟩
theorem wB_4a {D e : Nat} (hD : 5 ≤ D) (hn : n ≤ 150) (hp : p ≤ n) (kw : gx_is tx (gx_sk tx n p) (gx_lt tx n (gx_sk tx n p)) (gx_V 4)) (ez : gx_lt tx n (gx_sk tx n p) = e) (c1 : gx_nk tx n 0 z.2.1 e ≠ 0) : wB z (D + 1) tx n o p (gx_nk tx n 0 z.2.1 e) (gx_sk tx n e) := by
  have el := gx_V_e (by decide) hp kw ez
  refine wB_open (fun h j S => ?_)
  have S2 := S.2.1
  refine mw_40 hD (by decide) S kw (by omega) ez (fun h1 w1 w2 F1 I1 => ?_)
  exact px_mono (mA_bad (by omega) (by decide) I1 c1) (fun r q => mw_fr F1 q)
theorem wB_4b {D e e1 : Nat} (hD : 5 ≤ D) (hn : n ≤ 150) (hp : p ≤ n) (kw : gx_is tx (gx_sk tx n p) (gx_lt tx n (gx_sk tx n p)) (gx_V 4)) (ez : gx_lt tx n (gx_sk tx n p) = e) (c1 : gx_nk tx n 0 z.2.1 e = 0) (q1 : gx_ne tx n e = e1) (c2 : gx_nk tx n 1 31 e1 ≠ 0) : wB z (D + 1) tx n o p (gx_nk tx n 1 31 e1) (gx_sk tx n e1) := by
  have el := gx_V_e (by decide) hp kw ez
  refine wB_open (fun h j S => ?_)
  have S2 := S.2.1
  refine mw_40 hD (by decide) S kw (by omega) ez (fun h1 w1 w2 F1 I1 => ?_)
  refine mA_do (by omega) (by decide) I1 c1 (fun h2 F2 I2 => ?_)
  rw [q1] at I2
  refine mB_skip (by decide) ?_
  exact px_mono (mC_bad (by omega) I2 c2) (fun r q => mw_fr (F1.tr F2 (Nat.le_refl _)) q)
theorem wH_5 {D e e1 a : Nat} (hD : 5 ≤ D) (ho : o ≤ 6) (hn : n ≤ 150) (hp : p ≤ n) (kw : gx_is tx (gx_sk tx n p) (gx_lt tx n (gx_sk tx n p)) (gx_V 5)) (ez : gx_lt tx n (gx_sk tx n p) = e) (c1 : gx_nk tx n 0 z.2.1 e = 0) (q1 : gx_ne tx n e = e1) (v1 : gx_nv tx n e = a) : wH z D tx n o p e1 (pw_pr (wdo z 5 a 0)) := by
  have el := gx_V_e (by decide) hp kw ez
  have l1 := gx_ne_le (tx := tx) el.2
  have b1 := gx_nv41 c1
  rw [q1] at l1
  rw [v1] at b1
  refine ⟨⟨by omega, by omega⟩, fun h j Q S H => ?_⟩
  have S2 := S.2.1
  refine mw_40 hD (by decide) S kw (by omega) ez (fun h1 w1 w2 F1 I1 => ?_)
  refine mA_do (by omega) (by decide) I1 c1 (fun h2 F2 I2 => ?_)
  rw [q1, v1] at I2
  refine mB_skip (by decide) ?_
  refine mC_skip (by decide) ?_
  refine mD (by decide) I2 (fun h9 F9 I9 e9 => H h9 _ _ (wN_pr ho hn (by omega) (by omega) ((F1.tr F2 (Nat.le_refl _)).tr F9 (Nat.le_refl _)) I9 e9 ⟨by decide, fun z => ?_, fun z => ?_, fun z => ?_, fun z => ?_⟩ ⟨I9.2.2.2.2.1, fun z => ?_, fun z => ?_, fun z => ?_, fun z => ?_⟩))
  · omega
  · omega
  · exact b1.2
  · omega
  · omega
  · omega
  · exact I9.2.2.2.2.2.1
  · omega
theorem wB_5a {D e : Nat} (hD : 5 ≤ D) (hn : n ≤ 150) (hp : p ≤ n) (kw : gx_is tx (gx_sk tx n p) (gx_lt tx n (gx_sk tx n p)) (gx_V 5)) (ez : gx_lt tx n (gx_sk tx n p) = e) (c1 : gx_nk tx n 0 z.2.1 e ≠ 0) : wB z (D + 1) tx n o p (gx_nk tx n 0 z.2.1 e) (gx_sk tx n e) := by
  have el := gx_V_e (by decide) hp kw ez
  refine wB_open (fun h j S => ?_)
  have S2 := S.2.1
  refine mw_40 hD (by decide) S kw (by omega) ez (fun h1 w1 w2 F1 I1 => ?_)
  exact px_mono (mA_bad (by omega) (by decide) I1 c1) (fun r q => mw_fr F1 q)
theorem wH_6 {D e : Nat} (hD : 5 ≤ D) (ho : o ≤ 6) (hn : n ≤ 150) (hp : p ≤ n) (kw : gx_is tx (gx_sk tx n p) (gx_lt tx n (gx_sk tx n p)) (gx_V 6)) (ez : gx_lt tx n (gx_sk tx n p) = e) : wH z D tx n o p e (pw_pr (wdo z 6 0 0)) := by
  have el := gx_V_e (by decide) hp kw ez
  refine ⟨⟨by omega, by omega⟩, fun h j Q S H => ?_⟩
  have S2 := S.2.1
  refine mw_40 hD (by decide) S kw (by omega) ez (fun h1 w1 w2 F1 I1 => ?_)
  refine mA_skip (by decide) ?_
  refine mB_skip (by decide) ?_
  refine mC_skip (by decide) ?_
  refine mD (by decide) I1 (fun h9 F9 I9 e9 => H h9 _ _ (wN_pr ho hn (by omega) (by omega) (F1.tr F9 (Nat.le_refl _)) I9 e9 ⟨by decide, fun z => ?_, fun z => ?_, fun z => ?_, fun z => ?_⟩ ⟨I9.2.2.2.2.1, fun z => ?_, fun z => ?_, fun z => ?_, fun z => ?_⟩))
  · omega
  · omega
  · omega
  · omega
  · omega
  · omega
  · omega
  · omega
end WM
