section OP
variable {h : ix_H} {B N T L W I t : Nat} {cs : List (Nat × Nat)}
theorem C_century2 {sd a b c w : Int32} (hI : px_I h B N T cs L W I t) : px_CO 9 139 [.ref 0, .int sd, .int a, .int b, .int c, .int w] h (fun v h1 => ∃ y m, y ≤ 96 ∧ m ≤ 3 ∧ a = nI y ∧ w = nI m ∧ pf_ok3 a b c ∧ v = pf_ctr (pf_cen h cs B N sd b c y) N m ∧ px_kp h h1) (fun x h1 => x = 0 ∧ ¬ (pf_ok3 a b c ∧ nI 0 ≤ w ∧ w ≤ nI 3) ∧ h1 = px_hX 0 h) := by
  have hI' := hI
  refine px_M (M := mt_139) (ops := mo_139) tb_139 rfl rfl rfl rfl rfl ?_
  refine w_al (j := 1) rfl rfl rfl ?_
  refine w_il (j := 2) rfl rfl rfl ?_
  refine w_il (j := 3) rfl rfl rfl ?_
  refine w_iL (j := 4) rfl rfl rfl ?_
  refine w_chk (j := 5) rfl rfl rfl rfl (by first | assumption | rfl) rfl rfl (sp_141) rfl (fun c1 => ?_) (fun c1 => ?_)
  · exact Or.inr ⟨_, _, rfl, rfl, fun q => c1 q.1, rfl⟩
  refine w_al (j := 6) rfl rfl rfl ?_
  refine w_iL (j := 7) rfl rfl rfl ?_
  refine w_ic (n := 0) (j := 8) rfl rfl ?_
  refine w_ic (n := 3) (j := 9) rfl rfl ?_
  refine w_chk (j := 10) rfl rfl rfl rfl (by first | assumption | rfl) rfl rfl (sp_147) rfl (fun c2 => ?_) (fun c2 => ?_)
  · exact Or.inr ⟨_, _, rfl, rfl, fun q => c2 q.2, rfl⟩
  obtain ⟨m, hm, rfl⟩ := px_bnd2 (by decide) c2
  obtain ⟨y, hy1, hy2, rfl⟩ := px_bndl (by decide) (by decide) c1.1
  refine w_al (j := 11) rfl rfl rfl ?_
  first | refine w_gr (j := 12) rfl rfl (by first | assumption | rfl) (by first | assumption | rfl) rfl ?_ | refine w_gi (j := 12) rfl rfl (by first | assumption | rfl) (by first | assumption | rfl) rfl rfl ?_
  refine w_al (j := 13) rfl rfl rfl ?_
  first | refine w_gr (j := 14) rfl rfl (by first | assumption | rfl) (by first | assumption | rfl) rfl ?_ | refine w_gi (j := 14) rfl rfl (by first | assumption | rfl) (by first | assumption | rfl) rfl rfl ?_
  refine w_cvPU (j := 15) rfl rfl rfl rfl (by first | assumption | rfl) rfl rfl (px_tr0 (cs := cs) (N := N)) rfl ?_
  rintro h1 R
  refine w_al (j := 16) rfl rfl rfl ?_
  first | refine w_gr (j := 17) rfl rfl (by first | assumption | rfl) (by first | assumption | rfl) rfl ?_ | refine w_gi (j := 17) rfl rfl (by first | assumption | rfl) (by first | assumption | rfl) rfl rfl ?_
  refine w_al (j := 18) rfl rfl rfl ?_
  first | refine w_gr (j := 19) rfl rfl (by first | assumption | rfl) (by first | assumption | rfl) rfl ?_ | refine w_gi (j := 19) rfl rfl (by first | assumption | rfl) (by first | assumption | rfl) rfl rfl ?_
  refine w_il (j := 20) rfl rfl rfl ?_
  refine w_il (j := 21) rfl rfl rfl ?_
  refine w_il (j := 22) rfl rfl rfl ?_
  refine w_iL (j := 23) rfl rfl rfl ?_
  refine w_cvPU (j := 24) rfl rfl rfl rfl (by first | assumption | rfl) rfl rfl (sp_0 hI (by omega) (px_trk R) R.2) rfl ?_
  rintro h2 R2
  have I2 := hI.kp R2.1
  have ok := pf_cenO (sd := sd) (q := b) (m := c) hI y
  obtain ⟨⟨l1, l2, l3, l4, l5, l6, l7, l8, l9⟩, lw, -, nw, -⟩ := I2
  refine w_iL (j := 25) rfl rfl rfl ?_
  obtain rfl | rfl | rfl | rfl : m = 0 ∨ m = 1 ∨ m = 2 ∨ m = 3 := by omega
  ·
    refine w_swN (t := 26) rfl (by decide) (by omega) rfl ?_
    refine w_al (j := 27) rfl rfl rfl ?_
    first | refine w_gr (j := 28) rfl rfl (by first | assumption | rfl) (by first | assumption | rfl) rfl ?_ | refine w_gi (j := 28) rfl rfl (by first | assumption | rfl) (by first | assumption | rfl) rfl rfl ?_
    refine w_cvI (j := 29) rfl rfl rfl rfl (by first | assumption | rfl) rfl rfl (sp_82 px_St68 l4 l6 (fun c hc => by rw [R2.2.2.2.2.1 c (by omega)]; exact ok.1 c (by omega))) rfl ?_
    refine w_ir rfl ?_
    exact Or.inl ⟨_, _, rfl, y, 0, hy2, hm, rfl, rfl, c1, pf_sum_congr (fun c hc => R2.2.2.2.2.1 c (by omega)), R2.1⟩
  ·
    refine w_swN (t := 30) rfl (by decide) (by omega) rfl ?_
    refine w_al (j := 31) rfl rfl rfl ?_
    first | refine w_gr (j := 32) rfl rfl (by first | assumption | rfl) (by first | assumption | rfl) rfl ?_ | refine w_gi (j := 32) rfl rfl (by first | assumption | rfl) (by first | assumption | rfl) rfl rfl ?_
    refine w_cvI (j := 33) rfl rfl rfl rfl (by first | assumption | rfl) rfl rfl (sp_80 px_St68 l4 l6) rfl ?_
    refine w_ir rfl ?_
    exact Or.inl ⟨_, _, rfl, y, 1, hy2, hm, rfl, rfl, c1, pf_fb_congr (fun c hc => by rw [R2.2.2.2.2.1 c (by omega)]), R2.1⟩
  ·
    refine w_swN (t := 34) rfl (by decide) (by omega) rfl ?_
    refine w_al (j := 35) rfl rfl rfl ?_
    first | refine w_gr (j := 36) rfl rfl (by first | assumption | rfl) (by first | assumption | rfl) rfl ?_ | refine w_gi (j := 36) rfl rfl (by first | assumption | rfl) (by first | assumption | rfl) rfl rfl ?_
    first | refine w_gr (j := 37) rfl rfl (by first | assumption | rfl) (by first | assumption | rfl) rfl ?_ | refine w_gi (j := 37) rfl rfl (by first | assumption | rfl) (by first | assumption | rfl) rfl rfl ?_
    refine w_ir rfl ?_
    exact Or.inl ⟨_, _, rfl, y, 2, hy2, hm, rfl, rfl, c1, R2.2.2.1, R2.1⟩
  ·
    refine w_swN (t := 38) rfl (by decide) (by omega) rfl ?_
    refine w_al (j := 39) rfl rfl rfl ?_
    first | refine w_gr (j := 40) rfl rfl (by first | assumption | rfl) (by first | assumption | rfl) rfl ?_ | refine w_gi (j := 40) rfl rfl (by first | assumption | rfl) (by first | assumption | rfl) rfl rfl ?_
    first | refine w_gr (j := 41) rfl rfl (by first | assumption | rfl) (by first | assumption | rfl) rfl ?_ | refine w_gi (j := 41) rfl rfl (by first | assumption | rfl) (by first | assumption | rfl) rfl rfl ?_
    refine w_ir rfl ?_
    exact Or.inl ⟨_, _, rfl, y, 3, hy2, hm, rfl, rfl, c1, R2.2.2.2.1, R2.1⟩
theorem pf_ear_u2 {z z' : Nat} (hB : B ≤ 6) (h1 : pf_ear h B z) (h2 : pf_ear h B z') : z = z' := by
  obtain ⟨a1, a2, a3⟩ := h1
  obtain ⟨b1, b2, b3⟩ := h2
  have hp := px_pw (N := B) (by omega)
  have mx : ∀ y, y < 2 ^ B → pf_key (2 ^ B - 1) ≤ pf_key y → y = 2 ^ B - 1 := fun y hy hk => by
    unfold pf_key at hk
    exact pf_on_all B hB y hy (by omega)
  rcases a2 with a2 | a2
  · rcases b2 with b2 | b2
    · rw [a2, b2]
    · have := a3 z' b1 b2
      rw [a2] at this
      rw [a2, mx z' b1 this]
  · rcases b2 with b2 | b2
    · have := b3 z a1 a2
      rw [b2] at this
      rw [b2, mx z a1 this]
    · have k1 := a3 z' b1 b2
      have k2 := b3 z a1 a2
      unfold pf_key at k1 k2
      omega
theorem pf_ear_kp {h h' : ix_H} {z : Nat} (hB : B ≤ 6) (k : px_kp h h') (x : pf_ear h' B z) : pf_ear h B z := by
  have e : ∀ y, pf_hr h' B y = pf_hr h B y := by
    intro y
    refine px_fold_congr B _ (fun b s hb => ?_)
    unfold pf_hb
    dsimp only
    rw [k.1 (9 + b) (pf_pers_i (by omega))]
  unfold pf_ear pf_gd at x ⊢
  rw [e] at x
  exact ⟨x.1, x.2.1, fun y hy hg => x.2.2 y hy (by rw [e]; exact hg)⟩
end OP
section PP
variable {f h : ix_H}
theorem Q_told {w : Int32} (hJ : px_J f h) : px_CO 40 113 [.ref 0, .int w] h (fun v h1 => px_PI 40 211 [.ref 100, .int w] h1 (fun v2 h2 => v = v2 ∧ h2 100 0 = nI 0 ∧ px_J f h2)) (fun x h1 => x = 0 ∧ px_PI 40 211 [.ref 100, .int w] h1 (fun v2 h2 => h2 100 0 = nI 1 ∧ px_J f h2)) := by
  have hJ' := hJ
  obtain ⟨hf, B, N, T, cs, L, W, I, t, hI⟩ := hJ
  have B6 : B ≤ 6 := hI.1.2.2.1
  have N8 : N ≤ 8 := hI.1.2.2.2.2.2.1
  refine px_COi (px_lift (C_told hI) rfl) (fun v h1 q => ?_) (fun x h1 q => ?_)
  · obtain ⟨m, hm, rfl, rfl, k⟩ := q
    refine px_PIi (px_lift (M_told (hI.kp k) hm) rfl) (fun v2 h2 q => ?_)
    obtain ⟨q1, q2, q3⟩ := q
    exact ⟨by rw [q1, pf_told_kp k], q2, px_Jk hJ' (k.tr q3)⟩
  · obtain ⟨rfl, ok, rfl⟩ := q
    exact ⟨rfl, px_PIi (px_lift (MX_told ok) rfl) (fun v2 h2 q => ⟨q.1, px_Jx (x := 0) (by decide) hJ' q.2⟩)⟩
theorem Q_bay {a w : Int32} (hJ : px_J f h) : px_CO 40 114 [.ref 0, .int a, .int w] h (fun v h1 => px_PI 40 216 [.ref 100, .int a, .int w] h1 (fun v2 h2 => v = v2 ∧ h2 100 0 = nI 0 ∧ px_J f h2)) (fun x h1 => (x = 1 ∨ x = 0) ∧ px_PI 40 216 [.ref 100, .int a, .int w] h1 (fun v2 h2 => h2 100 0 = nI (2 - x) ∧ px_J f h2)) := by
  have hJ' := hJ
  obtain ⟨hf, B, N, T, cs, L, W, I, t, hI⟩ := hJ
  have B6 : B ≤ 6 := hI.1.2.2.1
  have N8 : N ≤ 8 := hI.1.2.2.2.2.2.1
  refine px_COi (px_lift (C_bay hI) rfl) (fun v h1 q => ?_) (fun x h1 q => ?_)
  · obtain ⟨b, m, hb, hm, rfl, rfl, rfl, k⟩ := q
    refine px_PIi (px_lift (M_bay (hI.kp k) hb hm) rfl) (fun v2 h2 q => ?_)
    obtain ⟨q1, q2, q3⟩ := q
    exact ⟨by rw [q1, pf_bay_kp (by omega) k], q2, px_Jk hJ' (k.tr q3)⟩
  · rcases q with ⟨rfl, hw, rfl⟩ | ⟨rfl, ha, hw, rfl⟩
    · exact ⟨Or.inl rfl, px_PIi (px_lift (MXE_bay hI.1.2.1 hI.1.2.2.1 hw) rfl) (fun v2 h2 q => ⟨q.1, px_Jx (x := 1) (by decide) hJ' q.2⟩)⟩
    · exact ⟨Or.inr rfl, px_PIi (px_lift (MXA_bay hI.1.2.1 hI.1.2.2.1 ha hw) rfl) (fun v2 h2 q => ⟨q.1, px_Jx (x := 0) (by decide) hJ' q.2⟩)⟩
theorem Q_cry {a w : Int32} (hJ : px_J f h) : px_CO 40 115 [.ref 0, .int a, .int w] h (fun v h1 => px_PI 40 217 [.ref 100, .int a, .int w] h1 (fun v2 h2 => v = v2 ∧ h2 100 0 = nI 0 ∧ px_J f h2)) (fun x h1 => (x = 1 ∨ x = 0) ∧ px_PI 40 217 [.ref 100, .int a, .int w] h1 (fun v2 h2 => h2 100 0 = nI (2 - x) ∧ px_J f h2)) := by
  have hJ' := hJ
  obtain ⟨hf, B, N, T, cs, L, W, I, t, hI⟩ := hJ
  have B6 : B ≤ 6 := hI.1.2.2.1
  have N8 : N ≤ 8 := hI.1.2.2.2.2.2.1
  refine px_COi (px_lift (C_cry hI) rfl) (fun v h1 q => ?_) (fun x h1 q => ?_)
  · obtain ⟨b, m, hb, hm, rfl, rfl, rfl, k⟩ := q
    refine px_PIi (px_lift (M_cry (hI.kp k) hb hm) rfl) (fun v2 h2 q => ?_)
    obtain ⟨q1, q2, q3⟩ := q
    exact ⟨by rw [q1, pf_cry_kp k], q2, px_Jk hJ' (k.tr q3)⟩
  · rcases q with ⟨rfl, hw, rfl⟩ | ⟨rfl, ha, hw, rfl⟩
    · exact ⟨Or.inl rfl, px_PIi (px_lift (MXE_cry hI.1.2.2.2.2.1 hI.1.2.2.2.2.2.1 hw) rfl) (fun v2 h2 q => ⟨q.1, px_Jx (x := 1) (by decide) hJ' q.2⟩)⟩
    · exact ⟨Or.inr rfl, px_PIi (px_lift (MXA_cry hI.1.2.2.2.2.1 hI.1.2.2.2.2.2.1 ha hw) rfl) (fun v2 h2 q => ⟨q.1, px_Jx (x := 0) (by decide) hJ' q.2⟩)⟩
theorem Q_would {a1 a2 a3 a4 a5 a6 a7 a8 : Int32} (hJ : px_J f h) : px_CO 40 116 [.ref 0, .int a1, .int a2, .int a3, .int a4, .int a5, .int a6, .int a7, .int a8] h (fun v h1 => px_PI 40 218 [.ref 100, .int a1, .int a2, .int a3, .int a4, .int a5, .int a6, .int a7, .int a8] h1 (fun v2 h2 => v = v2 ∧ h2 100 0 = nI 0 ∧ px_J f h2)) (fun x h1 => x = 0 ∧ px_PI 40 218 [.ref 100, .int a1, .int a2, .int a3, .int a4, .int a5, .int a6, .int a7, .int a8] h1 (fun v2 h2 => h2 100 0 = nI 1 ∧ px_J f h2)) := by
  have hJ' := hJ
  obtain ⟨hf, B, N, T, cs, L, W, I, t, hI⟩ := hJ
  have B6 : B ≤ 6 := hI.1.2.2.1
  have N8 : N ≤ 8 := hI.1.2.2.2.2.2.1
  refine px_COi (px_lift (C_would hI) rfl) (fun v h1 q => ?_) (fun x h1 q => ?_)
  · obtain ⟨ok, rfl, k⟩ := q
    refine px_PIi (px_lift (M_would (hI.kp k) ok) rfl) (fun v2 h2 q => ?_)
    obtain ⟨q1, q2, q3⟩ := q
    exact ⟨q1.symm, q2, px_Jk hJ' (k.tr q3)⟩
  · obtain ⟨rfl, ok, rfl⟩ := q
    exact ⟨rfl, px_PIi (px_lift (MX_would ok) rfl) (fun v2 h2 q => ⟨q.1, px_Jx (x := 0) (by decide) hJ' q.2⟩)⟩
theorem Q_ahead {a w : Int32} (hJ : px_J f h) : px_CO 40 117 [.ref 0, .int a, .int w] h (fun v h1 => px_PI 40 219 [.ref 100, .int a, .int w] h1 (fun v2 h2 => v = v2 ∧ h2 100 0 = nI 0 ∧ px_J f h2)) (fun x h1 => x = 0 ∧ px_PI 40 219 [.ref 100, .int a, .int w] h1 (fun v2 h2 => h2 100 0 = nI 1 ∧ px_J f h2)) := by
  have hJ' := hJ
  obtain ⟨hf, B, N, T, cs, L, W, I, t, hI⟩ := hJ
  have B6 : B ≤ 6 := hI.1.2.2.1
  have N8 : N ≤ 8 := hI.1.2.2.2.2.2.1
  refine px_COi (px_lift (C_ahead hI) rfl) (fun v h1 q => ?_) (fun x h1 q => ?_)
  · obtain ⟨n, m, hn, hm, rfl, rfl, rfl, k⟩ := q
    refine px_PIi (px_lift (M_ahead (hI.kp k) hn hm) rfl) (fun v2 h2 q => ?_)
    obtain ⟨q1, q2, q3⟩ := q
    exact ⟨by rw [q1, pf_Y_kp k], q2, px_Jk hJ' (k.tr q3)⟩
  · obtain ⟨rfl, ok, rfl⟩ := q
    exact ⟨rfl, px_PIi (px_lift (MX_ahead ok) rfl) (fun v2 h2 q => ⟨q.1, px_Jx (x := 0) (by decide) hJ' q.2⟩)⟩
theorem Q_lasts {a : Int32} (hJ : px_J f h) : px_CO 40 118 [.ref 0, .int a] h (fun v h1 => px_PI 40 220 [.ref 100, .int a] h1 (fun v2 h2 => v = v2 ∧ h2 100 0 = nI 0 ∧ px_J f h2)) (fun x h1 => x = 1 ∧ px_PI 40 220 [.ref 100, .int a] h1 (fun v2 h2 => h2 100 0 = nI 1 ∧ px_J f h2)) := by
  have hJ' := hJ
  obtain ⟨hf, B, N, T, cs, L, W, I, t, hI⟩ := hJ
  have B6 : B ≤ 6 := hI.1.2.2.1
  have N8 : N ≤ 8 := hI.1.2.2.2.2.2.1
  refine px_COi (px_lift (C_lasts hI) rfl) (fun v h1 q => ?_) (fun x h1 q => ?_)
  · obtain ⟨c, hc, rfl, rfl, k⟩ := q
    refine px_PIi (px_lift (M_lasts (hI.kp k) hc) rfl) (fun v2 h2 q => ?_)
    obtain ⟨q1, q2, q3⟩ := q
    exact ⟨by rw [q1, pf_lst_kp k], q2, px_Jk hJ' (k.tr q3)⟩
  · obtain ⟨rfl, ok, rfl⟩ := q
    exact ⟨rfl, px_PIi (px_lift (MX_lasts hI.1.2.2.2.2.1 hI.1.2.2.2.2.2.1 ok) rfl) (fun v2 h2 q => ⟨q.1, px_Jx (x := 1) (by decide) hJ' q.2⟩)⟩
theorem Q_ripe {a : Int32} (hJ : px_J f h) : px_CO 40 119 [.ref 0, .int a] h (fun v h1 => px_PI 40 221 [.ref 100, .int a] h1 (fun v2 h2 => v = v2 ∧ h2 100 0 = nI 0 ∧ px_J f h2)) (fun x h1 => x = 1 ∧ px_PI 40 221 [.ref 100, .int a] h1 (fun v2 h2 => h2 100 0 = nI 1 ∧ px_J f h2)) := by
  have hJ' := hJ
  obtain ⟨hf, B, N, T, cs, L, W, I, t, hI⟩ := hJ
  have B6 : B ≤ 6 := hI.1.2.2.1
  have N8 : N ≤ 8 := hI.1.2.2.2.2.2.1
  refine px_COi (px_lift (C_ripe hI) rfl) (fun v h1 q => ?_) (fun x h1 q => ?_)
  · obtain ⟨c, hc, rfl, rfl, k⟩ := q
    refine px_PIi (px_lift (M_ripe (hI.kp k) hc) rfl) (fun v2 h2 q => ?_)
    obtain ⟨q1, q2, q3⟩ := q
    exact ⟨by rw [q1, pf_rip_kp k], q2, px_Jk hJ' (k.tr q3)⟩
  · obtain ⟨rfl, ok, rfl⟩ := q
    exact ⟨rfl, px_PIi (px_lift (MX_ripe hI.1.2.2.2.2.1 hI.1.2.2.2.2.2.1 ok) rfl) (fun v2 h2 q => ⟨q.1, px_Jx (x := 1) (by decide) hJ' q.2⟩)⟩
theorem Q_plan {a : Int32} (hJ : px_J f h) : px_CO 40 120 [.ref 0, .int a] h (fun v h1 => px_PI 40 225 [.ref 100, .int a] h1 (fun v2 h2 => v = v2 ∧ h2 100 0 = nI 0 ∧ px_J f h2)) (fun x h1 => x = 0 ∧ px_PI 40 225 [.ref 100, .int a] h1 (fun v2 h2 => h2 100 0 = nI 1 ∧ px_J f h2)) := by
  have hJ' := hJ
  obtain ⟨hf, B, N, T, cs, L, W, I, t, hI⟩ := hJ
  have B6 : B ≤ 6 := hI.1.2.2.1
  have N8 : N ≤ 8 := hI.1.2.2.2.2.2.1
  refine px_COi (px_lift (C_plan hI) rfl) (fun v h1 q => ?_) (fun x h1 q => ?_)
  · obtain ⟨q, hq, hn5, rfl, rfl, k⟩ := q
    refine px_PIi (px_lift (M_plan (hI.kp k) hq hn5) rfl) (fun v2 h2 q => ?_)
    obtain ⟨q1, q2, q3⟩ := q
    exact ⟨by rw [q1, pf_pl0_kp k], q2, px_Jk hJ' (k.tr q3)⟩
  · obtain ⟨rfl, ok, rfl⟩ := q
    exact ⟨rfl, px_PIi (px_lift (MX_plan hI.1.2.2.2.2.1 hI.1.2.2.2.2.2.1 ok) rfl) (fun v2 h2 q => ⟨q.1, px_Jx (x := 0) (by decide) hJ' q.2⟩)⟩
theorem Q_planned {a b : Int32} (hJ : px_J f h) : px_CO 40 121 [.ref 0, .int a, .int b] h (fun v h1 => px_PI 40 226 [.ref 100, .int a, .int b] h1 (fun v2 h2 => v = v2 ∧ h2 100 0 = nI 0 ∧ px_J f h2)) (fun x h1 => (x = 1 ∨ x = 0) ∧ px_PI 40 226 [.ref 100, .int a, .int b] h1 (fun v2 h2 => h2 100 0 = nI (2 - x) ∧ px_J f h2)) := by
  have hJ' := hJ
  obtain ⟨hf, B, N, T, cs, L, W, I, t, hI⟩ := hJ
  have B6 : B ≤ 6 := hI.1.2.2.1
  have N8 : N ≤ 8 := hI.1.2.2.2.2.2.1
  refine px_COi (px_lift (C_planned hI) rfl) (fun v h1 q => ?_) (fun x h1 q => ?_)
  · obtain ⟨q, c, hq, hn5, hc, rfl, rfl, rfl, k⟩ := q
    refine px_PIi (px_lift (M_planned (hI.kp k) hq hn5 hc) rfl) (fun v2 h2 q => ?_)
    obtain ⟨q1, q2, q3⟩ := q
    exact ⟨by rw [q1, pf_pl0_kp k], q2, px_Jk hJ' (k.tr q3)⟩
  · rcases q with ⟨rfl, hw, rfl⟩ | ⟨rfl, ha, hw, rfl⟩
    · exact ⟨Or.inl rfl, px_PIi (px_lift (MXE_planned hI.1.2.2.2.2.1 hI.1.2.2.2.2.2.1 hw) rfl) (fun v2 h2 q => ⟨q.1, px_Jx (x := 1) (by decide) hJ' q.2⟩)⟩
    · exact ⟨Or.inr rfl, px_PIi (px_lift (MXA_planned hI.1.2.2.2.2.1 hI.1.2.2.2.2.2.1 ha hw) rfl) (fun v2 h2 q => ⟨q.1, px_Jx (x := 0) (by decide) hJ' q.2⟩)⟩
theorem Q_whose {w : Int32} (hJ : px_J f h) : px_CO 40 123 [.ref 0, .int w] h (fun v h1 => px_PI 40 229 [.ref 100, .int w] h1 (fun v2 h2 => v = v2 ∧ h2 100 0 = nI 0 ∧ px_J f h2)) (fun x h1 => x = 0 ∧ px_PI 40 229 [.ref 100, .int w] h1 (fun v2 h2 => h2 100 0 = nI 1 ∧ px_J f h2)) := by
  have hJ' := hJ
  obtain ⟨hf, B, N, T, cs, L, W, I, t, hI⟩ := hJ
  have B6 : B ≤ 6 := hI.1.2.2.1
  have N8 : N ≤ 8 := hI.1.2.2.2.2.2.1
  refine px_COi (px_lift (C_whose hI) rfl) (fun v h1 q => ?_) (fun x h1 q => ?_)
  · obtain ⟨m, hm, rfl, rfl, k⟩ := q
    refine px_PIi (px_lift (M_whose (hI.kp k) hm) rfl) (fun v2 h2 q => ?_)
    obtain ⟨q1, q2, q3⟩ := q
    exact ⟨by rw [q1, pf_who_kp k], q2, px_Jk hJ' (k.tr q3)⟩
  · obtain ⟨rfl, ok, rfl⟩ := q
    exact ⟨rfl, px_PIi (px_lift (MX_whose ok) rfl) (fun v2 h2 q => ⟨q.1, px_Jx (x := 0) (by decide) hJ' q.2⟩)⟩
theorem Q_listen {w : Int32} (hJ : px_J f h) : px_CO 40 124 [.ref 0, .int w] h (fun v h1 => px_PI 40 231 [.ref 100, .int w] h1 (fun v2 h2 => v = v2 ∧ h2 100 0 = nI 0 ∧ px_J f h2)) (fun x h1 => x = 0 ∧ px_PI 40 231 [.ref 100, .int w] h1 (fun v2 h2 => h2 100 0 = nI 1 ∧ px_J f h2)) := by
  have hJ' := hJ
  obtain ⟨hf, B, N, T, cs, L, W, I, t, hI⟩ := hJ
  have B6 : B ≤ 6 := hI.1.2.2.1
  have N8 : N ≤ 8 := hI.1.2.2.2.2.2.1
  refine px_COi (px_lift (C_listen hI) rfl) (fun v h1 q => ?_) (fun x h1 q => ?_)
  · obtain ⟨m, hm, rfl, rfl, k⟩ := q
    refine px_PIi (px_lift (M_listen (hI.kp k) hm) rfl) (fun v2 h2 q => ?_)
    obtain ⟨q1, q2, q3⟩ := q
    exact ⟨by rw [q1, pf_lsn_kp k], q2, px_Jk hJ' (k.tr q3)⟩
  · obtain ⟨rfl, ok, rfl⟩ := q
    exact ⟨rfl, px_PIi (px_lift (MX_listen ok) rfl) (fun v2 h2 q => ⟨q.1, px_Jx (x := 0) (by decide) hJ' q.2⟩)⟩
theorem Q_interval {a b : Int32} (hJ : px_J f h) : px_CO 40 125 [.ref 0, .int a, .int b] h (fun v h1 => px_PI 40 233 [.ref 100, .int a, .int b] h1 (fun v2 h2 => v = v2 ∧ h2 100 0 = nI 0 ∧ px_J f h2)) (fun x h1 => x = 1 ∧ px_PI 40 233 [.ref 100, .int a, .int b] h1 (fun v2 h2 => h2 100 0 = nI 1 ∧ px_J f h2)) := by
  have hJ' := hJ
  obtain ⟨hf, B, N, T, cs, L, W, I, t, hI⟩ := hJ
  have B6 : B ≤ 6 := hI.1.2.2.1
  have N8 : N ≤ 8 := hI.1.2.2.2.2.2.1
  refine px_COi (px_lift (C_interval hI) rfl) (fun v h1 q => ?_) (fun x h1 q => ?_)
  · obtain ⟨c, d, hc, hd, rfl, rfl, rfl, k⟩ := q
    refine px_PIi (px_lift (M_interval (hI.kp k) hc hd) rfl) (fun v2 h2 q => ?_)
    obtain ⟨q1, q2, q3⟩ := q
    exact ⟨by rw [q1, pf_iv_kp k], q2, px_Jk hJ' (k.tr q3)⟩
  · obtain ⟨rfl, ok, rfl⟩ := q
    exact ⟨rfl, px_PIi (px_lift (MX_interval hI.1.2.2.2.2.1 hI.1.2.2.2.2.2.1 ok) rfl) (fun v2 h2 q => ⟨q.1, px_Jx (x := 1) (by decide) hJ' q.2⟩)⟩
theorem Q_pairs {a w : Int32} (hJ : px_J f h) : px_CO 40 126 [.ref 0, .int a, .int w] h (fun v h1 => px_PI 40 234 [.ref 100, .int a, .int w] h1 (fun v2 h2 => v = v2 ∧ h2 100 0 = nI 0 ∧ px_J f h2)) (fun x h1 => x = 0 ∧ px_PI 40 234 [.ref 100, .int a, .int w] h1 (fun v2 h2 => h2 100 0 = nI 1 ∧ px_J f h2)) := by
  have hJ' := hJ
  obtain ⟨hf, B, N, T, cs, L, W, I, t, hI⟩ := hJ
  have B6 : B ≤ 6 := hI.1.2.2.1
  have N8 : N ≤ 8 := hI.1.2.2.2.2.2.1
  refine px_COi (px_lift (C_pairs hI) rfl) (fun v h1 q => ?_) (fun x h1 q => ?_)
  · obtain ⟨m, hm, rfl, c1, rfl, k⟩ := q
    refine px_PIi (px_lift (M_pairs (hI.kp k) hm c1) rfl) (fun v2 h2 q => ?_)
    obtain ⟨q1, q2, q3⟩ := q
    exact ⟨by rw [q1, pf_prs_kp k], q2, px_Jk hJ' (k.tr q3)⟩
  · obtain ⟨rfl, ok, rfl⟩ := q
    exact ⟨rfl, px_PIi (px_lift (MX_pairs ok) rfl) (fun v2 h2 q => ⟨q.1, px_Jx (x := 0) (by decide) hJ' q.2⟩)⟩
theorem Q_chord {a w : Int32} (hJ : px_J f h) : px_CO 40 127 [.ref 0, .int a, .int w] h (fun v h1 => px_PI 40 235 [.ref 100, .int a, .int w] h1 (fun v2 h2 => v = v2 ∧ h2 100 0 = nI 0 ∧ px_J f h2)) (fun x h1 => x = 0 ∧ px_PI 40 235 [.ref 100, .int a, .int w] h1 (fun v2 h2 => h2 100 0 = nI 1 ∧ px_J f h2)) := by
  have hJ' := hJ
  obtain ⟨hf, B, N, T, cs, L, W, I, t, hI⟩ := hJ
  have B6 : B ≤ 6 := hI.1.2.2.1
  have N8 : N ≤ 8 := hI.1.2.2.2.2.2.1
  refine px_COi (px_lift (C_chord hI) rfl) (fun v h1 q => ?_) (fun x h1 q => ?_)
  · obtain ⟨m, hm, rfl, c1, rfl, k⟩ := q
    refine px_PIi (px_lift (M_chord (hI.kp k) hm c1) rfl) (fun v2 h2 q => ?_)
    obtain ⟨q1, q2, q3⟩ := q
    exact ⟨by rw [q1, pf_chd_kp k], q2, px_Jk hJ' (k.tr q3)⟩
  · obtain ⟨rfl, ok, rfl⟩ := q
    exact ⟨rfl, px_PIi (px_lift (MX_chord ok) rfl) (fun v2 h2 q => ⟨q.1, px_Jx (x := 0) (by decide) hJ' q.2⟩)⟩
theorem Q_way {a b w : Int32} (hJ : px_J f h) : px_CO 40 128 [.ref 0, .int a, .int b, .int w] h (fun v h1 => px_PI 40 236 [.ref 100, .int a, .int b, .int w] h1 (fun v2 h2 => v = v2 ∧ h2 100 0 = nI 0 ∧ px_J f h2)) (fun x h1 => (x = 1 ∨ x = 0) ∧ px_PI 40 236 [.ref 100, .int a, .int b, .int w] h1 (fun v2 h2 => h2 100 0 = nI (2 - x) ∧ px_J f h2)) := by
  have hJ' := hJ
  obtain ⟨hf, B, N, T, cs, L, W, I, t, hI⟩ := hJ
  have B6 : B ≤ 6 := hI.1.2.2.1
  have N8 : N ≤ 8 := hI.1.2.2.2.2.2.1
  refine px_COi (px_lift (C_way hI) rfl) (fun v h1 q => ?_) (fun x h1 q => ?_)
  · obtain ⟨x, y, m, hx, hy, hm, rfl, rfl, rfl, rfl, k⟩ := q
    refine px_PIi (px_lift (M_way (hI.kp k) hx hy hm) rfl) (fun v2 h2 q => ?_)
    obtain ⟨q1, q2, q3⟩ := q
    exact ⟨by rw [q1, pf_way_kp B6 (by omega) k], q2, px_Jk hJ' (k.tr q3)⟩
  · rcases q with ⟨rfl, hw, rfl⟩ | ⟨rfl, ha, hw, rfl⟩
    · exact ⟨Or.inl rfl, px_PIi (px_lift (MXE_way hI.1.2.1 hI.1.2.2.1 hw) rfl) (fun v2 h2 q => ⟨q.1, px_Jx (x := 1) (by decide) hJ' q.2⟩)⟩
    · exact ⟨Or.inr rfl, px_PIi (px_lift (MXA_way hI.1.2.1 hI.1.2.2.1 ha hw) rfl) (fun v2 h2 q => ⟨q.1, px_Jx (x := 0) (by decide) hJ' q.2⟩)⟩
theorem Q_round {a b : Int32} (hJ : px_J f h) : px_CO 40 129 [.ref 0, .int a, .int b] h (fun v h1 => px_PI 40 237 [.ref 100, .int a, .int b] h1 (fun v2 h2 => v = v2 ∧ h2 100 0 = nI 0 ∧ px_J f h2)) (fun x h1 => (x = 1 ∨ x = 0) ∧ px_PI 40 237 [.ref 100, .int a, .int b] h1 (fun v2 h2 => h2 100 0 = nI (2 - x) ∧ px_J f h2)) := by
  have hJ' := hJ
  obtain ⟨hf, B, N, T, cs, L, W, I, t, hI⟩ := hJ
  have B6 : B ≤ 6 := hI.1.2.2.1
  have N8 : N ≤ 8 := hI.1.2.2.2.2.2.1
  refine px_COi (px_lift (C_round hI) rfl) (fun v h1 q => ?_) (fun x h1 q => ?_)
  · obtain ⟨x, q, hx, hq, rfl, rfl, rfl, k⟩ := q
    refine px_PIi (px_lift (M_round (hI.kp k) hx hq) rfl) (fun v2 h2 q => ?_)
    obtain ⟨q1, q2, q3⟩ := q
    exact ⟨by rw [q1, pf_rnd_kp B6 (by omega) k], q2, px_Jk hJ' (k.tr q3)⟩
  · rcases q with ⟨rfl, hw, rfl⟩ | ⟨rfl, ha, hw, rfl⟩
    · exact ⟨Or.inl rfl, px_PIi (px_lift (MXE_round hI.1.2.1 hI.1.2.2.1 hw) rfl) (fun v2 h2 q => ⟨q.1, px_Jx (x := 1) (by decide) hJ' q.2⟩)⟩
    · exact ⟨Or.inr rfl, px_PIi (px_lift (MXA_round hI.1.2.1 hI.1.2.2.1 ha hw) rfl) (fun v2 h2 q => ⟨q.1, px_Jx (x := 0) (by decide) hJ' q.2⟩)⟩
theorem Q_prices {a b w : Int32} (hJ : px_J f h) : px_CO 40 131 [.ref 0, .int a, .int b, .int w] h (fun v h1 => px_PI 40 241 [.ref 100, .int a, .int b, .int w] h1 (fun v2 h2 => v = v2 ∧ h2 100 0 = nI 0 ∧ px_J f h2)) (fun x h1 => x = 0 ∧ px_PI 40 241 [.ref 100, .int a, .int b, .int w] h1 (fun v2 h2 => h2 100 0 = nI 1 ∧ px_J f h2)) := by
  have hJ' := hJ
  obtain ⟨hf, B, N, T, cs, L, W, I, t, hI⟩ := hJ
  have B6 : B ≤ 6 := hI.1.2.2.1
  have N8 : N ≤ 8 := hI.1.2.2.2.2.2.1
  refine px_COi (px_lift (C_prices) rfl) (fun v h1 q => ?_) (fun x h1 q => ?_)
  · obtain ⟨q, v, m, hk, hv, hm, rfl, rfl, rfl, rfl, k⟩ := q
    refine px_PIi (px_lift (M_prices (hI.kp k) hk hv hm) rfl) (fun v2 h2 q => ?_)
    obtain ⟨q1, q2, q3⟩ := q
    exact ⟨q1.symm, q2, px_Jk hJ' (k.tr q3)⟩
  · obtain ⟨rfl, ok, rfl⟩ := q
    exact ⟨rfl, px_PIi (px_lift (MX_prices ok) rfl) (fun v2 h2 q => ⟨q.1, px_Jx (x := 0) (by decide) hJ' q.2⟩)⟩
theorem Q_share {a b w : Int32} (hJ : px_J f h) : px_CO 40 134 [.ref 0, .int a, .int b, .int w] h (fun v h1 => px_PI 40 243 [.ref 100, .int a, .int b, .int w] h1 (fun v2 h2 => v = v2 ∧ h2 100 0 = nI 0 ∧ px_J f h2)) (fun x h1 => (x = 1 ∨ x = 0) ∧ px_PI 40 243 [.ref 100, .int a, .int b, .int w] h1 (fun v2 h2 => h2 100 0 = nI (2 - x) ∧ px_J f h2)) := by
  have hJ' := hJ
  obtain ⟨hf, B, N, T, cs, L, W, I, t, hI⟩ := hJ
  have B6 : B ≤ 6 := hI.1.2.2.1
  have N8 : N ≤ 8 := hI.1.2.2.2.2.2.1
  refine px_COi (px_lift (C_share hI) rfl) (fun v h1 q => ?_) (fun x h1 q => ?_)
  · obtain ⟨c, q, hc, hq, rfl, rfl, hw, rfl, k⟩ := q
    refine px_PIi (px_lift (M_share (hI.kp k) hc hq hw) rfl) (fun v2 h2 q => ?_)
    obtain ⟨q1, q2, q3⟩ := q
    exact ⟨by rw [q1, pf_shr1_kp k], q2, px_Jk hJ' (k.tr q3)⟩
  · rcases q with ⟨rfl, hw, rfl⟩ | ⟨rfl, ha, hw, rfl⟩
    · exact ⟨Or.inl rfl, px_PIi (px_lift (MXE_share hI.1.2.2.2.2.1 hI.1.2.2.2.2.2.1 hw) rfl) (fun v2 h2 q => ⟨q.1, px_Jx (x := 1) (by decide) hJ' q.2⟩)⟩
    · exact ⟨Or.inr rfl, px_PIi (px_lift (MXA_share hI.1.2.2.2.2.1 hI.1.2.2.2.2.2.1 ha hw) rfl) (fun v2 h2 q => ⟨q.1, px_Jx (x := 0) (by decide) hJ' q.2⟩)⟩
theorem Q_loudest {w : Int32} (hJ : px_J f h) : px_CO 40 135 [.ref 0, .int w] h (fun v h1 => px_PI 40 244 [.ref 100, .int w] h1 (fun v2 h2 => v = v2 ∧ h2 100 0 = nI 0 ∧ px_J f h2)) (fun x h1 => x = 0 ∧ px_PI 40 244 [.ref 100, .int w] h1 (fun v2 h2 => h2 100 0 = nI 1 ∧ px_J f h2)) := by
  have hJ' := hJ
  obtain ⟨hf, B, N, T, cs, L, W, I, t, hI⟩ := hJ
  have B6 : B ≤ 6 := hI.1.2.2.1
  have N8 : N ≤ 8 := hI.1.2.2.2.2.2.1
  refine px_COi (px_lift (C_loudest hI) rfl) (fun v h1 q => ?_) (fun x h1 q => ?_)
  · obtain ⟨m, hm, rfl, rfl, k⟩ := q
    refine px_PIi (px_lift (M_loudest (hI.kp k) hm) rfl) (fun v2 h2 q => ?_)
    obtain ⟨q1, q2, q3⟩ := q
    exact ⟨by rw [q1, pf_lou_kp k], q2, px_Jk hJ' (k.tr q3)⟩
  · obtain ⟨rfl, ok, rfl⟩ := q
    exact ⟨rfl, px_PIi (px_lift (MX_loudest ok) rfl) (fun v2 h2 q => ⟨q.1, px_Jx (x := 0) (by decide) hJ' q.2⟩)⟩
theorem Q_kindest {a w : Int32} (hJ : px_J f h) : px_CO 40 136 [.ref 0, .int a, .int w] h (fun v h1 => px_PI 40 245 [.ref 100, .int a, .int w] h1 (fun v2 h2 => v = v2 ∧ h2 100 0 = nI 0 ∧ px_J f h2)) (fun x h1 => (x = 1 ∨ x = 0) ∧ px_PI 40 245 [.ref 100, .int a, .int w] h1 (fun v2 h2 => h2 100 0 = nI (2 - x) ∧ px_J f h2)) := by
  have hJ' := hJ
  obtain ⟨hf, B, N, T, cs, L, W, I, t, hI⟩ := hJ
  have B6 : B ≤ 6 := hI.1.2.2.1
  have N8 : N ≤ 8 := hI.1.2.2.2.2.2.1
  refine px_COi (px_lift (C_kindest hI) rfl) (fun v h1 q => ?_) (fun x h1 q => ?_)
  · obtain ⟨c, m, hc, hm, rfl, rfl, rfl, k⟩ := q
    refine px_PIi (px_lift (M_kindest (hI.kp k) hc hm) rfl) (fun v2 h2 q => ?_)
    obtain ⟨q1, q2, q3⟩ := q
    exact ⟨by rw [q1, pf_knd_kp k], q2, px_Jk hJ' (k.tr q3)⟩
  · rcases q with ⟨rfl, hw, rfl⟩ | ⟨rfl, ha, hw, rfl⟩
    · exact ⟨Or.inl rfl, px_PIi (px_lift (MXE_kindest hI.1.2.2.2.2.1 hI.1.2.2.2.2.2.1 hw) rfl) (fun v2 h2 q => ⟨q.1, px_Jx (x := 1) (by decide) hJ' q.2⟩)⟩
    · exact ⟨Or.inr rfl, px_PIi (px_lift (MXA_kindest hI.1.2.2.2.2.1 hI.1.2.2.2.2.2.1 ha hw) rfl) (fun v2 h2 q => ⟨q.1, px_Jx (x := 0) (by decide) hJ' q.2⟩)⟩
theorem Q_century {s a b c w : Int32} (hJ : px_J f h) : px_CO 40 139 [.ref 0, .int s, .int a, .int b, .int c, .int w] h (fun v h1 => px_PI 40 251 [.ref 100, .int s, .int a, .int b, .int c, .int w] h1 (fun v2 h2 => v = v2 ∧ h2 100 0 = nI 0 ∧ px_J f h2)) (fun x h1 => x = 0 ∧ px_PI 40 251 [.ref 100, .int s, .int a, .int b, .int c, .int w] h1 (fun v2 h2 => h2 100 0 = nI 1 ∧ px_J f h2)) := by
  have hJ' := hJ
  obtain ⟨hf, B, N, T, cs, L, W, I, t, hI⟩ := hJ
  have B6 : B ≤ 6 := hI.1.2.2.1
  have N8 : N ≤ 8 := hI.1.2.2.2.2.2.1
  refine px_COi (px_lift (C_century2 hI) rfl) (fun v h1 q => ?_) (fun x h1 q => ?_)
  · obtain ⟨y, m, hy, hm, rfl, rfl, c1, rfl, k⟩ := q
    refine px_PIi (px_lift (M_century (hI.kp k) hm c1 (by omega)) rfl) (fun v2 h2 q => ?_)
    obtain ⟨q1, q2, q3⟩ := q
    exact ⟨by rw [q1, pf_cen_kp k], q2, px_Jk hJ' (k.tr q3)⟩
  · obtain ⟨rfl, ok, rfl⟩ := q
    exact ⟨rfl, px_PIi (px_lift (MX_century ok) rfl) (fun v2 h2 q => ⟨q.1, px_Jx (x := 0) (by decide) hJ' q.2⟩)⟩
theorem Q_span {s n a b c w d : Int32} (hJ : px_J f h) : px_CO 40 140 [.ref 0, .int s, .int n, .int a, .int b, .int c, .int w, .int d] h (fun v h1 => px_PI 40 252 [.ref 100, .int s, .int n, .int a, .int b, .int c, .int w, .int d] h1 (fun v2 h2 => v = v2 ∧ h2 100 0 = nI 0 ∧ px_J f h2)) (fun x h1 => x = 0 ∧ px_PI 40 252 [.ref 100, .int s, .int n, .int a, .int b, .int c, .int w, .int d] h1 (fun v2 h2 => h2 100 0 = nI 1 ∧ px_J f h2)) := by
  have hJ' := hJ
  obtain ⟨hf, B, N, T, cs, L, W, I, t, hI⟩ := hJ
  have B6 : B ≤ 6 := hI.1.2.2.1
  have N8 : N ≤ 8 := hI.1.2.2.2.2.2.1
  refine px_COi (px_lift (C_span hI) rfl) (fun v h1 q => ?_) (fun x h1 q => ?_)
  · obtain ⟨n', y, m, cr, hn2, hn1, hy, hm, hcr, rfl, rfl, rfl, rfl, ok7, rfl, k⟩ := q
    refine px_PIi (px_lift (M_span (hI.kp k) hn2 hn1 hy hm hcr ok7) rfl) (fun v2 h2 q => ?_)
    obtain ⟨q1, q2, q3⟩ := q
    exact ⟨by rw [q1, pf_spf_kp k], q2, px_Jk hJ' (k.tr q3)⟩
  · obtain ⟨rfl, ok, rfl⟩ := q
    exact ⟨rfl, px_PIi (px_lift (MX_span hI.1.2.2.2.2.1 hI.1.2.2.2.2.2.1 ok) rfl) (fun v2 h2 q => ⟨q.1, px_Jx (x := 0) (by decide) hJ' q.2⟩)⟩
theorem Q_gorge {w : Int32} (hJ : px_J f h) : px_CO 40 104 [.ref 0, .int w] h (fun v h1 => px_PI 40 177 [.ref 100, .int w] h1 (fun v2 h2 => v = v2 ∧ h2 100 0 = nI 0 ∧ px_J f h2)) (fun x h1 => x = 0 ∧ px_PI 40 177 [.ref 100, .int w] h1 (fun v2 h2 => h2 100 0 = nI 1 ∧ px_J f h2)) :=
  px_COi (px_lift (P_gorge hJ) rfl) (fun v h1 q => px_lift q rfl) (fun x h1 q => ⟨q.1, px_lift q.2 rfl⟩)
theorem Q_law {w : Int32} (hJ : px_J f h) : px_CO 40 106 [.ref 0, .int w] h (fun v h1 => px_PI 40 189 [.ref 100, .int w] h1 (fun v2 h2 => v = v2 ∧ h2 100 0 = nI 0 ∧ px_J f h2)) (fun x h1 => x = 0 ∧ px_PI 40 189 [.ref 100, .int w] h1 (fun v2 h2 => h2 100 0 = nI 1 ∧ px_J f h2)) :=
  px_COi (px_lift (P_law hJ) rfl) (fun v h1 q => px_lift q rfl) (fun x h1 q => ⟨q.1, px_lift q.2 rfl⟩)
theorem Q_work {w : Int32} (hJ : px_J f h) : px_CO 40 107 [.ref 0, .int w] h (fun v h1 => px_PI 40 207 [.ref 100, .int w] h1 (fun v2 h2 => v = v2 ∧ h2 100 0 = nI 0 ∧ px_J f h2)) (fun x h1 => x = 0 ∧ px_PI 40 207 [.ref 100, .int w] h1 (fun v2 h2 => h2 100 0 = nI 1 ∧ px_J f h2)) :=
  px_COi (px_lift (P_work hJ) rfl) (fun v h1 q => px_lift q rfl) (fun x h1 q => ⟨q.1, px_lift q.2 rfl⟩)
theorem Q_heard {w : Int32} (hJ : px_J f h) : px_CO 40 108 [.ref 0, .int w] h (fun v h1 => px_PI 40 194 [.ref 100, .int w] h1 (fun v2 h2 => v = v2 ∧ h2 100 0 = nI 0 ∧ px_J f h2)) (fun x h1 => x = 0 ∧ px_PI 40 194 [.ref 100, .int w] h1 (fun v2 h2 => h2 100 0 = nI 1 ∧ px_J f h2)) :=
  px_COi (px_lift (P_heard hJ) rfl) (fun v h1 q => px_lift q rfl) (fun x h1 q => ⟨q.1, px_lift q.2 rfl⟩)
theorem PP_told {w : Int32} (hJ : px_J f h) : px_PP f h 264 211 40 [.int w] := by
  obtain ⟨r, hr, F⟩ := H_264 (px_CO3 (Q_told hJ)) (fun x h1 q => q.1.1)
  refine ⟨r, ?_, F⟩
  rcases hr with ⟨v, h1, e, q, kk⟩ | ⟨x, h1, e, ⟨qx, q⟩, kk⟩
  · exact ⟨0, _, 0, e, by decide, by decide, kk.tr (k37.up (by decide) (by decide)), px_PIj (n99_cons.mpr ⟨n99_int, n99_nil⟩) q⟩
  · exact ⟨1, _, 1, e, by decide, by decide, kk, px_PIi (px_PI3 q) (fun v2 h2 z => ⟨z.1.1, fun c => by omega, z.1.2, z.2⟩)⟩
theorem PP_bay {a w : Int32} (hJ : px_J f h) : px_PP f h 265 216 40 [.int a, .int w] := by
  obtain ⟨r, hr, F⟩ := H_265 (px_CO3 (Q_bay hJ)) (fun x h1 q => q.1.1)
  refine ⟨r, ?_, F⟩
  rcases hr with ⟨v, h1, e, q, kk⟩ | ⟨x, h1, e, ⟨qx, q⟩, kk⟩
  · exact ⟨0, _, 0, e, by decide, by decide, kk.tr (k37.up (by decide) (by decide)), px_PIj (n99_cons.mpr ⟨n99_int, (n99_cons.mpr ⟨n99_int, n99_nil⟩)⟩) q⟩
  · rcases qx with rfl | rfl
    · exact ⟨1, _, 1, e, by decide, by decide, kk, px_PIi (px_PI3 q) (fun v2 h2 z => ⟨z.1.1, fun c => by omega, z.1.2, z.2⟩)⟩
    · exact ⟨2, _, 1, e, by decide, by decide, kk, px_PIi (px_PI3 q) (fun v2 h2 z => ⟨z.1.1, fun c => by omega, z.1.2, z.2⟩)⟩
theorem PP_cry {a w : Int32} (hJ : px_J f h) : px_PP f h 266 217 40 [.int a, .int w] := by
  obtain ⟨r, hr, F⟩ := H_266 (px_CO3 (Q_cry hJ)) (fun x h1 q => q.1.1)
  refine ⟨r, ?_, F⟩
  rcases hr with ⟨v, h1, e, q, kk⟩ | ⟨x, h1, e, ⟨qx, q⟩, kk⟩
  · exact ⟨0, _, 0, e, by decide, by decide, kk.tr (k37.up (by decide) (by decide)), px_PIj (n99_cons.mpr ⟨n99_int, (n99_cons.mpr ⟨n99_int, n99_nil⟩)⟩) q⟩
  · rcases qx with rfl | rfl
    · exact ⟨1, _, 1, e, by decide, by decide, kk, px_PIi (px_PI3 q) (fun v2 h2 z => ⟨z.1.1, fun c => by omega, z.1.2, z.2⟩)⟩
    · exact ⟨2, _, 1, e, by decide, by decide, kk, px_PIi (px_PI3 q) (fun v2 h2 z => ⟨z.1.1, fun c => by omega, z.1.2, z.2⟩)⟩
theorem PP_would {a1 a2 a3 a4 a5 a6 a7 a8 : Int32} (hJ : px_J f h) : px_PP f h 267 218 40 [.int a1, .int a2, .int a3, .int a4, .int a5, .int a6, .int a7, .int a8] := by
  obtain ⟨r, hr, F⟩ := H_267 (px_CO3 (Q_would hJ)) (fun x h1 q => q.1.1)
  refine ⟨r, ?_, F⟩
  rcases hr with ⟨v, h1, e, q, kk⟩ | ⟨x, h1, e, ⟨qx, q⟩, kk⟩
  · exact ⟨0, _, 0, e, by decide, by decide, kk.tr (k37.up (by decide) (by decide)), px_PIj (n99_cons.mpr ⟨n99_int, (n99_cons.mpr ⟨n99_int, (n99_cons.mpr ⟨n99_int, (n99_cons.mpr ⟨n99_int, (n99_cons.mpr ⟨n99_int, (n99_cons.mpr ⟨n99_int, (n99_cons.mpr ⟨n99_int, (n99_cons.mpr ⟨n99_int, n99_nil⟩)⟩)⟩)⟩)⟩)⟩)⟩)⟩) q⟩
  · exact ⟨1, _, 1, e, by decide, by decide, kk, px_PIi (px_PI3 q) (fun v2 h2 z => ⟨z.1.1, fun c => by omega, z.1.2, z.2⟩)⟩
theorem PP_ahead {a w : Int32} (hJ : px_J f h) : px_PP f h 268 219 40 [.int a, .int w] := by
  obtain ⟨r, hr, F⟩ := H_268 (px_CO3 (Q_ahead hJ)) (fun x h1 q => q.1.1)
  refine ⟨r, ?_, F⟩
  rcases hr with ⟨v, h1, e, q, kk⟩ | ⟨x, h1, e, ⟨qx, q⟩, kk⟩
  · exact ⟨0, _, 0, e, by decide, by decide, kk.tr (k37.up (by decide) (by decide)), px_PIj (n99_cons.mpr ⟨n99_int, (n99_cons.mpr ⟨n99_int, n99_nil⟩)⟩) q⟩
  · exact ⟨1, _, 1, e, by decide, by decide, kk, px_PIi (px_PI3 q) (fun v2 h2 z => ⟨z.1.1, fun c => by omega, z.1.2, z.2⟩)⟩
theorem PP_lasts {a : Int32} (hJ : px_J f h) : px_PP f h 269 220 40 [.int a] := by
  obtain ⟨r, hr, F⟩ := H_269 (px_CO3 (Q_lasts hJ)) (fun x h1 q => q.1.1)
  refine ⟨r, ?_, F⟩
  rcases hr with ⟨v, h1, e, q, kk⟩ | ⟨x, h1, e, ⟨qx, q⟩, kk⟩
  · exact ⟨0, _, 0, e, by decide, by decide, kk.tr (k37.up (by decide) (by decide)), px_PIj (n99_cons.mpr ⟨n99_int, n99_nil⟩) q⟩
  · exact ⟨1, _, 1, e, by decide, by decide, kk, px_PIi (px_PI3 q) (fun v2 h2 z => ⟨z.1.1, fun c => by omega, z.1.2, z.2⟩)⟩
theorem PP_ripe {a : Int32} (hJ : px_J f h) : px_PP f h 270 221 40 [.int a] := by
  obtain ⟨r, hr, F⟩ := H_270 (px_CO3 (Q_ripe hJ)) (fun x h1 q => q.1.1)
  refine ⟨r, ?_, F⟩
  rcases hr with ⟨v, h1, e, q, kk⟩ | ⟨x, h1, e, ⟨qx, q⟩, kk⟩
  · exact ⟨0, _, 0, e, by decide, by decide, kk.tr (k37.up (by decide) (by decide)), px_PIj (n99_cons.mpr ⟨n99_int, n99_nil⟩) q⟩
  · exact ⟨1, _, 1, e, by decide, by decide, kk, px_PIi (px_PI3 q) (fun v2 h2 z => ⟨z.1.1, fun c => by omega, z.1.2, z.2⟩)⟩
theorem PP_plan {a : Int32} (hJ : px_J f h) : px_PP f h 271 225 40 [.int a] := by
  obtain ⟨r, hr, F⟩ := H_271 (px_CO3 (Q_plan hJ)) (fun x h1 q => q.1.1)
  refine ⟨r, ?_, F⟩
  rcases hr with ⟨v, h1, e, q, kk⟩ | ⟨x, h1, e, ⟨qx, q⟩, kk⟩
  · exact ⟨0, _, 0, e, by decide, by decide, kk.tr (k37.up (by decide) (by decide)), px_PIj (n99_cons.mpr ⟨n99_int, n99_nil⟩) q⟩
  · exact ⟨1, _, 1, e, by decide, by decide, kk, px_PIi (px_PI3 q) (fun v2 h2 z => ⟨z.1.1, fun c => by omega, z.1.2, z.2⟩)⟩
theorem PP_planned {a b : Int32} (hJ : px_J f h) : px_PP f h 272 226 40 [.int a, .int b] := by
  obtain ⟨r, hr, F⟩ := H_272 (px_CO3 (Q_planned hJ)) (fun x h1 q => q.1.1)
  refine ⟨r, ?_, F⟩
  rcases hr with ⟨v, h1, e, q, kk⟩ | ⟨x, h1, e, ⟨qx, q⟩, kk⟩
  · exact ⟨0, _, 0, e, by decide, by decide, kk.tr (k37.up (by decide) (by decide)), px_PIj (n99_cons.mpr ⟨n99_int, (n99_cons.mpr ⟨n99_int, n99_nil⟩)⟩) q⟩
  · rcases qx with rfl | rfl
    · exact ⟨1, _, 1, e, by decide, by decide, kk, px_PIi (px_PI3 q) (fun v2 h2 z => ⟨z.1.1, fun c => by omega, z.1.2, z.2⟩)⟩
    · exact ⟨2, _, 1, e, by decide, by decide, kk, px_PIi (px_PI3 q) (fun v2 h2 z => ⟨z.1.1, fun c => by omega, z.1.2, z.2⟩)⟩
theorem PP_whose {w : Int32} (hJ : px_J f h) : px_PP f h 273 229 40 [.int w] := by
  obtain ⟨r, hr, F⟩ := H_273 (px_CO3 (Q_whose hJ)) (fun x h1 q => q.1.1)
  refine ⟨r, ?_, F⟩
  rcases hr with ⟨v, h1, e, q, kk⟩ | ⟨x, h1, e, ⟨qx, q⟩, kk⟩
  · exact ⟨0, _, 0, e, by decide, by decide, kk.tr (k37.up (by decide) (by decide)), px_PIj (n99_cons.mpr ⟨n99_int, n99_nil⟩) q⟩
  · exact ⟨1, _, 1, e, by decide, by decide, kk, px_PIi (px_PI3 q) (fun v2 h2 z => ⟨z.1.1, fun c => by omega, z.1.2, z.2⟩)⟩
theorem PP_listen {w : Int32} (hJ : px_J f h) : px_PP f h 274 231 40 [.int w] := by
  obtain ⟨r, hr, F⟩ := H_274 (px_CO3 (Q_listen hJ)) (fun x h1 q => q.1.1)
  refine ⟨r, ?_, F⟩
  rcases hr with ⟨v, h1, e, q, kk⟩ | ⟨x, h1, e, ⟨qx, q⟩, kk⟩
  · exact ⟨0, _, 0, e, by decide, by decide, kk.tr (k37.up (by decide) (by decide)), px_PIj (n99_cons.mpr ⟨n99_int, n99_nil⟩) q⟩
  · exact ⟨1, _, 1, e, by decide, by decide, kk, px_PIi (px_PI3 q) (fun v2 h2 z => ⟨z.1.1, fun c => by omega, z.1.2, z.2⟩)⟩
theorem PP_interval {a b : Int32} (hJ : px_J f h) : px_PP f h 275 233 40 [.int a, .int b] := by
  obtain ⟨r, hr, F⟩ := H_275 (px_CO3 (Q_interval hJ)) (fun x h1 q => q.1.1)
  refine ⟨r, ?_, F⟩
  rcases hr with ⟨v, h1, e, q, kk⟩ | ⟨x, h1, e, ⟨qx, q⟩, kk⟩
  · exact ⟨0, _, 0, e, by decide, by decide, kk.tr (k37.up (by decide) (by decide)), px_PIj (n99_cons.mpr ⟨n99_int, (n99_cons.mpr ⟨n99_int, n99_nil⟩)⟩) q⟩
  · exact ⟨1, _, 1, e, by decide, by decide, kk, px_PIi (px_PI3 q) (fun v2 h2 z => ⟨z.1.1, fun c => by omega, z.1.2, z.2⟩)⟩
theorem PP_pairs {a w : Int32} (hJ : px_J f h) : px_PP f h 276 234 40 [.int a, .int w] := by
  obtain ⟨r, hr, F⟩ := H_276 (px_CO3 (Q_pairs hJ)) (fun x h1 q => q.1.1)
  refine ⟨r, ?_, F⟩
  rcases hr with ⟨v, h1, e, q, kk⟩ | ⟨x, h1, e, ⟨qx, q⟩, kk⟩
  · exact ⟨0, _, 0, e, by decide, by decide, kk.tr (k37.up (by decide) (by decide)), px_PIj (n99_cons.mpr ⟨n99_int, (n99_cons.mpr ⟨n99_int, n99_nil⟩)⟩) q⟩
  · exact ⟨1, _, 1, e, by decide, by decide, kk, px_PIi (px_PI3 q) (fun v2 h2 z => ⟨z.1.1, fun c => by omega, z.1.2, z.2⟩)⟩
theorem PP_chord {a w : Int32} (hJ : px_J f h) : px_PP f h 277 235 40 [.int a, .int w] := by
  obtain ⟨r, hr, F⟩ := H_277 (px_CO3 (Q_chord hJ)) (fun x h1 q => q.1.1)
  refine ⟨r, ?_, F⟩
  rcases hr with ⟨v, h1, e, q, kk⟩ | ⟨x, h1, e, ⟨qx, q⟩, kk⟩
  · exact ⟨0, _, 0, e, by decide, by decide, kk.tr (k37.up (by decide) (by decide)), px_PIj (n99_cons.mpr ⟨n99_int, (n99_cons.mpr ⟨n99_int, n99_nil⟩)⟩) q⟩
  · exact ⟨1, _, 1, e, by decide, by decide, kk, px_PIi (px_PI3 q) (fun v2 h2 z => ⟨z.1.1, fun c => by omega, z.1.2, z.2⟩)⟩
theorem PP_way {a b w : Int32} (hJ : px_J f h) : px_PP f h 278 236 40 [.int a, .int b, .int w] := by
  obtain ⟨r, hr, F⟩ := H_278 (px_CO3 (Q_way hJ)) (fun x h1 q => q.1.1)
  refine ⟨r, ?_, F⟩
  rcases hr with ⟨v, h1, e, q, kk⟩ | ⟨x, h1, e, ⟨qx, q⟩, kk⟩
  · exact ⟨0, _, 0, e, by decide, by decide, kk.tr (k37.up (by decide) (by decide)), px_PIj (n99_cons.mpr ⟨n99_int, (n99_cons.mpr ⟨n99_int, (n99_cons.mpr ⟨n99_int, n99_nil⟩)⟩)⟩) q⟩
  · rcases qx with rfl | rfl
    · exact ⟨1, _, 1, e, by decide, by decide, kk, px_PIi (px_PI3 q) (fun v2 h2 z => ⟨z.1.1, fun c => by omega, z.1.2, z.2⟩)⟩
    · exact ⟨2, _, 1, e, by decide, by decide, kk, px_PIi (px_PI3 q) (fun v2 h2 z => ⟨z.1.1, fun c => by omega, z.1.2, z.2⟩)⟩
theorem PP_round {a b : Int32} (hJ : px_J f h) : px_PP f h 279 237 40 [.int a, .int b] := by
  obtain ⟨r, hr, F⟩ := H_279 (px_CO3 (Q_round hJ)) (fun x h1 q => q.1.1)
  refine ⟨r, ?_, F⟩
  rcases hr with ⟨v, h1, e, q, kk⟩ | ⟨x, h1, e, ⟨qx, q⟩, kk⟩
  · exact ⟨0, _, 0, e, by decide, by decide, kk.tr (k37.up (by decide) (by decide)), px_PIj (n99_cons.mpr ⟨n99_int, (n99_cons.mpr ⟨n99_int, n99_nil⟩)⟩) q⟩
  · rcases qx with rfl | rfl
    · exact ⟨1, _, 1, e, by decide, by decide, kk, px_PIi (px_PI3 q) (fun v2 h2 z => ⟨z.1.1, fun c => by omega, z.1.2, z.2⟩)⟩
    · exact ⟨2, _, 1, e, by decide, by decide, kk, px_PIi (px_PI3 q) (fun v2 h2 z => ⟨z.1.1, fun c => by omega, z.1.2, z.2⟩)⟩
theorem PP_prices {a b w : Int32} (hJ : px_J f h) : px_PP f h 280 241 40 [.int a, .int b, .int w] := by
  obtain ⟨r, hr, F⟩ := H_280 (px_CO3 (Q_prices hJ)) (fun x h1 q => q.1.1)
  refine ⟨r, ?_, F⟩
  rcases hr with ⟨v, h1, e, q, kk⟩ | ⟨x, h1, e, ⟨qx, q⟩, kk⟩
  · exact ⟨0, _, 0, e, by decide, by decide, kk.tr (k37.up (by decide) (by decide)), px_PIj (n99_cons.mpr ⟨n99_int, (n99_cons.mpr ⟨n99_int, (n99_cons.mpr ⟨n99_int, n99_nil⟩)⟩)⟩) q⟩
  · exact ⟨1, _, 1, e, by decide, by decide, kk, px_PIi (px_PI3 q) (fun v2 h2 z => ⟨z.1.1, fun c => by omega, z.1.2, z.2⟩)⟩
theorem PP_share {a b w : Int32} (hJ : px_J f h) : px_PP f h 281 243 40 [.int a, .int b, .int w] := by
  obtain ⟨r, hr, F⟩ := H_281 (px_CO3 (Q_share hJ)) (fun x h1 q => q.1.1)
  refine ⟨r, ?_, F⟩
  rcases hr with ⟨v, h1, e, q, kk⟩ | ⟨x, h1, e, ⟨qx, q⟩, kk⟩
  · exact ⟨0, _, 0, e, by decide, by decide, kk.tr (k37.up (by decide) (by decide)), px_PIj (n99_cons.mpr ⟨n99_int, (n99_cons.mpr ⟨n99_int, (n99_cons.mpr ⟨n99_int, n99_nil⟩)⟩)⟩) q⟩
  · rcases qx with rfl | rfl
    · exact ⟨1, _, 1, e, by decide, by decide, kk, px_PIi (px_PI3 q) (fun v2 h2 z => ⟨z.1.1, fun c => by omega, z.1.2, z.2⟩)⟩
    · exact ⟨2, _, 1, e, by decide, by decide, kk, px_PIi (px_PI3 q) (fun v2 h2 z => ⟨z.1.1, fun c => by omega, z.1.2, z.2⟩)⟩
theorem PP_loudest {w : Int32} (hJ : px_J f h) : px_PP f h 282 244 40 [.int w] := by
  obtain ⟨r, hr, F⟩ := H_282 (px_CO3 (Q_loudest hJ)) (fun x h1 q => q.1.1)
  refine ⟨r, ?_, F⟩
  rcases hr with ⟨v, h1, e, q, kk⟩ | ⟨x, h1, e, ⟨qx, q⟩, kk⟩
  · exact ⟨0, _, 0, e, by decide, by decide, kk.tr (k37.up (by decide) (by decide)), px_PIj (n99_cons.mpr ⟨n99_int, n99_nil⟩) q⟩
  · exact ⟨1, _, 1, e, by decide, by decide, kk, px_PIi (px_PI3 q) (fun v2 h2 z => ⟨z.1.1, fun c => by omega, z.1.2, z.2⟩)⟩
theorem PP_kindest {a w : Int32} (hJ : px_J f h) : px_PP f h 283 245 40 [.int a, .int w] := by
  obtain ⟨r, hr, F⟩ := H_283 (px_CO3 (Q_kindest hJ)) (fun x h1 q => q.1.1)
  refine ⟨r, ?_, F⟩
  rcases hr with ⟨v, h1, e, q, kk⟩ | ⟨x, h1, e, ⟨qx, q⟩, kk⟩
  · exact ⟨0, _, 0, e, by decide, by decide, kk.tr (k37.up (by decide) (by decide)), px_PIj (n99_cons.mpr ⟨n99_int, (n99_cons.mpr ⟨n99_int, n99_nil⟩)⟩) q⟩
  · rcases qx with rfl | rfl
    · exact ⟨1, _, 1, e, by decide, by decide, kk, px_PIi (px_PI3 q) (fun v2 h2 z => ⟨z.1.1, fun c => by omega, z.1.2, z.2⟩)⟩
    · exact ⟨2, _, 1, e, by decide, by decide, kk, px_PIi (px_PI3 q) (fun v2 h2 z => ⟨z.1.1, fun c => by omega, z.1.2, z.2⟩)⟩
theorem PP_century {s a b c w : Int32} (hJ : px_J f h) : px_PP f h 284 251 40 [.int s, .int a, .int b, .int c, .int w] := by
  obtain ⟨r, hr, F⟩ := H_284 (px_CO3 (Q_century hJ)) (fun x h1 q => q.1.1)
  refine ⟨r, ?_, F⟩
  rcases hr with ⟨v, h1, e, q, kk⟩ | ⟨x, h1, e, ⟨qx, q⟩, kk⟩
  · exact ⟨0, _, 0, e, by decide, by decide, kk.tr (k37.up (by decide) (by decide)), px_PIj (n99_cons.mpr ⟨n99_int, (n99_cons.mpr ⟨n99_int, (n99_cons.mpr ⟨n99_int, (n99_cons.mpr ⟨n99_int, (n99_cons.mpr ⟨n99_int, n99_nil⟩)⟩)⟩)⟩)⟩) q⟩
  · exact ⟨1, _, 1, e, by decide, by decide, kk, px_PIi (px_PI3 q) (fun v2 h2 z => ⟨z.1.1, fun c => by omega, z.1.2, z.2⟩)⟩
theorem PP_span {s n a b c w d : Int32} (hJ : px_J f h) : px_PP f h 285 252 40 [.int s, .int n, .int a, .int b, .int c, .int w, .int d] := by
  obtain ⟨r, hr, F⟩ := H_285 (px_CO3 (Q_span hJ)) (fun x h1 q => q.1.1)
  refine ⟨r, ?_, F⟩
  rcases hr with ⟨v, h1, e, q, kk⟩ | ⟨x, h1, e, ⟨qx, q⟩, kk⟩
  · exact ⟨0, _, 0, e, by decide, by decide, kk.tr (k37.up (by decide) (by decide)), px_PIj (n99_cons.mpr ⟨n99_int, (n99_cons.mpr ⟨n99_int, (n99_cons.mpr ⟨n99_int, (n99_cons.mpr ⟨n99_int, (n99_cons.mpr ⟨n99_int, (n99_cons.mpr ⟨n99_int, (n99_cons.mpr ⟨n99_int, n99_nil⟩)⟩)⟩)⟩)⟩)⟩)⟩) q⟩
  · exact ⟨1, _, 1, e, by decide, by decide, kk, px_PIi (px_PI3 q) (fun v2 h2 z => ⟨z.1.1, fun c => by omega, z.1.2, z.2⟩)⟩
theorem PP_gorge {w : Int32} (hJ : px_J f h) : px_PP f h 260 177 40 [.int w] := by
  obtain ⟨r, hr, F⟩ := H_260 (px_CO3 (Q_gorge hJ)) (fun x h1 q => q.1.1)
  refine ⟨r, ?_, F⟩
  rcases hr with ⟨v, h1, e, q, kk⟩ | ⟨x, h1, e, ⟨qx, q⟩, kk⟩
  · exact ⟨0, _, 0, e, by decide, by decide, kk.tr (k37.up (by decide) (by decide)), px_PIj (n99_cons.mpr ⟨n99_int, n99_nil⟩) q⟩
  · exact ⟨1, _, 1, e, by decide, by decide, kk, px_PIi (px_PI3 q) (fun v2 h2 z => ⟨z.1.1, fun c => by omega, z.1.2, z.2⟩)⟩
theorem PP_law {w : Int32} (hJ : px_J f h) : px_PP f h 261 189 40 [.int w] := by
  obtain ⟨r, hr, F⟩ := H_261 (px_CO3 (Q_law hJ)) (fun x h1 q => q.1.1)
  refine ⟨r, ?_, F⟩
  rcases hr with ⟨v, h1, e, q, kk⟩ | ⟨x, h1, e, ⟨qx, q⟩, kk⟩
  · exact ⟨0, _, 0, e, by decide, by decide, kk.tr (k37.up (by decide) (by decide)), px_PIj (n99_cons.mpr ⟨n99_int, n99_nil⟩) q⟩
  · exact ⟨1, _, 1, e, by decide, by decide, kk, px_PIi (px_PI3 q) (fun v2 h2 z => ⟨z.1.1, fun c => by omega, z.1.2, z.2⟩)⟩
theorem PP_work {w : Int32} (hJ : px_J f h) : px_PP f h 262 207 40 [.int w] := by
  obtain ⟨r, hr, F⟩ := H_262 (px_CO3 (Q_work hJ)) (fun x h1 q => q.1.1)
  refine ⟨r, ?_, F⟩
  rcases hr with ⟨v, h1, e, q, kk⟩ | ⟨x, h1, e, ⟨qx, q⟩, kk⟩
  · exact ⟨0, _, 0, e, by decide, by decide, kk.tr (k37.up (by decide) (by decide)), px_PIj (n99_cons.mpr ⟨n99_int, n99_nil⟩) q⟩
  · exact ⟨1, _, 1, e, by decide, by decide, kk, px_PIi (px_PI3 q) (fun v2 h2 z => ⟨z.1.1, fun c => by omega, z.1.2, z.2⟩)⟩
theorem PP_heard {w : Int32} (hJ : px_J f h) : px_PP f h 263 194 40 [.int w] := by
  obtain ⟨r, hr, F⟩ := H_263 (px_CO3 (Q_heard hJ)) (fun x h1 q => q.1.1)
  refine ⟨r, ?_, F⟩
  rcases hr with ⟨v, h1, e, q, kk⟩ | ⟨x, h1, e, ⟨qx, q⟩, kk⟩
  · exact ⟨0, _, 0, e, by decide, by decide, kk.tr (k37.up (by decide) (by decide)), px_PIj (n99_cons.mpr ⟨n99_int, n99_nil⟩) q⟩
  · exact ⟨1, _, 1, e, by decide, by decide, kk, px_PIi (px_PI3 q) (fun v2 h2 z => ⟨z.1.1, fun c => by omega, z.1.2, z.2⟩)⟩
theorem PD_feed {a b c d e : Int32} (hJ : px_J f h) : px_PI 40 102 [.ref 0, .int a, .int b, .int c, .int d, .int e] h (fun v h1 => k37 h h1 ∧ px_PI 40 159 [.ref 100, .int a, .int b, .int c, .int d, .int e] h1 (fun v2 h2 => v = v2 ∧ px_J f h2 ∧ k37 h1 h2)) := by
  exact px_PIi (px_PI3 (px_lift (P_feed hJ) rfl)) (fun v h1 q => ⟨q.2, px_PIi (px_PI3 (px_lift q.1 rfl)) (fun v2 h2 z => ⟨z.1.1, z.1.2.2, z.2⟩)⟩)
theorem PD_undo (hJ : px_J f h) : px_PI 40 112 [.ref 0] h (fun v h1 => k37 h h1 ∧ px_PI 40 208 [.ref 100] h1 (fun v2 h2 => v = v2 ∧ px_J f h2 ∧ k37 h1 h2)) := by
  exact px_PIi (px_PI3 (px_lift (P_undo hJ) rfl)) (fun v h1 q => ⟨q.2, px_PIi (px_PI3 (px_lift q.1 rfl)) (fun v2 h2 z => ⟨z.1.1, z.1.2.2, z.2⟩)⟩)
theorem PD_image (hJ : px_J f h) : px_PI 40 142 [.ref 0] h (fun v h1 => k37 h h1 ∧ px_PI 40 255 [.ref 100] h1 (fun v2 h2 => v = v2 ∧ px_J f h2 ∧ k37 h1 h2)) := by
  exact px_PIi (px_PI3 (px_lift (P_image hJ) rfl)) (fun v h1 q => ⟨q.2, px_PIi (px_PI3 (px_lift q.1 rfl)) (fun v2 h2 z => ⟨z.1.1, z.1.2.2, z.2⟩)⟩)
theorem PD_restore (hJ : px_J f h) : px_PI 40 143 [.ref 0] h (fun v h1 => k37 h h1 ∧ px_PI 40 256 [.ref 100] h1 (fun v2 h2 => v = v2 ∧ px_J f h2 ∧ k37 h1 h2)) := by
  exact px_PIi (px_PI3 (px_lift (P_restore hJ) rfl)) (fun v h1 q => ⟨q.2, px_PIi (px_PI3 (px_lift q.1 rfl)) (fun v2 h2 z => ⟨z.1.1, z.1.2.2, z.2⟩)⟩)
theorem PD_fault (hJ : px_J f h) : px_PI 40 111 [.ref 0] h (fun v h1 => k37 h h1 ∧ px_PI 40 195 [.ref 100] h1 (fun v2 h2 => v = v2 ∧ px_J f h2 ∧ k37 h1 h2)) := by
  have hJ' := hJ
  obtain ⟨hf, B, N, T, cs, L, W, I, t, hI⟩ := hJ
  have V : px_PI 40 111 [.ref 0] h (fun v h1 => v = h 0 17 ∧ h1 = h) := by
    obtain ⟨r, e, F⟩ := px_lift (D' := 40) (C_fault (h := h)) rfl
    exact ⟨r, ⟨_, _, e, rfl, rfl⟩, F⟩
  refine px_PIi V (fun v h1 q => ?_)
  obtain ⟨rfl, rfl⟩ := q
  exact ⟨k37.rf, px_PIi (px_PI3 (px_lift (M_fault hI) rfl)) (fun v2 h2 z => ⟨z.1.1.symm, px_Jk hJ' z.1.2.2, z.2⟩)⟩
theorem PD_grown (hJ : px_J f h) : px_PI 40 137 [.ref 0] h (fun v h1 => k37 h h1 ∧ px_PI 40 246 [.ref 100] h1 (fun v2 h2 => v = v2 ∧ px_J f h2 ∧ k37 h1 h2)) := by
  have hJ' := hJ
  obtain ⟨hf, B, N, T, cs, L, W, I, t, hI⟩ := hJ
  have V : px_PI 40 137 [.ref 0] h (fun v h1 => v = pf_gro h N ∧ h1 = h) := by
    obtain ⟨r, e, F⟩ := px_lift (D' := 40) (C_grown (h := h) hI) rfl
    exact ⟨r, ⟨_, _, e, rfl, rfl⟩, F⟩
  refine px_PIi V (fun v h1 q => ?_)
  obtain ⟨rfl, rfl⟩ := q
  exact ⟨k37.rf, px_PIi (px_PI3 (px_lift (M_grown hI) rfl)) (fun v2 h2 z => ⟨z.1.1.symm, px_Jk hJ' z.1.2.2, z.2⟩)⟩
theorem PD_room (hJ : px_J f h) : px_PI 40 138 [.ref 0] h (fun v h1 => k37 h h1 ∧ px_PI 40 247 [.ref 100] h1 (fun v2 h2 => v = v2 ∧ px_J f h2 ∧ k37 h1 h2)) := by
  have hJ' := hJ
  obtain ⟨hf, B, N, T, cs, L, W, I, t, hI⟩ := hJ
  have V : px_PI 40 138 [.ref 0] h (fun v h1 => v = pf_room h B N ∧ h1 = h) := by
    obtain ⟨r, e, F⟩ := px_lift (D' := 40) (C_room (h := h) hI) rfl
    exact ⟨r, ⟨_, _, e, rfl, rfl⟩, F⟩
  refine px_PIi V (fun v h1 q => ?_)
  obtain ⟨rfl, rfl⟩ := q
  exact ⟨k37.rf, px_PIi (px_PI3 (px_lift (M_room hI) rfl)) (fun v2 h2 z => ⟨z.1.1.symm, px_Jk hJ' z.1.2.2, z.2⟩)⟩
theorem PD_status {w : Int32} (hJ : px_J f h) : px_PI 40 144 [.ref 0, .int w] h (fun v h1 => k37 h h1 ∧ px_PI 40 257 [.ref 100, .int w] h1 (fun v2 h2 => v = v2 ∧ px_J f h2 ∧ k37 h1 h2)) := by
  have hJ' := hJ
  obtain ⟨hf, B, N, T, cs, L, W, I, t, hI⟩ := hJ
  have V : px_PI 40 144 [.ref 0, .int w] h (fun v h1 => v = pf_status h w ∧ h1 = h) := by
    obtain ⟨r, e, F⟩ := px_lift (D' := 40) (C_status (h := h)) rfl
    exact ⟨r, ⟨_, _, e, rfl, rfl⟩, F⟩
  refine px_PIi V (fun v h1 q => ?_)
  obtain ⟨rfl, rfl⟩ := q
  exact ⟨k37.rf, px_PIi (px_PI3 (px_lift (M_status hI) rfl)) (fun v2 h2 z => ⟨z.1.1.symm, px_Jk hJ' z.1.2.2, z.2⟩)⟩
theorem PD_count {w : Int32} (hJ : px_J f h) : px_PI 40 145 [.ref 0, .int w] h (fun v h1 => k37 h h1 ∧ px_PI 40 258 [.ref 100, .int w] h1 (fun v2 h2 => v = v2 ∧ px_J f h2 ∧ k37 h1 h2)) := by
  have hJ' := hJ
  obtain ⟨hf, B, N, T, cs, L, W, I, t, hI⟩ := hJ
  have V : px_PI 40 145 [.ref 0, .int w] h (fun v h1 => v = pf_count h w ∧ h1 = h) := by
    obtain ⟨r, e, F⟩ := px_lift (D' := 40) (C_count (h := h)) rfl
    exact ⟨r, ⟨_, _, e, rfl, rfl⟩, F⟩
  refine px_PIi V (fun v h1 q => ?_)
  obtain ⟨rfl, rfl⟩ := q
  exact ⟨k37.rf, px_PIi (px_PI3 (px_lift (M_count hI) rfl)) (fun v2 h2 z => ⟨z.1.1.symm, px_Jk hJ' z.1.2.2, z.2⟩)⟩
theorem PD_ears (hJ : px_J f h) : px_PI 40 130 [.ref 0] h (fun v h1 => k37 h h1 ∧ px_PI 40 238 [.ref 100] h1 (fun v2 h2 => v = v2 ∧ px_J f h2 ∧ k37 h1 h2)) := by
  have hJ' := hJ
  obtain ⟨hf, B, N, T, cs, L, W, I, t, hI⟩ := hJ
  have B6 : B ≤ 6 := hI.1.2.2.1
  refine px_PIi (px_lift (C_ears hI) rfl) (fun v h1 q => ?_)
  obtain ⟨rfl, z, rfl, hz⟩ := q
  refine ⟨k37.rf, px_PIi (px_PI3 (px_lift (M_ears hI) rfl)) (fun v2 h2 q => ?_)⟩
  obtain ⟨⟨⟨z', rfl, hz'⟩, q2, q3⟩, kk⟩ := q
  exact ⟨by rw [pf_ear_u2 B6 hz hz'], px_Jk hJ' q3, kk⟩
end PP
