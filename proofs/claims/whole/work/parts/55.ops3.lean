theorem w_swD {C : px_C} {D : Nat} {ops : List ix_Op} {hs : List ix_Hd} {i : Nat} {ls st : List Value} {h : ix_H} {k : Nat} {Q : ix_R → Prop} {pc len x y z : Nat} {tl : List Nat} {v a : Int32} {dflt lo hi : Int} {tt : Array Int} (ho : ops[i]? = some (pc, len, .tableswitch dflt lo hi tt, x, y, z, tl, v)) (hn : (hi - lo).toNat < tl.length) (hx : a.toInt < lo ∨ hi < a.toInt) (H : px_R C D ops hs x ls st h k Q) : px_R C D ops hs i ls (.int a :: st) h k Q := by
  refine w_sw ho (fun u h1 h2 w hw => ?_) hn (fun _ => H)
  exfalso
  omega
theorem px_outside {a : Int32} {K : Nat} (hK : K < 2147483648) (h : ¬ (nI 0 ≤ a ∧ a ≤ nI K)) : a.toInt < 0 ∨ (K : Int) < a.toInt := by
  rw [Int32.le_iff_toInt_le, Int32.le_iff_toInt_le, nI_toInt (by decide), nI_toInt hK] at h
  omega
theorem pf_ls_congr {cs : List (Nat × Nat)} {N B c : Nat} {f f' q q' s s' a a' p p' t t' : Nat → Int32} {y y' : Int32} (hN : ∀ j, j < N → p j = p' j) (hc : p c = p' c) (hv : p c = -2 ∨ p c = -1 ∨ ∃ b, b < B ∧ p c = nI b) (hB : B ≤ 6) (h1 : s c = s' c) (h2 : a c = a' c) (h3 : q c = q' c) (h4 : ∀ b, b < B → f b = f' b ∧ t b = t' b) (h5 : y = y') : pf_ls cs N f q s a p t y c = pf_ls cs N f' q' s' a' p' t' y' c := by
  have hct : ∀ v M, M ≤ N → pf_ct p v M = pf_ct p' v M := by
    intro v M
    induction M with
    | zero => intro _; rfl
    | succ M ih => intro hM; rw [pf_ct, pf_ct, ih (by omega), hN M (by omega)]
  unfold pf_ls
  rw [← hc, h1]
  rcases hv with e | e | ⟨b, hb, e⟩
  · rw [if_pos e, if_pos e]
  · have e2 : ¬ p c = -2 := by rw [e]; decide
    rw [if_neg e2, if_neg e2, if_pos e, if_pos e]
  · have e1 : ¬ p c = -1 := by rw [e]; exact (px_nneg (by omega)).1
    have e2 : ¬ p c = -2 := by rw [e]; exact (px_nneg (by omega)).2
    rw [if_neg e2, if_neg e2, if_neg e1, if_neg e1, e, nI_clamp (by omega), (h4 b hb).1, (h4 b hb).2, h2, h3, h5, hct _ _ (Nat.le_refl _)]
section OPS
variable {h : ix_H} {B N T L W I t : Nat} {cs : List (Nat × Nat)}
theorem C_fault : px_V 1 111 [.ref 0] h (some (.int (h 0 17))) h := by
  refine px_M (M := mt_111) (ops := mo_111) tb_111 rfl rfl rfl rfl rfl ?_
  refine w_al (j := 1) rfl rfl rfl ?_
  first | refine w_gr (j := 2) rfl rfl (by first | assumption | rfl) (by first | assumption | rfl) rfl ?_ | refine w_gi (j := 2) rfl rfl (by first | assumption | rfl) (by first | assumption | rfl) rfl rfl ?_
  refine w_ir rfl ?_
  rfl
theorem M_fault (hI : px_I h B N T cs L W I t) : px_PI 1 195 [.ref 100] h (fun w h2 => w = h 0 17 ∧ h2 100 0 = nI 0 ∧ px_kp h h2) := by
  refine px_M (M := mt_195) (ops := mo_195) tb_195 rfl rfl rfl rfl rfl ?_
  refine w_al (j := 1) rfl rfl rfl ?_
  refine w_ic (n := 0) (j := 2) rfl rfl ?_
  refine w_pf (j := 3) rfl rfl (by first | assumption | rfl) (by first | assumption | rfl) rfl ?_
  obtain ⟨I1, k1, t0⟩ := px_thr (v := nI 0) hI
  generalize ix_up h 100 0 (nI 0) = h1 at I1 k1 t0 ⊢
  refine w_al (j := 4) rfl rfl rfl ?_
  first | refine w_gr (j := 5) rfl rfl (by first | assumption | rfl) (by first | assumption | rfl) rfl ?_ | refine w_gi (j := 5) rfl rfl (by first | assumption | rfl) (by first | assumption | rfl) rfl rfl ?_
  refine w_ir rfl ?_
  exact ⟨_, _, rfl, by rw [← k1.1 0 (by decide)]; exact I1.2.2.2.2.2.2.2.symm, t0, k1⟩
def pf_status (h : ix_H) (w : Int32) : Int32 := if w = 0 then h 0 18 else if w = nI 1 then h 0 19 else -1
theorem pf_status_kp {h h' : ix_H} {w : Int32} (k : px_kp h h') : pf_status h' w = pf_status h w := by unfold pf_status; rw [k.1 0 (by decide)]
theorem C_status {w : Int32} : px_V 1 144 [.ref 0, .int w] h (some (.int (pf_status h w))) h := by
  refine px_M (M := mt_144) (ops := mo_144) tb_144 rfl rfl rfl rfl rfl ?_
  refine w_il (j := 1) rfl rfl rfl ?_
  refine w_neZ (j := 2) rfl rfl (fun c1 => ?_) (fun c1 => ?_)
  ·
    refine w_il (j := 6) rfl rfl rfl ?_
    refine w_ic (n := 1) (j := 7) rfl rfl ?_
    refine w_ne (j := 8) rfl rfl (fun c2 => ?_) (fun c2 => ?_)
    ·
      refine w_im (j := 12) rfl rfl ?_
      refine w_ir rfl ?_
      exact px_ri (by rw [pf_status, if_neg c1, if_neg c2])
    ·
      refine w_al (j := 9) rfl rfl rfl ?_
      first | refine w_gr (j := 10) rfl rfl (by first | assumption | rfl) (by first | assumption | rfl) rfl ?_ | refine w_gi (j := 10) rfl rfl (by first | assumption | rfl) (by first | assumption | rfl) rfl rfl ?_
      refine w_go rfl ?_
      refine w_ir rfl ?_
      exact px_ri (by rw [pf_status, if_neg c1, if_pos c2])
  ·
    refine w_al (j := 3) rfl rfl rfl ?_
    first | refine w_gr (j := 4) rfl rfl (by first | assumption | rfl) (by first | assumption | rfl) rfl ?_ | refine w_gi (j := 4) rfl rfl (by first | assumption | rfl) (by first | assumption | rfl) rfl rfl ?_
    refine w_ir rfl ?_
    exact px_ri (by rw [pf_status, if_pos c1])
theorem M_status {w : Int32} (hI : px_I h B N T cs L W I t) : px_PI 2 257 [.ref 100, .int w] h (fun v h2 => v = pf_status h w ∧ h2 100 0 = nI 0 ∧ px_kp h h2) := by
  refine px_M (M := mt_257) (ops := mo_257) tb_257 rfl rfl rfl rfl rfl ?_
  refine w_al (j := 1) rfl rfl rfl ?_
  refine w_ic (n := 0) (j := 2) rfl rfl ?_
  refine w_pf (j := 3) rfl rfl (by first | assumption | rfl) (by first | assumption | rfl) rfl ?_
  obtain ⟨I1, k1, t0⟩ := px_thr (v := nI 0) hI
  generalize ix_up h 100 0 (nI 0) = h1 at I1 k1 t0 ⊢
  rw [← pf_status_kp k1]
  obtain ⟨c18, c19⟩ := I1.2.2.2.2.2.2.1
  refine w_il (j := 4) rfl rfl rfl ?_
  refine w_ic (n := 0) (j := 5) rfl rfl ?_
  refine w_ic (n := 1) (j := 6) rfl rfl ?_
  refine w_csI (j := 7) rfl rfl rfl rfl rfl (sp_155) rfl ?_
  by_cases hw : nI 0 ≤ w ∧ w ≤ nI 1
  · rw [decide_eq_true hw]
    obtain ⟨m, hm, rfl⟩ := px_bnd2 (by decide) hw
    refine w_eqB (j := 8) rfl rfl (fun c => absurd c (by simp)) (fun _ => ?_)
    refine w_al (j := 9) rfl rfl rfl ?_
    first | refine w_gr (j := 10) rfl rfl (by first | assumption | rfl) (by first | assumption | rfl) rfl ?_ | refine w_gi (j := 10) rfl rfl (by first | assumption | rfl) (by first | assumption | rfl) rfl rfl ?_
    refine w_il (j := 11) rfl rfl rfl ?_
    refine w_ial (j := 12) rfl rfl (by first | assumption | rfl) rfl (by omega) rfl rfl ?_
    refine w_go rfl ?_
    refine w_ir rfl ?_
    refine ⟨_, _, rfl, ?_, t0, k1⟩
    obtain rfl | rfl : m = 0 ∨ m = 1 := by omega
    · exact c18.symm
    · exact c19.symm
  · rw [decide_eq_false hw]
    refine w_eqB (j := 8) rfl rfl (fun _ => ?_) (fun c => absurd c (by simp))
    refine w_im (j := 14) rfl rfl ?_
    refine w_ir rfl ?_
    refine ⟨_, _, rfl, ?_, t0, k1⟩
    rw [pf_status, if_neg (fun e => hw (by rw [e]; decide)), if_neg (fun e => hw (by rw [e]; decide))]
def pf_count (h : ix_H) (w : Int32) : Int32 := if w = 0 then h 72 4 else if w = nI 1 then h 0 16 else if w = nI 2 then h 72 3 else -1
theorem pf_count_kp {h h' : ix_H} {w : Int32} (k : px_kp h h') : pf_count h' w = pf_count h w := by unfold pf_count; rw [k.1 0 (by decide), k.1 72 (by decide)]
theorem C_count {w : Int32} : px_V 1 145 [.ref 0, .int w] h (some (.int (pf_count h w))) h := by
  refine px_M (M := mt_145) (ops := mo_145) tb_145 rfl rfl rfl rfl rfl ?_
  refine w_il (j := 1) rfl rfl rfl ?_
  by_cases hw : nI 0 ≤ w ∧ w ≤ nI 2
  · obtain ⟨m, hm, rfl⟩ := px_bnd2 (by decide) hw
    obtain rfl | rfl | rfl : m = 0 ∨ m = 1 ∨ m = 2 := by omega
    ·
      refine w_swN (t := 2) rfl (by decide) (by omega) rfl ?_
      refine w_al (j := 3) rfl rfl rfl ?_
      first | refine w_gr (j := 4) rfl rfl (by first | assumption | rfl) (by first | assumption | rfl) rfl ?_ | refine w_gi (j := 4) rfl rfl (by first | assumption | rfl) (by first | assumption | rfl) rfl rfl ?_
      first | refine w_gr (j := 5) rfl rfl (by first | assumption | rfl) (by first | assumption | rfl) rfl ?_ | refine w_gi (j := 5) rfl rfl (by first | assumption | rfl) (by first | assumption | rfl) rfl rfl ?_
      refine w_ir rfl ?_
      rfl
    ·
      refine w_swN (t := 6) rfl (by decide) (by omega) rfl ?_
      refine w_al (j := 7) rfl rfl rfl ?_
      first | refine w_gr (j := 8) rfl rfl (by first | assumption | rfl) (by first | assumption | rfl) rfl ?_ | refine w_gi (j := 8) rfl rfl (by first | assumption | rfl) (by first | assumption | rfl) rfl rfl ?_
      refine w_ir rfl ?_
      rfl
    ·
      refine w_swN (t := 9) rfl (by decide) (by omega) rfl ?_
      refine w_al (j := 10) rfl rfl rfl ?_
      first | refine w_gr (j := 11) rfl rfl (by first | assumption | rfl) (by first | assumption | rfl) rfl ?_ | refine w_gi (j := 11) rfl rfl (by first | assumption | rfl) (by first | assumption | rfl) rfl rfl ?_
      first | refine w_gr (j := 12) rfl rfl (by first | assumption | rfl) (by first | assumption | rfl) rfl ?_ | refine w_gi (j := 12) rfl rfl (by first | assumption | rfl) (by first | assumption | rfl) rfl rfl ?_
      refine w_ir rfl ?_
      rfl
  ·
    refine w_swD rfl (by decide) (px_outside (by decide) hw) ?_
    refine w_im (j := 14) rfl rfl ?_
    refine w_ir rfl ?_
    exact px_ri (by rw [pf_count, if_neg (fun e => hw (by rw [e]; decide)), if_neg (fun e => hw (by rw [e]; decide)), if_neg (fun e => hw (by rw [e]; decide))])
theorem M_count {w : Int32} (hI : px_I h B N T cs L W I t) : px_PI 2 258 [.ref 100, .int w] h (fun v h2 => v = pf_count h w ∧ h2 100 0 = nI 0 ∧ px_kp h h2) := by
  refine px_M (M := mt_258) (ops := mo_258) tb_258 rfl rfl rfl rfl rfl ?_
  refine w_al (j := 1) rfl rfl rfl ?_
  refine w_ic (n := 0) (j := 2) rfl rfl ?_
  refine w_pf (j := 3) rfl rfl (by first | assumption | rfl) (by first | assumption | rfl) rfl ?_
  obtain ⟨I1, k1, t0⟩ := px_thr (v := nI 0) hI
  generalize ix_up h 100 0 (nI 0) = h1 at I1 k1 t0 ⊢
  rw [← pf_count_kp k1]
  obtain ⟨-, -, -, -, ⟨i1, i2, i3, i4, i5, i6, -⟩, ⟨t1, t2, t3, -⟩, -⟩ := I1
  refine w_il (j := 4) rfl rfl rfl ?_
  refine w_neZ (j := 5) rfl rfl (fun c1 => ?_) (fun c1 => ?_)
  ·
    refine w_il (j := 9) rfl rfl rfl ?_
    refine w_ic (n := 1) (j := 10) rfl rfl ?_
    refine w_ne (j := 11) rfl rfl (fun c2 => ?_) (fun c2 => ?_)
    ·
      refine w_il (j := 15) rfl rfl rfl ?_
      refine w_ic (n := 2) (j := 16) rfl rfl ?_
      refine w_ne (j := 17) rfl rfl (fun c3 => ?_) (fun c3 => ?_)
      ·
        refine w_im (j := 21) rfl rfl ?_
        refine w_ir rfl ?_
        exact ⟨_, _, rfl, by rw [pf_count, if_neg c1, if_neg c2, if_neg c3], t0, k1⟩
      ·
        refine w_al (j := 18) rfl rfl rfl ?_
        first | refine w_gr (j := 19) rfl rfl (by first | assumption | rfl) (by first | assumption | rfl) rfl ?_ | refine w_gi (j := 19) rfl rfl (by first | assumption | rfl) (by first | assumption | rfl) rfl rfl ?_
        refine w_go rfl ?_
        refine w_ir rfl ?_
        exact ⟨_, _, rfl, by rw [pf_count, if_neg c1, if_neg c2, if_pos c3, i2, i3], t0, k1⟩
    ·
      refine w_al (j := 12) rfl rfl rfl ?_
      first | refine w_gr (j := 13) rfl rfl (by first | assumption | rfl) (by first | assumption | rfl) rfl ?_ | refine w_gi (j := 13) rfl rfl (by first | assumption | rfl) (by first | assumption | rfl) rfl rfl ?_
      refine w_go rfl ?_
      refine w_ir rfl ?_
      exact ⟨_, _, rfl, by rw [pf_count, if_neg c1, if_pos c2, t2, t3], t0, k1⟩
  ·
    refine w_al (j := 6) rfl rfl rfl ?_
    first | refine w_gr (j := 7) rfl rfl (by first | assumption | rfl) (by first | assumption | rfl) rfl ?_ | refine w_gi (j := 7) rfl rfl (by first | assumption | rfl) (by first | assumption | rfl) rfl rfl ?_
    refine w_go rfl ?_
    refine w_ir rfl ?_
    exact ⟨_, _, rfl, by rw [pf_count, if_pos c1, i5, i6], t0, k1⟩
-- bay
def pf_bay (h : ix_H) (B N b m : Nat) : Int32 := if m = 0 then h 4 b else if m = 1 then h 5 b else if m = 2 then px_fold (pf_fb (fun c => h 67 c = nI b)) N (nI 0) else if m = 3 then pf_bt (h 64 4) b else px_fold (pf_fb (fun c => 0 < h (9 + b) c)) B (nI 0)
theorem pf_bay_kp {h h' : ix_H} {B N b m : Nat} (hb : b < 6) (k : px_kp h h') : pf_bay h' B N b m = pf_bay h B N b m := by
  unfold pf_bay
  rw [k.1 4 (by decide), k.1 5 (by decide), k.1 67 (by decide), k.1 64 (by decide), k.1 (9 + b) (pf_pers_i (by omega))]
theorem C_bay {a w : Int32} (hI : px_I h B N T cs L W I t) : px_CO 4 114 [.ref 0, .int a, .int w] h (fun v h1 => ∃ b m, b < B ∧ m ≤ 4 ∧ a = nI b ∧ w = nI m ∧ v = pf_bay h B N b m ∧ px_kp h h1) (fun x h1 => (x = 1 ∧ ¬ (0 ≤ a ∧ a < nI B) ∧ h1 = px_hX 1 h) ∨ (x = 0 ∧ (0 ≤ a ∧ a < nI B) ∧ ¬ (nI 0 ≤ w ∧ w ≤ nI 4) ∧ h1 = px_hX 0 h)) := by
  obtain ⟨⟨l1, l2, l3, l4, l5, l6, l7, l8, l9⟩, -, -, nw, -⟩ := hI
  refine px_M (M := mt_114) (ops := mo_114) tb_114 rfl rfl rfl rfl rfl ?_
  refine w_al (j := 1) rfl rfl rfl ?_
  refine w_il (j := 2) rfl rfl rfl ?_
  refine w_chk (j := 3) rfl rfl rfl rfl (by first | assumption | rfl) rfl rfl (sp_149) rfl (fun c => ?_) (fun c => ?_)
  · rw [l1] at c
    exact Or.inr ⟨_, _, rfl, Or.inl ⟨rfl, c, rfl⟩⟩
  ·
    rw [l1] at c
    obtain ⟨b, hb, rfl⟩ := px_bnd (by omega) c
    refine w_al (j := 4) rfl rfl rfl ?_
    refine w_il (j := 5) rfl rfl rfl ?_
    refine w_ltZ (j := 6) rfl rfl (fun c1 => ?_) (fun c1 => ?_)
    ·
      refine w_ic (n := 0) (j := 12) rfl rfl ?_
      refine w_chk (j := 13) rfl rfl rfl rfl (by first | assumption | rfl) rfl rfl (sp_146 (b := false)) rfl (fun c => ?_) (fun c => ?_)
      · exact Or.inr ⟨_, _, rfl, Or.inr ⟨rfl, by assumption, fun q => px_not_lt.mpr q.1 c1, rfl⟩⟩
      · cases c
    ·
      refine w_il (j := 7) rfl rfl rfl ?_
      refine w_ic (n := 4) (j := 8) rfl rfl ?_
      refine w_gt (j := 9) rfl rfl (fun c2 => ?_) (fun c2 => ?_)
      ·
        refine w_ic (n := 0) (j := 12) rfl rfl ?_
        refine w_chk (j := 13) rfl rfl rfl rfl (by first | assumption | rfl) rfl rfl (sp_146 (b := false)) rfl (fun c => ?_) (fun c => ?_)
        · exact Or.inr ⟨_, _, rfl, Or.inr ⟨rfl, by assumption, fun q => px_not_le.mpr c2 q.2, rfl⟩⟩
        · cases c
      ·
        refine w_ic (n := 1) (j := 10) rfl rfl ?_
        refine w_go rfl ?_
        refine w_chk (j := 13) rfl rfl rfl rfl (by first | assumption | rfl) rfl rfl (sp_146 (b := true)) rfl (fun c => ?_) (fun c => ?_)
        · exact absurd rfl c
        ·
          obtain ⟨m, hm, rfl⟩ := px_bnd2 (by decide) ⟨c1, c2⟩
          obtain rfl | rfl | rfl | rfl | rfl : m = 0 ∨ m = 1 ∨ m = 2 ∨ m = 3 ∨ m = 4 := by omega
          ·
            refine w_il (j := 14) rfl rfl rfl ?_
            refine w_swN (t := 15) rfl (by decide) (by omega) rfl ?_
            refine w_al (j := 16) rfl rfl rfl ?_
            first | refine w_gr (j := 17) rfl rfl (by first | assumption | rfl) (by first | assumption | rfl) rfl ?_ | refine w_gi (j := 17) rfl rfl (by first | assumption | rfl) (by first | assumption | rfl) rfl rfl ?_
            first | refine w_gr (j := 18) rfl rfl (by first | assumption | rfl) (by first | assumption | rfl) rfl ?_ | refine w_gi (j := 18) rfl rfl (by first | assumption | rfl) (by first | assumption | rfl) rfl rfl ?_
            refine w_il (j := 19) rfl rfl rfl ?_
            refine w_ial (j := 20) rfl rfl (by first | assumption | rfl) rfl (by omega) rfl rfl ?_
            refine w_ir rfl ?_
            exact Or.inl ⟨_, _, rfl, _, _, hb, hm, rfl, rfl, rfl, px_kp.rf⟩
          ·
            refine w_il (j := 14) rfl rfl rfl ?_
            refine w_swN (t := 21) rfl (by decide) (by omega) rfl ?_
            refine w_al (j := 22) rfl rfl rfl ?_
            first | refine w_gr (j := 23) rfl rfl (by first | assumption | rfl) (by first | assumption | rfl) rfl ?_ | refine w_gi (j := 23) rfl rfl (by first | assumption | rfl) (by first | assumption | rfl) rfl rfl ?_
            first | refine w_gr (j := 24) rfl rfl (by first | assumption | rfl) (by first | assumption | rfl) rfl ?_ | refine w_gi (j := 24) rfl rfl (by first | assumption | rfl) (by first | assumption | rfl) rfl rfl ?_
            refine w_il (j := 25) rfl rfl rfl ?_
            refine w_ial (j := 26) rfl rfl (by first | assumption | rfl) rfl (by omega) rfl rfl ?_
            refine w_ir rfl ?_
            exact Or.inl ⟨_, _, rfl, _, _, hb, hm, rfl, rfl, rfl, px_kp.rf⟩
          ·
            refine w_il (j := 14) rfl rfl rfl ?_
            refine w_swN (t := 27) rfl (by decide) (by omega) rfl ?_
            refine w_al (j := 28) rfl rfl rfl ?_
            first | refine w_gr (j := 29) rfl rfl (by first | assumption | rfl) (by first | assumption | rfl) rfl ?_ | refine w_gi (j := 29) rfl rfl (by first | assumption | rfl) (by first | assumption | rfl) rfl rfl ?_
            refine w_il (j := 30) rfl rfl rfl ?_
            refine w_cvI (j := 31) rfl rfl rfl rfl (by first | assumption | rfl) rfl rfl (sp_77 px_St64 l4 l6) rfl ?_
            refine w_ir rfl ?_
            exact Or.inl ⟨_, _, rfl, _, _, hb, hm, rfl, rfl, rfl, px_kp.rf⟩
          ·
            refine w_il (j := 14) rfl rfl rfl ?_
            refine w_swN (t := 32) rfl (by decide) (by omega) rfl ?_
            refine w_al (j := 33) rfl rfl rfl ?_
            first | refine w_gr (j := 34) rfl rfl (by first | assumption | rfl) (by first | assumption | rfl) rfl ?_ | refine w_gi (j := 34) rfl rfl (by first | assumption | rfl) (by first | assumption | rfl) rfl rfl ?_
            refine w_il (j := 35) rfl rfl rfl ?_
            refine w_cvI (j := 36) rfl rfl rfl rfl (by first | assumption | rfl) rfl rfl (sp_84 px_St64) rfl ?_
            refine w_ir rfl ?_
            exact Or.inl ⟨_, _, rfl, _, _, hb, hm, rfl, rfl, rfl, px_kp.rf⟩
          ·
            refine w_il (j := 14) rfl rfl rfl ?_
            refine w_swN (t := 37) rfl (by decide) (by omega) rfl ?_
            refine w_al (j := 38) rfl rfl rfl ?_
            first | refine w_gr (j := 39) rfl rfl (by first | assumption | rfl) (by first | assumption | rfl) rfl ?_ | refine w_gi (j := 39) rfl rfl (by first | assumption | rfl) (by first | assumption | rfl) rfl rfl ?_
            refine w_il (j := 40) rfl rfl rfl ?_
            refine w_cvI (j := 41) rfl rfl rfl rfl (by first | assumption | rfl) rfl rfl (sp_31 px_Ld3 l1 l3 (by omega)) rfl ?_
            refine w_ir rfl ?_
            exact Or.inl ⟨_, _, rfl, _, _, hb, hm, rfl, rfl, rfl, px_kp.rf⟩
theorem sp_215 {b : Nat} (hb : b < 6) (hB : h 104 0 = nI B) (hB6 : B ≤ 6) : px_V 1 215 [.ref 100, .int (nI b)] h (some (.int (px_fold (pf_fb (fun c => 0 < h (145 + b) c)) B (nI 0)))) h := by
  have s1 := sh_145 b hb
  rw [← pf_fm_eq]
  refine px_M (M := mt_215) (ops := mo_215) tb_215 rfl rfl rfl rfl rfl ?_
  refine w_ic (n := 0) (j := 1) rfl rfl ?_
  refine w_is (j := 2) rfl rfl rfl ?_
  refine w_ic (n := 0) (j := 3) rfl rfl ?_
  refine w_is (j := 4) rfl rfl rfl ?_
  refine px_for (fun c s => [.ref 100, .int (nI b), .int s, .int (nI c)]) (fun _ => h) (pf_fm (fun c => 0 < h (145 + b) c)) B (nI 0) (fun _ _ => True) trivial (fun _ _ _ _ => trivial) ?_ ?_
  · intro c s hc _ H
    refine w_il (j := 5) rfl rfl rfl ?_
    refine w_al (j := 6) rfl rfl rfl ?_
    first | refine w_gr (j := 7) rfl rfl (by first | assumption | rfl) (by first | assumption | rfl) rfl ?_ | refine w_gi (j := 7) rfl rfl (by first | assumption | rfl) (by first | assumption | rfl) rfl rfl ?_
    refine w_ic (n := 0) (j := 8) rfl rfl ?_
    refine w_ial (j := 9) rfl rfl (by first | assumption | rfl) rfl (by omega) rfl hB ?_
    refine w_geN (j := 10) rfl rfl (by omega) (by omega) (fun c => absurd c (fun c => by omega)) (fun _ => ?_)
    refine w_il (j := 11) rfl rfl rfl ?_
    refine w_al (j := 12) rfl rfl rfl ?_
    first | refine w_gr (j := 13) rfl rfl (by first | assumption | rfl) (by first | assumption | rfl) rfl ?_ | refine w_gi (j := 13) rfl rfl (by first | assumption | rfl) (by first | assumption | rfl) rfl rfl ?_
    refine w_il (j := 14) rfl rfl rfl ?_
    refine w_aal (j := 15) rfl rfl (by first | assumption | rfl) rfl (by omega) rfl ?_
    refine w_il (j := 16) rfl rfl rfl ?_
    refine w_ial (j := 17) rfl rfl (by first | assumption | rfl) rfl (by omega) rfl rfl ?_
    refine w_leZ (j := 18) rfl rfl (fun c1 => ?_) (fun c1 => ?_)
    ·
      refine w_ic (n := 0) (j := 23) rfl rfl ?_
      refine w_or (j := 24) rfl rfl ?_
      refine w_is (j := 25) rfl rfl rfl ?_
      first | refine w_incN (j := 26) rfl rfl rfl ?_ | refine w_inc (j := 26) rfl rfl rfl rfl ?_
      refine w_go rfl ?_
      rw [pf_fm, if_neg (px_not_lt.mpr c1)] at H
      exact H
    ·
      refine w_ic (n := 1) (j := 19) rfl rfl ?_
      refine w_il (j := 20) rfl rfl rfl ?_
      refine w_shl (j := 21) rfl rfl ?_
      refine w_go rfl ?_
      refine w_or (j := 24) rfl rfl ?_
      refine w_is (j := 25) rfl rfl rfl ?_
      first | refine w_incN (j := 26) rfl rfl rfl ?_ | refine w_inc (j := 26) rfl rfl rfl rfl ?_
      refine w_go rfl ?_
      rw [pf_fm, if_pos c1] at H
      exact H
  · intro _
    refine w_il (j := 5) rfl rfl rfl ?_
    refine w_al (j := 6) rfl rfl rfl ?_
    first | refine w_gr (j := 7) rfl rfl (by first | assumption | rfl) (by first | assumption | rfl) rfl ?_ | refine w_gi (j := 7) rfl rfl (by first | assumption | rfl) (by first | assumption | rfl) rfl rfl ?_
    refine w_ic (n := 0) (j := 8) rfl rfl ?_
    refine w_ial (j := 9) rfl rfl (by first | assumption | rfl) rfl (by omega) rfl hB ?_
    refine w_geN (j := 10) rfl rfl (by omega) (by omega) (fun _ => ?_) (fun c => absurd c (fun c => by omega))
    refine w_il (j := 28) rfl rfl rfl ?_
    refine w_ir rfl ?_
    rfl
theorem sp_212 {b : Int32} (hB : h 104 0 = nI B) (hB6 : B ≤ 6) : px_V 2 212 [.ref 100, .int b] h (some (.int (px_b (decide (0 ≤ b ∧ b < nI B))))) h := by
  refine px_M (M := mt_212) (ops := mo_212) tb_212 rfl rfl rfl rfl rfl ?_
  refine w_il (j := 1) rfl rfl rfl ?_
  refine w_ic (n := 0) (j := 2) rfl rfl ?_
  refine w_al (j := 3) rfl rfl rfl ?_
  first | refine w_gr (j := 4) rfl rfl (by first | assumption | rfl) (by first | assumption | rfl) rfl ?_ | refine w_gi (j := 4) rfl rfl (by first | assumption | rfl) (by first | assumption | rfl) rfl rfl ?_
  refine w_ic (n := 0) (j := 5) rfl rfl ?_
  refine w_ial (j := 6) rfl rfl (by first | assumption | rfl) rfl (by omega) rfl hB ?_
  refine w_ic (n := 1) (j := 7) rfl rfl ?_
  first | refine w_subN (j := 8) rfl rfl (by omega) ?_ | refine w_sub (j := 8) rfl rfl ?_
  rw [show decide (0 ≤ b ∧ b < nI B) = decide (nI 0 ≤ b ∧ b ≤ nI B - nI 1) from px_dec_congr (by rw [px_ltle (by omega)]; exact Iff.rfl)]
  refine w_csI (j := 9) rfl rfl rfl rfl rfl (sp_155) rfl ?_
  refine w_irB rfl (by first | exact Or.inl rfl | exact Or.inr rfl | exact px_b01 _) ?_
  rfl
theorem sp_213 {b : Int32} (hB : h 104 1 = nI N) (hB6 : N ≤ 8) : px_V 2 213 [.ref 100, .int b] h (some (.int (px_b (decide (0 ≤ b ∧ b < nI N))))) h := by
  refine px_M (M := mt_213) (ops := mo_213) tb_213 rfl rfl rfl rfl rfl ?_
  refine w_il (j := 1) rfl rfl rfl ?_
  refine w_ic (n := 0) (j := 2) rfl rfl ?_
  refine w_al (j := 3) rfl rfl rfl ?_
  first | refine w_gr (j := 4) rfl rfl (by first | assumption | rfl) (by first | assumption | rfl) rfl ?_ | refine w_gi (j := 4) rfl rfl (by first | assumption | rfl) (by first | assumption | rfl) rfl rfl ?_
  refine w_ic (n := 1) (j := 5) rfl rfl ?_
  refine w_ial (j := 6) rfl rfl (by first | assumption | rfl) rfl (by omega) rfl hB ?_
  refine w_ic (n := 1) (j := 7) rfl rfl ?_
  first | refine w_subN (j := 8) rfl rfl (by omega) ?_ | refine w_sub (j := 8) rfl rfl ?_
  rw [show decide (0 ≤ b ∧ b < nI N) = decide (nI 0 ≤ b ∧ b ≤ nI N - nI 1) from px_dec_congr (by rw [px_ltle (by omega)]; exact Iff.rfl)]
  refine w_csI (j := 9) rfl rfl rfl rfl rfl (sp_155) rfl ?_
  refine w_irB rfl (by first | exact Or.inl rfl | exact Or.inr rfl | exact px_b01 _) ?_
  rfl
end OPS
