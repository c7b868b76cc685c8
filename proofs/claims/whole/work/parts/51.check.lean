def px_hX (x : Nat) (h : ix_H) : ix_H := ix_up h 0 (19 - x) (h 0 (19 - x) + nI 1)
def px_CK (D mi : Nat) (vs : List Value) (h : ix_H) (g : Prop) (x : Nat) : Prop := px_T px_E D mi vs h (fun r => (g ∧ r = (.inl none, h, 0)) ∨ (¬ g ∧ r = (.inr x, px_hX x h, 1)))
def px_CO (D mi : Nat) (vs : List Value) (h : ix_H) (P : Int32 → ix_H → Prop) (PX : Nat → ix_H → Prop) : Prop := px_T px_E D mi vs h (fun r => (∃ v h1, r = (.inl (some (.int v)), h1, 0) ∧ P v h1) ∨ (∃ x h1, r = (.inr x, h1, 1) ∧ PX x h1))
theorem w_chk {D : Nat} {ops : List ix_Op} {i j : Nat} {ls st st' : List Value} {h : ix_H} {k : Nat} {Q : ix_R → Prop} {pc len x z : Nat} {tl : List Nat} {v : Int32} {n p e c D' X : Nat} {vs : List Value} {g : Prop} (ho : ops[i]? = some (pc, len, .invokevirtual c, x, 0, z, tl, v)) (hj : i + 1 = j) (hv : (st.take z).reverse = .ref n :: vs) (hd : st.drop z = st') (hs' : ix_sh n = (5, p, e)) (ht : tl = [p]) (hyz : (Nat.blt 0 4 && Nat.ble z st.length && Nat.ble (st'.map fun v => v.category).sum 8) = true) (T : px_CK D' x (.ref n :: vs) h g X) (hD : Nat.ble D' D = true)
    (HX : ¬ g → Q (.inr X, px_hX X h, k + 1)) (H : g → px_R px_E D ops [] j ls st' h k Q) : px_R px_E D ops [] i ls st h k Q :=
  w_cvQ ho hj hv hd hs' ht hyz (px_lift T hD) (fun u' h' k' hq => by
    rcases hq with ⟨hg, e9⟩ | ⟨hg, e9⟩
    · cases e9; exact H hg
    · cases e9) (fun u' h' k' hq => by
    rcases hq with ⟨hg, e9⟩ | ⟨hg, e9⟩
    · cases e9
    · cases e9; exact Or.inl ⟨rfl, rfl, HX hg⟩)
theorem px_CKc {D mi : Nat} {vs : List Value} {h : ix_H} {g g' : Prop} {x : Nat} (T : px_CK D mi vs h g x) (e : g ↔ g') : px_CK D mi vs h g' x := by
  obtain ⟨r, hr, F⟩ := T
  refine ⟨r, ?_, F⟩
  rcases hr with ⟨a, b⟩ | ⟨a, b⟩
  · exact Or.inl ⟨e.mp a, b⟩
  · exact Or.inr ⟨fun q => a (e.mpr q), b⟩
theorem sp_146 {h : ix_H} {b : Bool} : px_CK 1 146 [.ref 0, .int (px_b b)] h (b = true) 0 := by
  refine px_M (M := mt_146) (ops := mo_146) tb_146 rfl rfl rfl rfl rfl ?_
  refine w_il (j := 1) rfl rfl rfl ?_
  refine w_neB (j := 2) rfl rfl (fun c => ?_) (fun c => ?_)
  ·
    refine w_rt rfl ?_
    exact Or.inl ⟨c, rfl⟩
  ·
    refine w_al (j := 3) rfl rfl rfl ?_
    first | refine w_dupr (j := 4) rfl rfl ?_ | refine w_dupi (j := 4) rfl rfl ?_
    first | refine w_gr (j := 5) rfl rfl (by first | assumption | rfl) (by first | assumption | rfl) rfl ?_ | refine w_gi (j := 5) rfl rfl (by first | assumption | rfl) (by first | assumption | rfl) rfl rfl ?_
    refine w_ic (n := 1) (j := 6) rfl rfl ?_
    first | refine w_add0 (j := 7) rfl rfl ?_ | refine w_addN (j := 7) rfl rfl ?_ | refine w_add (j := 7) rfl rfl ?_
    refine w_pf (j := 8) rfl rfl (by first | assumption | rfl) (by first | assumption | rfl) rfl ?_
    refine w_thr rfl ?_
    exact Or.inr ⟨by rw [c]; simp, rfl⟩
theorem sp_151 {h : ix_H} {b : Bool} : px_CK 1 151 [.ref 0, .int (px_b b)] h (b = true) 1 := by
  refine px_M (M := mt_151) (ops := mo_151) tb_151 rfl rfl rfl rfl rfl ?_
  refine w_il (j := 1) rfl rfl rfl ?_
  refine w_neB (j := 2) rfl rfl (fun c => ?_) (fun c => ?_)
  ·
    refine w_rt rfl ?_
    exact Or.inl ⟨c, rfl⟩
  ·
    refine w_al (j := 3) rfl rfl rfl ?_
    first | refine w_dupr (j := 4) rfl rfl ?_ | refine w_dupi (j := 4) rfl rfl ?_
    first | refine w_gr (j := 5) rfl rfl (by first | assumption | rfl) (by first | assumption | rfl) rfl ?_ | refine w_gi (j := 5) rfl rfl (by first | assumption | rfl) (by first | assumption | rfl) rfl rfl ?_
    refine w_ic (n := 1) (j := 6) rfl rfl ?_
    first | refine w_add0 (j := 7) rfl rfl ?_ | refine w_addN (j := 7) rfl rfl ?_ | refine w_add (j := 7) rfl rfl ?_
    refine w_pf (j := 8) rfl rfl (by first | assumption | rfl) (by first | assumption | rfl) rfl ?_
    refine w_thr rfl ?_
    exact Or.inr ⟨by rw [c]; simp, rfl⟩
theorem sp_147 {h : ix_H} {v lo hi : Int32} : px_CK 2 147 [.ref 0, .int v, .int lo, .int hi] h (lo ≤ v ∧ v ≤ hi) 0 := by
  refine px_M (M := mt_147) (ops := mo_147) tb_147 rfl rfl rfl rfl rfl ?_
  refine w_al (j := 1) rfl rfl rfl ?_
  refine w_il (j := 2) rfl rfl rfl ?_
  refine w_il (j := 3) rfl rfl rfl ?_
  refine w_lt (j := 4) rfl rfl (fun c1 => ?_) (fun c1 => ?_)
  ·
    refine w_ic (n := 0) (j := 10) rfl rfl ?_
    refine w_chk (j := 11) rfl rfl rfl rfl (by first | assumption | rfl) rfl rfl (sp_146 (b := false)) rfl (fun c => ?_) (fun c => ?_)
    · exact Or.inr ⟨fun q => px_not_lt.mpr q.1 c1, rfl⟩
    · cases c
  ·
    refine w_il (j := 5) rfl rfl rfl ?_
    refine w_il (j := 6) rfl rfl rfl ?_
    refine w_gt (j := 7) rfl rfl (fun c2 => ?_) (fun c2 => ?_)
    ·
      refine w_ic (n := 0) (j := 10) rfl rfl ?_
      refine w_chk (j := 11) rfl rfl rfl rfl (by first | assumption | rfl) rfl rfl (sp_146 (b := false)) rfl (fun c => ?_) (fun c => ?_)
      · exact Or.inr ⟨fun q => px_not_le.mpr c2 q.2, rfl⟩
      · cases c
    ·
      refine w_ic (n := 1) (j := 8) rfl rfl ?_
      refine w_go rfl ?_
      refine w_chk (j := 11) rfl rfl rfl rfl (by first | assumption | rfl) rfl rfl (sp_146 (b := true)) rfl (fun c => ?_) (fun c => ?_)
      · exact absurd rfl c
      ·
        refine w_rt rfl ?_
        exact Or.inl ⟨⟨c1, c2⟩, rfl⟩
theorem sp_148 {h : ix_H} {v n : Int32} : px_CK 2 148 [.ref 0, .int v, .int n] h (0 ≤ v ∧ v >>> (n &&& 31) = 0) 0 := by
  refine px_M (M := mt_148) (ops := mo_148) tb_148 rfl rfl rfl rfl rfl ?_
  refine w_al (j := 1) rfl rfl rfl ?_
  refine w_il (j := 2) rfl rfl rfl ?_
  refine w_ltZ (j := 3) rfl rfl (fun c1 => ?_) (fun c1 => ?_)
  ·
    refine w_ic (n := 0) (j := 10) rfl rfl ?_
    refine w_chk (j := 11) rfl rfl rfl rfl (by first | assumption | rfl) rfl rfl (sp_146 (b := false)) rfl (fun c => ?_) (fun c => ?_)
    · exact Or.inr ⟨fun q => px_not_lt.mpr q.1 c1, rfl⟩
    · cases c
  ·
    refine w_il (j := 4) rfl rfl rfl ?_
    refine w_il (j := 5) rfl rfl rfl ?_
    refine w_shr (j := 6) rfl rfl ?_
    refine w_neZ (j := 7) rfl rfl (fun c2 => ?_) (fun c2 => ?_)
    ·
      refine w_ic (n := 0) (j := 10) rfl rfl ?_
      refine w_chk (j := 11) rfl rfl rfl rfl (by first | assumption | rfl) rfl rfl (sp_146 (b := false)) rfl (fun c => ?_) (fun c => ?_)
      · exact Or.inr ⟨fun q => c2 q.2, rfl⟩
      · cases c
    ·
      refine w_ic (n := 1) (j := 8) rfl rfl ?_
      refine w_go rfl ?_
      refine w_chk (j := 11) rfl rfl rfl rfl (by first | assumption | rfl) rfl rfl (sp_146 (b := true)) rfl (fun c => ?_) (fun c => ?_)
      · exact absurd rfl c
      ·
        refine w_rt rfl ?_
        exact Or.inl ⟨⟨c1, c2⟩, rfl⟩
theorem sp_149 {h : ix_H} {b : Int32} : px_CK 2 149 [.ref 0, .int b] h (0 ≤ b ∧ b < h 3 6) 1 := by
  refine px_M (M := mt_149) (ops := mo_149) tb_149 rfl rfl rfl rfl rfl ?_
  refine w_al (j := 1) rfl rfl rfl ?_
  refine w_al (j := 2) rfl rfl rfl ?_
  first | refine w_gr (j := 3) rfl rfl (by first | assumption | rfl) (by first | assumption | rfl) rfl ?_ | refine w_gi (j := 3) rfl rfl (by first | assumption | rfl) (by first | assumption | rfl) rfl rfl ?_
  refine w_il (j := 4) rfl rfl rfl ?_
  refine w_cvI (j := 5) rfl rfl rfl rfl (by first | assumption | rfl) rfl rfl (sp_25 px_Ld3) rfl ?_
  refine w_chk (j := 6) rfl rfl rfl rfl (by first | assumption | rfl) rfl rfl (sp_151) rfl (fun c => ?_) (fun c => ?_)
  · exact Or.inr ⟨fun q => c (decide_eq_true q), rfl⟩
  ·
    refine w_rt rfl ?_
    exact Or.inl ⟨of_decide_eq_true c, rfl⟩
theorem sp_150 {h : ix_H} {b : Int32} : px_CK 2 150 [.ref 0, .int b] h (0 ≤ b ∧ b < h 3 7) 1 := by
  refine px_M (M := mt_150) (ops := mo_150) tb_150 rfl rfl rfl rfl rfl ?_
  refine w_al (j := 1) rfl rfl rfl ?_
  refine w_al (j := 2) rfl rfl rfl ?_
  first | refine w_gr (j := 3) rfl rfl (by first | assumption | rfl) (by first | assumption | rfl) rfl ?_ | refine w_gi (j := 3) rfl rfl (by first | assumption | rfl) (by first | assumption | rfl) rfl rfl ?_
  refine w_il (j := 4) rfl rfl rfl ?_
  refine w_cvI (j := 5) rfl rfl rfl rfl (by first | assumption | rfl) rfl rfl (sp_26 px_Ld3) rfl ?_
  refine w_chk (j := 6) rfl rfl rfl rfl (by first | assumption | rfl) rfl rfl (sp_151) rfl (fun c => ?_) (fun c => ?_)
  · exact Or.inr ⟨fun q => c (decide_eq_true q), rfl⟩
  ·
    refine w_rt rfl ?_
    exact Or.inl ⟨of_decide_eq_true c, rfl⟩
def px_hB (h : ix_H) (w p : Nat) : ix_H := ix_up (ix_up h 100 0 (nI w)) 102 p (h 102 p + nI 1)
theorem sp_154t {h : ix_H} {w p : Nat} (h0 : h 100 0 = nI 0) (hw : 1 ≤ w) (hw2 : w ≤ 2) (hp : p < 2) : px_V 1 154 [.ref 100, .int (px_b true), .int (nI w), .int (nI p)] h (some (.int (px_b true))) (px_hB h w p) := by
  refine px_M (M := mt_154) (ops := mo_154) tb_154 rfl rfl rfl rfl rfl ?_
  refine w_il (j := 1) rfl rfl rfl ?_
  refine w_eqB (j := 2) rfl rfl (fun c => absurd c (by simp)) (fun _ => ?_)
  refine w_al (j := 3) rfl rfl rfl ?_
  first | refine w_gr (j := 4) rfl rfl (by first | assumption | rfl) (by first | assumption | rfl) rfl ?_ | refine w_gi (j := 4) rfl rfl (by first | assumption | rfl) (by first | assumption | rfl) rfl h0 ?_
  refine w_neM (j := 5) rfl rfl (by omega) (fun c => absurd c (fun c => by omega)) (fun _ => ?_)
  refine w_al (j := 6) rfl rfl rfl ?_
  refine w_il (j := 7) rfl rfl rfl ?_
  refine w_pf (j := 8) rfl rfl (by first | assumption | rfl) (by first | assumption | rfl) rfl ?_
  refine w_al (j := 9) rfl rfl rfl ?_
  first | refine w_gr (j := 10) rfl rfl (by first | assumption | rfl) (by first | assumption | rfl) rfl ?_ | refine w_gi (j := 10) rfl rfl (by first | assumption | rfl) (by first | assumption | rfl) rfl rfl ?_
  refine w_il (j := 11) rfl rfl rfl ?_
  refine w_dup2 (j := 12) rfl rfl ?_
  refine w_ial (j := 13) rfl rfl (by first | assumption | rfl) rfl (by omega) rfl rfl ?_
  refine w_ic (n := 1) (j := 14) rfl rfl ?_
  first | refine w_add0 (j := 15) rfl rfl ?_ | refine w_addN (j := 15) rfl rfl ?_ | refine w_add (j := 15) rfl rfl ?_
  refine w_ias (j := 16) rfl rfl (by first | assumption | rfl) rfl (by omega) rfl ?_
  refine w_al (j := 17) rfl rfl rfl ?_
  first | refine w_gr (j := 18) rfl rfl (by first | assumption | rfl) (by first | assumption | rfl) rfl ?_ | refine w_gi (j := 18) rfl rfl (by first | assumption | rfl) (by first | assumption | rfl) rfl rfl ?_
  rw [show ix_up (ix_up h 100 0 (nI w)) 102 p (ix_up h 100 0 (nI w) 102 p + nI 1) 100 0 = nI w from rfl]
  refine w_eqM (j := 19) rfl rfl (by omega) (fun c => absurd c (fun c => by omega)) (fun _ => ?_)
  refine w_ic (n := 1) (j := 20) rfl rfl ?_
  refine w_go rfl ?_
  refine w_irB rfl (by first | exact Or.inl rfl | exact Or.inr rfl | exact px_b01 _) ?_
  rfl
theorem sp_154f {h : ix_H} {w p : Int32} (h0 : h 100 0 = nI 0) : px_V 1 154 [.ref 100, .int (px_b false), .int w, .int p] h (some (.int (px_b false))) h := by
  refine px_M (M := mt_154) (ops := mo_154) tb_154 rfl rfl rfl rfl rfl ?_
  refine w_il (j := 1) rfl rfl rfl ?_
  refine w_eqB (j := 2) rfl rfl (fun _ => ?_) (fun c => absurd c (by simp))
  refine w_al (j := 17) rfl rfl rfl ?_
  first | refine w_gr (j := 18) rfl rfl (by first | assumption | rfl) (by first | assumption | rfl) rfl ?_ | refine w_gi (j := 18) rfl rfl (by first | assumption | rfl) (by first | assumption | rfl) rfl h0 ?_
  refine w_eqM (j := 19) rfl rfl (by omega) (fun _ => ?_) (fun c => absurd c (fun c => by omega))
  refine w_ic (n := 0) (j := 22) rfl rfl ?_
  refine w_irB rfl (by first | exact Or.inl rfl | exact Or.inr rfl | exact px_b01 _) ?_
  rfl
theorem sp_154F {h : ix_H} {w p : Int32} {b : Bool} (h0 : h 100 0 = nI 0) (hb : b = false) : px_V 1 154 [.ref 100, .int (px_b b), .int w, .int p] h (some (.int (px_b false))) h := by
  subst hb
  exact sp_154f h0
