section OPS
variable {h : ix_H} {B N T L W I t : Nat} {cs : List (Nat × Nat)}
-- kindest
def pf_kl (h : ix_H) (cs : List (Nat × Nat)) (c b : Nat) : Int32 := pf_li cs (h 4 b) (nI 0) (pf_bt (h 64 4) b) (h 65 c) (h 6 c) (h 66 c) (nI b) (h 64 6)
theorem pf_kl_kp {h h' : ix_H} {c b : Nat} (k : px_kp h h') : pf_kl h' cs c b = pf_kl h cs c b := by
  unfold pf_kl
  rw [k.1 4 (by decide), k.1 64 (by decide), k.1 65 (by decide), k.1 6 (by decide), k.1 66 (by decide)]
def pf_kn1 (h : ix_H) (cs : List (Nat × Nat)) (c b : Nat) (s : Int32 × Int32) : Int32 × Int32 := if s.1 = -1 ∨ pf_kl h cs c b < s.2 then (nI b, pf_kl h cs c b) else s
def pf_knd (h : ix_H) (cs : List (Nat × Nat)) (B c m : Nat) : Int32 := if m = 0 then (px_fold (pf_kn1 h cs c) B (-1, -1)).1 else (px_fold (pf_kn1 h cs c) B (-1, -1)).2
theorem pf_knd_kp {h h' : ix_H} {c m : Nat} (k : px_kp h h') : pf_knd h' cs B c m = pf_knd h cs B c m := by
  have e : pf_kn1 h' cs c = pf_kn1 h cs c := by funext b s; unfold pf_kn1; rw [pf_kl_kp k]
  unfold pf_knd
  rw [e]
theorem C_kindest {a w : Int32} (hI : px_I h B N T cs L W I t) : px_CO 6 136 [.ref 0, .int a, .int w] h (fun v h1 => ∃ c m, c < N ∧ m ≤ 1 ∧ a = nI c ∧ w = nI m ∧ v = pf_knd h cs B c m ∧ px_kp h h1) (fun x h1 => (x = 1 ∧ ¬ (0 ≤ a ∧ a < nI N) ∧ h1 = px_hX 1 h) ∨ (x = 0 ∧ (0 ≤ a ∧ a < nI N) ∧ ¬ (nI 0 ≤ w ∧ w ≤ nI 1) ∧ h1 = px_hX 0 h)) := by
  obtain ⟨⟨l1, l2, l3, l4, l5, l6, l7, l8, l9⟩, lw, -, nw, -⟩ := hI
  refine px_M (M := mt_136) (ops := mo_136) tb_136 rfl rfl rfl rfl rfl ?_
  refine w_al (j := 1) rfl rfl rfl ?_
  refine w_il (j := 2) rfl rfl rfl ?_
  refine w_chk (j := 3) rfl rfl rfl rfl (by first | assumption | rfl) rfl rfl (sp_150) rfl (fun c1 => ?_) (fun c1 => ?_)
  · rw [l4] at c1
    exact Or.inr ⟨_, _, rfl, Or.inl ⟨rfl, c1, rfl⟩⟩
  rw [l4] at c1
  refine w_al (j := 4) rfl rfl rfl ?_
  refine w_il (j := 5) rfl rfl rfl ?_
  refine w_ic (n := 0) (j := 6) rfl rfl ?_
  refine w_ic (n := 1) (j := 7) rfl rfl ?_
  refine w_chk (j := 8) rfl rfl rfl rfl (by first | assumption | rfl) rfl rfl (sp_147) rfl (fun c2 => ?_) (fun c2 => ?_)
  · exact Or.inr ⟨_, _, rfl, Or.inr ⟨rfl, c1, c2, rfl⟩⟩
  obtain ⟨c, hc, rfl⟩ := px_bnd (by omega) c1
  obtain ⟨m, hm, rfl⟩ := px_bnd2 (by decide) c2
  refine w_im (j := 9) rfl rfl ?_
  refine w_is (j := 10) rfl rfl rfl ?_
  refine w_im (j := 11) rfl rfl ?_
  refine w_iS (j := 12) rfl rfl rfl ?_
  refine w_ic (n := 0) (j := 13) rfl rfl ?_
  refine w_iS (j := 14) rfl rfl rfl ?_
  refine px_forI (fun b ls h1 => px_fr [42, 45] h h1 ∧ ∃ g, ls = [.ref 0, .int (nI c), .int (nI m), .int (px_fold (pf_kn1 h cs c) b (-1, -1)).1, .int (px_fold (pf_kn1 h cs c) b (-1, -1)).2, .int (nI b), g]) B ?_ ?_ ⟨px_fr.rf, _, rfl⟩
  · rintro b _ h1 hb ⟨fr, g, rfl⟩ H
    have e6 := px_f3 fr l1 (by decide)
    have r4 := fr 4 (by decide)
    have r6 := fr 6 (by decide)
    have r64 := fr 64 (by decide)
    have r65 := fr 65 (by decide)
    have r66 := fr 66 (by decide)
    refine w_iL (j := 15) rfl rfl rfl ?_
    refine w_al (j := 16) rfl rfl rfl ?_
    first | refine w_gr (j := 17) rfl rfl (by first | assumption | rfl) (by first | assumption | rfl) rfl ?_ | refine w_gi (j := 17) rfl rfl (by first | assumption | rfl) (by first | assumption | rfl) rfl rfl ?_
    first | refine w_gr (j := 18) rfl rfl (by first | assumption | rfl) (by first | assumption | rfl) rfl ?_ | refine w_gi (j := 18) rfl rfl (by first | assumption | rfl) (by first | assumption | rfl) rfl e6 ?_
    refine w_geN (j := 19) rfl rfl (by omega) (by omega) (fun c => absurd c (fun c => by omega)) (fun _ => ?_)
    refine w_al (j := 20) rfl rfl rfl ?_
    first | refine w_gr (j := 21) rfl rfl (by first | assumption | rfl) (by first | assumption | rfl) rfl ?_ | refine w_gi (j := 21) rfl rfl (by first | assumption | rfl) (by first | assumption | rfl) rfl rfl ?_
    refine w_al (j := 22) rfl rfl rfl ?_
    first | refine w_gr (j := 23) rfl rfl (by first | assumption | rfl) (by first | assumption | rfl) rfl ?_ | refine w_gi (j := 23) rfl rfl (by first | assumption | rfl) (by first | assumption | rfl) rfl rfl ?_
    refine w_il (j := 24) rfl rfl rfl ?_
    refine w_iL (j := 25) rfl rfl rfl ?_
    refine w_ic (n := 0) (j := 26) rfl rfl ?_
    refine w_cvPI (j := 27) rfl rfl rfl rfl (by first | assumption | rfl) rfl rfl (sp_70 px_St64 (by omega) (by omega) (lw.1.fr fr (by decide)) lw.2.2) rfl ?_
    rintro v h9 ⟨e1, f1⟩
    have e1 : v = pf_kl h cs c b := by
      rw [e1]
      show pf_li cs (h1 4 b) (nI 0) (pf_bt (h1 64 4) b) (h1 65 c) (h1 6 c) (h1 66 c) (nI b) (h1 64 6) = _
      rw [r4, r64, r65, r6, r66]
      rfl
    subst e1
    have st : ∀ s, px_fold (pf_kn1 h cs c) b (-1, -1) = s → px_fold (pf_kn1 h cs c) (b + 1) (-1, -1) = pf_kn1 h cs c b s := fun s hs => by rw [px_fold, hs]
    have st := st _ rfl
    refine w_iS (j := 28) rfl rfl rfl ?_
    refine w_il (j := 29) rfl rfl rfl ?_
    refine w_im (j := 30) rfl rfl ?_
    refine w_eq (j := 31) rfl rfl (fun d1 => ?_) (fun d1 => ?_)
    ·
      refine w_iL (j := 35) rfl rfl rfl ?_
      refine w_is (j := 36) rfl rfl rfl ?_
      refine w_iL (j := 37) rfl rfl rfl ?_
      refine w_iS (j := 38) rfl rfl rfl ?_
      first | refine w_incN (j := 39) rfl rfl rfl ?_ | refine w_inc (j := 39) rfl rfl rfl rfl ?_
      refine w_go rfl ?_
      refine H _ _ ⟨fr.tr f1, ?_⟩
      rw [st, pf_kn1, if_pos (Or.inl d1)]
      exact ⟨_, rfl⟩
    refine w_iL (j := 32) rfl rfl rfl ?_
    refine w_iL (j := 33) rfl rfl rfl ?_
    refine w_ge (j := 34) rfl rfl (fun d2 => ?_) (fun d2 => ?_)
    ·
      first | refine w_incN (j := 39) rfl rfl rfl ?_ | refine w_inc (j := 39) rfl rfl rfl rfl ?_
      refine w_go rfl ?_
      refine H _ _ ⟨fr.tr f1, ?_⟩
      rw [st, pf_kn1, if_neg (fun q => q.elim d1 (fun z => px_not_lt.mpr d2 z))]
      exact ⟨_, rfl⟩
    ·
      refine w_iL (j := 35) rfl rfl rfl ?_
      refine w_is (j := 36) rfl rfl rfl ?_
      refine w_iL (j := 37) rfl rfl rfl ?_
      refine w_iS (j := 38) rfl rfl rfl ?_
      first | refine w_incN (j := 39) rfl rfl rfl ?_ | refine w_inc (j := 39) rfl rfl rfl rfl ?_
      refine w_go rfl ?_
      refine H _ _ ⟨fr.tr f1, ?_⟩
      rw [st, pf_kn1, if_pos (Or.inr d2)]
      exact ⟨_, rfl⟩
  · rintro _ h1 ⟨fr, g, rfl⟩
    have e6 := px_f3 fr l1 (by decide)
    refine w_iL (j := 15) rfl rfl rfl ?_
    refine w_al (j := 16) rfl rfl rfl ?_
    first | refine w_gr (j := 17) rfl rfl (by first | assumption | rfl) (by first | assumption | rfl) rfl ?_ | refine w_gi (j := 17) rfl rfl (by first | assumption | rfl) (by first | assumption | rfl) rfl rfl ?_
    first | refine w_gr (j := 18) rfl rfl (by first | assumption | rfl) (by first | assumption | rfl) rfl ?_ | refine w_gi (j := 18) rfl rfl (by first | assumption | rfl) (by first | assumption | rfl) rfl e6 ?_
    refine w_geN (j := 19) rfl rfl (by omega) (by omega) (fun _ => ?_) (fun c => absurd c (fun c => by omega))
    refine w_il (j := 41) rfl rfl rfl ?_
    refine w_neM (j := 42) rfl rfl (by omega) (fun c3 => ?_) (fun c3 => ?_)
    ·
      refine w_iL (j := 45) rfl rfl rfl ?_
      refine w_ir rfl ?_
      exact Or.inl ⟨_, _, rfl, _, _, hc, hm, rfl, rfl, by rw [pf_knd, if_neg c3], px_kp.of fr (by decide)⟩
    ·
      refine w_il (j := 43) rfl rfl rfl ?_
      refine w_go rfl ?_
      refine w_ir rfl ?_
      exact Or.inl ⟨_, _, rfl, _, _, hc, hm, rfl, rfl, by rw [pf_knd, if_pos c3], px_kp.of fr (by decide)⟩
theorem M_kindest {c m : Nat} (hI : px_I h B N T cs L W I t) (hc : c < N) (hm : m ≤ 1) : px_PI 7 245 [.ref 100, .int (nI c), .int (nI m)] h (fun w h2 => w = pf_knd h cs B c m ∧ h2 100 0 = nI 0 ∧ px_kp h h2) := by
  refine px_M (M := mt_245) (ops := mo_245) tb_245 rfl rfl rfl rfl rfl ?_
  refine w_al (j := 1) rfl rfl rfl ?_
  refine w_ic (n := 0) (j := 2) rfl rfl ?_
  refine w_pf (j := 3) rfl rfl (by first | assumption | rfl) (by first | assumption | rfl) rfl ?_
  obtain ⟨I1, k1, t0⟩ := px_thr (v := nI 0) hI
  generalize ix_up h 100 0 (nI 0) = h1 at I1 k1 t0 ⊢
  rw [← pf_knd_kp k1]
  obtain ⟨⟨l1, l2, l3, l4, l5, l6, l7, l8, l9, l10, l11, l12, l13, l14, l15⟩, lw, -, nw, -⟩ := I1
  refine w_al (j := 4) rfl rfl rfl ?_
  refine w_al (j := 5) rfl rfl rfl ?_
  refine w_il (j := 6) rfl rfl rfl ?_
  refine w_cvI (j := 7) rfl rfl rfl rfl (by first | assumption | rfl) rfl rfl (sp_213 l5 l6) rfl ?_
  rw [px_ofB hc l6]
  refine w_neB (j := 8) rfl rfl (fun _ => ?_) (fun c => absurd c (by simp))
  refine w_ic (n := 0) (j := 11) rfl rfl ?_
  refine w_ic (n := 1) (j := 12) rfl rfl ?_
  refine w_ic (n := 0) (j := 13) rfl rfl ?_
  refine w_cvI (j := 14) rfl rfl rfl rfl (by first | assumption | rfl) rfl rfl (sp_154f t0) rfl ?_
  refine w_neB (j := 15) rfl rfl (fun c => absurd c (by simp)) (fun _ => ?_)
  refine w_al (j := 16) rfl rfl rfl ?_
  refine w_il (j := 17) rfl rfl rfl ?_
  refine w_ic (n := 0) (j := 18) rfl rfl ?_
  refine w_ic (n := 1) (j := 19) rfl rfl ?_
  refine w_csI (j := 20) rfl rfl rfl rfl rfl (sp_155) rfl ?_
  rw [px_ofN hm (by decide)]
  refine w_neB (j := 21) rfl rfl (fun _ => ?_) (fun c => absurd c (by simp))
  refine w_ic (n := 0) (j := 24) rfl rfl ?_
  refine w_ic (n := 2) (j := 25) rfl rfl ?_
  refine w_ic (n := 1) (j := 26) rfl rfl ?_
  refine w_cvI (j := 27) rfl rfl rfl rfl (by first | assumption | rfl) rfl rfl (sp_154f t0) rfl ?_
  refine w_eqB (j := 28) rfl rfl (fun _ => ?_) (fun c => absurd c (by simp))
  refine w_im (j := 31) rfl rfl ?_
  refine w_is (j := 32) rfl rfl rfl ?_
  refine w_im (j := 33) rfl rfl ?_
  refine w_iS (j := 34) rfl rfl rfl ?_
  refine w_ic (n := 0) (j := 35) rfl rfl ?_
  refine w_iS (j := 36) rfl rfl rfl ?_
  refine px_forI (fun b ls h2 => px_fr [494, 495] h1 h2 ∧ ∃ g, ls = [.ref 100, .int (nI c), .int (nI m), .int (px_fold (pf_kn1 h1 cs c) b (-1, -1)).1, .int (px_fold (pf_kn1 h1 cs c) b (-1, -1)).2, .int (nI b), g]) B ?_ ?_ ⟨px_fr.rf, _, rfl⟩
  · rintro b _ h2 hb ⟨fr, g, rfl⟩ H
    have e6 := px_f3 fr l2 (by decide)
    have r577 := fr 577 (by decide)
    have r113 : h2 (113 + b) = h1 (113 + b) := fr _ (by simp; omega)
    have r129 : h2 (129 + c) = h1 (129 + c) := fr _ (by simp; omega)
    refine w_iL (j := 37) rfl rfl rfl ?_
    refine w_al (j := 38) rfl rfl rfl ?_
    first | refine w_gr (j := 39) rfl rfl (by first | assumption | rfl) (by first | assumption | rfl) rfl ?_ | refine w_gi (j := 39) rfl rfl (by first | assumption | rfl) (by first | assumption | rfl) rfl rfl ?_
    refine w_ic (n := 0) (j := 40) rfl rfl ?_
    refine w_ial (j := 41) rfl rfl (by first | assumption | rfl) rfl (by omega) rfl e6 ?_
    refine w_geN (j := 42) rfl rfl (by omega) (by omega) (fun c => absurd c (fun c => by omega)) (fun _ => ?_)
    refine w_al (j := 43) rfl rfl rfl ?_
    refine w_al (j := 44) rfl rfl rfl ?_
    first | refine w_gr (j := 45) rfl rfl (by first | assumption | rfl) (by first | assumption | rfl) rfl ?_ | refine w_gi (j := 45) rfl rfl (by first | assumption | rfl) (by first | assumption | rfl) rfl rfl ?_
    refine w_il (j := 46) rfl rfl rfl ?_
    refine w_iL (j := 47) rfl rfl rfl ?_
    refine w_ic (n := 0) (j := 48) rfl rfl ?_
    refine w_al (j := 49) rfl rfl rfl ?_
    first | refine w_gr (j := 50) rfl rfl (by first | assumption | rfl) (by first | assumption | rfl) rfl ?_ | refine w_gi (j := 50) rfl rfl (by first | assumption | rfl) (by first | assumption | rfl) rfl rfl ?_
    refine w_bi (j := 51) (a := nI 8) rfl rfl (by decide) ?_
    refine w_il (j := 52) rfl rfl rfl ?_
    first | refine w_add0 (j := 53) rfl rfl ?_ | refine w_addN (j := 53) rfl rfl ?_ | refine w_add (j := 53) rfl rfl ?_
    refine w_ial (j := 54) rfl rfl (by first | assumption | rfl) rfl (by omega) rfl rfl ?_
    refine w_al (j := 55) rfl rfl rfl ?_
    first | refine w_gr (j := 56) rfl rfl (by first | assumption | rfl) (by first | assumption | rfl) rfl ?_ | refine w_gi (j := 56) rfl rfl (by first | assumption | rfl) (by first | assumption | rfl) rfl rfl ?_
    refine w_bi (j := 57) (a := nI 16) rfl rfl (by decide) ?_
    refine w_il (j := 58) rfl rfl rfl ?_
    first | refine w_add0 (j := 59) rfl rfl ?_ | refine w_addN (j := 59) rfl rfl ?_ | refine w_add (j := 59) rfl rfl ?_
    refine w_ial (j := 60) rfl rfl (by first | assumption | rfl) rfl (by omega) rfl rfl ?_
    refine w_al (j := 61) rfl rfl rfl ?_
    first | refine w_gr (j := 62) rfl rfl (by first | assumption | rfl) (by first | assumption | rfl) rfl ?_ | refine w_gi (j := 62) rfl rfl (by first | assumption | rfl) (by first | assumption | rfl) rfl rfl ?_
    refine w_bi (j := 63) (a := nI 31) rfl rfl (by decide) ?_
    refine w_ial (j := 64) rfl rfl (by first | assumption | rfl) rfl (by omega) rfl rfl ?_
    refine w_cvPI (j := 65) rfl rfl rfl rfl (by first | assumption | rfl) rfl rfl (sp_199 px_Rw577 (by omega) (by omega) (lw.2.1.fr fr (by constructor; decide; intro a h1 h2; simp; omega)) lw.2.2) rfl ?_
    rintro v h9 ⟨e1, f1⟩
    have e1 : v = pf_kl h1 cs c b := by
      rw [e1, r113, r129, r577]
      unfold pf_kl
      rw [(l12 b hb).1, (l13 c hc).1, (nw.1 c (by omega)).1, nw.2.1 c (by omega), nw.2.2.2.2.1 b (by omega), nw.2.2.2.2.2.2.1]
    subst e1
    have st : ∀ s, px_fold (pf_kn1 h1 cs c) b (-1, -1) = s → px_fold (pf_kn1 h1 cs c) (b + 1) (-1, -1) = pf_kn1 h1 cs c b s := fun s hs => by rw [px_fold, hs]
    have st := st _ rfl
    refine w_iS (j := 66) rfl rfl rfl ?_
    refine w_il (j := 67) rfl rfl rfl ?_
    refine w_im (j := 68) rfl rfl ?_
    refine w_eq (j := 69) rfl rfl (fun d1 => ?_) (fun d1 => ?_)
    ·
      refine w_iL (j := 74) rfl rfl rfl ?_
      refine w_is (j := 75) rfl rfl rfl ?_
      refine w_iL (j := 76) rfl rfl rfl ?_
      refine w_iS (j := 77) rfl rfl rfl ?_
      first | refine w_incN (j := 78) rfl rfl rfl ?_ | refine w_inc (j := 78) rfl rfl rfl rfl ?_
      refine w_go rfl ?_
      refine H _ _ ⟨fr.tr f1, ?_⟩
      rw [st, pf_kn1, if_pos (Or.inl d1)]
      exact ⟨_, rfl⟩
    refine w_iL (j := 70) rfl rfl rfl ?_
    refine w_iL (j := 71) rfl rfl rfl ?_
    refine w_lt (j := 72) rfl rfl (fun d2 => ?_) (fun d2 => ?_)
    ·
      refine w_iL (j := 74) rfl rfl rfl ?_
      refine w_is (j := 75) rfl rfl rfl ?_
      refine w_iL (j := 76) rfl rfl rfl ?_
      refine w_iS (j := 77) rfl rfl rfl ?_
      first | refine w_incN (j := 78) rfl rfl rfl ?_ | refine w_inc (j := 78) rfl rfl rfl rfl ?_
      refine w_go rfl ?_
      refine H _ _ ⟨fr.tr f1, ?_⟩
      rw [st, pf_kn1, if_pos (Or.inr d2)]
      exact ⟨_, rfl⟩
    ·
      refine w_go rfl ?_
      first | refine w_incN (j := 78) rfl rfl rfl ?_ | refine w_inc (j := 78) rfl rfl rfl rfl ?_
      refine w_go rfl ?_
      refine H _ _ ⟨fr.tr f1, ?_⟩
      rw [st, pf_kn1, if_neg (fun q => q.elim d1 (fun z => px_not_lt.mpr d2 z))]
      exact ⟨_, rfl⟩
  · rintro _ h2 ⟨fr, g, rfl⟩
    have e6 := px_f3 fr l2 (by decide)
    have t9 : h2 100 0 = nI 0 := by rw [fr 100 (by decide)]; exact t0
    refine w_iL (j := 37) rfl rfl rfl ?_
    refine w_al (j := 38) rfl rfl rfl ?_
    first | refine w_gr (j := 39) rfl rfl (by first | assumption | rfl) (by first | assumption | rfl) rfl ?_ | refine w_gi (j := 39) rfl rfl (by first | assumption | rfl) (by first | assumption | rfl) rfl rfl ?_
    refine w_ic (n := 0) (j := 40) rfl rfl ?_
    refine w_ial (j := 41) rfl rfl (by first | assumption | rfl) rfl (by omega) rfl e6 ?_
    refine w_geN (j := 42) rfl rfl (by omega) (by omega) (fun _ => ?_) (fun c => absurd c (fun c => by omega))
    refine w_il (j := 80) rfl rfl rfl ?_
    refine w_neM (j := 81) rfl rfl (by omega) (fun c3 => ?_) (fun c3 => ?_)
    ·
      refine w_iL (j := 84) rfl rfl rfl ?_
      refine w_ir rfl ?_
      exact ⟨_, _, rfl, by rw [pf_knd, if_neg c3], t9, k1.fr fr (by decide)⟩
    ·
      refine w_il (j := 82) rfl rfl rfl ?_
      refine w_go rfl ?_
      refine w_ir rfl ?_
      exact ⟨_, _, rfl, by rw [pf_knd, if_pos c3], t9, k1.fr fr (by decide)⟩
theorem MXE_kindest {a w : Int32} (l2 : h 104 1 = nI N) (l3 : N ≤ 8) (hw : ¬ (0 ≤ a ∧ a < nI N)) : px_PI 3 245 [.ref 100, .int a, .int w] h (fun v h2 => h2 100 0 = nI 1 ∧ px_kp (ix_up h 102 0 (h 102 0 + nI 1)) h2) := by
  refine px_M (M := mt_245) (ops := mo_245) tb_245 rfl rfl rfl rfl rfl ?_
  refine w_al (j := 1) rfl rfl rfl ?_
  refine w_ic (n := 0) (j := 2) rfl rfl ?_
  refine w_pf (j := 3) rfl rfl (by first | assumption | rfl) (by first | assumption | rfl) rfl ?_
  refine w_al (j := 4) rfl rfl rfl ?_
  refine w_al (j := 5) rfl rfl rfl ?_
  refine w_il (j := 6) rfl rfl rfl ?_
  refine w_cvI (j := 7) rfl rfl rfl rfl (by first | assumption | rfl) rfl rfl (sp_213 (N := N) l2 l3) rfl ?_
  rw [decide_eq_false hw]
  refine w_neB (j := 8) rfl rfl (fun c => absurd c (by simp)) (fun _ => ?_)
  refine w_ic (n := 1) (j := 9) rfl rfl ?_
  refine w_go rfl ?_
  refine w_ic (n := 1) (j := 12) rfl rfl ?_
  refine w_ic (n := 0) (j := 13) rfl rfl ?_
  refine w_cvI (j := 14) rfl rfl rfl rfl (by first | assumption | rfl) rfl rfl (sp_154t (p := 0) (w := 1) rfl (by decide) (by decide) (by decide)) rfl ?_
  refine w_neB (j := 15) rfl rfl (fun _ => ?_) (fun c => absurd c (by simp))
  refine w_ic (n := 0) (j := 29) rfl rfl ?_
  refine w_ir rfl ?_
  exact ⟨_, _, rfl, rfl, px_kpX (by decide)⟩
theorem MXA_kindest {a w : Int32} (l2 : h 104 1 = nI N) (l3 : N ≤ 8) (ha : 0 ≤ a ∧ a < nI N) (hw : ¬ (nI 0 ≤ w ∧ w ≤ nI 1)) : px_PI 3 245 [.ref 100, .int a, .int w] h (fun v h2 => h2 100 0 = nI 2 ∧ px_kp (ix_up h 102 1 (h 102 1 + nI 1)) h2) := by
  refine px_M (M := mt_245) (ops := mo_245) tb_245 rfl rfl rfl rfl rfl ?_
  refine w_al (j := 1) rfl rfl rfl ?_
  refine w_ic (n := 0) (j := 2) rfl rfl ?_
  refine w_pf (j := 3) rfl rfl (by first | assumption | rfl) (by first | assumption | rfl) rfl ?_
  refine w_al (j := 4) rfl rfl rfl ?_
  refine w_al (j := 5) rfl rfl rfl ?_
  refine w_il (j := 6) rfl rfl rfl ?_
  refine w_cvI (j := 7) rfl rfl rfl rfl (by first | assumption | rfl) rfl rfl (sp_213 (N := N) l2 l3) rfl ?_
  rw [decide_eq_true ha]
  refine w_neB (j := 8) rfl rfl (fun _ => ?_) (fun c => absurd c (by simp))
  refine w_ic (n := 0) (j := 11) rfl rfl ?_
  refine w_ic (n := 1) (j := 12) rfl rfl ?_
  refine w_ic (n := 0) (j := 13) rfl rfl ?_
  refine w_cvI (j := 14) rfl rfl rfl rfl (by first | assumption | rfl) rfl rfl (sp_154f rfl) rfl ?_
  refine w_neB (j := 15) rfl rfl (fun c => absurd c (by simp)) (fun _ => ?_)
  refine w_al (j := 16) rfl rfl rfl ?_
  refine w_il (j := 17) rfl rfl rfl ?_
  refine w_ic (n := 0) (j := 18) rfl rfl ?_
  refine w_ic (n := 1) (j := 19) rfl rfl ?_
  refine w_csI (j := 20) rfl rfl rfl rfl rfl (sp_155) rfl ?_
  rw [decide_eq_false hw]
  refine w_neB (j := 21) rfl rfl (fun c => absurd c (by simp)) (fun _ => ?_)
  refine w_ic (n := 1) (j := 22) rfl rfl ?_
  refine w_go rfl ?_
  refine w_ic (n := 2) (j := 25) rfl rfl ?_
  refine w_ic (n := 1) (j := 26) rfl rfl ?_
  refine w_cvI (j := 27) rfl rfl rfl rfl (by first | assumption | rfl) rfl rfl (sp_154t (p := 1) (w := 2) rfl (by decide) (by decide) (by decide)) rfl ?_
  refine w_eqB (j := 28) rfl rfl (fun c => absurd c (by simp)) (fun _ => ?_)
  refine w_ic (n := 0) (j := 29) rfl rfl ?_
  refine w_ir rfl ?_
  exact ⟨_, _, rfl, rfl, px_kpX (by decide)⟩
-- share
def pf_shb (f : Nat → Int32) (n : Int32) : Nat → Nat → Nat
  | 0, b => b
  | k + 1, b => if f (b + 1) ≤ n then pf_shb f n k (b + 1) else b
theorem pf_shb_le (f : Nat → Int32) (n : Int32) : ∀ k b, pf_shb f n k b ≤ b + k
  | 0, b => Nat.le_refl _
  | k + 1, b => by
    rw [pf_shb]
    split
    · have := pf_shb_le f n k (b + 1); omega
    · omega
def pf_gvn (h : ix_H) (N q : Nat) (b : Nat) : Int32 := px_fold (pf_lev (h 65) (nI q) (nI b)) N (nI 0)
def pf_shr1 (h : ix_H) (N c q : Nat) (n : Int32) : Int32 := if q / 2 ^ c % 2 = 0 then nI 0 else if nI (pf_shb (pf_gvn h N q) n 99 0) < h 65 c then nI (pf_shb (pf_gvn h N q) n 99 0) else h 65 c
theorem pf_shr1_kp {h h' : ix_H} {c q : Nat} {n : Int32} (k : px_kp h h') : pf_shr1 h' N c q n = pf_shr1 h N c q n := by
  have e : pf_gvn h' N q = pf_gvn h N q := by funext b; unfold pf_gvn; rw [k.1 65 (by decide)]
  unfold pf_shr1
  rw [e, k.1 65 (by decide)]
theorem C_share {a b w : Int32} (hI : px_I h B N T cs L W I t) : px_CO 6 134 [.ref 0, .int a, .int b, .int w] h (fun v h1 => ∃ c q, c < N ∧ q < 2 ^ N ∧ a = nI c ∧ b = nI q ∧ (nI 0 ≤ w ∧ w ≤ nI 999) ∧ v = pf_shr1 h N c q w ∧ px_kp h h1) (fun x h1 => (x = 1 ∧ ¬ (0 ≤ a ∧ a < nI N) ∧ h1 = px_hX 1 h) ∨ (x = 0 ∧ (0 ≤ a ∧ a < nI N) ∧ ¬ ((∃ q, q < 2 ^ N ∧ b = nI q) ∧ nI 0 ≤ w ∧ w ≤ nI 999) ∧ h1 = px_hX 0 h)) := by
  obtain ⟨⟨l1, l2, l3, l4, l5, l6, l7, l8, l9⟩, lw, -, nw, -⟩ := hI
  have hp := px_pw l6
  refine px_M (M := mt_134) (ops := mo_134) tb_134 rfl rfl rfl rfl rfl ?_
  refine w_al (j := 1) rfl rfl rfl ?_
  refine w_il (j := 2) rfl rfl rfl ?_
  refine w_chk (j := 3) rfl rfl rfl rfl (by first | assumption | rfl) rfl rfl (sp_150) rfl (fun c1 => ?_) (fun c1 => ?_)
  · rw [l4] at c1
    exact Or.inr ⟨_, _, rfl, Or.inl ⟨rfl, c1, rfl⟩⟩
  rw [l4] at c1
  refine w_al (j := 4) rfl rfl rfl ?_
  refine w_il (j := 5) rfl rfl rfl ?_
  refine w_al (j := 6) rfl rfl rfl ?_
  first | refine w_gr (j := 7) rfl rfl (by first | assumption | rfl) (by first | assumption | rfl) rfl ?_ | refine w_gi (j := 7) rfl rfl (by first | assumption | rfl) (by first | assumption | rfl) rfl rfl ?_
  first | refine w_gr (j := 8) rfl rfl (by first | assumption | rfl) (by first | assumption | rfl) rfl ?_ | refine w_gi (j := 8) rfl rfl (by first | assumption | rfl) (by first | assumption | rfl) rfl l4 ?_
  refine w_chk (j := 9) rfl rfl rfl rfl (by first | assumption | rfl) rfl rfl (px_CKc sp_148 (px_bits l6)) rfl (fun c2 => ?_) (fun c2 => ?_)
  · exact Or.inr ⟨_, _, rfl, Or.inr ⟨rfl, c1, fun q => c2 q.1, rfl⟩⟩
  refine w_al (j := 10) rfl rfl rfl ?_
  refine w_il (j := 11) rfl rfl rfl ?_
  refine w_ic (n := 0) (j := 12) rfl rfl ?_
  refine w_si (j := 13) (a := nI 999) rfl rfl (by decide) ?_
  refine w_chk (j := 14) rfl rfl rfl rfl (by first | assumption | rfl) rfl rfl (sp_147) rfl (fun c3 => ?_) (fun c3 => ?_)
  · exact Or.inr ⟨_, _, rfl, Or.inr ⟨rfl, c1, fun q => c3 q.2, rfl⟩⟩
  obtain ⟨c, hc, rfl⟩ := px_bnd (by omega) c1
  obtain ⟨q, hq, rfl⟩ := c2
  refine w_il (j := 15) rfl rfl rfl ?_
  refine w_il (j := 16) rfl rfl rfl ?_
  refine w_shr (j := 17) rfl rfl ?_
  refine w_ic (n := 1) (j := 18) rfl rfl ?_
  refine w_and (j := 19) rfl rfl ?_
  rw [px_has (a := q) (k := c) (by omega) (by omega)]
  refine w_neM (j := 20) rfl rfl (by omega) (fun d1 => ?_) (fun d1 => ?_)
  rotate_left
  ·
    refine w_ic (n := 0) (j := 21) rfl rfl ?_
    refine w_ir rfl ?_
    exact Or.inl ⟨_, _, rfl, _, _, hc, hq, rfl, rfl, c3, by rw [pf_shr1, if_pos d1], px_kp.rf⟩
  refine w_ic (n := 0) (j := 23) rfl rfl ?_
  refine w_iS (j := 24) rfl rfl rfl ?_
  have fin : ∀ b, b = pf_shb (pf_gvn h N q) w 99 0 → px_R px_E 5 mo_134 [] 38 [.ref 0, .int (nI c), .int (nI q), .int w, .int (nI b)] [] h 0 (fun r => (∃ v h1, r = (.inl (some (.int v)), h1, 0) ∧ ∃ c' q', c' < N ∧ q' < 2 ^ N ∧ nI c = nI c' ∧ nI q = nI q' ∧ (nI 0 ≤ w ∧ w ≤ nI 999) ∧ v = pf_shr1 h N c' q' w ∧ px_kp h h1) ∨ (∃ x h1, r = (.inr x, h1, 1) ∧ ((x = 1 ∧ ¬ (0 ≤ nI c ∧ nI c < nI N) ∧ h1 = px_hX 1 h) ∨ (x = 0 ∧ (0 ≤ nI c ∧ nI c < nI N) ∧ ¬ ((∃ q', q' < 2 ^ N ∧ nI q = nI q') ∧ nI 0 ≤ w ∧ w ≤ nI 999) ∧ h1 = px_hX 0 h)))) := by
    intro b hb
    refine w_al (j := 39) rfl rfl rfl ?_
    first | refine w_gr (j := 40) rfl rfl (by first | assumption | rfl) (by first | assumption | rfl) rfl ?_ | refine w_gi (j := 40) rfl rfl (by first | assumption | rfl) (by first | assumption | rfl) rfl rfl ?_
    first | refine w_gr (j := 41) rfl rfl (by first | assumption | rfl) (by first | assumption | rfl) rfl ?_ | refine w_gi (j := 41) rfl rfl (by first | assumption | rfl) (by first | assumption | rfl) rfl rfl ?_
    refine w_il (j := 42) rfl rfl rfl ?_
    refine w_ial (j := 43) rfl rfl (by first | assumption | rfl) rfl (by omega) rfl rfl ?_
    refine w_iL (j := 44) rfl rfl rfl ?_
    refine w_min (j := 45) rfl rfl rfl ?_
    refine w_ir rfl ?_
    exact Or.inl ⟨_, _, rfl, _, _, hc, hq, rfl, rfl, c3, by rw [pf_shr1, if_neg d1, ← hb], px_kp.rf⟩
  refine px_forI (fun b ls h1 => h1 = h ∧ ls = [.ref 0, .int (nI c), .int (nI q), .int w, .int (nI b)] ∧ pf_shb (pf_gvn h N q) w (99 - b) b = pf_shb (pf_gvn h N q) w 99 0) 99 ?_ ?_ ⟨rfl, rfl, rfl⟩
  · rintro b _ h1 hb ⟨rfl, rfl, hs⟩ H
    rw [show 99 - b = (98 - b) + 1 by omega, pf_shb] at hs
    refine w_iL (j := 25) rfl rfl rfl ?_
    refine w_bi (j := 26) (a := nI 99) rfl rfl (by decide) ?_
    refine w_geN (j := 27) rfl rfl (by omega) (by omega) (fun c => absurd c (fun c => by omega)) (fun _ => ?_)
    refine w_al (j := 28) rfl rfl rfl ?_
    first | refine w_gr (j := 29) rfl rfl (by first | assumption | rfl) (by first | assumption | rfl) rfl ?_ | refine w_gi (j := 29) rfl rfl (by first | assumption | rfl) (by first | assumption | rfl) rfl rfl ?_
    refine w_il (j := 30) rfl rfl rfl ?_
    refine w_iL (j := 31) rfl rfl rfl ?_
    refine w_ic (n := 1) (j := 32) rfl rfl ?_
    first | refine w_add0 (j := 33) rfl rfl ?_ | refine w_addN (j := 33) rfl rfl ?_ | refine w_add (j := 33) rfl rfl ?_
    refine w_cvI (j := 34) rfl rfl rfl rfl (by first | assumption | rfl) rfl rfl (sp_83 px_St64 l4 l6) rfl ?_
    refine w_il (j := 35) rfl rfl rfl ?_
    refine w_gt (j := 36) rfl rfl (fun d2 => ?_) (fun d2 => ?_)
    ·
      rw [if_neg (px_not_le.mpr (show w < pf_gvn h1 N q (b + 1) from d2))] at hs
      exact fin b hs
    ·
      first | refine w_incN (j := 37) rfl rfl rfl ?_ | refine w_inc (j := 37) rfl rfl rfl rfl ?_
      refine w_go rfl ?_
      rw [if_pos (show pf_gvn h1 N q (b + 1) ≤ w from d2)] at hs
      refine H _ _ ⟨rfl, rfl, ?_⟩
      rw [show 99 - (b + 1) = 98 - b by omega]
      exact hs
  · rintro _ h1 ⟨rfl, rfl, hs⟩
    refine w_iL (j := 25) rfl rfl rfl ?_
    refine w_bi (j := 26) (a := nI 99) rfl rfl (by decide) ?_
    refine w_geN (j := 27) rfl rfl (by omega) (by omega) (fun _ => ?_) (fun c => absurd c (fun c => by omega))
    exact fin 99 hs
theorem sp_214 {v : Int32} (l5 : h 104 1 = nI N) (l6 : N ≤ 8) : px_V 3 214 [.ref 100, .int v] h (some (.int (px_b (decide (nI 0 ≤ v ∧ v ≤ nI 1 <<< (nI N &&& 31) - nI 1))))) h := by
  refine px_M (M := mt_214) (ops := mo_214) tb_214 rfl rfl rfl rfl rfl ?_
  refine w_il (j := 1) rfl rfl rfl ?_
  refine w_ic (n := 0) (j := 2) rfl rfl ?_
  refine w_ic (n := 1) (j := 3) rfl rfl ?_
  refine w_al (j := 4) rfl rfl rfl ?_
  first | refine w_gr (j := 5) rfl rfl (by first | assumption | rfl) (by first | assumption | rfl) rfl ?_ | refine w_gi (j := 5) rfl rfl (by first | assumption | rfl) (by first | assumption | rfl) rfl rfl ?_
  refine w_ic (n := 1) (j := 6) rfl rfl ?_
  refine w_ial (j := 7) rfl rfl (by first | assumption | rfl) rfl (by omega) rfl l5 ?_
  refine w_shl (j := 8) rfl rfl ?_
  refine w_ic (n := 1) (j := 9) rfl rfl ?_
  first | refine w_subN (j := 10) rfl rfl (by omega) ?_ | refine w_sub (j := 10) rfl rfl ?_
  refine w_csI (j := 11) rfl rfl rfl rfl rfl (sp_155) rfl ?_
  refine w_irB rfl (by first | exact Or.inl rfl | exact Or.inr rfl | exact px_b01 _) ?_
  rfl
theorem sp_242 {q b : Nat} (l5 : h 104 1 = nI N) (l6 : N ≤ 8) (hs : ∀ c, c < N → h 65 c = h 577 (8 + c)) : px_V 3 242 [.ref 100, .int (nI q), .int (nI b)] h (some (.int (pf_gvn h N q b))) h := by
  refine px_M (M := mt_242) (ops := mo_242) tb_242 rfl rfl rfl rfl rfl ?_
  refine w_ic (n := 0) (j := 1) rfl rfl ?_
  refine w_is (j := 2) rfl rfl rfl ?_
  refine w_ic (n := 0) (j := 3) rfl rfl ?_
  refine w_iS (j := 4) rfl rfl rfl ?_
  refine px_for (fun c s => [.ref 100, .int (nI q), .int (nI b), .int s, .int (nI c)]) (fun _ => h) (pf_lev (h 65) (nI q) (nI b)) N (nI 0) (fun _ _ => True) trivial (fun _ _ _ _ => trivial) ?_ ?_
  · intro c s hc _ H
    refine w_iL (j := 5) rfl rfl rfl ?_
    refine w_al (j := 6) rfl rfl rfl ?_
    first | refine w_gr (j := 7) rfl rfl (by first | assumption | rfl) (by first | assumption | rfl) rfl ?_ | refine w_gi (j := 7) rfl rfl (by first | assumption | rfl) (by first | assumption | rfl) rfl rfl ?_
    refine w_ic (n := 1) (j := 8) rfl rfl ?_
    refine w_ial (j := 9) rfl rfl (by first | assumption | rfl) rfl (by omega) rfl l5 ?_
    refine w_geN (j := 10) rfl rfl (by omega) (by omega) (fun c => absurd c (fun c => by omega)) (fun _ => ?_)
    refine w_il (j := 11) rfl rfl rfl ?_
    refine w_il (j := 12) rfl rfl rfl ?_
    refine w_iL (j := 13) rfl rfl rfl ?_
    refine w_csI (j := 14) rfl rfl rfl rfl rfl (sp_158) rfl ?_
    refine w_eqB (j := 15) rfl rfl (fun d1 => ?_) (fun d1 => ?_)
    ·
      refine w_ic (n := 0) (j := 25) rfl rfl ?_
      first | refine w_add0 (j := 26) rfl rfl ?_ | refine w_addN (j := 26) rfl rfl ?_ | refine w_add (j := 26) rfl rfl ?_
      refine w_is (j := 27) rfl rfl rfl ?_
      first | refine w_incN (j := 28) rfl rfl rfl ?_ | refine w_inc (j := 28) rfl rfl rfl rfl ?_
      refine w_go rfl ?_
      rw [pf_lev, if_neg (of_decide_eq_false d1)] at H
      rw [show s + nI 0 = s from Int32.add_zero s]
      exact H
    ·
      refine w_il (j := 16) rfl rfl rfl ?_
      refine w_al (j := 17) rfl rfl rfl ?_
      first | refine w_gr (j := 18) rfl rfl (by first | assumption | rfl) (by first | assumption | rfl) rfl ?_ | refine w_gi (j := 18) rfl rfl (by first | assumption | rfl) (by first | assumption | rfl) rfl rfl ?_
      refine w_bi (j := 19) (a := nI 8) rfl rfl (by decide) ?_
      refine w_iL (j := 20) rfl rfl rfl ?_
      first | refine w_add0 (j := 21) rfl rfl ?_ | refine w_addN (j := 21) rfl rfl ?_ | refine w_add (j := 21) rfl rfl ?_
      refine w_ial (j := 22) rfl rfl (by first | assumption | rfl) rfl (by omega) rfl rfl ?_
      refine w_csI (j := 23) rfl rfl rfl rfl rfl (sp_156) rfl ?_
      refine w_go rfl ?_
      first | refine w_add0 (j := 26) rfl rfl ?_ | refine w_addN (j := 26) rfl rfl ?_ | refine w_add (j := 26) rfl rfl ?_
      refine w_is (j := 27) rfl rfl rfl ?_
      first | refine w_incN (j := 28) rfl rfl rfl ?_ | refine w_inc (j := 28) rfl rfl rfl rfl ?_
      refine w_go rfl ?_
      rw [pf_lev, if_pos (of_decide_eq_true d1), hs c hc] at H
      exact H
  · intro _
    refine w_iL (j := 5) rfl rfl rfl ?_
    refine w_al (j := 6) rfl rfl rfl ?_
    first | refine w_gr (j := 7) rfl rfl (by first | assumption | rfl) (by first | assumption | rfl) rfl ?_ | refine w_gi (j := 7) rfl rfl (by first | assumption | rfl) (by first | assumption | rfl) rfl rfl ?_
    refine w_ic (n := 1) (j := 8) rfl rfl ?_
    refine w_ial (j := 9) rfl rfl (by first | assumption | rfl) rfl (by omega) rfl l5 ?_
    refine w_geN (j := 10) rfl rfl (by omega) (by omega) (fun _ => ?_) (fun c => absurd c (fun c => by omega))
    refine w_il (j := 30) rfl rfl rfl ?_
    refine w_ir rfl ?_
    rfl
theorem M_share {c q : Nat} {w : Int32} (hI : px_I h B N T cs L W I t) (hc : c < N) (hq : q < 2 ^ N) (hw : nI 0 ≤ w ∧ w ≤ nI 999) : px_PI 7 243 [.ref 100, .int (nI c), .int (nI q), .int w] h (fun v h2 => v = pf_shr1 h N c q w ∧ h2 100 0 = nI 0 ∧ px_kp h h2) := by
  refine px_M (M := mt_243) (ops := mo_243) tb_243 rfl rfl rfl rfl rfl ?_
  refine w_al (j := 1) rfl rfl rfl ?_
  refine w_ic (n := 0) (j := 2) rfl rfl ?_
  refine w_pf (j := 3) rfl rfl (by first | assumption | rfl) (by first | assumption | rfl) rfl ?_
  obtain ⟨I1, k1, t0⟩ := px_thr (v := nI 0) hI
  generalize ix_up h 100 0 (nI 0) = h1 at I1 k1 t0 ⊢
  rw [← pf_shr1_kp k1]
  obtain ⟨⟨l1, l2, l3, l4, l5, l6, l7, l8, l9, l10, l11, l12, l13, l14, l15⟩, lw, -, nw, -⟩ := I1
  have hp := px_pw l6
  refine w_al (j := 4) rfl rfl rfl ?_
  refine w_al (j := 5) rfl rfl rfl ?_
  refine w_il (j := 6) rfl rfl rfl ?_
  refine w_cvI (j := 7) rfl rfl rfl rfl (by first | assumption | rfl) rfl rfl (sp_213 l5 l6) rfl ?_
  rw [px_ofB hc l6]
  refine w_neB (j := 8) rfl rfl (fun _ => ?_) (fun c => absurd c (by simp))
  refine w_ic (n := 0) (j := 11) rfl rfl ?_
  refine w_ic (n := 1) (j := 12) rfl rfl ?_
  refine w_ic (n := 0) (j := 13) rfl rfl ?_
  refine w_cvI (j := 14) rfl rfl rfl rfl (by first | assumption | rfl) rfl rfl (sp_154f t0) rfl ?_
  refine w_neB (j := 15) rfl rfl (fun c => absurd c (by simp)) (fun _ => ?_)
  refine w_al (j := 16) rfl rfl rfl ?_
  refine w_al (j := 17) rfl rfl rfl ?_
  refine w_il (j := 18) rfl rfl rfl ?_
  refine w_cvI (j := 19) rfl rfl rfl rfl (by first | assumption | rfl) rfl rfl (sp_214 l5 l6) rfl ?_
  rw [decide_eq_true ((px_bits2 l6).mpr ⟨q, hq, rfl⟩)]
  refine w_eqB (j := 20) rfl rfl (fun c => absurd c (by simp)) (fun _ => ?_)
  refine w_il (j := 21) rfl rfl rfl ?_
  refine w_ic (n := 0) (j := 22) rfl rfl ?_
  refine w_si (j := 23) (a := nI 999) rfl rfl (by decide) ?_
  refine w_csI (j := 24) rfl rfl rfl rfl rfl (sp_155) rfl ?_
  rw [decide_eq_true hw]
  refine w_neB (j := 25) rfl rfl (fun _ => ?_) (fun c => absurd c (by simp))
  refine w_ic (n := 0) (j := 28) rfl rfl ?_
  refine w_ic (n := 2) (j := 29) rfl rfl ?_
  refine w_ic (n := 1) (j := 30) rfl rfl ?_
  refine w_cvI (j := 31) rfl rfl rfl rfl (by first | assumption | rfl) rfl rfl (sp_154f t0) rfl ?_
  refine w_eqB (j := 32) rfl rfl (fun _ => ?_) (fun c => absurd c (by simp))
  refine w_ic (n := 0) (j := 35) rfl rfl ?_
  refine w_iS (j := 36) rfl rfl rfl ?_
  have fin : ∀ b, b = pf_shb (pf_gvn h1 N q) w 99 0 → px_R px_E 6 mo_243 [] 49 [.ref 100, .int (nI c), .int (nI q), .int w, .int (nI b)] [] h1 0 (fun r => ∃ v h', r = (.inl (some (.int v)), h', 0) ∧ v = pf_shr1 h1 N c q w ∧ h' 100 0 = nI 0 ∧ px_kp h h') := by
    intro b hb
    refine w_il (j := 50) rfl rfl rfl ?_
    refine w_il (j := 51) rfl rfl rfl ?_
    refine w_csI (j := 52) rfl rfl rfl rfl rfl (sp_158) rfl ?_
    rw [px_has (a := q) (k := c) (by omega) (by omega)]
    refine w_eqB (j := 53) rfl rfl (fun d1 => ?_) (fun d1 => ?_)
    ·
      refine w_ic (n := 0) (j := 63) rfl rfl ?_
      refine w_ir rfl ?_
      have d1 := of_decide_eq_false d1
      refine ⟨_, _, rfl, ?_, t0, k1⟩
      have z : q / 2 ^ c % 2 ≠ 1 := fun e => d1 (by rw [e])
      rw [pf_shr1, if_pos (by omega)]
    ·
      refine w_iL (j := 54) rfl rfl rfl ?_
      refine w_al (j := 55) rfl rfl rfl ?_
      first | refine w_gr (j := 56) rfl rfl (by first | assumption | rfl) (by first | assumption | rfl) rfl ?_ | refine w_gi (j := 56) rfl rfl (by first | assumption | rfl) (by first | assumption | rfl) rfl rfl ?_
      refine w_bi (j := 57) (a := nI 8) rfl rfl (by decide) ?_
      refine w_il (j := 58) rfl rfl rfl ?_
      first | refine w_add0 (j := 59) rfl rfl ?_ | refine w_addN (j := 59) rfl rfl ?_ | refine w_add (j := 59) rfl rfl ?_
      refine w_ial (j := 60) rfl rfl (by first | assumption | rfl) rfl (by omega) rfl rfl ?_
      refine w_csI (j := 61) rfl rfl rfl rfl rfl (sp_156) rfl ?_
      refine w_go rfl ?_
      refine w_ir rfl ?_
      have d1 := (px_neq (by omega) (by decide)).mp (of_decide_eq_true d1)
      refine ⟨_, _, rfl, ?_, t0, k1⟩
      rw [pf_shr1, if_neg (by omega), ← hb, (nw.1 c (by omega)).1]
      rfl
  refine px_forI (fun b ls h2 => h2 = h1 ∧ ls = [.ref 100, .int (nI c), .int (nI q), .int w, .int (nI b)] ∧ pf_shb (pf_gvn h1 N q) w (99 - b) b = pf_shb (pf_gvn h1 N q) w 99 0) 99 ?_ ?_ ⟨rfl, rfl, rfl⟩
  · rintro b _ h2 hb ⟨rfl, rfl, hs⟩ H
    rw [show 99 - b = (98 - b) + 1 by omega, pf_shb] at hs
    refine w_iL (j := 37) rfl rfl rfl ?_
    refine w_bi (j := 38) (a := nI 99) rfl rfl (by decide) ?_
    refine w_geN (j := 39) rfl rfl (by omega) (by omega) (fun c => absurd c (fun c => by omega)) (fun _ => ?_)
    refine w_al (j := 40) rfl rfl rfl ?_
    refine w_il (j := 41) rfl rfl rfl ?_
    refine w_iL (j := 42) rfl rfl rfl ?_
    refine w_ic (n := 1) (j := 43) rfl rfl ?_
    first | refine w_add0 (j := 44) rfl rfl ?_ | refine w_addN (j := 44) rfl rfl ?_ | refine w_add (j := 44) rfl rfl ?_
    refine w_cvI (j := 45) rfl rfl rfl rfl (by first | assumption | rfl) rfl rfl (sp_242 l5 l6 (fun c hc => (nw.1 c (by omega)).1)) rfl ?_
    refine w_il (j := 46) rfl rfl rfl ?_
    refine w_gt (j := 47) rfl rfl (fun d2 => ?_) (fun d2 => ?_)
    ·
      rw [if_neg (px_not_le.mpr d2)] at hs
      exact fin b hs
    ·
      first | refine w_incN (j := 48) rfl rfl rfl ?_ | refine w_inc (j := 48) rfl rfl rfl rfl ?_
      refine w_go rfl ?_
      rw [if_pos d2] at hs
      refine H _ _ ⟨rfl, rfl, ?_⟩
      rw [show 99 - (b + 1) = 98 - b by omega]
      exact hs
  · rintro _ h2 ⟨rfl, rfl, hs⟩
    refine w_iL (j := 37) rfl rfl rfl ?_
    refine w_bi (j := 38) (a := nI 99) rfl rfl (by decide) ?_
    refine w_geN (j := 39) rfl rfl (by omega) (by omega) (fun _ => ?_) (fun c => absurd c (fun c => by omega))
    exact fin 99 hs
theorem MXE_share {a b w : Int32} (l2 : h 104 1 = nI N) (l3 : N ≤ 8) (hw : ¬ (0 ≤ a ∧ a < nI N)) : px_PI 4 243 [.ref 100, .int a, .int b, .int w] h (fun v h2 => h2 100 0 = nI 1 ∧ px_kp (ix_up h 102 0 (h 102 0 + nI 1)) h2) := by
  refine px_M (M := mt_243) (ops := mo_243) tb_243 rfl rfl rfl rfl rfl ?_
  refine w_al (j := 1) rfl rfl rfl ?_
  refine w_ic (n := 0) (j := 2) rfl rfl ?_
  refine w_pf (j := 3) rfl rfl (by first | assumption | rfl) (by first | assumption | rfl) rfl ?_
  refine w_al (j := 4) rfl rfl rfl ?_
  refine w_al (j := 5) rfl rfl rfl ?_
  refine w_il (j := 6) rfl rfl rfl ?_
  refine w_cvI (j := 7) rfl rfl rfl rfl (by first | assumption | rfl) rfl rfl (sp_213 (N := N) l2 l3) rfl ?_
  rw [decide_eq_false hw]
  refine w_neB (j := 8) rfl rfl (fun c => absurd c (by simp)) (fun _ => ?_)
  refine w_ic (n := 1) (j := 9) rfl rfl ?_
  refine w_go rfl ?_
  refine w_ic (n := 1) (j := 12) rfl rfl ?_
  refine w_ic (n := 0) (j := 13) rfl rfl ?_
  refine w_cvI (j := 14) rfl rfl rfl rfl (by first | assumption | rfl) rfl rfl (sp_154t (p := 0) (w := 1) rfl (by decide) (by decide) (by decide)) rfl ?_
  refine w_neB (j := 15) rfl rfl (fun _ => ?_) (fun c => absurd c (by simp))
  refine w_ic (n := 0) (j := 33) rfl rfl ?_
  refine w_ir rfl ?_
  exact ⟨_, _, rfl, rfl, px_kpX (by decide)⟩
theorem MXA_share {a b w : Int32} (l2 : h 104 1 = nI N) (l3 : N ≤ 8) (ha : 0 ≤ a ∧ a < nI N) (hw : ¬ ((∃ q, q < 2 ^ N ∧ b = nI q) ∧ nI 0 ≤ w ∧ w ≤ nI 999)) : px_PI 5 243 [.ref 100, .int a, .int b, .int w] h (fun v h2 => h2 100 0 = nI 2 ∧ px_kp (ix_up h 102 1 (h 102 1 + nI 1)) h2) := by
  have tail : px_R px_E 4 mo_243 [] 25 [.ref 100, .int a, .int b, .int w, .null] [.ref 100] (ix_up h 100 0 (nI 0)) 0 (fun r => ∃ v h', r = (.inl (some (.int v)), h', 0) ∧ h' 100 0 = nI 2 ∧ px_kp (ix_up h 102 1 (h 102 1 + nI 1)) h') := by
    refine w_ic (n := 1) (j := 26) rfl rfl ?_
    refine w_go rfl ?_
    refine w_ic (n := 2) (j := 29) rfl rfl ?_
    refine w_ic (n := 1) (j := 30) rfl rfl ?_
    refine w_cvI (j := 31) rfl rfl rfl rfl (by first | assumption | rfl) rfl rfl (sp_154t (p := 1) (w := 2) rfl (by decide) (by decide) (by decide)) rfl ?_
    refine w_eqB (j := 32) rfl rfl (fun c => absurd c (by simp)) (fun _ => ?_)
    refine w_ic (n := 0) (j := 33) rfl rfl ?_
    refine w_ir rfl ?_
    exact ⟨_, _, rfl, rfl, px_kpX (by decide)⟩
  refine px_M (M := mt_243) (ops := mo_243) tb_243 rfl rfl rfl rfl rfl ?_
  refine w_al (j := 1) rfl rfl rfl ?_
  refine w_ic (n := 0) (j := 2) rfl rfl ?_
  refine w_pf (j := 3) rfl rfl (by first | assumption | rfl) (by first | assumption | rfl) rfl ?_
  refine w_al (j := 4) rfl rfl rfl ?_
  refine w_al (j := 5) rfl rfl rfl ?_
  refine w_il (j := 6) rfl rfl rfl ?_
  refine w_cvI (j := 7) rfl rfl rfl rfl (by first | assumption | rfl) rfl rfl (sp_213 (N := N) l2 l3) rfl ?_
  rw [decide_eq_true ha]
  refine w_neB (j := 8) rfl rfl (fun _ => ?_) (fun c => absurd c (by simp))
  refine w_ic (n := 0) (j := 11) rfl rfl ?_
  refine w_ic (n := 1) (j := 12) rfl rfl ?_
  refine w_ic (n := 0) (j := 13) rfl rfl ?_
  refine w_cvI (j := 14) rfl rfl rfl rfl (by first | assumption | rfl) rfl rfl (sp_154f rfl) rfl ?_
  refine w_neB (j := 15) rfl rfl (fun c => absurd c (by simp)) (fun _ => ?_)
  refine w_al (j := 16) rfl rfl rfl ?_
  refine w_al (j := 17) rfl rfl rfl ?_
  refine w_il (j := 18) rfl rfl rfl ?_
  refine w_cvI (j := 19) rfl rfl rfl rfl (by first | assumption | rfl) rfl rfl (sp_214 (N := N) l2 l3) rfl ?_
  by_cases c1 : nI 0 ≤ b ∧ b ≤ nI 1 <<< (nI N &&& 31) - nI 1
  rw [decide_eq_true c1]
  rotate_left
  · rw [decide_eq_false c1]
    refine w_eqB rfl rfl (fun _ => tail) (fun c => absurd c (by simp))
  refine w_eqB (j := 20) rfl rfl (fun c => absurd c (by simp)) (fun _ => ?_)
  refine w_il (j := 21) rfl rfl rfl ?_
  refine w_ic (n := 0) (j := 22) rfl rfl ?_
  refine w_si (j := 23) (a := nI 999) rfl rfl (by decide) ?_
  refine w_csI (j := 24) rfl rfl rfl rfl rfl (sp_155) rfl ?_
  rw [decide_eq_false (fun q => hw ⟨(px_bits2 l3).mp c1, q⟩)]
  refine w_neB (j := 25) rfl rfl (fun c => absurd c (by simp)) (fun _ => ?_)
  exact tail
end OPS
