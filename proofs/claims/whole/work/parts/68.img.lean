def pf_im (h : ix_H) (j : Nat) : Int32 := if j = 0 then h 100 36 else if j < 33 then h 577 (j - 1) else h (581 + (j - 33) / 32) ((j - 33) % 32)
theorem pf_im1 {h : ix_H} {k : Nat} (hk : k < 32) : pf_im h (1 + k) = h 577 k := by
  unfold pf_im
  rw [if_neg (by omega), if_pos (by omega), Nat.add_sub_cancel_left]
theorem pf_im2 {h : ix_H} {w k : Nat} (hk : k < 32) : pf_im h (33 + 32 * w + k) = h (581 + w) k := by
  unfold pf_im
  rw [if_neg (by omega), if_neg (by omega), show (33 + 32 * w + k - 33) / 32 = w by omega, show (33 + 32 * w + k - 33) % 32 = k by omega]
section IM
variable {h : ix_H}
theorem sp_253f {a s : Nat} {v : Int32} (hs : h 100 39 = nI s) (ha : ix_sh a = (1, 545, 0)) (h5 : 598 ≤ a) (hl : s < 545) : px_V 1 253 [.ref 100, .ref a, .int v, .int (px_b false)] h (some (.int v)) (ix_up (ix_up h a s v) 100 39 (nI (s + 1))) := by
  have n1 : (100 : Nat) ≠ a := by omega
  have e1 : ix_up h a s v 100 39 = nI s := by rw [px_up_na n1]; exact hs
  have e2 : ix_up (ix_up h a s v) 100 39 (nI (s + 1)) a s = v := by rw [px_up_na (by omega), px_up_at]
  refine px_M (M := mt_253) (ops := mo_253) tb_253 rfl rfl rfl rfl rfl ?_
  refine w_il (j := 1) rfl rfl rfl ?_
  refine w_neB (j := 2) rfl rfl (fun c => absurd c (by simp)) (fun _ => ?_)
  refine w_al (j := 3) rfl rfl rfl ?_
  refine w_al (j := 4) rfl rfl rfl ?_
  first | refine w_gr (j := 5) rfl rfl (by first | assumption | rfl) (by first | assumption | rfl) rfl ?_ | refine w_gi (j := 5) rfl rfl (by first | assumption | rfl) (by first | assumption | rfl) rfl hs ?_
  refine w_il (j := 6) rfl rfl rfl ?_
  refine w_ias (j := 7) rfl rfl (by first | assumption | rfl) rfl (by omega) rfl ?_
  refine w_al (j := 8) rfl rfl rfl ?_
  first | refine w_dupr (j := 9) rfl rfl ?_ | refine w_dupi (j := 9) rfl rfl ?_
  first | refine w_gr (j := 10) rfl rfl (by first | assumption | rfl) (by first | assumption | rfl) rfl ?_ | refine w_gi (j := 10) rfl rfl (by first | assumption | rfl) (by first | assumption | rfl) rfl e1 ?_
  refine w_ic (n := 1) (j := 11) rfl rfl ?_
  first | refine w_add0 (j := 12) rfl rfl ?_ | refine w_addN (j := 12) rfl rfl ?_ | refine w_add (j := 12) rfl rfl ?_
  refine w_pf (j := 13) rfl rfl (by first | assumption | rfl) (by first | assumption | rfl) rfl ?_
  refine w_al (j := 14) rfl rfl rfl ?_
  refine w_al (j := 15) rfl rfl rfl ?_
  first | refine w_gr (j := 16) rfl rfl (by first | assumption | rfl) (by first | assumption | rfl) rfl ?_ | refine w_gi (j := 16) rfl rfl (by first | assumption | rfl) (by first | assumption | rfl) rfl px_up_at ?_
  refine w_ic (n := 1) (j := 17) rfl rfl ?_
  first | refine w_subN (j := 18) rfl rfl (by omega) ?_ | refine w_sub (j := 18) rfl rfl ?_
  rw [Nat.add_sub_cancel]
  refine w_ial (j := 19) rfl rfl (by first | assumption | rfl) rfl (by omega) rfl e2 ?_
  refine w_ir rfl ?_
  rfl
theorem sp_253t {a s : Nat} {v : Int32} (hs : h 100 39 = nI s) (ha : ix_sh a = (1, 545, 0)) (h5 : 598 ≤ a) (hl : s < 545) : px_V 1 253 [.ref 100, .ref a, .int v, .int (px_b true)] h (some (.int (h a s))) (ix_up h 100 39 (nI (s + 1))) := by
  have e2 : ix_up h 100 39 (nI (s + 1)) a s = h a s := by rw [px_up_na (by omega)]
  refine px_M (M := mt_253) (ops := mo_253) tb_253 rfl rfl rfl rfl rfl ?_
  refine w_il (j := 1) rfl rfl rfl ?_
  refine w_neB (j := 2) rfl rfl (fun _ => ?_) (fun c => absurd c (by simp))
  refine w_al (j := 8) rfl rfl rfl ?_
  first | refine w_dupr (j := 9) rfl rfl ?_ | refine w_dupi (j := 9) rfl rfl ?_
  first | refine w_gr (j := 10) rfl rfl (by first | assumption | rfl) (by first | assumption | rfl) rfl ?_ | refine w_gi (j := 10) rfl rfl (by first | assumption | rfl) (by first | assumption | rfl) rfl hs ?_
  refine w_ic (n := 1) (j := 11) rfl rfl ?_
  first | refine w_add0 (j := 12) rfl rfl ?_ | refine w_addN (j := 12) rfl rfl ?_ | refine w_add (j := 12) rfl rfl ?_
  refine w_pf (j := 13) rfl rfl (by first | assumption | rfl) (by first | assumption | rfl) rfl ?_
  refine w_al (j := 14) rfl rfl rfl ?_
  refine w_al (j := 15) rfl rfl rfl ?_
  first | refine w_gr (j := 16) rfl rfl (by first | assumption | rfl) (by first | assumption | rfl) rfl ?_ | refine w_gi (j := 16) rfl rfl (by first | assumption | rfl) (by first | assumption | rfl) rfl px_up_at ?_
  refine w_ic (n := 1) (j := 17) rfl rfl ?_
  first | refine w_subN (j := 18) rfl rfl (by omega) ?_ | refine w_sub (j := 18) rfl rfl ?_
  rw [Nat.add_sub_cancel]
  refine w_ial (j := 19) rfl rfl (by first | assumption | rfl) rfl (by omega) rfl e2 ?_
  refine w_ir rfl ?_
  rfl
def px_pf (h h1 : ix_H) (a n : Nat) : Prop := (∀ q, q ≠ a → q ≠ 100 → h1 q = h q) ∧ (∀ j, j ≠ 39 → h1 100 j = h 100 j) ∧ h1 100 39 = nI n ∧ ∀ j, j < n → h1 a j = pf_im h j
theorem px_pfs {h1 : ix_H} {a n : Nat} {v : Int32} (R : px_pf h h1 a n) (h5 : 598 ≤ a) (hv : v = pf_im h n) : px_pf h (ix_up (ix_up h1 a n v) 100 39 (nI (n + 1))) a (n + 1) := by
  obtain ⟨r1, r2, r3, r4⟩ := R
  refine ⟨fun q q1 q2 => ?_, fun j hj => ?_, px_up_at, fun j hj => ?_⟩
  · rw [ix_up_ne q2, ix_up_ne q1]; exact r1 q q1 q2
  · rw [px_up_nk hj, px_up_na (by omega)]; exact r2 j hj
  · rw [px_up_na (by omega)]
    by_cases hjn : j = n
    · subst hjn; rw [px_up_at]; exact hv
    · rw [px_up_nk hjn]; exact r4 j (by omega)
theorem sp_254f {a : Nat} (ha : ix_sh a = (1, 545, 0)) (h5 : 598 ≤ a) : px_PU 3 254 [.ref 100, .ref a, .int (px_b false)] h (fun h1 => px_pf h h1 a 545) := by
  refine px_M (M := mt_254) (ops := mo_254) tb_254 rfl rfl rfl rfl rfl ?_
  refine w_al (j := 1) rfl rfl rfl ?_
  refine w_ic (n := 0) (j := 2) rfl rfl ?_
  refine w_pf (j := 3) rfl rfl (by first | assumption | rfl) (by first | assumption | rfl) rfl ?_
  have R0 : px_pf h (ix_up h 100 39 (nI 0)) a 0 := ⟨fun q _ q2 => ix_up_ne q2, fun j hj => px_up_nk hj, px_up_at, fun j hj => by omega⟩
  generalize ix_up h 100 39 (nI 0) = h0 at R0 ⊢
  have e36 : h0 100 36 = h 100 36 := R0.2.1 36 (by decide)
  refine w_al (j := 4) rfl rfl rfl ?_
  refine w_al (j := 5) rfl rfl rfl ?_
  refine w_al (j := 6) rfl rfl rfl ?_
  refine w_al (j := 7) rfl rfl rfl ?_
  first | refine w_gr (j := 8) rfl rfl (by first | assumption | rfl) (by first | assumption | rfl) rfl ?_ | refine w_gi (j := 8) rfl rfl (by first | assumption | rfl) (by first | assumption | rfl) rfl e36 ?_
  refine w_il (j := 9) rfl rfl rfl ?_
  refine w_cvI (j := 10) rfl rfl rfl rfl (by first | assumption | rfl) rfl rfl (sp_253f R0.2.2.1 ha h5 (by decide)) rfl ?_
  have R1 := px_pfs (v := h 100 36) R0 h5 rfl
  generalize ix_up (ix_up h0 a 0 (h 100 36)) 100 39 (nI (0 + 1)) = h1 at R1 ⊢
  refine w_pf (j := 11) rfl rfl (by first | assumption | rfl) (by first | assumption | rfl) rfl ?_
  rw [px_up_same (R1.2.1 36 (by decide))]
  refine w_ic (n := 0) (j := 12) rfl rfl ?_
  refine w_is (j := 13) rfl rfl rfl ?_
  refine px_forI (fun c ls h2 => px_pf h h2 a (1 + c) ∧ ∃ g, ls = [.ref 100, .ref a, .int (px_b false), .int (nI c), g]) 32 ?_ ?_ ⟨R1, _, rfl⟩
  · rintro c _ h2 hc ⟨R2, g, rfl⟩ H
    have e577 : h2 577 = h 577 := R2.1 577 (by omega) (by decide)
    have ec : h2 577 c = h 577 c := by rw [e577]
    refine w_il (j := 14) rfl rfl rfl ?_
    refine w_bi (j := 15) (a := nI 32) rfl rfl (by decide) ?_
    refine w_geN (j := 16) rfl rfl (by omega) (by omega) (fun c => absurd c (fun c => by omega)) (fun _ => ?_)
    refine w_al (j := 17) rfl rfl rfl ?_
    first | refine w_gr (j := 18) rfl rfl (by first | assumption | rfl) (by first | assumption | rfl) rfl ?_ | refine w_gi (j := 18) rfl rfl (by first | assumption | rfl) (by first | assumption | rfl) rfl rfl ?_
    refine w_il (j := 19) rfl rfl rfl ?_
    refine w_al (j := 20) rfl rfl rfl ?_
    refine w_al (j := 21) rfl rfl rfl ?_
    refine w_al (j := 22) rfl rfl rfl ?_
    first | refine w_gr (j := 23) rfl rfl (by first | assumption | rfl) (by first | assumption | rfl) rfl ?_ | refine w_gi (j := 23) rfl rfl (by first | assumption | rfl) (by first | assumption | rfl) rfl rfl ?_
    refine w_il (j := 24) rfl rfl rfl ?_
    refine w_ial (j := 25) rfl rfl (by first | assumption | rfl) rfl (by omega) rfl ec ?_
    refine w_il (j := 26) rfl rfl rfl ?_
    refine w_cvI (j := 27) rfl rfl rfl rfl (by first | assumption | rfl) rfl rfl (sp_253f R2.2.2.1 ha h5 (by omega)) rfl ?_
    have R3 := px_pfs (v := h 577 c) R2 h5 (pf_im1 hc).symm
    generalize ix_up (ix_up h2 a (1 + c) (h 577 c)) 100 39 (nI (1 + c + 1)) = h3 at R3 ⊢
    refine w_ias (j := 28) rfl rfl (by first | assumption | rfl) rfl (by omega) rfl ?_
    rw [px_up_same (h := h3) (show h3 577 c = h 577 c by rw [R3.1 577 (by omega) (by decide)])]
    first | refine w_incN (j := 29) rfl rfl rfl ?_ | refine w_inc (j := 29) rfl rfl rfl rfl ?_
    refine w_go rfl ?_
    exact H _ _ ⟨R3, _, rfl⟩
  · rintro _ h2 ⟨R2, g, rfl⟩
    refine w_il (j := 14) rfl rfl rfl ?_
    refine w_bi (j := 15) (a := nI 32) rfl rfl (by decide) ?_
    refine w_geN (j := 16) rfl rfl (by omega) (by omega) (fun _ => ?_) (fun c => absurd c (fun c => by omega))
    refine w_ic (n := 0) (j := 31) rfl rfl ?_
    refine w_is (j := 32) rfl rfl rfl ?_
    refine px_forI (fun w ls h2 => px_pf h h2 a (33 + 32 * w) ∧ ∃ g, ls = [.ref 100, .ref a, .int (px_b false), .int (nI w), g]) 16 ?_ ?_ ⟨R2, _, rfl⟩
    · rintro w _ h3 hw ⟨R3, g, rfl⟩ H
      have sw := sh_581 w hw
      refine w_il (j := 33) rfl rfl rfl ?_
      refine w_bi (j := 34) (a := nI 16) rfl rfl (by decide) ?_
      refine w_geN (j := 35) rfl rfl (by omega) (by omega) (fun c => absurd c (fun c => by omega)) (fun _ => ?_)
      refine w_ic (n := 0) (j := 36) rfl rfl ?_
      refine w_iS (j := 37) rfl rfl rfl ?_
      refine px_forI (fun k ls h4 => px_pf h h4 a (33 + 32 * w + k) ∧ ls = [.ref 100, .ref a, .int (px_b false), .int (nI w), .int (nI k)]) 32 ?_ ?_ ⟨R3, rfl⟩
      · rintro k _ h4 hk ⟨R4, rfl⟩ H2
        have ec : h4 (581 + w) k = h (581 + w) k := by rw [R4.1 (581 + w) (by omega) (by omega)]
        refine w_iL (j := 38) rfl rfl rfl ?_
        refine w_bi (j := 39) (a := nI 32) rfl rfl (by decide) ?_
        refine w_geN (j := 40) rfl rfl (by omega) (by omega) (fun c => absurd c (fun c => by omega)) (fun _ => ?_)
        refine w_al (j := 41) rfl rfl rfl ?_
        first | refine w_gr (j := 42) rfl rfl (by first | assumption | rfl) (by first | assumption | rfl) rfl ?_ | refine w_gi (j := 42) rfl rfl (by first | assumption | rfl) (by first | assumption | rfl) rfl rfl ?_
        refine w_il (j := 43) rfl rfl rfl ?_
        refine w_aal (j := 44) rfl rfl (by first | assumption | rfl) rfl (by omega) rfl ?_
        refine w_iL (j := 45) rfl rfl rfl ?_
        refine w_al (j := 46) rfl rfl rfl ?_
        refine w_al (j := 47) rfl rfl rfl ?_
        refine w_al (j := 48) rfl rfl rfl ?_
        first | refine w_gr (j := 49) rfl rfl (by first | assumption | rfl) (by first | assumption | rfl) rfl ?_ | refine w_gi (j := 49) rfl rfl (by first | assumption | rfl) (by first | assumption | rfl) rfl rfl ?_
        refine w_il (j := 50) rfl rfl rfl ?_
        refine w_aal (j := 51) rfl rfl (by first | assumption | rfl) rfl (by omega) rfl ?_
        refine w_iL (j := 52) rfl rfl rfl ?_
        refine w_ial (j := 53) rfl rfl (by first | assumption | rfl) rfl (by omega) rfl ec ?_
        refine w_il (j := 54) rfl rfl rfl ?_
        refine w_cvI (j := 55) rfl rfl rfl rfl (by first | assumption | rfl) rfl rfl (sp_253f R4.2.2.1 ha h5 (by omega)) rfl ?_
        have R5 := px_pfs (v := h (581 + w) k) R4 h5 (pf_im2 hk).symm
        generalize ix_up (ix_up h4 a (33 + 32 * w + k) (h (581 + w) k)) 100 39 (nI (33 + 32 * w + k + 1)) = h5' at R5 ⊢
        refine w_ias (j := 56) rfl rfl (by first | assumption | rfl) rfl (by omega) rfl ?_
        rw [px_up_same (h := h5') (show h5' (581 + w) k = h (581 + w) k by rw [R5.1 (581 + w) (by omega) (by omega)])]
        first | refine w_incN (j := 57) rfl rfl rfl ?_ | refine w_inc (j := 57) rfl rfl rfl rfl ?_
        refine w_go rfl ?_
        exact H2 _ _ ⟨R5, rfl⟩
      · rintro _ h4 ⟨R4, rfl⟩
        refine w_iL (j := 38) rfl rfl rfl ?_
        refine w_bi (j := 39) (a := nI 32) rfl rfl (by decide) ?_
        refine w_geN (j := 40) rfl rfl (by omega) (by omega) (fun _ => ?_) (fun c => absurd c (fun c => by omega))
        first | refine w_incN (j := 59) rfl rfl rfl ?_ | refine w_inc (j := 59) rfl rfl rfl rfl ?_
        refine w_go rfl ?_
        refine H _ _ ⟨?_, _, rfl⟩
        rw [show 33 + 32 * (w + 1) = 33 + 32 * w + 32 by omega]
        exact R4
    · rintro _ h3 ⟨R3, g, rfl⟩
      refine w_il (j := 33) rfl rfl rfl ?_
      refine w_bi (j := 34) (a := nI 16) rfl rfl (by decide) ?_
      refine w_geN (j := 35) rfl rfl (by omega) (by omega) (fun _ => ?_) (fun c => absurd c (fun c => by omega))
      refine w_rt rfl ?_
      exact ⟨_, rfl, R3⟩
def px_pt (h h1 : ix_H) (a n : Nat) : Prop := (∀ q, q ≠ 577 → q ≠ 100 → (q < 581 ∨ 596 < q) → h1 q = h q) ∧ (∀ j, j ≠ 39 → j ≠ 36 → h1 100 j = h 100 j) ∧ h1 100 39 = nI n ∧ (0 < n → h1 100 36 = h a 0) ∧ (∀ k, k < 32 → 1 + k < n → h1 577 k = h a (1 + k)) ∧ ∀ w k, w < 16 → k < 32 → 33 + 32 * w + k < n → h1 (581 + w) k = h a (33 + 32 * w + k)
theorem sp_254t {a : Nat} (ha : ix_sh a = (1, 545, 0)) (h5 : 598 ≤ a) : px_PU 3 254 [.ref 100, .ref a, .int (px_b true)] h (fun h1 => px_pt h h1 a 545) := by
  refine px_M (M := mt_254) (ops := mo_254) tb_254 rfl rfl rfl rfl rfl ?_
  refine w_al (j := 1) rfl rfl rfl ?_
  refine w_ic (n := 0) (j := 2) rfl rfl ?_
  refine w_pf (j := 3) rfl rfl (by first | assumption | rfl) (by first | assumption | rfl) rfl ?_
  have e39 : ix_up h 100 39 (nI 0) 100 39 = nI 0 := px_up_at
  refine w_al (j := 4) rfl rfl rfl ?_
  refine w_al (j := 5) rfl rfl rfl ?_
  refine w_al (j := 6) rfl rfl rfl ?_
  refine w_al (j := 7) rfl rfl rfl ?_
  first | refine w_gr (j := 8) rfl rfl (by first | assumption | rfl) (by first | assumption | rfl) rfl ?_ | refine w_gi (j := 8) rfl rfl (by first | assumption | rfl) (by first | assumption | rfl) rfl rfl ?_
  refine w_il (j := 9) rfl rfl rfl ?_
  refine w_cvI (j := 10) rfl rfl rfl rfl (by first | assumption | rfl) rfl rfl (sp_253t e39 ha h5 (by decide)) rfl ?_
  refine w_pf (j := 11) rfl rfl (by first | assumption | rfl) (by first | assumption | rfl) rfl ?_
  have R1 : px_pt h (ix_up (ix_up (ix_up h 100 39 (nI 0)) 100 39 (nI (0 + 1))) 100 36 (ix_up h 100 39 (nI 0) a 0)) a 1 := by
    refine ⟨fun q _ q2 _ => by rw [ix_up_ne q2, ix_up_ne q2, ix_up_ne q2], fun j j1 j2 => by rw [px_up_nk j2, px_up_nk j1, px_up_nk j1], by rw [px_up_nk (by decide), px_up_at], fun _ => by rw [px_up_at, px_up_na (by omega)], fun k _ hk => by omega, fun w k _ _ hk => by omega⟩
  generalize ix_up (ix_up (ix_up h 100 39 (nI 0)) 100 39 (nI (0 + 1))) 100 36 (ix_up h 100 39 (nI 0) a 0) = h1 at R1 ⊢
  refine w_ic (n := 0) (j := 12) rfl rfl ?_
  refine w_is (j := 13) rfl rfl rfl ?_
  refine px_forI (fun c ls h2 => px_pt h h2 a (1 + c) ∧ ∃ g, ls = [.ref 100, .ref a, .int (px_b true), .int (nI c), g]) 32 ?_ ?_ ⟨R1, _, rfl⟩
  · rintro c _ h2 hc ⟨⟨r1, r2, r3, r4, r5, r6⟩, g, rfl⟩ H
    have ea : h2 a (1 + c) = h a (1 + c) := by rw [r1 a (by omega) (by omega) (by omega)]
    refine w_il (j := 14) rfl rfl rfl ?_
    refine w_bi (j := 15) (a := nI 32) rfl rfl (by decide) ?_
    refine w_geN (j := 16) rfl rfl (by omega) (by omega) (fun c => absurd c (fun c => by omega)) (fun _ => ?_)
    refine w_al (j := 17) rfl rfl rfl ?_
    first | refine w_gr (j := 18) rfl rfl (by first | assumption | rfl) (by first | assumption | rfl) rfl ?_ | refine w_gi (j := 18) rfl rfl (by first | assumption | rfl) (by first | assumption | rfl) rfl rfl ?_
    refine w_il (j := 19) rfl rfl rfl ?_
    refine w_al (j := 20) rfl rfl rfl ?_
    refine w_al (j := 21) rfl rfl rfl ?_
    refine w_al (j := 22) rfl rfl rfl ?_
    first | refine w_gr (j := 23) rfl rfl (by first | assumption | rfl) (by first | assumption | rfl) rfl ?_ | refine w_gi (j := 23) rfl rfl (by first | assumption | rfl) (by first | assumption | rfl) rfl rfl ?_
    refine w_il (j := 24) rfl rfl rfl ?_
    refine w_ial (j := 25) rfl rfl (by first | assumption | rfl) rfl (by omega) rfl rfl ?_
    refine w_il (j := 26) rfl rfl rfl ?_
    refine w_cvI (j := 27) rfl rfl rfl rfl (by first | assumption | rfl) rfl rfl (sp_253t r3 ha h5 (by omega)) rfl ?_
    rw [ea]
    refine w_ias (j := 28) rfl rfl (by first | assumption | rfl) rfl (by omega) rfl ?_
    first | refine w_incN (j := 29) rfl rfl rfl ?_ | refine w_inc (j := 29) rfl rfl rfl rfl ?_
    refine w_go rfl ?_
    refine H _ _ ⟨⟨fun q q1 q2 q3 => ?_, fun j j1 j2 => ?_, ?_, fun _ => ?_, fun k hk hkc => ?_, fun w k _ _ hk => by omega⟩, _, rfl⟩
    · rw [ix_up_ne q1, ix_up_ne q2]; exact r1 q q1 q2 q3
    · rw [px_up_na (by decide), px_up_nk j1]; exact r2 j j1 j2
    · rw [px_up_na (by decide), px_up_at]; rfl
    · rw [px_up_na (by decide), px_up_nk (by decide)]; exact r4 (by omega)
    · by_cases hkc2 : k = c
      · subst hkc2; rw [px_up_at]
      · rw [px_up_nk hkc2, px_up_na (by decide)]; exact r5 k hk (by omega)
  · rintro _ h2 ⟨R2, g, rfl⟩
    refine w_il (j := 14) rfl rfl rfl ?_
    refine w_bi (j := 15) (a := nI 32) rfl rfl (by decide) ?_
    refine w_geN (j := 16) rfl rfl (by omega) (by omega) (fun _ => ?_) (fun c => absurd c (fun c => by omega))
    refine w_ic (n := 0) (j := 31) rfl rfl ?_
    refine w_is (j := 32) rfl rfl rfl ?_
    refine px_forI (fun w ls h2 => px_pt h h2 a (33 + 32 * w) ∧ ∃ g, ls = [.ref 100, .ref a, .int (px_b true), .int (nI w), g]) 16 ?_ ?_ ⟨R2, _, rfl⟩
    · rintro w _ h3 hw ⟨R3, g, rfl⟩ H
      have sw := sh_581 w hw
      refine w_il (j := 33) rfl rfl rfl ?_
      refine w_bi (j := 34) (a := nI 16) rfl rfl (by decide) ?_
      refine w_geN (j := 35) rfl rfl (by omega) (by omega) (fun c => absurd c (fun c => by omega)) (fun _ => ?_)
      refine w_ic (n := 0) (j := 36) rfl rfl ?_
      refine w_iS (j := 37) rfl rfl rfl ?_
      refine px_forI (fun k ls h4 => px_pt h h4 a (33 + 32 * w + k) ∧ ls = [.ref 100, .ref a, .int (px_b true), .int (nI w), .int (nI k)]) 32 ?_ ?_ ⟨R3, rfl⟩
      · rintro k _ h4 hk ⟨⟨r1, r2, r3, r4, r5, r6⟩, rfl⟩ H2
        have ea : h4 a (33 + 32 * w + k) = h a (33 + 32 * w + k) := by rw [r1 a (by omega) (by omega) (by omega)]
        refine w_iL (j := 38) rfl rfl rfl ?_
        refine w_bi (j := 39) (a := nI 32) rfl rfl (by decide) ?_
        refine w_geN (j := 40) rfl rfl (by omega) (by omega) (fun c => absurd c (fun c => by omega)) (fun _ => ?_)
        refine w_al (j := 41) rfl rfl rfl ?_
        first | refine w_gr (j := 42) rfl rfl (by first | assumption | rfl) (by first | assumption | rfl) rfl ?_ | refine w_gi (j := 42) rfl rfl (by first | assumption | rfl) (by first | assumption | rfl) rfl rfl ?_
        refine w_il (j := 43) rfl rfl rfl ?_
        refine w_aal (j := 44) rfl rfl (by first | assumption | rfl) rfl (by omega) rfl ?_
        refine w_iL (j := 45) rfl rfl rfl ?_
        refine w_al (j := 46) rfl rfl rfl ?_
        refine w_al (j := 47) rfl rfl rfl ?_
        refine w_al (j := 48) rfl rfl rfl ?_
        first | refine w_gr (j := 49) rfl rfl (by first | assumption | rfl) (by first | assumption | rfl) rfl ?_ | refine w_gi (j := 49) rfl rfl (by first | assumption | rfl) (by first | assumption | rfl) rfl rfl ?_
        refine w_il (j := 50) rfl rfl rfl ?_
        refine w_aal (j := 51) rfl rfl (by first | assumption | rfl) rfl (by omega) rfl ?_
        refine w_iL (j := 52) rfl rfl rfl ?_
        refine w_ial (j := 53) rfl rfl (by first | assumption | rfl) rfl (by omega) rfl rfl ?_
        refine w_il (j := 54) rfl rfl rfl ?_
        refine w_cvI (j := 55) rfl rfl rfl rfl (by first | assumption | rfl) rfl rfl (sp_253t r3 ha h5 (by omega)) rfl ?_
        rw [ea]
        refine w_ias (j := 56) rfl rfl (by first | assumption | rfl) rfl (by omega) rfl ?_
        first | refine w_incN (j := 57) rfl rfl rfl ?_ | refine w_inc (j := 57) rfl rfl rfl rfl ?_
        refine w_go rfl ?_
        refine H2 _ _ ⟨⟨fun q q1 q2 q3 => ?_, fun j j1 j2 => ?_, ?_, fun _ => ?_, fun k' hk' hkc => ?_, fun w' k' hw' hk' hl => ?_⟩, rfl⟩
        · rw [ix_up_ne (by omega), ix_up_ne q2]; exact r1 q q1 q2 q3
        · rw [px_up_na (by omega), px_up_nk j1]; exact r2 j j1 j2
        · rw [px_up_na (by omega), px_up_at]; rfl
        · rw [px_up_na (by omega), px_up_nk (by decide)]; exact r4 (by omega)
        · rw [px_up_na (by omega), px_up_na (by decide)]; exact r5 k' hk' (by omega)
        · by_cases e : w' = w ∧ k' = k
          · obtain ⟨rfl, rfl⟩ := e; rw [px_up_at]
          · by_cases ew : w' = w
            · subst ew
              rw [px_up_nk (by omega), px_up_na (by omega)]; exact r6 w' k' hw' hk' (by omega)
            · rw [px_up_na (by omega), px_up_na (by omega)]; exact r6 w' k' hw' hk' (by omega)
      · rintro _ h4 ⟨R4, rfl⟩
        refine w_iL (j := 38) rfl rfl rfl ?_
        refine w_bi (j := 39) (a := nI 32) rfl rfl (by decide) ?_
        refine w_geN (j := 40) rfl rfl (by omega) (by omega) (fun _ => ?_) (fun c => absurd c (fun c => by omega))
        first | refine w_incN (j := 59) rfl rfl rfl ?_ | refine w_inc (j := 59) rfl rfl rfl rfl ?_
        refine w_go rfl ?_
        refine H _ _ ⟨?_, _, rfl⟩
        rw [show 33 + 32 * (w + 1) = 33 + 32 * w + 32 by omega]
        exact R4
    · rintro _ h3 ⟨R3, g, rfl⟩
      refine w_il (j := 33) rfl rfl rfl ?_
      refine w_bi (j := 34) (a := nI 16) rfl rfl (by decide) ?_
      refine w_geN (j := 35) rfl rfl (by omega) (by omega) (fun _ => ?_) (fun c => absurd c (fun c => by omega))
      refine w_rt rfl ?_
      exact ⟨_, rfl, R3⟩
end IM
