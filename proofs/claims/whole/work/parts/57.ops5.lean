section OPS
variable {h : ix_H} {B N T L W I t : Nat} {cs : List (Nat × Nat)}
def pf_ok8 (a1 a2 a3 a4 a5 a6 a7 a8 : Int32) : Prop := (nI 0 ≤ a1 ∧ a1 ≤ nI 20) ∧ (nI 0 ≤ a2 ∧ a2 ≤ nI 3) ∧ (nI 0 ≤ a3 ∧ a3 ≤ nI 1) ∧ (nI 0 ≤ a4 ∧ a4 ≤ nI 99) ∧ (nI 0 ≤ a5 ∧ a5 ≤ nI 60) ∧ (nI 0 ≤ a6 ∧ a6 ≤ nI 400) ∧ (nI 0 ≤ a7 ∧ a7 ≤ nI 5) ∧ (nI 0 ≤ a8 ∧ a8 ≤ nI 300)
theorem C_would {a1 a2 a3 a4 a5 a6 a7 a8 : Int32} (hI : px_I h B N T cs L W I t) : px_CO 4 116 [.ref 0, .int a1, .int a2, .int a3, .int a4, .int a5, .int a6, .int a7, .int a8] h (fun v h1 => pf_ok8 a1 a2 a3 a4 a5 a6 a7 a8 ∧ v = pf_ev cs (pf_gv a1 a2 a3 a4 a5 a6 a7 a8) ∧ px_kp h h1) (fun x h1 => x = 0 ∧ ¬ pf_ok8 a1 a2 a3 a4 a5 a6 a7 a8 ∧ h1 = px_hX 0 h) := by
  obtain ⟨-, lw, -⟩ := hI
  refine px_M (M := mt_116) (ops := mo_116) tb_116 rfl rfl rfl rfl rfl ?_
  refine w_al (j := 1) rfl rfl rfl ?_
  refine w_il (j := 2) rfl rfl rfl ?_
  refine w_ic (n := 0) (j := 3) rfl rfl ?_
  refine w_bi (j := 4) (a := nI 20) rfl rfl (by decide) ?_
  refine w_chk (j := 5) rfl rfl rfl rfl (by first | assumption | rfl) rfl rfl (sp_147) rfl (fun c1 => ?_) (fun c1 => ?_)
  · exact Or.inr ⟨_, _, rfl, rfl, fun q => c1 (q.1), rfl⟩
  refine w_al (j := 6) rfl rfl rfl ?_
  refine w_il (j := 7) rfl rfl rfl ?_
  refine w_ic (n := 0) (j := 8) rfl rfl ?_
  refine w_ic (n := 3) (j := 9) rfl rfl ?_
  refine w_chk (j := 10) rfl rfl rfl rfl (by first | assumption | rfl) rfl rfl (sp_147) rfl (fun c2 => ?_) (fun c2 => ?_)
  · exact Or.inr ⟨_, _, rfl, rfl, fun q => c2 (q.2.1), rfl⟩
  refine w_al (j := 11) rfl rfl rfl ?_
  refine w_il (j := 12) rfl rfl rfl ?_
  refine w_ic (n := 0) (j := 13) rfl rfl ?_
  refine w_ic (n := 1) (j := 14) rfl rfl ?_
  refine w_chk (j := 15) rfl rfl rfl rfl (by first | assumption | rfl) rfl rfl (sp_147) rfl (fun c3 => ?_) (fun c3 => ?_)
  · exact Or.inr ⟨_, _, rfl, rfl, fun q => c3 (q.2.2.1), rfl⟩
  refine w_al (j := 16) rfl rfl rfl ?_
  refine w_iL (j := 17) rfl rfl rfl ?_
  refine w_ic (n := 0) (j := 18) rfl rfl ?_
  refine w_bi (j := 19) (a := nI 99) rfl rfl (by decide) ?_
  refine w_chk (j := 20) rfl rfl rfl rfl (by first | assumption | rfl) rfl rfl (sp_147) rfl (fun c4 => ?_) (fun c4 => ?_)
  · exact Or.inr ⟨_, _, rfl, rfl, fun q => c4 (q.2.2.2.1), rfl⟩
  refine w_al (j := 21) rfl rfl rfl ?_
  refine w_iL (j := 22) rfl rfl rfl ?_
  refine w_ic (n := 0) (j := 23) rfl rfl ?_
  refine w_bi (j := 24) (a := nI 60) rfl rfl (by decide) ?_
  refine w_chk (j := 25) rfl rfl rfl rfl (by first | assumption | rfl) rfl rfl (sp_147) rfl (fun c5 => ?_) (fun c5 => ?_)
  · exact Or.inr ⟨_, _, rfl, rfl, fun q => c5 (q.2.2.2.2.1), rfl⟩
  refine w_al (j := 26) rfl rfl rfl ?_
  refine w_iL (j := 27) rfl rfl rfl ?_
  refine w_ic (n := 0) (j := 28) rfl rfl ?_
  refine w_si (j := 29) (a := nI 400) rfl rfl (by decide) ?_
  refine w_chk (j := 30) rfl rfl rfl rfl (by first | assumption | rfl) rfl rfl (sp_147) rfl (fun c6 => ?_) (fun c6 => ?_)
  · exact Or.inr ⟨_, _, rfl, rfl, fun q => c6 (q.2.2.2.2.2.1), rfl⟩
  refine w_al (j := 31) rfl rfl rfl ?_
  refine w_iL (j := 32) rfl rfl rfl ?_
  refine w_ic (n := 0) (j := 33) rfl rfl ?_
  refine w_ic (n := 5) (j := 34) rfl rfl ?_
  refine w_chk (j := 35) rfl rfl rfl rfl (by first | assumption | rfl) rfl rfl (sp_147) rfl (fun c7 => ?_) (fun c7 => ?_)
  · exact Or.inr ⟨_, _, rfl, rfl, fun q => c7 (q.2.2.2.2.2.2.1), rfl⟩
  refine w_al (j := 36) rfl rfl rfl ?_
  refine w_iL (j := 37) rfl rfl rfl ?_
  refine w_ic (n := 0) (j := 38) rfl rfl ?_
  refine w_si (j := 39) (a := nI 300) rfl rfl (by decide) ?_
  refine w_chk (j := 40) rfl rfl rfl rfl (by first | assumption | rfl) rfl rfl (sp_147) rfl (fun c8 => ?_) (fun c8 => ?_)
  · exact Or.inr ⟨_, _, rfl, rfl, fun q => c8 (q.2.2.2.2.2.2.2), rfl⟩
  refine w_al (j := 41) rfl rfl rfl ?_
  first | refine w_gr (j := 42) rfl rfl (by first | assumption | rfl) (by first | assumption | rfl) rfl ?_ | refine w_gi (j := 42) rfl rfl (by first | assumption | rfl) (by first | assumption | rfl) rfl rfl ?_
  first | refine w_gr (j := 43) rfl rfl (by first | assumption | rfl) (by first | assumption | rfl) rfl ?_ | refine w_gi (j := 43) rfl rfl (by first | assumption | rfl) (by first | assumption | rfl) rfl rfl ?_
  refine w_ic (n := 0) (j := 44) rfl rfl ?_
  refine w_il (j := 45) rfl rfl rfl ?_
  refine w_ias (j := 46) rfl rfl (by first | assumption | rfl) rfl (by omega) rfl ?_
  refine w_al (j := 47) rfl rfl rfl ?_
  first | refine w_gr (j := 48) rfl rfl (by first | assumption | rfl) (by first | assumption | rfl) rfl ?_ | refine w_gi (j := 48) rfl rfl (by first | assumption | rfl) (by first | assumption | rfl) rfl rfl ?_
  first | refine w_gr (j := 49) rfl rfl (by first | assumption | rfl) (by first | assumption | rfl) rfl ?_ | refine w_gi (j := 49) rfl rfl (by first | assumption | rfl) (by first | assumption | rfl) rfl rfl ?_
  refine w_ic (n := 1) (j := 50) rfl rfl ?_
  refine w_il (j := 51) rfl rfl rfl ?_
  refine w_ias (j := 52) rfl rfl (by first | assumption | rfl) rfl (by omega) rfl ?_
  refine w_al (j := 53) rfl rfl rfl ?_
  first | refine w_gr (j := 54) rfl rfl (by first | assumption | rfl) (by first | assumption | rfl) rfl ?_ | refine w_gi (j := 54) rfl rfl (by first | assumption | rfl) (by first | assumption | rfl) rfl rfl ?_
  first | refine w_gr (j := 55) rfl rfl (by first | assumption | rfl) (by first | assumption | rfl) rfl ?_ | refine w_gi (j := 55) rfl rfl (by first | assumption | rfl) (by first | assumption | rfl) rfl rfl ?_
  refine w_ic (n := 2) (j := 56) rfl rfl ?_
  refine w_il (j := 57) rfl rfl rfl ?_
  refine w_ias (j := 58) rfl rfl (by first | assumption | rfl) rfl (by omega) rfl ?_
  refine w_al (j := 59) rfl rfl rfl ?_
  first | refine w_gr (j := 60) rfl rfl (by first | assumption | rfl) (by first | assumption | rfl) rfl ?_ | refine w_gi (j := 60) rfl rfl (by first | assumption | rfl) (by first | assumption | rfl) rfl rfl ?_
  first | refine w_gr (j := 61) rfl rfl (by first | assumption | rfl) (by first | assumption | rfl) rfl ?_ | refine w_gi (j := 61) rfl rfl (by first | assumption | rfl) (by first | assumption | rfl) rfl rfl ?_
  refine w_ic (n := 3) (j := 62) rfl rfl ?_
  refine w_iL (j := 63) rfl rfl rfl ?_
  refine w_ias (j := 64) rfl rfl (by first | assumption | rfl) rfl (by omega) rfl ?_
  refine w_al (j := 65) rfl rfl rfl ?_
  first | refine w_gr (j := 66) rfl rfl (by first | assumption | rfl) (by first | assumption | rfl) rfl ?_ | refine w_gi (j := 66) rfl rfl (by first | assumption | rfl) (by first | assumption | rfl) rfl rfl ?_
  first | refine w_gr (j := 67) rfl rfl (by first | assumption | rfl) (by first | assumption | rfl) rfl ?_ | refine w_gi (j := 67) rfl rfl (by first | assumption | rfl) (by first | assumption | rfl) rfl rfl ?_
  refine w_ic (n := 4) (j := 68) rfl rfl ?_
  refine w_iL (j := 69) rfl rfl rfl ?_
  refine w_ias (j := 70) rfl rfl (by first | assumption | rfl) rfl (by omega) rfl ?_
  refine w_al (j := 71) rfl rfl rfl ?_
  first | refine w_gr (j := 72) rfl rfl (by first | assumption | rfl) (by first | assumption | rfl) rfl ?_ | refine w_gi (j := 72) rfl rfl (by first | assumption | rfl) (by first | assumption | rfl) rfl rfl ?_
  first | refine w_gr (j := 73) rfl rfl (by first | assumption | rfl) (by first | assumption | rfl) rfl ?_ | refine w_gi (j := 73) rfl rfl (by first | assumption | rfl) (by first | assumption | rfl) rfl rfl ?_
  refine w_ic (n := 5) (j := 74) rfl rfl ?_
  refine w_iL (j := 75) rfl rfl rfl ?_
  refine w_ias (j := 76) rfl rfl (by first | assumption | rfl) rfl (by omega) rfl ?_
  refine w_al (j := 77) rfl rfl rfl ?_
  first | refine w_gr (j := 78) rfl rfl (by first | assumption | rfl) (by first | assumption | rfl) rfl ?_ | refine w_gi (j := 78) rfl rfl (by first | assumption | rfl) (by first | assumption | rfl) rfl rfl ?_
  first | refine w_gr (j := 79) rfl rfl (by first | assumption | rfl) (by first | assumption | rfl) rfl ?_ | refine w_gi (j := 79) rfl rfl (by first | assumption | rfl) (by first | assumption | rfl) rfl rfl ?_
  refine w_bi (j := 80) (a := nI 6) rfl rfl (by decide) ?_
  refine w_iL (j := 81) rfl rfl rfl ?_
  refine w_ias (j := 82) rfl rfl (by first | assumption | rfl) rfl (by omega) rfl ?_
  refine w_al (j := 83) rfl rfl rfl ?_
  first | refine w_gr (j := 84) rfl rfl (by first | assumption | rfl) (by first | assumption | rfl) rfl ?_ | refine w_gi (j := 84) rfl rfl (by first | assumption | rfl) (by first | assumption | rfl) rfl rfl ?_
  first | refine w_gr (j := 85) rfl rfl (by first | assumption | rfl) (by first | assumption | rfl) rfl ?_ | refine w_gi (j := 85) rfl rfl (by first | assumption | rfl) (by first | assumption | rfl) rfl rfl ?_
  refine w_bi (j := 86) (a := nI 7) rfl rfl (by decide) ?_
  refine w_iL (j := 87) rfl rfl rfl ?_
  refine w_ias (j := 88) rfl rfl (by first | assumption | rfl) rfl (by omega) rfl ?_
  refine w_al (j := 89) rfl rfl rfl ?_
  first | refine w_gr (j := 90) rfl rfl (by first | assumption | rfl) (by first | assumption | rfl) rfl ?_ | refine w_gi (j := 90) rfl rfl (by first | assumption | rfl) (by first | assumption | rfl) rfl rfl ?_
  refine w_cvPI (j := 91) rfl rfl rfl rfl (by first | assumption | rfl) rfl rfl (sp_46 (px_lw.fr (S := [42, 45]) lw.1 (by repeat first | exact px_fr.rf | refine px_fr.up ?_ (by decide)) (by decide)) lw.2.2) rfl ?_
  rintro v h9 ⟨e1, f1⟩
  refine w_ir rfl ?_
  refine Or.inl ⟨_, _, rfl, ⟨c1, c2, c3, c4, c5, c6, c7, c8⟩, ?_, ?_⟩
  · subst e1
    refine pf_ev_congr ?_ lw.2.2
    intro j hj
    obtain rfl | rfl | rfl | rfl | rfl | rfl | rfl | rfl : j = 0 ∨ j = 1 ∨ j = 2 ∨ j = 3 ∨ j = 4 ∨ j = 5 ∨ j = 6 ∨ j = 7 := by omega
    all_goals simp [ix_up, pf_gv]
  · refine px_kp.of (S := [42, 45]) (px_fr.tr ?_ (f1.sub (by decide))) (by decide)
    repeat first | exact px_fr.rf | refine px_fr.up ?_ (by decide)
theorem M_would {a1 a2 a3 a4 a5 a6 a7 a8 : Int32} (hI : px_I h B N T cs L W I t) (ok : pf_ok8 a1 a2 a3 a4 a5 a6 a7 a8) : px_PI 5 218 [.ref 100, .int a1, .int a2, .int a3, .int a4, .int a5, .int a6, .int a7, .int a8] h (fun w h2 => w = pf_ev cs (pf_gv a1 a2 a3 a4 a5 a6 a7 a8) ∧ h2 100 0 = nI 0 ∧ px_kp h h2) := by
  obtain ⟨c1, c2, c3, c4, c5, c6, c7, c8⟩ := ok
  refine px_M (M := mt_218) (ops := mo_218) tb_218 rfl rfl rfl rfl rfl ?_
  refine w_al (j := 1) rfl rfl rfl ?_
  refine w_ic (n := 0) (j := 2) rfl rfl ?_
  refine w_pf (j := 3) rfl rfl (by first | assumption | rfl) (by first | assumption | rfl) rfl ?_
  obtain ⟨I1, k1, t0⟩ := px_thr (v := nI 0) hI
  generalize ix_up h 100 0 (nI 0) = h1 at I1 k1 t0 ⊢
  obtain ⟨-, lw, -⟩ := I1
  refine w_al (j := 4) rfl rfl rfl ?_
  refine w_il (j := 5) rfl rfl rfl ?_
  refine w_ic (n := 0) (j := 6) rfl rfl ?_
  refine w_bi (j := 7) (a := nI 20) rfl rfl (by decide) ?_
  refine w_csI (j := 8) rfl rfl rfl rfl rfl (sp_155) rfl ?_
  rw [decide_eq_true c1]
  refine w_eqB (j := 9) rfl rfl (fun c => absurd c (by simp)) (fun _ => ?_)
  refine w_il (j := 10) rfl rfl rfl ?_
  refine w_ic (n := 0) (j := 11) rfl rfl ?_
  refine w_ic (n := 3) (j := 12) rfl rfl ?_
  refine w_csI (j := 13) rfl rfl rfl rfl rfl (sp_155) rfl ?_
  rw [decide_eq_true c2]
  refine w_eqB (j := 14) rfl rfl (fun c => absurd c (by simp)) (fun _ => ?_)
  refine w_il (j := 15) rfl rfl rfl ?_
  refine w_ic (n := 0) (j := 16) rfl rfl ?_
  refine w_ic (n := 1) (j := 17) rfl rfl ?_
  refine w_csI (j := 18) rfl rfl rfl rfl rfl (sp_155) rfl ?_
  rw [decide_eq_true c3]
  refine w_eqB (j := 19) rfl rfl (fun c => absurd c (by simp)) (fun _ => ?_)
  refine w_iL (j := 20) rfl rfl rfl ?_
  refine w_ic (n := 0) (j := 21) rfl rfl ?_
  refine w_bi (j := 22) (a := nI 99) rfl rfl (by decide) ?_
  refine w_csI (j := 23) rfl rfl rfl rfl rfl (sp_155) rfl ?_
  rw [decide_eq_true c4]
  refine w_eqB (j := 24) rfl rfl (fun c => absurd c (by simp)) (fun _ => ?_)
  refine w_iL (j := 25) rfl rfl rfl ?_
  refine w_ic (n := 0) (j := 26) rfl rfl ?_
  refine w_bi (j := 27) (a := nI 60) rfl rfl (by decide) ?_
  refine w_csI (j := 28) rfl rfl rfl rfl rfl (sp_155) rfl ?_
  rw [decide_eq_true c5]
  refine w_eqB (j := 29) rfl rfl (fun c => absurd c (by simp)) (fun _ => ?_)
  refine w_iL (j := 30) rfl rfl rfl ?_
  refine w_ic (n := 0) (j := 31) rfl rfl ?_
  refine w_si (j := 32) (a := nI 400) rfl rfl (by decide) ?_
  refine w_csI (j := 33) rfl rfl rfl rfl rfl (sp_155) rfl ?_
  rw [decide_eq_true c6]
  refine w_eqB (j := 34) rfl rfl (fun c => absurd c (by simp)) (fun _ => ?_)
  refine w_iL (j := 35) rfl rfl rfl ?_
  refine w_ic (n := 0) (j := 36) rfl rfl ?_
  refine w_ic (n := 5) (j := 37) rfl rfl ?_
  refine w_csI (j := 38) rfl rfl rfl rfl rfl (sp_155) rfl ?_
  rw [decide_eq_true c7]
  refine w_eqB (j := 39) rfl rfl (fun c => absurd c (by simp)) (fun _ => ?_)
  refine w_iL (j := 40) rfl rfl rfl ?_
  refine w_ic (n := 0) (j := 41) rfl rfl ?_
  refine w_si (j := 42) (a := nI 300) rfl rfl (by decide) ?_
  refine w_csI (j := 43) rfl rfl rfl rfl rfl (sp_155) rfl ?_
  rw [decide_eq_true c8]
  refine w_neB (j := 44) rfl rfl (fun _ => ?_) (fun c => absurd c (by simp))
  refine w_ic (n := 0) (j := 47) rfl rfl ?_
  refine w_ic (n := 1) (j := 48) rfl rfl ?_
  refine w_ic (n := 1) (j := 49) rfl rfl ?_
  refine w_cvI (j := 50) rfl rfl rfl rfl (by first | assumption | rfl) rfl rfl (sp_154f t0) rfl ?_
  refine w_eqB (j := 51) rfl rfl (fun _ => ?_) (fun c => absurd c (by simp))
  refine w_al (j := 54) rfl rfl rfl ?_
  refine w_il (j := 55) rfl rfl rfl ?_
  refine w_il (j := 56) rfl rfl rfl ?_
  refine w_il (j := 57) rfl rfl rfl ?_
  refine w_iL (j := 58) rfl rfl rfl ?_
  refine w_iL (j := 59) rfl rfl rfl ?_
  refine w_iL (j := 60) rfl rfl rfl ?_
  refine w_iL (j := 61) rfl rfl rfl ?_
  refine w_iL (j := 62) rfl rfl rfl ?_
  refine w_cvPI (j := 63) rfl rfl rfl rfl (by first | assumption | rfl) rfl rfl (sp_198 lw.2.1 lw.2.2) rfl ?_
  rintro v h2 ⟨e1, f1⟩
  refine w_ir rfl ?_
  exact ⟨_, _, rfl, e1, by rw [f1 100 (by decide)]; exact t0, k1.fr f1 (by decide)⟩
theorem MX_would {a1 a2 a3 a4 a5 a6 a7 a8 : Int32} (ok : ¬ pf_ok8 a1 a2 a3 a4 a5 a6 a7 a8) : px_PI 5 218 [.ref 100, .int a1, .int a2, .int a3, .int a4, .int a5, .int a6, .int a7, .int a8] h (fun v h2 => h2 100 0 = nI 1 ∧ px_kp (ix_up h 102 1 (h 102 1 + nI 1)) h2) := by
  have tail : px_R px_E 4 mo_218 [] 44 [.ref 100, .int a1, .int a2, .int a3, .int a4, .int a5, .int a6, .int a7, .int a8] [.ref 100] (ix_up h 100 0 (nI 0)) 0 (fun r => ∃ v h', r = (.inl (some (.int v)), h', 0) ∧ h' 100 0 = nI 1 ∧ px_kp (ix_up h 102 1 (h 102 1 + nI 1)) h') := by
    refine w_ic (n := 1) (j := 45) rfl rfl ?_
    refine w_go rfl ?_
    refine w_ic (n := 1) (j := 48) rfl rfl ?_
    refine w_ic (n := 1) (j := 49) rfl rfl ?_
    refine w_cvI (j := 50) rfl rfl rfl rfl (by first | assumption | rfl) rfl rfl (sp_154t (p := 1) (w := 1) rfl (by decide) (by decide) (by decide)) rfl ?_
    refine w_eqB (j := 51) rfl rfl (fun c => absurd c (by simp)) (fun _ => ?_)
    refine w_ic (n := 0) (j := 52) rfl rfl ?_
    refine w_ir rfl ?_
    exact ⟨_, _, rfl, rfl, px_kpX (by decide)⟩
  refine px_M (M := mt_218) (ops := mo_218) tb_218 rfl rfl rfl rfl rfl ?_
  refine w_al (j := 1) rfl rfl rfl ?_
  refine w_ic (n := 0) (j := 2) rfl rfl ?_
  refine w_pf (j := 3) rfl rfl (by first | assumption | rfl) (by first | assumption | rfl) rfl ?_
  refine w_al (j := 4) rfl rfl rfl ?_
  refine w_il (j := 5) rfl rfl rfl ?_
  refine w_ic (n := 0) (j := 6) rfl rfl ?_
  refine w_bi (j := 7) (a := nI 20) rfl rfl (by decide) ?_
  refine w_csI (j := 8) rfl rfl rfl rfl rfl (sp_155) rfl ?_
  by_cases c1 : nI 0 ≤ a1 ∧ a1 ≤ nI 20
  rw [decide_eq_true c1]
  rotate_left
  · rw [decide_eq_false c1]
    refine w_eqB rfl rfl (fun _ => tail) (fun c => absurd c (by simp))
  refine w_eqB (j := 9) rfl rfl (fun c => absurd c (by simp)) (fun _ => ?_)
  refine w_il (j := 10) rfl rfl rfl ?_
  refine w_ic (n := 0) (j := 11) rfl rfl ?_
  refine w_ic (n := 3) (j := 12) rfl rfl ?_
  refine w_csI (j := 13) rfl rfl rfl rfl rfl (sp_155) rfl ?_
  by_cases c2 : nI 0 ≤ a2 ∧ a2 ≤ nI 3
  rw [decide_eq_true c2]
  rotate_left
  · rw [decide_eq_false c2]
    refine w_eqB rfl rfl (fun _ => tail) (fun c => absurd c (by simp))
  refine w_eqB (j := 14) rfl rfl (fun c => absurd c (by simp)) (fun _ => ?_)
  refine w_il (j := 15) rfl rfl rfl ?_
  refine w_ic (n := 0) (j := 16) rfl rfl ?_
  refine w_ic (n := 1) (j := 17) rfl rfl ?_
  refine w_csI (j := 18) rfl rfl rfl rfl rfl (sp_155) rfl ?_
  by_cases c3 : nI 0 ≤ a3 ∧ a3 ≤ nI 1
  rw [decide_eq_true c3]
  rotate_left
  · rw [decide_eq_false c3]
    refine w_eqB rfl rfl (fun _ => tail) (fun c => absurd c (by simp))
  refine w_eqB (j := 19) rfl rfl (fun c => absurd c (by simp)) (fun _ => ?_)
  refine w_iL (j := 20) rfl rfl rfl ?_
  refine w_ic (n := 0) (j := 21) rfl rfl ?_
  refine w_bi (j := 22) (a := nI 99) rfl rfl (by decide) ?_
  refine w_csI (j := 23) rfl rfl rfl rfl rfl (sp_155) rfl ?_
  by_cases c4 : nI 0 ≤ a4 ∧ a4 ≤ nI 99
  rw [decide_eq_true c4]
  rotate_left
  · rw [decide_eq_false c4]
    refine w_eqB rfl rfl (fun _ => tail) (fun c => absurd c (by simp))
  refine w_eqB (j := 24) rfl rfl (fun c => absurd c (by simp)) (fun _ => ?_)
  refine w_iL (j := 25) rfl rfl rfl ?_
  refine w_ic (n := 0) (j := 26) rfl rfl ?_
  refine w_bi (j := 27) (a := nI 60) rfl rfl (by decide) ?_
  refine w_csI (j := 28) rfl rfl rfl rfl rfl (sp_155) rfl ?_
  by_cases c5 : nI 0 ≤ a5 ∧ a5 ≤ nI 60
  rw [decide_eq_true c5]
  rotate_left
  · rw [decide_eq_false c5]
    refine w_eqB rfl rfl (fun _ => tail) (fun c => absurd c (by simp))
  refine w_eqB (j := 29) rfl rfl (fun c => absurd c (by simp)) (fun _ => ?_)
  refine w_iL (j := 30) rfl rfl rfl ?_
  refine w_ic (n := 0) (j := 31) rfl rfl ?_
  refine w_si (j := 32) (a := nI 400) rfl rfl (by decide) ?_
  refine w_csI (j := 33) rfl rfl rfl rfl rfl (sp_155) rfl ?_
  by_cases c6 : nI 0 ≤ a6 ∧ a6 ≤ nI 400
  rw [decide_eq_true c6]
  rotate_left
  · rw [decide_eq_false c6]
    refine w_eqB rfl rfl (fun _ => tail) (fun c => absurd c (by simp))
  refine w_eqB (j := 34) rfl rfl (fun c => absurd c (by simp)) (fun _ => ?_)
  refine w_iL (j := 35) rfl rfl rfl ?_
  refine w_ic (n := 0) (j := 36) rfl rfl ?_
  refine w_ic (n := 5) (j := 37) rfl rfl ?_
  refine w_csI (j := 38) rfl rfl rfl rfl rfl (sp_155) rfl ?_
  by_cases c7 : nI 0 ≤ a7 ∧ a7 ≤ nI 5
  rw [decide_eq_true c7]
  rotate_left
  · rw [decide_eq_false c7]
    refine w_eqB rfl rfl (fun _ => tail) (fun c => absurd c (by simp))
  refine w_eqB (j := 39) rfl rfl (fun c => absurd c (by simp)) (fun _ => ?_)
  refine w_iL (j := 40) rfl rfl rfl ?_
  refine w_ic (n := 0) (j := 41) rfl rfl ?_
  refine w_si (j := 42) (a := nI 300) rfl rfl (by decide) ?_
  refine w_csI (j := 43) rfl rfl rfl rfl rfl (sp_155) rfl ?_
  by_cases c8 : nI 0 ≤ a8 ∧ a8 ≤ nI 300
  · exact absurd ⟨c1, c2, c3, c4, c5, c6, c7, c8⟩ ok
  rw [decide_eq_false c8]
  refine w_neB (j := 44) rfl rfl (fun c => absurd c (by simp)) (fun _ => ?_)
  exact tail
-- interval
theorem px_pit : ∀ a, a < 61 → ∀ b, b < 61 → pf_abs (nI a - nI b) = pf_mo2 (nI a - nI b) (nI b - nI a) := by decide +kernel
theorem sp_232 {c d : Nat} (hI : px_land h B N T) (hc : c < N) (hd : d < N) : px_V 2 232 [.ref 100, .int (nI c), .int (nI d)] h (some (.int (pf_rem (pf_abs (h 6 c - h 6 d)) (nI 12)))) h := by
  obtain ⟨l1, l2, l3, l4, l5, l6, l7, l8, l9, l10, l11, l12, l13, l14, l15⟩ := hI
  have s1 := sh_129 c (by omega)
  have s2 := sh_129 d (by omega)
  refine px_M (M := mt_232) (ops := mo_232) tb_232 rfl rfl rfl rfl rfl ?_
  refine w_al (j := 1) rfl rfl rfl ?_
  first | refine w_gr (j := 2) rfl rfl (by first | assumption | rfl) (by first | assumption | rfl) rfl ?_ | refine w_gi (j := 2) rfl rfl (by first | assumption | rfl) (by first | assumption | rfl) rfl rfl ?_
  refine w_il (j := 3) rfl rfl rfl ?_
  refine w_aal (j := 4) rfl rfl (by first | assumption | rfl) rfl (by omega) rfl ?_
  refine w_ic (n := 0) (j := 5) rfl rfl ?_
  refine w_ial (j := 6) rfl rfl (by first | assumption | rfl) rfl (by omega) rfl rfl ?_
  refine w_al (j := 7) rfl rfl rfl ?_
  first | refine w_gr (j := 8) rfl rfl (by first | assumption | rfl) (by first | assumption | rfl) rfl ?_ | refine w_gi (j := 8) rfl rfl (by first | assumption | rfl) (by first | assumption | rfl) rfl rfl ?_
  refine w_il (j := 9) rfl rfl rfl ?_
  refine w_aal (j := 10) rfl rfl (by first | assumption | rfl) rfl (by omega) rfl ?_
  refine w_ic (n := 0) (j := 11) rfl rfl ?_
  refine w_ial (j := 12) rfl rfl (by first | assumption | rfl) rfl (by omega) rfl rfl ?_
  first | refine w_subN (j := 13) rfl rfl (by omega) ?_ | refine w_sub (j := 13) rfl rfl ?_
  refine w_al (j := 14) rfl rfl rfl ?_
  first | refine w_gr (j := 15) rfl rfl (by first | assumption | rfl) (by first | assumption | rfl) rfl ?_ | refine w_gi (j := 15) rfl rfl (by first | assumption | rfl) (by first | assumption | rfl) rfl rfl ?_
  refine w_il (j := 16) rfl rfl rfl ?_
  refine w_aal (j := 17) rfl rfl (by first | assumption | rfl) rfl (by omega) rfl ?_
  refine w_ic (n := 0) (j := 18) rfl rfl ?_
  refine w_ial (j := 19) rfl rfl (by first | assumption | rfl) rfl (by omega) rfl rfl ?_
  refine w_al (j := 20) rfl rfl rfl ?_
  first | refine w_gr (j := 21) rfl rfl (by first | assumption | rfl) (by first | assumption | rfl) rfl ?_ | refine w_gi (j := 21) rfl rfl (by first | assumption | rfl) (by first | assumption | rfl) rfl rfl ?_
  refine w_il (j := 22) rfl rfl rfl ?_
  refine w_aal (j := 23) rfl rfl (by first | assumption | rfl) rfl (by omega) rfl ?_
  refine w_ic (n := 0) (j := 24) rfl rfl ?_
  refine w_ial (j := 25) rfl rfl (by first | assumption | rfl) rfl (by omega) rfl rfl ?_
  first | refine w_subN (j := 26) rfl rfl (by omega) ?_ | refine w_sub (j := 26) rfl rfl ?_
  refine w_csI (j := 27) rfl rfl rfl rfl rfl (sp_157) rfl ?_
  refine w_bi (j := 28) (a := nI 12) rfl rfl (by decide) ?_
  refine w_rem (j := 29) rfl rfl (by first | decide | assumption) ?_
  refine w_ir rfl ?_
  refine px_ri ?_
  obtain ⟨p1, ⟨q1, b1, e1⟩, -⟩ := l13 c hc
  obtain ⟨p2, ⟨q2, b2, e2⟩, -⟩ := l13 d hd
  rw [← p1, ← p2, e1, e2, px_pit q1 (by omega) q2 (by omega)]
  rfl
def pf_iv (h : ix_H) (c d : Nat) : Int32 := pf_rem (pf_abs (h 6 c - h 6 d)) (nI 12)
theorem pf_iv_kp {h h' : ix_H} {c d : Nat} (k : px_kp h h') : pf_iv h' c d = pf_iv h c d := by unfold pf_iv; rw [k.1 6 (by decide)]
theorem C_interval {a b : Int32} (hI : px_I h B N T cs L W I t) : px_CO 3 125 [.ref 0, .int a, .int b] h (fun v h1 => ∃ c d, c < N ∧ d < N ∧ a = nI c ∧ b = nI d ∧ v = pf_iv h c d ∧ px_kp h h1) (fun x h1 => x = 1 ∧ ¬ ((0 ≤ a ∧ a < nI N) ∧ 0 ≤ b ∧ b < nI N) ∧ h1 = px_hX 1 h) := by
  obtain ⟨⟨l1, l2, l3, l4, l5, l6, l7, l8, l9⟩, lw, -, nw, -⟩ := hI
  refine px_M (M := mt_125) (ops := mo_125) tb_125 rfl rfl rfl rfl rfl ?_
  refine w_al (j := 1) rfl rfl rfl ?_
  refine w_il (j := 2) rfl rfl rfl ?_
  refine w_chk (j := 3) rfl rfl rfl rfl (by first | assumption | rfl) rfl rfl (sp_150) rfl (fun c1 => ?_) (fun c1 => ?_)
  · rw [l4] at c1
    exact Or.inr ⟨_, _, rfl, rfl, fun q => c1 q.1, rfl⟩
  refine w_al (j := 4) rfl rfl rfl ?_
  refine w_il (j := 5) rfl rfl rfl ?_
  refine w_chk (j := 6) rfl rfl rfl rfl (by first | assumption | rfl) rfl rfl (sp_150) rfl (fun c2 => ?_) (fun c2 => ?_)
  · rw [l4] at c2
    exact Or.inr ⟨_, _, rfl, rfl, fun q => c2 q.2, rfl⟩
  rw [l4] at c1 c2
  obtain ⟨c, hc, rfl⟩ := px_bnd (by omega) c1
  obtain ⟨d, hd, rfl⟩ := px_bnd (by omega) c2
  refine w_al (j := 7) rfl rfl rfl ?_
  first | refine w_gr (j := 8) rfl rfl (by first | assumption | rfl) (by first | assumption | rfl) rfl ?_ | refine w_gi (j := 8) rfl rfl (by first | assumption | rfl) (by first | assumption | rfl) rfl rfl ?_
  refine w_il (j := 9) rfl rfl rfl ?_
  refine w_il (j := 10) rfl rfl rfl ?_
  refine w_cvI (j := 11) rfl rfl rfl rfl (by first | assumption | rfl) rfl rfl (sp_36 px_Ld3 (by omega) (by omega)) rfl ?_
  refine w_ir rfl ?_
  exact Or.inl ⟨_, _, rfl, _, _, hc, hd, rfl, rfl, rfl, px_kp.rf⟩
theorem px_ofB {b : Nat} (hb : b < N) (hN : N ≤ 8) : decide (0 ≤ nI b ∧ nI b < nI N) = true := decide_eq_true ⟨px_nle0 (by omega), nI_lt hb (by omega)⟩
theorem M_interval {c d : Nat} (hI : px_I h B N T cs L W I t) (hc : c < N) (hd : d < N) : px_PI 3 233 [.ref 100, .int (nI c), .int (nI d)] h (fun w h2 => w = pf_iv h c d ∧ h2 100 0 = nI 0 ∧ px_kp h h2) := by
  refine px_M (M := mt_233) (ops := mo_233) tb_233 rfl rfl rfl rfl rfl ?_
  refine w_al (j := 1) rfl rfl rfl ?_
  refine w_ic (n := 0) (j := 2) rfl rfl ?_
  refine w_pf (j := 3) rfl rfl (by first | assumption | rfl) (by first | assumption | rfl) rfl ?_
  obtain ⟨I1, k1, t0⟩ := px_thr (v := nI 0) hI
  generalize ix_up h 100 0 (nI 0) = h1 at I1 k1 t0 ⊢
  rw [← pf_iv_kp k1]
  obtain ⟨ld, -⟩ := I1
  have l5 := ld.2.2.2.2.1
  have l6 := ld.2.2.2.2.2.1
  refine w_al (j := 4) rfl rfl rfl ?_
  refine w_al (j := 5) rfl rfl rfl ?_
  refine w_il (j := 6) rfl rfl rfl ?_
  refine w_cvI (j := 7) rfl rfl rfl rfl (by first | assumption | rfl) rfl rfl (sp_213 l5 l6) rfl ?_
  rw [px_ofB hc l6]
  refine w_eqB (j := 8) rfl rfl (fun c => absurd c (by simp)) (fun _ => ?_)
  refine w_al (j := 9) rfl rfl rfl ?_
  refine w_il (j := 10) rfl rfl rfl ?_
  refine w_cvI (j := 11) rfl rfl rfl rfl (by first | assumption | rfl) rfl rfl (sp_213 l5 l6) rfl ?_
  rw [px_ofB hd l6]
  refine w_neB (j := 12) rfl rfl (fun _ => ?_) (fun c => absurd c (by simp))
  refine w_ic (n := 0) (j := 15) rfl rfl ?_
  refine w_ic (n := 1) (j := 16) rfl rfl ?_
  refine w_ic (n := 0) (j := 17) rfl rfl ?_
  refine w_cvI (j := 18) rfl rfl rfl rfl (by first | assumption | rfl) rfl rfl (sp_154f t0) rfl ?_
  refine w_eqB (j := 19) rfl rfl (fun _ => ?_) (fun c => absurd c (by simp))
  refine w_al (j := 22) rfl rfl rfl ?_
  refine w_il (j := 23) rfl rfl rfl ?_
  refine w_il (j := 24) rfl rfl rfl ?_
  refine w_cvI (j := 25) rfl rfl rfl rfl (by first | assumption | rfl) rfl rfl (sp_232 ld hc hd) rfl ?_
  refine w_ir rfl ?_
  exact ⟨_, _, rfl, rfl, t0, k1⟩
theorem MX_interval {a b : Int32} (l5 : h 104 1 = nI N) (l6 : N ≤ 8) (ok : ¬ ((0 ≤ a ∧ a < nI N) ∧ 0 ≤ b ∧ b < nI N)) : px_PI 3 233 [.ref 100, .int a, .int b] h (fun v h2 => h2 100 0 = nI 1 ∧ px_kp (ix_up h 102 0 (h 102 0 + nI 1)) h2) := by
  have tail : px_R px_E 2 mo_233 [] 12 [.ref 100, .int a, .int b] [.ref 100] (ix_up h 100 0 (nI 0)) 0 (fun r => ∃ v h', r = (.inl (some (.int v)), h', 0) ∧ h' 100 0 = nI 1 ∧ px_kp (ix_up h 102 0 (h 102 0 + nI 1)) h') := by
    refine w_ic (n := 1) (j := 13) rfl rfl ?_
    refine w_go rfl ?_
    refine w_ic (n := 1) (j := 16) rfl rfl ?_
    refine w_ic (n := 0) (j := 17) rfl rfl ?_
    refine w_cvI (j := 18) rfl rfl rfl rfl (by first | assumption | rfl) rfl rfl (sp_154t (p := 0) (w := 1) rfl (by decide) (by decide) (by decide)) rfl ?_
    refine w_eqB (j := 19) rfl rfl (fun c => absurd c (by simp)) (fun _ => ?_)
    refine w_ic (n := 0) (j := 20) rfl rfl ?_
    refine w_ir rfl ?_
    exact ⟨_, _, rfl, rfl, px_kpX (by decide)⟩
  refine px_M (M := mt_233) (ops := mo_233) tb_233 rfl rfl rfl rfl rfl ?_
  refine w_al (j := 1) rfl rfl rfl ?_
  refine w_ic (n := 0) (j := 2) rfl rfl ?_
  refine w_pf (j := 3) rfl rfl (by first | assumption | rfl) (by first | assumption | rfl) rfl ?_
  refine w_al (j := 4) rfl rfl rfl ?_
  refine w_al (j := 5) rfl rfl rfl ?_
  refine w_il (j := 6) rfl rfl rfl ?_
  refine w_cvI (j := 7) rfl rfl rfl rfl (by first | assumption | rfl) rfl rfl (sp_213 (N := N) l5 l6) rfl ?_
  by_cases c1 : 0 ≤ a ∧ a < nI N
  · rw [decide_eq_true c1]
    refine w_eqB (j := 8) rfl rfl (fun c => absurd c (by simp)) (fun _ => ?_)
    refine w_al (j := 9) rfl rfl rfl ?_
    refine w_il (j := 10) rfl rfl rfl ?_
    refine w_cvI (j := 11) rfl rfl rfl rfl (by first | assumption | rfl) rfl rfl (sp_213 (N := N) l5 l6) rfl ?_
    rw [decide_eq_false (fun q => ok ⟨c1, q⟩)]
    refine w_neB (j := 12) rfl rfl (fun c => absurd c (by simp)) (fun _ => ?_)
    exact tail
  · rw [decide_eq_false c1]
    refine w_eqB (j := 8) rfl rfl (fun _ => ?_) (fun c => absurd c (by simp))
    exact tail
end OPS
