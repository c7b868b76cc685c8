theorem px_sh113 : ∀ k, k < 6 → ix_sh (112 + 1 + k) = (1, 2, 0) := by decide
theorem px_sh105 : ∀ k, k < 6 → ix_sh (105 + 1 + k) = (1, 2, 0) := by decide
theorem px_sh119 : ∀ k, k < 8 → ix_sh (119 + 1 + k) = (1, 2, 0) := by decide
theorem px_sh128 : ∀ k, k < 8 → ix_sh (128 + 1 + k) = (1, 2, 0) := by decide
theorem px_sh137 : ∀ k, k < 6 → ix_sh (137 + 1 + k) = (1, 6, 0) := by decide
theorem px_sh144 : ∀ k, k < 6 → ix_sh (144 + 1 + k) = (1, 6, 0) := by decide
theorem px_sh129 : ∀ k, k < 8 → ix_sh (129 + k) = (1, 2, 0) := by decide
theorem px_sh9 : ∀ k, k < 6 → ix_sh (9 + k) = (1, 6, 0) := by decide
theorem px_sh16 : ∀ k, k < 6 → ix_sh (16 + k) = (1, 6, 0) := by decide
def gx_s0 : Nat → Nat → Nat := fun i j => if i = 0 ∧ j = 2 then 21 else if i = 0 ∧ j = 3 then 3 else 0
theorem gx_ws0 : gx_ws gx_s0 := by
  refine ⟨by decide, by decide, by decide, by decide, by decide, fun k hk => absurd hk (by rw [show gx_s0 0 0 = 0 from rfl]; omega), fun k hk => absurd hk (by rw [show gx_s0 0 1 = 0 from rfl]; omega), fun a b ha hb => ?_⟩
  unfold gx_s0
  rw [if_neg (by omega), if_neg (by omega)]
  omega
section GO
variable {h : ix_H} {tx : Nat → Nat} {n p pc o k : Nat} {pl : Int32}
-- the model tells nothing
theorem sp_152 : px_PU 1 152 [.ref 100] h (fun h' => (∀ a, ¬ (a = 103 ∨ (138 ≤ a ∧ a ≤ 143)) → h' a = h a) ∧ gx_ms h' gx_s0) := by
  refine px_M (M := mt_152) (ops := mo_152) tb_152 rfl rfl rfl rfl rfl ?_
  refine w_al (j := 1) rfl rfl rfl ?_
  first | refine w_gr (j := 2) rfl rfl (by first | assumption | rfl) (by first | assumption | rfl) rfl ?_ | refine w_gi (j := 2) rfl rfl (by first | assumption | rfl) (by first | assumption | rfl) rfl rfl ?_
  refine w_ic (n := 0) (j := 3) rfl rfl ?_
  refine w_ic (n := 0) (j := 4) rfl rfl ?_
  refine w_ias (j := 5) rfl rfl (by first | assumption | rfl) rfl (by omega) rfl ?_
  refine w_al (j := 6) rfl rfl rfl ?_
  first | refine w_gr (j := 7) rfl rfl (by first | assumption | rfl) (by first | assumption | rfl) rfl ?_ | refine w_gi (j := 7) rfl rfl (by first | assumption | rfl) (by first | assumption | rfl) rfl rfl ?_
  refine w_ic (n := 1) (j := 8) rfl rfl ?_
  refine w_ic (n := 0) (j := 9) rfl rfl ?_
  refine w_ias (j := 10) rfl rfl (by first | assumption | rfl) rfl (by omega) rfl ?_
  refine w_al (j := 11) rfl rfl rfl ?_
  first | refine w_gr (j := 12) rfl rfl (by first | assumption | rfl) (by first | assumption | rfl) rfl ?_ | refine w_gi (j := 12) rfl rfl (by first | assumption | rfl) (by first | assumption | rfl) rfl rfl ?_
  refine w_ic (n := 2) (j := 13) rfl rfl ?_
  refine w_bi (j := 14) (a := nI 21) rfl rfl (by decide) ?_
  refine w_ias (j := 15) rfl rfl (by first | assumption | rfl) rfl (by omega) rfl ?_
  refine w_al (j := 16) rfl rfl rfl ?_
  first | refine w_gr (j := 17) rfl rfl (by first | assumption | rfl) (by first | assumption | rfl) rfl ?_ | refine w_gi (j := 17) rfl rfl (by first | assumption | rfl) (by first | assumption | rfl) rfl rfl ?_
  refine w_ic (n := 3) (j := 18) rfl rfl ?_
  refine w_ic (n := 3) (j := 19) rfl rfl ?_
  refine w_ias (j := 20) rfl rfl (by first | assumption | rfl) rfl (by omega) rfl ?_
  refine w_ic (n := 0) (j := 21) rfl rfl ?_
  refine w_is (j := 22) rfl rfl rfl ?_
  refine px_forI (fun a ls h1 => (∃ g2, ls = [.ref 100, .int (nI a), g2]) ∧ (∀ x, ¬ (x = 103 ∨ (138 ≤ x ∧ x ≤ 143)) → h1 x = h x) ∧ (∀ i, i < 4 → h1 103 i = nI (gx_s0 0 i)) ∧ ∀ x y, x < a → y < 6 → h1 (138 + x) y = nI 0) 6 ?_ ?_ ⟨⟨_, rfl⟩, fun x hx => ?_, fun i hi => ?_, fun x y hx => by omega⟩
  · rintro a _ h1 ha ⟨⟨g2, rfl⟩, f1, f0, f2⟩ H
    have sa := px_sh138 a ha
    refine w_il (j := 23) rfl rfl rfl ?_
    refine w_bi (j := 24) (a := nI 6) rfl rfl (by decide) ?_
    refine w_geN (j := 25) rfl rfl (by omega) (by omega) (fun c => absurd c (fun c => by omega)) (fun _ => ?_)
    refine w_ic (n := 0) (j := 26) rfl rfl ?_
    refine w_is (j := 27) rfl rfl rfl ?_
    refine px_forI (fun b ls h2 => ls = [.ref 100, .int (nI a), .int (nI b)] ∧ (∀ x, x ≠ 138 + a → h2 x = h1 x) ∧ ∀ y, y < b → h2 (138 + a) y = nI 0) 6 ?_ ?_ ⟨rfl, fun _ _ => rfl, fun y hy => by omega⟩
    · rintro b _ h2 hb ⟨rfl, e1, e2⟩ H2
      refine w_il (j := 28) rfl rfl rfl ?_
      refine w_bi (j := 29) (a := nI 6) rfl rfl (by decide) ?_
      refine w_geN (j := 30) rfl rfl (by omega) (by omega) (fun c => absurd c (fun c => by omega)) (fun _ => ?_)
      refine w_al (j := 31) rfl rfl rfl ?_
      first | refine w_gr (j := 32) rfl rfl (by first | assumption | rfl) (by first | assumption | rfl) rfl ?_ | refine w_gi (j := 32) rfl rfl (by first | assumption | rfl) (by first | assumption | rfl) rfl rfl ?_
      refine w_il (j := 33) rfl rfl rfl ?_
      refine w_aal (j := 34) rfl rfl (by first | assumption | rfl) rfl (by omega) rfl ?_
      refine w_il (j := 35) rfl rfl rfl ?_
      refine w_ic (n := 0) (j := 36) rfl rfl ?_
      refine w_ias (j := 37) rfl rfl (by first | assumption | rfl) rfl (by omega) rfl ?_
      first | refine w_incN (j := 38) rfl rfl rfl ?_ | refine w_inc (j := 38) rfl rfl rfl rfl ?_
      refine w_go rfl ?_
      refine H2 _ _ ⟨rfl, fun x hx => ?_, fun y hy => ?_⟩
      · rw [ix_up_ne hx]; exact e1 x hx
      · by_cases e : y = b
        · rw [e, px_up_at]
        · rw [px_up_nk e]; exact e2 y (by omega)
    · rintro _ h2 ⟨rfl, e1, e2⟩
      refine w_il (j := 28) rfl rfl rfl ?_
      refine w_bi (j := 29) (a := nI 6) rfl rfl (by decide) ?_
      refine w_geN (j := 30) rfl rfl (by omega) (by omega) (fun _ => ?_) (fun c => absurd c (fun c => by omega))
      first | refine w_incN (j := 40) rfl rfl rfl ?_ | refine w_inc (j := 40) rfl rfl rfl rfl ?_
      refine w_go rfl ?_
      refine H _ _ ⟨⟨_, rfl⟩, fun x hx => ?_, fun i hi => ?_, fun x y hx hy => ?_⟩
      · rw [e1 x (by omega)]; exact f1 x hx
      · rw [e1 103 (by omega)]; exact f0 i hi
      · by_cases e : x = a
        · rw [e]; exact e2 y hy
        · rw [e1 _ (by omega)]; exact f2 x y (by omega) hy
  · rintro _ h1 ⟨⟨g2, rfl⟩, f1, f0, f2⟩
    refine w_il (j := 23) rfl rfl rfl ?_
    refine w_bi (j := 24) (a := nI 6) rfl rfl (by decide) ?_
    refine w_geN (j := 25) rfl rfl (by omega) (by omega) (fun _ => ?_) (fun c => absurd c (fun c => by omega))
    refine w_rt rfl ?_
    refine ⟨_, rfl, f1, f0, fun k hk => absurd hk (by rw [show gx_s0 0 0 = 0 from rfl]; omega), fun k hk => absurd hk (by rw [show gx_s0 0 1 = 0 from rfl]; omega), fun a b ha hb => ?_⟩
    rw [f2 a b ha hb]
    unfold gx_s0
    rw [if_neg (by omega), if_neg (by omega)]
  · rw [ix_up_ne (by omega), ix_up_ne (by omega), ix_up_ne (by omega), ix_up_ne (by omega)]
  · rcases (show i = 0 ∨ i = 1 ∨ i = 2 ∨ i = 3 by omega) with rfl | rfl | rfl | rfl <;> rfl
-- the class reads a gorge
def gcQ (h : ix_H) (tx : Nat → Nat) (n c : Nat) (st : Nat → Nat → Nat) (s : Nat) (r : ix_R) : Prop := ∃ K PL st' h', r = (.inl none, h', 0) ∧ gG tx n c st s K PL st' ∧ gcF h h' ∧ (K ≠ 0 → px_rf h' tx n 0 K (nI PL)) ∧ (K = 0 → (∃ p pc, px_rd h' tx n p pc 0 0 (-1)) ∧ gx_ws st' ∧ gx_cs h' st' ∧ ∀ a b, a < 6 → b < 6 → h' (35 + a) b = gx_en (gx_D1 (gx_D0 (fun a b => st' (5 + a) b)) 6 a b))
theorem gcQ.fr {h h1 : ix_H} {c c1 : Nat} {st st1 : Nat → Nat → Nat} {s s1 : Nat} {r : ix_R} (f : gcF h h1) (g : ∀ K PL st', gG tx n c1 st1 s1 K PL st' → gG tx n c st s K PL st') (q : gcQ h1 tx n c1 st1 s1 r) : gcQ h tx n c st s r := by
  obtain ⟨K, PL, st', h', e, D, f1, q1, q2⟩ := q
  exact ⟨K, PL, st', h', e, g _ _ _ D, f.tr f1, q1, q2⟩
theorem gx_gpP (g : gx_gp h) : ∃ P : Nat → Nat → Nat, ∀ a b, a < 6 → b < 6 → h (28 + a) b = nI (P a b) ∧ P a b ≤ 40 := by
  refine ⟨fun a b => (h (28 + a) b).toInt.toNat, fun a b ha hb => ?_⟩
  obtain ⟨q, q1, q2⟩ := g a b ha hb
  have : ∀ q, q < 256 → (nI q).toInt.toNat = q := by decide +kernel
  have e : (h (28 + a) b).toInt.toNat = q := by rw [q2]; exact this q (by omega)
  show h (28 + a) b = nI ((h (28 + a) b).toInt.toNat) ∧ (h (28 + a) b).toInt.toNat ≤ 40
  rw [e]
  exact ⟨q2, q1⟩
theorem cg_55f {c s PL : Nat} {st st' : Nat → Nat → Nat} {g2 g3 : Value} (r : px_rf h tx n 0 k (nI PL)) (gp : gx_gp h) (G : gG tx n c st s k PL st') : px_R px_E 5 mo_19 [] 55 [.ref 22, .ref 2, g2, g3] [] h 0 (gcQ h tx n c st s) := by
  obtain ⟨P, hP⟩ := gx_gpP gp
  refine w_al (j := 56) rfl rfl rfl ?_
  refine w_cvPU (j := 57) rfl rfl rfl rfl (by first | assumption | rfl) rfl rfl (sp_28 hP) rfl ?_
  rintro h1 ⟨u1, u2⟩
  refine w_rt rfl ?_
  obtain ⟨k0, p, pc, r⟩ := r
  exact ⟨k, PL, st', h1, rfl, G, fun a ha => u1 a (by omega), fun _ => ⟨k0, p, pc, r.of (u1 1 (by omega)) (u1 2 (by omega)) (u1 101 (by omega))⟩, fun z => absurd z k0⟩
theorem cg_35f {c m s PL : Nat} {st st' : Nat → Nat → Nat} {g3 : Value} (hm : m ≤ 61) (r : px_rf h tx n 0 k (nI PL)) (gp : gx_gp h) (G : gG tx n c st s k PL st') : px_R px_E 5 mo_19 [] 35 [.ref 22, .ref 2, .int (nI m), g3] [] h 0 (gcQ h tx n c st s) := by
  refine w_il (j := 36) rfl rfl rfl ?_
  refine w_bi (j := 37) (a := nI 60) rfl rfl (by decide) ?_
  refine w_gtN (j := 38) rfl rfl (by omega) (by omega) (fun d => ?_) (fun d => ?_)
  · exact cg_55f r gp G
  refine w_al (j := 39) rfl rfl rfl ?_
  refine w_cvPI (j := 40) rfl rfl rfl rfl (by first | assumption | rfl) rfl rfl (sp_61f r) rfl ?_
  rintro v h1 ⟨rfl, rfl⟩
  refine w_eqB (j := 41) rfl rfl (fun _ => ?_) (fun c => absurd c (by simp))
  exact cg_55f r gp G
theorem cg_body {c : Nat} {st : Nat → Nat → Nat} {g3 : Value} (hc : c ≤ 60) (ws : gx_ws st) (r : px_rd h tx n p pc 0 0 (-1)) (cs : gx_cs h st) (IH : c < 60 → ∀ (st : Nat → Nat → Nat) (h : ix_H) (p pc : Nat) (g3 : Value), gx_ws st → px_rd h tx n p pc 0 0 (-1) → gx_cs h st → px_R px_E 5 mo_19 [] 35 [.ref 22, .ref 2, .int (nI (c + 1)), g3] [] h 0 (gcQ h tx n (c + 1) st (gx_sk tx n p))) : px_R px_E 5 mo_19 [] 35 [.ref 22, .ref 2, .int (nI c), g3] [] h 0 (gcQ h tx n c st (gx_sk tx n p)) := by
  have s1 := gx_sk_sk (tx := tx) r.2.2.2.1
  refine w_il (j := 36) rfl rfl rfl ?_
  refine w_bi (j := 37) (a := nI 60) rfl rfl (by decide) ?_
  refine w_gtN (j := 38) rfl rfl (by omega) (by omega) (fun c => absurd c (fun c => by omega)) (fun _ => ?_)
  refine w_al (j := 39) rfl rfl rfl ?_
  refine w_cvPI (j := 40) rfl rfl rfl rfl (by first | assumption | rfl) rfl rfl (sp_61 r) rfl ?_
  rintro v h1 ⟨q1, q2, q3⟩
  rw [if_pos rfl] at q3
  subst q1
  have cs1 : gx_cs h1 st := cs.of (fun a a1 a2 => q2 a (by simp; omega))
  refine px_mono (Q := gcQ h1 tx n c st (gx_sk tx n p)) ?_ (fun r q => gcQ.fr q2.gc (fun _ _ _ z => z) q)
  clear q2 cs r
  generalize gx_sk tx n p = s at q3 s1 ⊢
  by_cases hs : s < n
  rotate_left
  · rw [decide_eq_false (fun z => hs z.2)]
    refine w_eqB (j := 41) rfl rfl (fun _ => ?_) (fun c => absurd c (by simp))
    refine w_al (j := 56) rfl rfl rfl ?_
    refine w_cvPU (j := 57) rfl rfl rfl rfl (by first | assumption | rfl) rfl rfl (sp_28 (P := fun a b => st (5 + a) b) (fun a b ha hb => ⟨cs1.2.2.2 a b ha hb, ws.2.2.2.2.2.2.2 a b ha hb⟩)) rfl ?_
    rintro h2 ⟨u1, u2⟩
    refine w_rt rfl ?_
    exact ⟨0, 0, st, _, rfl, gG_end hs, fun a ha => u1 a (by omega), fun z => absurd rfl z, fun _ => ⟨⟨_, _, q3.of (u1 1 (by omega)) (u1 2 (by omega)) (u1 101 (by omega))⟩, ws, cs1.of (fun a a1 a2 => u1 a (by omega)), u2⟩⟩
  rw [decide_eq_true ⟨rfl, hs⟩]
  have tail : px_R px_E 5 mo_19 [] 49 [.ref 22, .ref 2, .int (nI c), g3] [.int (px_b (decide (c = 60))), .ref 2, .ref 22] h1 0 (gcQ h1 tx n c st s) := by
    refine w_cvPU (j := 50) rfl rfl rfl rfl (by first | assumption | rfl) rfl rfl (sp_20 s1 hc ws q3 cs1) rfl ?_
    rintro h2 ⟨F2, q⟩
    refine px_mono (Q := gcQ h2 tx n c st s) ?_ (fun r q => gcQ.fr F2 (fun _ _ _ z => z) q)
    refine w_al (j := 51) rfl rfl rfl ?_
    refine w_bi (j := 52) (a := nI 59) rfl rfl (by decide) ?_
    rcases q with ⟨K, PL, E, rf, gp⟩ | ⟨st1, p1, pc1, c60, w1, D, r1, cs2⟩
    · have k0 := rf.1
      refine w_cvPU (j := 53) rfl rfl rfl rfl (by first | assumption | rfl) rfl rfl (sp_63f (c := 59) (by decide) rf) rfl ?_
      rintro h3 ⟨u1, u2⟩
      first | refine w_incN (j := 54) rfl rfl rfl ?_ | refine w_inc (j := 54) rfl rfl rfl rfl ?_
      refine w_go rfl ?_
      exact px_mono (cg_35f (by omega) u2 (gp.of (fun a a1 a2 => u1 a (by simp; omega))) (gG_bad (st' := st) hs k0 E)) (fun r q => gcQ.fr u1.gc (fun _ _ _ z => z) q)
    · 
      refine w_cvPU (j := 53) rfl rfl rfl rfl (by first | assumption | rfl) rfl rfl (sp_63 (c := 59) (by decide) r1) rfl ?_
      rintro h3 ⟨u1, u2⟩
      have cs3 : gx_cs h3 st1 := cs2.of (fun a a1 a2 => u1 a (by simp; omega))
      refine px_mono (Q := gcQ h3 tx n c st s) ?_ (fun r q => gcQ.fr u1.gc (fun _ _ _ z => z) q)
      by_cases hz : gx_sk tx n p1 < n ∧ tx (gx_sk tx n p1) = 59
      rotate_left
      · rw [if_neg hz] at u2
        first | refine w_incN (j := 54) rfl rfl rfl ?_ | refine w_inc (j := 54) rfl rfl rfl rfl ?_
        refine w_go rfl ?_
        exact cg_35f (k := 1) (by omega) ⟨by decide, _, _, by simpa [gx_fk, gx_fp] using u2⟩ (cs3.gp w1) (gG_bad (st' := st) hs (by decide) (D.bad hz))
      rw [if_pos hz] at u2
      first | refine w_incN (j := 54) rfl rfl rfl ?_ | refine w_inc (j := 54) rfl rfl rfl rfl ?_
      refine w_go rfl ?_
      exact px_mono (IH c60 st1 h3 _ _ g3 w1 u2 cs3) (fun r q => gcQ.fr gcF.rf (fun _ _ _ z => gG_step w1 hs (D.ok w1 hz) z) q)
  refine w_eqB (j := 41) rfl rfl (fun c => absurd c (by simp)) (fun _ => ?_)
  refine w_al (j := 42) rfl rfl rfl ?_
  refine w_al (j := 43) rfl rfl rfl ?_
  refine w_il (j := 44) rfl rfl rfl ?_
  refine w_bi (j := 45) (a := nI 60) rfl rfl (by decide) ?_
  refine w_neN (j := 46) rfl rfl (by omega) (by omega) (fun d => ?_) (fun d => ?_)
  ·
    refine w_ic (n := 0) (j := 49) rfl rfl ?_
    rw [decide_eq_false d] at tail
    exact tail
  ·
    refine w_ic (n := 1) (j := 47) rfl rfl ?_
    refine w_go rfl ?_
    rw [decide_eq_true d] at tail
    exact tail
theorem cg_loop : ∀ (j c : Nat) (st : Nat → Nat → Nat) (h : ix_H) (p pc : Nat) (g3 : Value), c + j = 60 → gx_ws st → px_rd h tx n p pc 0 0 (-1) → gx_cs h st → px_R px_E 5 mo_19 [] 35 [.ref 22, .ref 2, .int (nI c), g3] [] h 0 (gcQ h tx n c st (gx_sk tx n p)) := by
  intro j
  induction j with
  | zero => exact fun c st h p pc g3 hj ws r cs => cg_body (by omega) ws r cs (fun z => absurd z (by omega))
  | succ j ih =>
    intro c st h p pc g3 hj ws r cs
    exact cg_body (by omega) ws r cs (fun z st h p pc g3 ws r cs => ih (c + 1) st h p pc g3 (by omega) ws r cs)
theorem sp_19 (r : px_rd h tx n p pc 0 0 (-1)) : px_T px_E 6 19 [.ref 22, .ref 2] h (gcQ h tx n 0 gx_s0 (gx_sk tx n p)) := by
  refine px_M (M := mt_19) (ops := mo_19) tb_19 rfl rfl rfl rfl rfl ?_
  refine w_al (j := 1) rfl rfl rfl ?_
  refine w_ic (n := 0) (j := 2) rfl rfl ?_
  refine w_pf (j := 3) rfl rfl (by first | assumption | rfl) (by first | assumption | rfl) rfl ?_
  refine w_al (j := 4) rfl rfl rfl ?_
  refine w_ic (n := 0) (j := 5) rfl rfl ?_
  refine w_pf (j := 6) rfl rfl (by first | assumption | rfl) (by first | assumption | rfl) rfl ?_
  refine w_al (j := 7) rfl rfl rfl ?_
  refine w_bi (j := 8) (a := nI 21) rfl rfl (by decide) ?_
  refine w_pf (j := 9) rfl rfl (by first | assumption | rfl) (by first | assumption | rfl) rfl ?_
  refine w_al (j := 10) rfl rfl rfl ?_
  refine w_ic (n := 3) (j := 11) rfl rfl ?_
  refine w_pf (j := 12) rfl rfl (by first | assumption | rfl) (by first | assumption | rfl) rfl ?_
  refine w_ic (n := 0) (j := 13) rfl rfl ?_
  refine w_is (j := 14) rfl rfl rfl ?_
  refine px_forI (fun a ls h1 => (∃ g3, ls = [.ref 22, .ref 2, .int (nI a), g3]) ∧ gcF h h1 ∧ h1 2 = h 2 ∧ (h1 22 6 = nI 0 ∧ h1 22 7 = nI 0 ∧ h1 22 8 = nI 21 ∧ h1 22 9 = nI 3) ∧ ∀ x y, x < a → y < 6 → h1 (28 + x) y = nI 0) 6 ?_ ?_ ⟨⟨_, rfl⟩, ?_, ?_, ?_, fun x y hx => by omega⟩
  · rintro a _ h1 ha ⟨⟨g3, rfl⟩, f1, f2, f0, f3⟩ H
    have sa := px_sh28 a ha
    refine w_il (j := 15) rfl rfl rfl ?_
    refine w_bi (j := 16) (a := nI 6) rfl rfl (by decide) ?_
    refine w_geN (j := 17) rfl rfl (by omega) (by omega) (fun c => absurd c (fun c => by omega)) (fun _ => ?_)
    refine w_ic (n := 0) (j := 18) rfl rfl ?_
    refine w_is (j := 19) rfl rfl rfl ?_
    refine px_forI (fun b ls h2 => ls = [.ref 22, .ref 2, .int (nI a), .int (nI b)] ∧ (∀ x, x ≠ 28 + a → h2 x = h1 x) ∧ ∀ y, y < b → h2 (28 + a) y = nI 0) 6 ?_ ?_ ⟨rfl, fun _ _ => rfl, fun y hy => by omega⟩
    · rintro b _ h2 hb ⟨rfl, e1, e2⟩ H2
      refine w_il (j := 20) rfl rfl rfl ?_
      refine w_bi (j := 21) (a := nI 6) rfl rfl (by decide) ?_
      refine w_geN (j := 22) rfl rfl (by omega) (by omega) (fun c => absurd c (fun c => by omega)) (fun _ => ?_)
      refine w_al (j := 23) rfl rfl rfl ?_
      first | refine w_gr (j := 24) rfl rfl (by first | assumption | rfl) (by first | assumption | rfl) rfl ?_ | refine w_gi (j := 24) rfl rfl (by first | assumption | rfl) (by first | assumption | rfl) rfl rfl ?_
      refine w_il (j := 25) rfl rfl rfl ?_
      refine w_aal (j := 26) rfl rfl (by first | assumption | rfl) rfl (by omega) rfl ?_
      refine w_il (j := 27) rfl rfl rfl ?_
      refine w_ic (n := 0) (j := 28) rfl rfl ?_
      refine w_ias (j := 29) rfl rfl (by first | assumption | rfl) rfl (by omega) rfl ?_
      first | refine w_incN (j := 30) rfl rfl rfl ?_ | refine w_inc (j := 30) rfl rfl rfl rfl ?_
      refine w_go rfl ?_
      refine H2 _ _ ⟨rfl, fun x hx => ?_, fun y hy => ?_⟩
      · rw [ix_up_ne hx]; exact e1 x hx
      · by_cases e : y = b
        · rw [e, px_up_at]
        · rw [px_up_nk e]; exact e2 y (by omega)
    · rintro _ h2 ⟨rfl, e1, e2⟩
      refine w_il (j := 20) rfl rfl rfl ?_
      refine w_bi (j := 21) (a := nI 6) rfl rfl (by decide) ?_
      refine w_geN (j := 22) rfl rfl (by omega) (by omega) (fun _ => ?_) (fun c => absurd c (fun c => by omega))
      first | refine w_incN (j := 32) rfl rfl rfl ?_ | refine w_inc (j := 32) rfl rfl rfl rfl ?_
      refine w_go rfl ?_
      refine H _ _ ⟨⟨_, rfl⟩, fun x hx => ?_, ?_, ?_, fun x y hx hy => ?_⟩
      · rw [e1 x (by omega)]; exact f1 x hx
      · rw [e1 2 (by omega)]; exact f2
      · rw [e1 22 (by omega)]; exact f0
      · by_cases e : x = a
        · rw [e]; exact e2 y hy
        · rw [e1 _ (by omega)]; exact f3 x y (by omega) hy
  · rintro _ h1 ⟨⟨g3, rfl⟩, f1, f2, f0, f3⟩
    refine w_il (j := 15) rfl rfl rfl ?_
    refine w_bi (j := 16) (a := nI 6) rfl rfl (by decide) ?_
    refine w_geN (j := 17) rfl rfl (by omega) (by omega) (fun _ => ?_) (fun c => absurd c (fun c => by omega))
    refine w_ic (n := 0) (j := 34) rfl rfl ?_
    refine w_is (j := 35) rfl rfl rfl ?_
    refine px_mono (cg_loop (tx := tx) (n := n) 60 0 gx_s0 h1 p pc g3 rfl gx_ws0 (r.of (f1 1 (by omega)) f2 (f1 101 (by omega))) ⟨f0, fun k hk => absurd hk (by rw [show gx_s0 0 0 = 0 from rfl]; omega), fun k hk => absurd hk (by rw [show gx_s0 0 1 = 0 from rfl]; omega), fun a b ha hb => ?_⟩) (fun r q => gcQ.fr f1 (fun _ _ _ z => z) q)
    rw [f3 a b ha hb]
    unfold gx_s0
    rw [if_neg (by omega), if_neg (by omega)]
  · exact ((((gcF.rf).up (by omega)).up (by omega)).up (by omega)).up (by omega)
  · rw [ix_up_ne (by decide), ix_up_ne (by decide), ix_up_ne (by decide), ix_up_ne (by decide)]
  · refine ⟨?_, ?_, ?_, px_up_at⟩
    · rw [px_up_nk (by decide), px_up_nk (by decide), px_up_nk (by decide), px_up_at]
    · rw [px_up_nk (by decide), px_up_nk (by decide), px_up_at]
    · rw [px_up_nk (by decide), px_up_at]
theorem sp_27 : px_PU 1 27 [.ref 3, .ref 22] h (fun h' => (∀ a, ¬ (3 ≤ a ∧ a ≤ 21) → h' a = h a) ∧ (h' 3 6 = h 22 6 ∧ h' 3 7 = h 22 7 ∧ h' 3 8 = h 22 8 ∧ h' 3 9 = h 22 9) ∧ (∀ k, k < 6 → h' 4 k = h 23 k ∧ h' 5 k = h 24 k) ∧ (∀ k, k < 8 → h' 6 k = h 25 k ∧ h' 7 k = h 26 k) ∧ ∀ a b, a < 6 → b < 6 → h' (9 + a) b = h (28 + a) b ∧ h' (16 + a) b = h (35 + a) b) := by
  refine px_M (M := mt_27) (ops := mo_27) tb_27 rfl rfl rfl rfl rfl ?_
  refine w_al (j := 1) rfl rfl rfl ?_
  refine w_al (j := 2) rfl rfl rfl ?_
  first | refine w_gr (j := 3) rfl rfl (by first | assumption | rfl) (by first | assumption | rfl) rfl ?_ | refine w_gi (j := 3) rfl rfl (by first | assumption | rfl) (by first | assumption | rfl) rfl rfl ?_
  refine w_pf (j := 4) rfl rfl (by first | assumption | rfl) (by first | assumption | rfl) rfl ?_
  refine w_al (j := 5) rfl rfl rfl ?_
  refine w_al (j := 6) rfl rfl rfl ?_
  first | refine w_gr (j := 7) rfl rfl (by first | assumption | rfl) (by first | assumption | rfl) rfl ?_ | refine w_gi (j := 7) rfl rfl (by first | assumption | rfl) (by first | assumption | rfl) rfl rfl ?_
  refine w_pf (j := 8) rfl rfl (by first | assumption | rfl) (by first | assumption | rfl) rfl ?_
  refine w_al (j := 9) rfl rfl rfl ?_
  refine w_al (j := 10) rfl rfl rfl ?_
  first | refine w_gr (j := 11) rfl rfl (by first | assumption | rfl) (by first | assumption | rfl) rfl ?_ | refine w_gi (j := 11) rfl rfl (by first | assumption | rfl) (by first | assumption | rfl) rfl rfl ?_
  refine w_pf (j := 12) rfl rfl (by first | assumption | rfl) (by first | assumption | rfl) rfl ?_
  refine w_al (j := 13) rfl rfl rfl ?_
  refine w_al (j := 14) rfl rfl rfl ?_
  first | refine w_gr (j := 15) rfl rfl (by first | assumption | rfl) (by first | assumption | rfl) rfl ?_ | refine w_gi (j := 15) rfl rfl (by first | assumption | rfl) (by first | assumption | rfl) rfl rfl ?_
  refine w_pf (j := 16) rfl rfl (by first | assumption | rfl) (by first | assumption | rfl) rfl ?_
  refine w_al (j := 17) rfl rfl rfl ?_
  first | refine w_gr (j := 18) rfl rfl (by first | assumption | rfl) (by first | assumption | rfl) rfl ?_ | refine w_gi (j := 18) rfl rfl (by first | assumption | rfl) (by first | assumption | rfl) rfl rfl ?_
  refine w_ic (n := 0) (j := 19) rfl rfl ?_
  refine w_al (j := 20) rfl rfl rfl ?_
  first | refine w_gr (j := 21) rfl rfl (by first | assumption | rfl) (by first | assumption | rfl) rfl ?_ | refine w_gi (j := 21) rfl rfl (by first | assumption | rfl) (by first | assumption | rfl) rfl rfl ?_
  refine w_ic (n := 0) (j := 22) rfl rfl ?_
  refine w_bi (j := 23) (a := nI 6) rfl rfl (by decide) ?_
  refine w_ac (j := 24) rfl rfl (by first | assumption | rfl) (by first | assumption | rfl) rfl rfl rfl rfl rfl (by omega) (by omega) rfl ?_
  refine w_al (j := 25) rfl rfl rfl ?_
  first | refine w_gr (j := 26) rfl rfl (by first | assumption | rfl) (by first | assumption | rfl) rfl ?_ | refine w_gi (j := 26) rfl rfl (by first | assumption | rfl) (by first | assumption | rfl) rfl rfl ?_
  refine w_ic (n := 0) (j := 27) rfl rfl ?_
  refine w_al (j := 28) rfl rfl rfl ?_
  first | refine w_gr (j := 29) rfl rfl (by first | assumption | rfl) (by first | assumption | rfl) rfl ?_ | refine w_gi (j := 29) rfl rfl (by first | assumption | rfl) (by first | assumption | rfl) rfl rfl ?_
  refine w_ic (n := 0) (j := 30) rfl rfl ?_
  refine w_bi (j := 31) (a := nI 6) rfl rfl (by decide) ?_
  refine w_ac (j := 32) rfl rfl (by first | assumption | rfl) (by first | assumption | rfl) rfl rfl rfl rfl rfl (by omega) (by omega) rfl ?_
  refine w_al (j := 33) rfl rfl rfl ?_
  first | refine w_gr (j := 34) rfl rfl (by first | assumption | rfl) (by first | assumption | rfl) rfl ?_ | refine w_gi (j := 34) rfl rfl (by first | assumption | rfl) (by first | assumption | rfl) rfl rfl ?_
  refine w_ic (n := 0) (j := 35) rfl rfl ?_
  refine w_al (j := 36) rfl rfl rfl ?_
  first | refine w_gr (j := 37) rfl rfl (by first | assumption | rfl) (by first | assumption | rfl) rfl ?_ | refine w_gi (j := 37) rfl rfl (by first | assumption | rfl) (by first | assumption | rfl) rfl rfl ?_
  refine w_ic (n := 0) (j := 38) rfl rfl ?_
  refine w_bi (j := 39) (a := nI 8) rfl rfl (by decide) ?_
  refine w_ac (j := 40) rfl rfl (by first | assumption | rfl) (by first | assumption | rfl) rfl rfl rfl rfl rfl (by omega) (by omega) rfl ?_
  refine w_al (j := 41) rfl rfl rfl ?_
  first | refine w_gr (j := 42) rfl rfl (by first | assumption | rfl) (by first | assumption | rfl) rfl ?_ | refine w_gi (j := 42) rfl rfl (by first | assumption | rfl) (by first | assumption | rfl) rfl rfl ?_
  refine w_ic (n := 0) (j := 43) rfl rfl ?_
  refine w_al (j := 44) rfl rfl rfl ?_
  first | refine w_gr (j := 45) rfl rfl (by first | assumption | rfl) (by first | assumption | rfl) rfl ?_ | refine w_gi (j := 45) rfl rfl (by first | assumption | rfl) (by first | assumption | rfl) rfl rfl ?_
  refine w_ic (n := 0) (j := 46) rfl rfl ?_
  refine w_bi (j := 47) (a := nI 8) rfl rfl (by decide) ?_
  refine w_ac (j := 48) rfl rfl (by first | assumption | rfl) (by first | assumption | rfl) rfl rfl rfl rfl rfl (by omega) (by omega) rfl ?_
  refine w_ic (n := 0) (j := 49) rfl rfl ?_
  refine w_is (j := 50) rfl rfl rfl ?_
  refine px_forI (fun a ls h1 => ls = [.ref 3, .ref 22, .int (nI a)] ∧ (∀ x, ¬ (3 ≤ x ∧ x ≤ 21) → h1 x = h x) ∧ (h1 3 6 = h 22 6 ∧ h1 3 7 = h 22 7 ∧ h1 3 8 = h 22 8 ∧ h1 3 9 = h 22 9) ∧ (∀ k, k < 6 → h1 4 k = h 23 k ∧ h1 5 k = h 24 k) ∧ (∀ k, k < 8 → h1 6 k = h 25 k ∧ h1 7 k = h 26 k) ∧ ∀ x y, x < a → y < 6 → h1 (9 + x) y = h (28 + x) y ∧ h1 (16 + x) y = h (35 + x) y) 6 ?_ ?_ ⟨rfl, ?_, ?_, fun k hk => ?_, fun k hk => ?_, fun x y hx => by omega⟩
  · rintro a _ h1 ha ⟨rfl, f1, f2, f3, f4, f5⟩ H
    have s1 := px_sh28 a ha
    have s2 := px_sh35 a ha
    have s3 := px_sh9 a ha
    have s4 := px_sh16 a ha
    refine w_il (j := 51) rfl rfl rfl ?_
    refine w_bi (j := 52) (a := nI 6) rfl rfl (by decide) ?_
    refine w_geN (j := 53) rfl rfl (by omega) (by omega) (fun c => absurd c (fun c => by omega)) (fun _ => ?_)
    refine w_al (j := 54) rfl rfl rfl ?_
    first | refine w_gr (j := 55) rfl rfl (by first | assumption | rfl) (by first | assumption | rfl) rfl ?_ | refine w_gi (j := 55) rfl rfl (by first | assumption | rfl) (by first | assumption | rfl) rfl rfl ?_
    refine w_il (j := 56) rfl rfl rfl ?_
    refine w_aal (j := 57) rfl rfl (by first | assumption | rfl) rfl (by omega) rfl ?_
    refine w_ic (n := 0) (j := 58) rfl rfl ?_
    refine w_al (j := 59) rfl rfl rfl ?_
    first | refine w_gr (j := 60) rfl rfl (by first | assumption | rfl) (by first | assumption | rfl) rfl ?_ | refine w_gi (j := 60) rfl rfl (by first | assumption | rfl) (by first | assumption | rfl) rfl rfl ?_
    refine w_il (j := 61) rfl rfl rfl ?_
    refine w_aal (j := 62) rfl rfl (by first | assumption | rfl) rfl (by omega) rfl ?_
    refine w_ic (n := 0) (j := 63) rfl rfl ?_
    refine w_bi (j := 64) (a := nI 6) rfl rfl (by decide) ?_
    refine w_ac (j := 65) rfl rfl (by first | assumption | rfl) (by first | assumption | rfl) rfl rfl rfl rfl rfl (by omega) (by omega) rfl ?_
    refine w_al (j := 66) rfl rfl rfl ?_
    first | refine w_gr (j := 67) rfl rfl (by first | assumption | rfl) (by first | assumption | rfl) rfl ?_ | refine w_gi (j := 67) rfl rfl (by first | assumption | rfl) (by first | assumption | rfl) rfl rfl ?_
    refine w_il (j := 68) rfl rfl rfl ?_
    refine w_aal (j := 69) rfl rfl (by first | assumption | rfl) rfl (by omega) rfl ?_
    refine w_ic (n := 0) (j := 70) rfl rfl ?_
    refine w_al (j := 71) rfl rfl rfl ?_
    first | refine w_gr (j := 72) rfl rfl (by first | assumption | rfl) (by first | assumption | rfl) rfl ?_ | refine w_gi (j := 72) rfl rfl (by first | assumption | rfl) (by first | assumption | rfl) rfl rfl ?_
    refine w_il (j := 73) rfl rfl rfl ?_
    refine w_aal (j := 74) rfl rfl (by first | assumption | rfl) rfl (by omega) rfl ?_
    refine w_ic (n := 0) (j := 75) rfl rfl ?_
    refine w_bi (j := 76) (a := nI 6) rfl rfl (by decide) ?_
    refine w_ac (j := 77) rfl rfl (by first | assumption | rfl) (by first | assumption | rfl) rfl rfl rfl rfl rfl (by omega) (by omega) rfl ?_
    first | refine w_incN (j := 78) rfl rfl rfl ?_ | refine w_inc (j := 78) rfl rfl rfl rfl ?_
    refine w_go rfl ?_
    refine H _ _ ⟨rfl, fun x hx => ?_, ?_, fun k hk => ?_, fun k hk => ?_, fun x y hx hy => ?_⟩
    · rw [px_cpy_na (by omega), px_cpy_na (by omega)]; exact f1 x hx
    · rw [px_cpy_na (by omega), px_cpy_na (by omega)]; exact f2
    · rw [px_cpy_na (by omega), px_cpy_na (by omega), px_cpy_na (by omega), px_cpy_na (by omega)]; exact f3 k hk
    · rw [px_cpy_na (by omega), px_cpy_na (by omega), px_cpy_na (by omega), px_cpy_na (by omega)]; exact f4 k hk
    · by_cases e : x = a
      · subst e
        rw [px_cpy_na (by omega), px_cpy_in (by omega) (by omega), px_cpy_in (by omega) (by omega), px_cpy_na (by omega), f1 _ (by omega), f1 _ (by omega)]
        refine ⟨?_, ?_⟩
        · congr 1; omega
        · congr 1; omega
      · rw [px_cpy_na (by omega), px_cpy_na (by omega), px_cpy_na (by omega), px_cpy_na (by omega)]; exact f5 x y (by omega) hy
  · rintro _ h1 ⟨rfl, f1, f2, f3, f4, f5⟩
    refine w_il (j := 51) rfl rfl rfl ?_
    refine w_bi (j := 52) (a := nI 6) rfl rfl (by decide) ?_
    refine w_geN (j := 53) rfl rfl (by omega) (by omega) (fun _ => ?_) (fun c => absurd c (fun c => by omega))
    refine w_rt rfl ?_
    exact ⟨_, rfl, f1, f2, f3, f4, f5⟩
  · intro x hx
    rw [px_cpy_na (by omega), px_cpy_na (by omega), px_cpy_na (by omega), px_cpy_na (by omega), ix_up_ne (by omega), ix_up_ne (by omega), ix_up_ne (by omega), ix_up_ne (by omega)]
  · rw [px_cpy_na (by omega), px_cpy_na (by omega), px_cpy_na (by omega), px_cpy_na (by omega)]
    exact ⟨rfl, rfl, rfl, rfl⟩
  · rw [px_cpy_na (by omega), px_cpy_na (by omega), px_cpy_na (by omega), px_cpy_in (by omega) (by omega), px_cpy_na (by omega), px_cpy_na (by omega), px_cpy_in (by omega) (by omega), px_cpy_na (by omega)]
    rw [ix_up_ne (by omega), ix_up_ne (by omega), ix_up_ne (by omega), ix_up_ne (by omega), ix_up_ne (by omega), ix_up_ne (by omega), ix_up_ne (by omega), ix_up_ne (by omega)]
    refine ⟨?_, ?_⟩
    · congr 1; omega
    · congr 1; omega
  · rw [px_cpy_na (by omega), px_cpy_in (by omega) (by omega), px_cpy_na (by omega), px_cpy_na (by omega), px_cpy_in (by omega) (by omega), px_cpy_na (by omega), px_cpy_na (by omega), px_cpy_na (by omega)]
    rw [ix_up_ne (by omega), ix_up_ne (by omega), ix_up_ne (by omega), ix_up_ne (by omega), ix_up_ne (by omega), ix_up_ne (by omega), ix_up_ne (by omega), ix_up_ne (by omega)]
    refine ⟨?_, ?_⟩
    · congr 1; omega
    · congr 1; omega
end GO
