def ks_fl : List Cond := flatC (Jvm.Cond.and given_1 narrow_1)
def ks_rep : List (Nat × Nat) := [(10, 90), (5, 119), (11, 402), (10, 80), (5, 121), (4, 74), (5, 109), (10, 78), (10, 84), (10, 64), (5, 93), (10, 82), (5, 111), (5, 103), (11, 415), (10, 86), (4, 79), (5, 117), (5, 115), (4, 83), (10, 88)]
def ks_tx : List String := ["again", "age", "an argument is none such", "bare", "bay", "cry", "fade", "felt", "fill", "keep", "least", "loose", "mates", "most", "no such bay or cry", "out", "path", "pitch", "strength", "term", "year"]
def ks_tm (i : Nat) : Term := .string (ix_cn (ks_rep.getD i (0, 0)).1) (ks_rep.getD i (0, 0)).2
def ks_vl (i : Nat) : Term := .field (ks_tm i) "java/lang/String" "value" "[B"
def ks_el (i j : Nat) : Cond := .eq (.elem (ks_vl i) (.int (Int32.ofNat j))) (.int ((ix_txB.getD i []).getD j 0))
def ks_w (i : Nat) : List Cond := [.exactly (ks_tm i) "java/lang/String", .eq (.field (ks_tm i) "java/lang/String" "coder" "B") (.int 0), .arrayOf (ks_vl i) .byte, .eq (.length (ks_vl i)) (.int (Int32.ofNat (ix_txL.getD i 0)))] ++ (List.range (ix_txL.getD i 0)).map (ks_el i)
def ks_ord : List Nat := [2, 5, 16, 19, 10, 13, 6, 12, 18, 17, 1, 4, 9, 7, 3, 11, 8, 15, 20, 0, 14]
def ks_prs : List (Nat × Nat) := [(2, 5), (2, 16), (5, 16), (2, 19), (5, 19), (16, 19), (2, 10), (5, 10), (16, 10), (19, 10), (2, 13), (5, 13), (16, 13), (19, 13), (10, 13), (2, 6), (5, 6), (16, 6), (19, 6), (10, 6), (13, 6), (2, 12), (5, 12), (16, 12), (19, 12), (10, 12), (13, 12), (6, 12), (2, 18), (5, 18), (16, 18), (19, 18), (10, 18), (13, 18), (6, 18), (12, 18), (2, 17), (5, 17), (16, 17), (19, 17), (10, 17), (13, 17), (6, 17), (12, 17), (18, 17), (2, 1), (5, 1), (16, 1), (19, 1), (10, 1), (13, 1), (6, 1), (12, 1), (18, 1), (17, 1), (2, 4), (5, 4), (16, 4), (19, 4), (10, 4), (13, 4), (6, 4), (12, 4), (18, 4), (17, 4), (1, 4), (2, 9), (5, 9), (16, 9), (19, 9), (10, 9), (13, 9), (6, 9), (12, 9), (18, 9), (17, 9), (1, 9), (4, 9), (2, 7), (5, 7), (16, 7), (19, 7), (10, 7), (13, 7), (6, 7), (12, 7), (18, 7), (17, 7), (1, 7), (4, 7), (9, 7), (2, 3), (5, 3), (16, 3), (19, 3), (10, 3), (13, 3), (6, 3), (12, 3), (18, 3), (17, 3), (1, 3), (4, 3), (9, 3), (7, 3), (2, 11), (5, 11), (16, 11), (19, 11), (10, 11), (13, 11), (6, 11), (12, 11), (18, 11), (17, 11), (1, 11), (4, 11), (9, 11), (7, 11), (3, 11), (2, 8), (5, 8), (16, 8), (19, 8), (10, 8), (13, 8), (6, 8), (12, 8), (18, 8), (17, 8), (1, 8), (4, 8), (9, 8), (7, 8), (3, 8), (11, 8), (2, 15), (5, 15), (16, 15), (19, 15), (10, 15), (13, 15), (6, 15), (12, 15), (18, 15), (17, 15), (1, 15), (4, 15), (9, 15), (7, 15), (3, 15), (11, 15), (8, 15), (2, 20), (5, 20), (16, 20), (19, 20), (10, 20), (13, 20), (6, 20), (12, 20), (18, 20), (17, 20), (1, 20), (4, 20), (9, 20), (7, 20), (3, 20), (11, 20), (8, 20), (15, 20), (2, 0), (5, 0), (16, 0), (19, 0), (10, 0), (13, 0), (6, 0), (12, 0), (18, 0), (17, 0), (1, 0), (4, 0), (9, 0), (7, 0), (3, 0), (11, 0), (8, 0), (15, 0), (20, 0), (2, 14), (5, 14), (16, 14), (19, 14), (10, 14), (13, 14), (6, 14), (12, 14), (18, 14), (17, 14), (1, 14), (4, 14), (9, 14), (7, 14), (3, 14), (11, 14), (8, 14), (15, 14), (20, 14), (0, 14)]
theorem ks_s1 : ix_sub (ks_ord.flatMap ks_w) ks_fl = true := by decide +kernel
theorem ks_s2 : ix_sub (ks_prs.map (fun q => .not (.eq (ks_tm q.1) (ks_tm q.2)))) ks_fl = true := by decide +kernel
theorem ks_o : ∀ i, i < 21 → i ∈ ks_ord := by decide +kernel
theorem ks_p : ∀ i, i < 21 → ∀ j, j < 21 → i = j ∨ (i, j) ∈ ks_prs ∨ (j, i) ∈ ks_prs := by decide +kernel
theorem ks_r : ∀ e ∈ ix_sks, e.2.2 - 2000 < 21 ∧ 2000 + (e.2.2 - 2000) = e.2.2 ∧ Cond.stringRef (ix_cn e.1) e.2.1 (ks_tx.getD (e.2.2 - 2000) "") ∈ tables_1 ∧ (ks_tm (e.2.2 - 2000) = .string (ix_cn e.1) e.2.1 ∨ Cond.eq (.string (ix_cn e.1) e.2.1) (ks_tm (e.2.2 - 2000)) ∈ ks_fl) := by decide +kernel
theorem ks_r2 : Cond.stringRef "CryGorge" 402 "an argument is none such" ∈ tables_1 ∧ Cond.stringRef "CryGorge" 415 "no such bay or cry" ∈ tables_1 ∧ ks_tm 2 = .string "CryGorge" 402 ∧ ks_tm 14 = .string "CryGorge" 415 := by decide +kernel
theorem ks_t : ∀ w ∈ ix_thA, w ∈ lw_tbl := by decide +kernel
theorem ks_g : Cond.isRef (.static Bundle.tN "UNASSIGNED_STACK" Bundle.steD) ∈ ks_fl ∧ Cond.isRef (.static Bundle.tN "SUPPRESSED_SENTINEL" Bundle.listD) ∈ ks_fl ∧ Cond.eq (.static "java/lang/String" "COMPACT_STRINGS" "Z") (.int 1) ∈ ks_fl ∧ Cond.isRef (.static "jdk/internal/util/Preconditions" "SIOOBE_FORMATTER" "Ljava/util/function/BiFunction;") ∈ ks_fl ∧ Cond.not (.castable (ix_en 0) (ix_en 1)) ∈ ks_fl ∧ Cond.not (.castable (ix_en 1) (ix_en 0)) ∈ ks_fl := by decide +kernel
theorem ks_h : Cond.initialized Bundle.tN ∈ tables_1 ∧ Cond.laysStatic Bundle.tN "UNASSIGNED_STACK" Bundle.steD ∈ tables_1 ∧ Cond.laysStatic Bundle.tN "SUPPRESSED_SENTINEL" Bundle.listD ∈ tables_1 ∧ Cond.laysStatic "java/lang/String" "COMPACT_STRINGS" "Z" ∈ tables_1 ∧ Cond.initialized "java/lang/String" ∈ tables_1 ∧ Cond.laysStatic "jdk/internal/util/Preconditions" "SIOOBE_FORMATTER" "Ljava/util/function/BiFunction;" ∈ tables_1 ∧ Cond.initialized "jdk/internal/util/Preconditions" ∈ tables_1 := by decide +kernel
theorem ks_in {i : Nat} {w : Cond} (hi : i < 21) (hw : w ∈ ks_w i) : w ∈ ks_fl := ix_sub_ok _ _ ks_s1 _ (List.mem_flatMap.mpr ⟨i, ks_o i hi, hw⟩)
theorem ks_l : ∀ i, i < 21 → ix_txL.getD i 0 < 2 ^ 31 := by decide +kernel
theorem ks_Es {s : State} {A : Array Value} (hts : ∀ w ∈ lw_tbl, w.before A s = true) (hg : ∀ w ∈ ks_fl, w.before A s = true) : ∃ sa : Nat → Nat, ∀ ad : Nat → Nat, (∀ i, i < 21 → ad (2000 + i) = sa i) → ix_Es ad s.heap.size s s.heap := by
  have hA : ∀ a : Nat, a < s.heap.size → ¬ ix_A s.heap.size a := fun a h1 h2 => absurd h1 (Nat.not_lt.mpr h2)
  have ht : ∀ w ∈ tables_1, w.before A s = true := fun w hw => hts w (ix_tbl hw)
  obtain ⟨g1, g2, g3, g4, g5, g6⟩ := ks_g
  obtain ⟨k1, k2, k3, k4, k5, k6, k7⟩ := ks_h
  obtain ⟨sa, adV, hS, hev⟩ := vk_Sof (args := A) (s := s) (N := 21) (tm := ks_tm) (len := ix_txL) (byt := ix_txB) (A := ix_A s.heap.size) ks_l
    (fun i hi => hg _ (ks_in hi (List.mem_append_left _ (List.mem_of_getElem? (i := 0) rfl)))) (fun i hi => hg _ (ks_in hi (List.mem_append_left _ (List.mem_of_getElem? (i := 1) rfl)))) (fun i hi => hg _ (ks_in hi (List.mem_append_left _ (List.mem_of_getElem? (i := 2) rfl)))) (fun i hi => hg _ (ks_in hi (List.mem_append_left _ (List.mem_of_getElem? (i := 3) rfl))))
    (fun i hi j hj => hg _ (ks_in hi (List.mem_append_right _ (List.mem_map.mpr ⟨j, List.mem_range.mpr hj, rfl⟩))))
    (fun i j hi hj hij => ((ks_p i hi j hj).resolve_left hij).imp (fun q => hg _ (ix_sub_ok _ _ ks_s2 _ (List.mem_map.mpr ⟨_, q, rfl⟩))) (fun q => hg _ (ix_sub_ok _ _ ks_s2 _ (List.mem_map.mpr ⟨_, q, rfl⟩)))) hA
  refine ⟨sa, fun ad had => ⟨Nat.le_refl _, fun e he hz => ?_, fun e he hz => ?_, fun e he => ?_, vx_Zqof (ht _ k2) (ht _ k1) (hg _ g1) hA, vx_Zqof (ht _ k3) (ht _ k1) (hg _ g2) hA, ⟨sa 2, ?_⟩, ⟨sa 14, ?_⟩, ⟨adV, ?_⟩, va_Zof (ht _ k4) (ht _ k5) (va_eqt (hg _ g3)) hA, va_Zqof (ht _ k6) (ht _ k7) (hg _ g4) hA, fun w hw => ?_, va_Nc.of (hg _ g5), va_Nc.of (hg _ g6)⟩⟩
  · refine va_Nw.of ?_ (ht _ (ix_sub_ok _ _ ix_s1 _ (List.mem_map.mpr ⟨e, he, rfl⟩)))
    unfold ix_fw
    rw [if_neg hz]
    rfl
  · refine va_Nw.of ?_ (ht _ (ix_sub_ok _ _ ix_s2 _ (List.mem_map.mpr ⟨e, he, rfl⟩)))
    unfold ix_mkw
    rw [if_pos hz]
    rfl
  · obtain ⟨r1, r2, r3, r4⟩ := ks_r e he
    refine ⟨_, vk_R.of (ht _ r3) ?_⟩
    rw [← r2, had _ r1]
    rcases r4 with r4 | r4
    · rw [← r4]
      exact hev _ r1
    · exact Cond.eq_refs (hg _ r4) (hev _ r1) rfl
  · have := hev 2 (by decide)
    rw [ks_r2.2.2.1] at this
    exact vk_R.of (ht _ ks_r2.1) this
  · have := hev 14 (by decide)
    rw [ks_r2.2.2.2] at this
    exact vk_R.of (ht _ ks_r2.2.1) this
  · refine ⟨fun i hi => ?_, fun i j hi hj e => ?_⟩
    · show va_O "java/lang/String" (ad (2000 + i)) _ _ _ ∧ va_OF _ _ _ _ (ad (2000 + i)) _ _ _ ∧ va_OF _ _ _ _ (ad (2000 + i)) _ _ _ ∧ _
      rw [had i hi]
      exact hS.1 i hi
    · have e : ad (2000 + i) = ad (2000 + j) := e
      rw [had i hi, had j hj] at e
      exact hS.2 i j hi hj e
  · have hg2 := List.all_eq_true.mp ix_thA_ok w hw
    simp only [Bool.and_eq_true] at hg2
    exact va_Nw.of hg2.2 (hts w (ks_t w hw))
theorem ks_i : ∀ w ∈ vwCl.map (fun q : vw_C => Cond.instantiable q.1 q.2.2), w ∈ tables_1 := by decide +kernel
theorem ks_j : Cond.arrayClass .byte ∈ tables_1 ∧ Cond.arrayClass .int ∈ tables_1 ∧ Cond.arrayClass .long ∈ tables_1 ∧ Cond.arrayOver (.array .int) ∈ tables_1 := by decide +kernel
theorem ks_K {s : State} {A : Array Value} (hts : ∀ w ∈ lw_tbl, w.before A s = true) : ∃ (D : va_G) (g : ClassId × ClassId × ClassId × ClassId), ∀ mk, va_K D vwCl (ix_tys (g.1, g.2.1, g.2.2.1, g.2.2.2, mk)) s := by
  have ht : ∀ w ∈ tables_1, w.before A s = true := fun w hw => hts w (ix_tbl hw)
  have hgw : ∀ w ∈ ix_gw, w.before A s = true := fun w hw => hts w (List.mem_filter.mp hw).1
  have h0 : ∀ c : Nat, ∃ q : ClassId × (Nat → Nat), ∀ r : vw_C, vwCl[c]? = some r → u_Kn s r.1 r.2.1 r.2.2 q.1 q.2 := by
    intro c
    cases hc : vwCl[c]? with
    | none => exact ⟨(default, fun _ => 0), fun r h => by cases h⟩
    | some r =>
      obtain ⟨cC, iS, hk⟩ := u_known (ws := ix_gw) (C := r.1) (T := r.2.1) (N := r.2.2) (n := r.2.2) hgw (ix_cok (C := r.1) (T := r.2.1) (N := r.2.2) hc).1 (ht _ (ks_i _ (List.mem_map.mpr ⟨r, List.mem_of_getElem? hc, rfl⟩)))
      refine ⟨(cC, iS), fun r' h => ?_⟩
      cases h
      exact hk
  obtain ⟨F, hF⟩ := Classical.axiomOfChoice h0
  obtain ⟨j1, j2, j3, j4⟩ := ks_j
  obtain ⟨c1, a1, b1, f1, f2, f3⟩ := Cond.arrayClass_spec (ht _ j1)
  obtain ⟨c2, a2, b2, f4, f5, f6⟩ := Cond.arrayClass_spec (ht _ j2)
  obtain ⟨c3, a3, b3, f7, f8, f9⟩ := Cond.arrayClass_spec (ht _ j3)
  obtain ⟨c4, a4, b4, -, -, f10, f11, f12⟩ := arrayOverA_spec (ht _ j4)
  refine ⟨(fun c => (F c).1, fun c => (F c).2), (c1, c2, a4, c3), fun mk => ⟨fun c q hq => hF c q hq, fun k q hk => ?_⟩⟩
  match k, hk with
  | 0, hk => cases hk; exact ⟨fun n z => ⟨fun k h => (by cases h), a1, f2, b1, f3⟩, f1⟩
  | 1, hk => cases hk; exact ⟨fun n z => ⟨fun k h => (by cases h), a2, f5, b2, f6⟩, f4⟩
  | 2, hk => cases hk; exact ⟨fun n z => ⟨fun k h => (by cases h), b4, f10, c4, f11⟩, f12⟩
  | 3, hk => cases hk; exact ⟨fun n z => ⟨fun k h => (by cases h), a3, f8, b3, f9⟩, f7⟩
  | k + 4, hk => cases hk
theorem ks_fr {s t : State} {o : Outcome} {L : List Loc} {k n : Nat} (h : FrameEnd s o t L k n) (hL : ∀ q ∈ L, s.heap.size ≤ q.base) (hk : k ≤ 601024) (hn : n ≤ 7293033) : Framed s o t [] 601024 7293033 := by
  obtain ⟨h1, h2, h3⟩ := h
  refine ⟨h1, h2, ?_⟩
  obtain ⟨a1, a2, a3, a4, a5, a6⟩ := h3.mono hk hn
  refine ⟨a1, a2, a3, a4, a5, fun a c hc => ?_⟩
  obtain ⟨c', q1, q2, q3, q4⟩ := a6 a c hc
  refine ⟨c', q1, q2, q3, fun i _ => q4 i (fun hm => ?_)⟩
  exact absurd (hL _ hm) (Nat.not_le.mpr (Array.getElem?_eq_some_iff.mp hc).1)
