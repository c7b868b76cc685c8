section PW
variable {h : ix_H}
theorem sp_98 {i t e : Nat} (hi : i < 150) (ht : t ≤ 40) (he : e ≤ 150) (r1 : h 59 i = nI t) (r2 : h 60 i = nI e) : px_V 1 98 [.ref 57, .int (nI i)] h (some (.int (nI (if 0 < t then i + 1 else e + 1)))) (ix_up h 61 i (nI t)) := by
  have l1 : ix_up h 61 i (nI t) 61 i = nI t := px_up_at
  have l2 : ix_up h 61 i (nI t) 60 i = nI e := by rw [px_up_na (by decide)]; exact r2
  refine px_M (M := mt_98) (ops := mo_98) tb_98 rfl rfl rfl rfl rfl ?_
  refine w_al (j := 1) rfl rfl rfl ?_
  first | refine w_gr (j := 2) rfl rfl (by first | assumption | rfl) (by first | assumption | rfl) rfl ?_ | refine w_gi (j := 2) rfl rfl (by first | assumption | rfl) (by first | assumption | rfl) rfl rfl ?_
  refine w_il (j := 3) rfl rfl rfl ?_
  refine w_al (j := 4) rfl rfl rfl ?_
  first | refine w_gr (j := 5) rfl rfl (by first | assumption | rfl) (by first | assumption | rfl) rfl ?_ | refine w_gi (j := 5) rfl rfl (by first | assumption | rfl) (by first | assumption | rfl) rfl rfl ?_
  refine w_il (j := 6) rfl rfl rfl ?_
  refine w_ial (j := 7) rfl rfl (by first | assumption | rfl) rfl (by omega) rfl r1 ?_
  refine w_ias (j := 8) rfl rfl (by first | assumption | rfl) rfl (by omega) rfl ?_
  refine w_al (j := 9) rfl rfl rfl ?_
  first | refine w_gr (j := 10) rfl rfl (by first | assumption | rfl) (by first | assumption | rfl) rfl ?_ | refine w_gi (j := 10) rfl rfl (by first | assumption | rfl) (by first | assumption | rfl) rfl rfl ?_
  refine w_il (j := 11) rfl rfl rfl ?_
  refine w_ial (j := 12) rfl rfl (by first | assumption | rfl) rfl (by omega) rfl l1 ?_
  refine w_leM (j := 13) rfl rfl (by omega) (fun c => ?_) (fun c => ?_)
  ·
    refine w_al (j := 18) rfl rfl rfl ?_
    first | refine w_gr (j := 19) rfl rfl (by first | assumption | rfl) (by first | assumption | rfl) rfl ?_ | refine w_gi (j := 19) rfl rfl (by first | assumption | rfl) (by first | assumption | rfl) rfl rfl ?_
    refine w_il (j := 20) rfl rfl rfl ?_
    refine w_ial (j := 21) rfl rfl (by first | assumption | rfl) rfl (by omega) rfl l2 ?_
    refine w_ic (n := 1) (j := 22) rfl rfl ?_
    first | refine w_add0 (j := 23) rfl rfl ?_ | refine w_addN (j := 23) rfl rfl ?_ | refine w_add (j := 23) rfl rfl ?_
    refine w_ir rfl ?_
    rw [if_neg (by omega)]
  ·
    refine w_il (j := 14) rfl rfl rfl ?_
    refine w_ic (n := 1) (j := 15) rfl rfl ?_
    first | refine w_add0 (j := 16) rfl rfl ?_ | refine w_addN (j := 16) rfl rfl ?_ | refine w_add (j := 16) rfl rfl ?_
    refine w_go rfl ?_
    refine w_ir rfl ?_
    rw [if_pos c]
theorem sp_99 {i l e : Nat} (hi : i < 150) (he : e < 150) (hl : 1 ≤ l) (hl4 : l ≤ 40) (r1 : h 59 e = nI i) (r2 : h 61 i = nI l) : px_V 1 99 [.ref 57, .int (nI e)] h (some (.int (nI (if 1 < l then i + 1 else e + 1)))) (ix_up h 61 i (nI (l - 1))) := by
  have l1 : ix_up h 61 i (nI (l - 1)) 61 i = nI (l - 1) := px_up_at
  refine px_M (M := mt_99) (ops := mo_99) tb_99 rfl rfl rfl rfl rfl ?_
  refine w_al (j := 1) rfl rfl rfl ?_
  first | refine w_gr (j := 2) rfl rfl (by first | assumption | rfl) (by first | assumption | rfl) rfl ?_ | refine w_gi (j := 2) rfl rfl (by first | assumption | rfl) (by first | assumption | rfl) rfl rfl ?_
  refine w_il (j := 3) rfl rfl rfl ?_
  refine w_ial (j := 4) rfl rfl (by first | assumption | rfl) rfl (by omega) rfl r1 ?_
  refine w_is (j := 5) rfl rfl rfl ?_
  refine w_il (j := 6) rfl rfl rfl ?_
  refine w_ltM (j := 7) rfl rfl (by omega) ?_
  refine w_il (j := 8) rfl rfl rfl ?_
  refine w_al (j := 9) rfl rfl rfl ?_
  first | refine w_gr (j := 10) rfl rfl (by first | assumption | rfl) (by first | assumption | rfl) rfl ?_ | refine w_gi (j := 10) rfl rfl (by first | assumption | rfl) (by first | assumption | rfl) rfl rfl ?_
  refine w_alen (j := 11) rfl rfl (by first | assumption | rfl) (by decide) ?_
  refine w_ltN (j := 12) rfl rfl (by omega) (by omega) (fun _ => ?_) (fun c => absurd c (fun c => by omega))
  refine w_al (j := 17) rfl rfl rfl ?_
  first | refine w_gr (j := 18) rfl rfl (by first | assumption | rfl) (by first | assumption | rfl) rfl ?_ | refine w_gi (j := 18) rfl rfl (by first | assumption | rfl) (by first | assumption | rfl) rfl rfl ?_
  refine w_il (j := 19) rfl rfl rfl ?_
  refine w_dup2 (j := 20) rfl rfl ?_
  refine w_ial (j := 21) rfl rfl (by first | assumption | rfl) rfl (by omega) rfl r2 ?_
  refine w_ic (n := 1) (j := 22) rfl rfl ?_
  first | refine w_subN (j := 23) rfl rfl (by omega) ?_ | refine w_sub (j := 23) rfl rfl ?_
  refine w_ias (j := 24) rfl rfl (by first | assumption | rfl) rfl (by omega) rfl ?_
  refine w_al (j := 25) rfl rfl rfl ?_
  first | refine w_gr (j := 26) rfl rfl (by first | assumption | rfl) (by first | assumption | rfl) rfl ?_ | refine w_gi (j := 26) rfl rfl (by first | assumption | rfl) (by first | assumption | rfl) rfl rfl ?_
  refine w_il (j := 27) rfl rfl rfl ?_
  refine w_ial (j := 28) rfl rfl (by first | assumption | rfl) rfl (by omega) rfl l1 ?_
  refine w_leM (j := 29) rfl rfl (by omega) (fun c => ?_) (fun c => ?_)
  ·
    refine w_il (j := 34) rfl rfl rfl ?_
    refine w_ic (n := 1) (j := 35) rfl rfl ?_
    first | refine w_add0 (j := 36) rfl rfl ?_ | refine w_addN (j := 36) rfl rfl ?_ | refine w_add (j := 36) rfl rfl ?_
    refine w_ir rfl ?_
    rw [if_neg (by omega)]
  ·
    refine w_il (j := 30) rfl rfl rfl ?_
    refine w_ic (n := 1) (j := 31) rfl rfl ?_
    first | refine w_add0 (j := 32) rfl rfl ?_ | refine w_addN (j := 32) rfl rfl ?_ | refine w_add (j := 32) rfl rfl ?_
    refine w_go rfl ?_
    refine w_ir rfl ?_
    rw [if_pos (by omega)]
-- the rows of work, in the class
def pw_rows (h : ix_H) (ds : List (Nat × Nat × Nat)) : Prop := h 57 4 = nI ds.length ∧ ds.length ≤ 150 ∧ ∀ (k : Nat) (c : Nat × Nat × Nat), ds[k]? = some c → h 58 k = nI c.1 ∧ h 59 k = nI c.2.1 ∧ h 60 k = nI c.2.2
theorem pw_rows.of {h h' : ix_H} {ds : List (Nat × Nat × Nat)} (e0 : h' 57 4 = h 57 4) (e1 : h' 58 = h 58) (e2 : h' 59 = h 59) (e3 : h' 60 = h 60) (x : pw_rows h ds) : pw_rows h' ds := by
  unfold pw_rows at x ⊢
  rw [e0, e1, e2, e3]
  exact x
def pw_em (ds : List (Nat × Nat × Nat)) (a b c : Nat) : List (Nat × Nat × Nat) := if ds.length < 150 then ds ++ [(a, b, c)] else ds
theorem sp_92 {a b c : Nat} {ds : List (Nat × Nat × Nat)} (L : pw_rows h ds) : px_PU 1 92 [.ref 57, .int (nI a), .int (nI b), .int (nI c)] h (fun h1 => px_fr [57, 58, 59, 60] h h1 ∧ (∀ j, j ≠ 4 → h1 57 j = h 57 j) ∧ pw_rows h1 (pw_em ds a b c)) := by
  obtain ⟨l1, l2, l3⟩ := L
  refine px_M (M := mt_92) (ops := mo_92) tb_92 rfl rfl rfl rfl rfl ?_
  refine w_al (j := 1) rfl rfl rfl ?_
  first | refine w_gr (j := 2) rfl rfl (by first | assumption | rfl) (by first | assumption | rfl) rfl ?_ | refine w_gi (j := 2) rfl rfl (by first | assumption | rfl) (by first | assumption | rfl) rfl l1 ?_
  refine w_al (j := 3) rfl rfl rfl ?_
  first | refine w_gr (j := 4) rfl rfl (by first | assumption | rfl) (by first | assumption | rfl) rfl ?_ | refine w_gi (j := 4) rfl rfl (by first | assumption | rfl) (by first | assumption | rfl) rfl rfl ?_
  refine w_alen (j := 5) rfl rfl (by first | assumption | rfl) (by decide) ?_
  refine w_geN (j := 6) rfl rfl (by omega) (by omega) (fun d => ?_) (fun d => ?_)
  ·
    refine w_rt rfl ?_
    refine ⟨_, rfl, px_fr.rf, fun _ _ => rfl, ?_⟩
    unfold pw_em
    rw [if_neg (by omega)]
    exact ⟨l1, l2, l3⟩
  ·
    refine w_al (j := 7) rfl rfl rfl ?_
    first | refine w_gr (j := 8) rfl rfl (by first | assumption | rfl) (by first | assumption | rfl) rfl ?_ | refine w_gi (j := 8) rfl rfl (by first | assumption | rfl) (by first | assumption | rfl) rfl rfl ?_
    refine w_al (j := 9) rfl rfl rfl ?_
    first | refine w_gr (j := 10) rfl rfl (by first | assumption | rfl) (by first | assumption | rfl) rfl ?_ | refine w_gi (j := 10) rfl rfl (by first | assumption | rfl) (by first | assumption | rfl) rfl l1 ?_
    refine w_il (j := 11) rfl rfl rfl ?_
    refine w_ias (j := 12) rfl rfl (by first | assumption | rfl) rfl (by omega) rfl ?_
    have l1' : ix_up h 58 ds.length (nI a) 57 4 = nI ds.length := by rw [px_up_na (by decide)]; exact l1
    refine w_al (j := 13) rfl rfl rfl ?_
    first | refine w_gr (j := 14) rfl rfl (by first | assumption | rfl) (by first | assumption | rfl) rfl ?_ | refine w_gi (j := 14) rfl rfl (by first | assumption | rfl) (by first | assumption | rfl) rfl rfl ?_
    refine w_al (j := 15) rfl rfl rfl ?_
    first | refine w_gr (j := 16) rfl rfl (by first | assumption | rfl) (by first | assumption | rfl) rfl ?_ | refine w_gi (j := 16) rfl rfl (by first | assumption | rfl) (by first | assumption | rfl) rfl l1' ?_
    refine w_il (j := 17) rfl rfl rfl ?_
    refine w_ias (j := 18) rfl rfl (by first | assumption | rfl) rfl (by omega) rfl ?_
    have l1'' : ix_up (ix_up h 58 ds.length (nI a)) 59 ds.length (nI b) 57 4 = nI ds.length := by rw [px_up_na (by decide)]; exact l1'
    refine w_al (j := 19) rfl rfl rfl ?_
    first | refine w_gr (j := 20) rfl rfl (by first | assumption | rfl) (by first | assumption | rfl) rfl ?_ | refine w_gi (j := 20) rfl rfl (by first | assumption | rfl) (by first | assumption | rfl) rfl rfl ?_
    refine w_al (j := 21) rfl rfl rfl ?_
    first | refine w_gr (j := 22) rfl rfl (by first | assumption | rfl) (by first | assumption | rfl) rfl ?_ | refine w_gi (j := 22) rfl rfl (by first | assumption | rfl) (by first | assumption | rfl) rfl l1'' ?_
    refine w_il (j := 23) rfl rfl rfl ?_
    refine w_ias (j := 24) rfl rfl (by first | assumption | rfl) rfl (by omega) rfl ?_
    have l1''' : ix_up (ix_up (ix_up h 58 ds.length (nI a)) 59 ds.length (nI b)) 60 ds.length (nI c) 57 4 = nI ds.length := by rw [px_up_na (by decide)]; exact l1''
    refine w_al (j := 25) rfl rfl rfl ?_
    first | refine w_dupr (j := 26) rfl rfl ?_ | refine w_dupi (j := 26) rfl rfl ?_
    first | refine w_gr (j := 27) rfl rfl (by first | assumption | rfl) (by first | assumption | rfl) rfl ?_ | refine w_gi (j := 27) rfl rfl (by first | assumption | rfl) (by first | assumption | rfl) rfl l1''' ?_
    refine w_ic (n := 1) (j := 28) rfl rfl ?_
    first | refine w_add0 (j := 29) rfl rfl ?_ | refine w_addN (j := 29) rfl rfl ?_ | refine w_add (j := 29) rfl rfl ?_
    refine w_pf (j := 30) rfl rfl (by first | assumption | rfl) (by first | assumption | rfl) rfl ?_
    refine w_rt rfl ?_
    refine ⟨_, rfl, ?_, fun j hj => ?_, ?_⟩
    · repeat first | exact px_fr.rf | refine px_fr.up ?_ (by decide)
    · rw [px_up_nk hj, px_up_na (by decide), px_up_na (by decide), px_up_na (by decide)]
    · unfold pw_em
      rw [if_pos d]
      refine ⟨by rw [px_up_at, List.length_append, List.length_singleton], by rw [List.length_append, List.length_singleton]; omega, fun k x hk => ?_⟩
      have G1 : ix_up (ix_up (ix_up (ix_up h 58 ds.length (nI a)) 59 ds.length (nI b)) 60 ds.length (nI c)) 57 4 (nI (ds.length + 1)) 58 k = ix_up h 58 ds.length (nI a) 58 k := by rw [px_up_na (by decide), px_up_na (by decide), px_up_na (by decide)]
      have G2 : ix_up (ix_up (ix_up (ix_up h 58 ds.length (nI a)) 59 ds.length (nI b)) 60 ds.length (nI c)) 57 4 (nI (ds.length + 1)) 59 k = ix_up (ix_up h 58 ds.length (nI a)) 59 ds.length (nI b) 59 k := by rw [px_up_na (by decide), px_up_na (by decide)]
      have G3 : ix_up (ix_up (ix_up (ix_up h 58 ds.length (nI a)) 59 ds.length (nI b)) 60 ds.length (nI c)) 57 4 (nI (ds.length + 1)) 60 k = ix_up (ix_up (ix_up h 58 ds.length (nI a)) 59 ds.length (nI b)) 60 ds.length (nI c) 60 k := by rw [px_up_na (by decide)]
      rw [G1, G2, G3]
      by_cases e : k < ds.length
      · rw [List.getElem?_append_left e] at hk
        obtain ⟨y1, y2, y3⟩ := l3 k x hk
        exact ⟨by rw [px_up_nk (by omega)]; exact y1, by rw [px_up_nk (by omega), px_up_na (by decide)]; exact y2, by rw [px_up_nk (by omega), px_up_na (by decide), px_up_na (by decide)]; exact y3⟩
      · rw [List.getElem?_append_right (by omega)] at hk
        have : k = ds.length := by
          have := (List.getElem?_eq_some_iff.mp hk).1
          rw [List.length_singleton] at this
          omega
        subst this
        rw [Nat.sub_self] at hk
        cases hk
        exact ⟨px_up_at, px_up_at, px_up_at⟩
end PW
