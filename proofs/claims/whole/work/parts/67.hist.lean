def px_J (f h : ix_H) : Prop := (∀ a, 3000 ≤ a → h a = f a) ∧ ∃ B N T cs L W I t, px_I h B N T cs L W I t
theorem px_land.of {h h' : ix_H} {B N T : Nat} (e : ∀ a, 3 ≤ a → a ≤ 21 → h' a = h a) (e2 : ∀ a, 104 ≤ a → a ≤ 157 → h' a = h a) (a : px_land h B N T) : px_land h' B N T := by
  obtain ⟨a1, a2, a3, a4, a5, a6, a7, a8, a9, a10, a11, a12, a13, a14, a15⟩ := a
  unfold px_land
  rw [e 3 (by decide) (by decide), e2 104 (by decide) (by decide), e 4 (by decide) (by decide), e 5 (by decide) (by decide), e 6 (by decide) (by decide), e 7 (by decide) (by decide)]
  refine ⟨a1, a2, a3, a4, a5, a6, a7, a8, a9, a10, a11, fun b hb => ?_, fun c hc => ?_, fun x y hx hy => ?_, fun h0 x y hx hy => ?_⟩
  · rw [e2 (113 + b) (by omega) (by omega)]; exact a12 b hb
  · rw [e2 (129 + c) (by omega) (by omega)]; exact a13 c hc
  · rw [e (9 + x) (by omega) (by omega), e2 (145 + x) (by omega) (by omega)]; exact a14 x y hx hy
  · rw [e (16 + x) (by omega) (by omega), e2 (152 + x) (by omega) (by omega)]; exact a15 h0 x y hx hy
theorem px_lawr.of {h h' : ix_H} {cs : List (Nat × Nat)} (e : ∀ a, 41 ≤ a → a ≤ 44 → a ≠ 42 → h' a = h a) (e1 : h' 100 20 = h 100 20) (e2 : ∀ a, 159 ≤ a → a ≤ 318 → h' a = h a) (a : px_lawr h cs) : px_lawr h' cs := by
  obtain ⟨a1, a2, a3⟩ := a
  refine ⟨?_, ?_, a3⟩
  · unfold px_lw at a1 ⊢
    rw [e 41 (by decide) (by decide) (by decide), e 43 (by decide) (by decide) (by decide), e 44 (by decide) (by decide) (by decide)]
    exact a1
  · rcases a2 with ⟨l1, l2, l3, l4⟩ | ⟨l1, l2⟩
    · refine Or.inl ⟨by rw [e1]; exact l1, l2, l3, fun q c hq => ?_⟩
      have hkk : q < cs.length := (List.getElem?_eq_some_iff.mp hq).1
      rw [e2 (159 + q) (by omega) (by omega)]
      exact l4 q c hq
    · exact Or.inr ⟨by rw [e1]; exact l1, l2⟩
theorem px_line.of {h h' : ix_H} {L : Nat} (e : ∀ a, 51 ≤ a → a ≤ 53 → h' a = h a) (e1 : h' 100 35 = h 100 35) (e2 : ∀ a, 481 ≤ a → a ≤ 486 → h' a = h a) (a : px_line h L) : px_line h' L := by
  obtain ⟨a1, a2, a3, a4, a5⟩ := a
  unfold px_line
  rw [e 51 (by decide) (by decide), e 52 (by decide) (by decide), e 53 (by decide) (by decide), e1]
  refine ⟨a1, a2, a3, fun q hq => ?_, a5⟩
  rw [e2 (481 + q) (by omega) (by omega)]
  exact a4 q hq
theorem px_nowO {h h' : ix_H} {B Y : Nat} (e : ∀ a, 64 ≤ a → a ≤ 67 → h' a = h a) (e2 : h' 577 = h 577) (a : px_now h 64 577 B Y) : px_now h' 64 577 B Y := by
  unfold px_now at a ⊢
  rw [e 64 (by decide) (by decide), e2, e (64 + 1) (by decide) (by decide), e (64 + 2) (by decide) (by decide), e (64 + 3) (by decide) (by decide)]
  exact a
theorem px_hist.of {h h' : ix_H} {B W I : Nat} (e : ∀ a, 72 ≤ a → a ≤ 75 → h' a = h a) (e1 : h' 100 36 = h 100 36) (e2 : h' 100 37 = h 100 37) (e3 : h' 100 38 = h 100 38) (e4 : ∀ a, 581 ≤ a → a ≤ 600 → h' a = h a) (a : px_hist h B W I) : px_hist h' B W I := by
  obtain ⟨a1, a2, a3, a4, a5, a6, a7, a8, a9⟩ := a
  unfold px_hist
  rw [e 72 (by decide) (by decide), e 73 (by decide) (by decide), e 74 (by decide) (by decide), e 75 (by decide) (by decide), e1, e2, e3]
  refine ⟨a1, a2, a3, a4, a5, a6, a7, fun w hw => ?_, fun i hi => ?_⟩
  · rw [e4 (581 + w) (by omega) (by omega)]; exact a8 w hw
  · rw [e4 (598 + i) (by omega) (by omega)]; exact a9 i hi
theorem px_tape.of {h h' : ix_H} {t : Nat} (e : h' 0 16 = h 0 16) (e1 : h' 1 = h 1) (e2 : h' 101 = h 101) (e3 : h' 100 1 = h 100 1) (a : px_tape h t) : px_tape h' t := by
  unfold px_tape at a ⊢
  rw [e, e1, e2, e3]
  exact a
theorem px_sq_congr {s s' a a' p p' : Nat → Int32} {ft fl yr ft' fl' yr' : Int32} {m m' : Nat → Int32} {B Y : Nat} (h1 : ∀ c, c < 8 → s' c = s c) (h2 : ∀ c, c < 8 → a' c = a c) (h3 : ∀ c, c < 8 → p' c = p c) (h4 : ft' = ft) (h5 : fl' = fl) (h6 : yr' = yr) (h7 : ∀ j, j < 32 → m' j = m j) (q : px_sq s a p ft fl yr m B Y) : px_sq s' a' p' ft' fl' yr' m' B Y := by
  subst h4 h5 h6
  obtain ⟨n1, n2, n3, n4, n5, n6, n7, y, n8, n9, n10⟩ := q
  refine ⟨fun c hc => ?_, fun c hc => ?_, fun c hc => ?_, n4, fun b hb => ?_, ?_, ?_, y, n8, n9, fun c hc => ?_⟩
  · rw [h1 c hc, h7 _ (by omega)]; exact n1 c hc
  · rw [h2 c hc, h7 _ (by omega)]; exact n2 c hc
  · rw [h3 c hc, h7 _ (by omega)]; exact n3 c hc
  · rw [h7 _ (by omega)]; exact n5 b hb
  · rw [h7 _ (by omega)]; exact n6
  · rw [h7 _ (by omega)]; exact n7
  · rw [h2 c hc]; exact n10 c hc
theorem px_cpy_in {h : ix_H} {b sp a dp n j : Nat} (h1 : dp ≤ j) (h2 : j < dp + n) : ix_cpy h b sp a dp n a j = h b (sp + (j - dp)) := by
  unfold ix_cpy
  rw [px_row_eq]
  exact if_pos ⟨h1, h2⟩
theorem px_cpy_out {h : ix_H} {b sp a dp n j : Nat} (h1 : j < dp ∨ dp + n ≤ j) : ix_cpy h b sp a dp n a j = h a j := by
  unfold ix_cpy
  rw [px_row_eq]
  exact if_neg (by omega)
theorem px_cpy_na {h : ix_H} {b sp a dp n q : Nat} (h1 : q ≠ a) : ix_cpy h b sp a dp n q = h q := by
  unfold ix_cpy
  rw [px_row_ne h1]
section HI
variable {h : ix_H} {B N T L W I t : Nat} {cs : List (Nat × Nat)}
def px_stq (h h1 : ix_H) (d o : Nat) : Prop := px_fr [d] h h1 ∧ (∀ c, c < 8 → h1 d (o + c) = h 65 c) ∧ (∀ c, c < 8 → h1 d (o + 8 + c) = h 66 c) ∧ (∀ c, c < 8 → h1 d (o + 16 + c) = h 67 c) ∧ h1 d (o + 24) = h 64 4 ∧ h1 d (o + 25) = h 64 5 ∧ h1 d (o + 26) = h 64 6 ∧ ∀ j, j < o ∨ o + 27 ≤ j → h1 d j = h d j
theorem sp_75 {d l o : Nat} (hd : ix_sh d = (1, l, 0)) (hl : Nat.blt l 2147483648 = true) (ho : o + 27 ≤ l) (h73 : 73 ≤ d) : px_PU 1 75 [.ref 64, .ref d, .int (nI o)] h (fun h1 => px_stq h h1 d o) := by
  have hl2 := Nat.blt_eq.mp hl
  have n1 : (66 : Nat) ≠ d := by omega
  have n2 : (67 : Nat) ≠ d := by omega
  have n3 : (64 : Nat) ≠ d := by omega
  have n4 : (65 : Nat) ≠ d := by omega
  refine px_M (M := mt_75) (ops := mo_75) tb_75 rfl rfl rfl rfl rfl ?_
  refine w_il (j := 1) rfl rfl rfl ?_
  refine w_ltM (j := 2) rfl rfl (by omega) ?_
  refine w_il (j := 3) rfl rfl rfl ?_
  refine w_al (j := 4) rfl rfl rfl ?_
  refine w_alen (j := 5) rfl rfl (by first | assumption | rfl) (by decide) ?_
  refine w_bi (j := 6) (a := nI 27) rfl rfl (by decide) ?_
  refine w_subN (j := 7) rfl rfl (by omega) ?_
  refine w_leN (j := 8) rfl rfl (by omega) (by omega) (fun _ => ?_) (fun c => absurd c (fun c => by omega))
  refine w_al (j := 10) rfl rfl rfl ?_
  first | refine w_gr (j := 11) rfl rfl (by first | assumption | rfl) (by first | assumption | rfl) rfl ?_ | refine w_gi (j := 11) rfl rfl (by first | assumption | rfl) (by first | assumption | rfl) rfl rfl ?_
  refine w_ic (n := 0) (j := 12) rfl rfl ?_
  refine w_al (j := 13) rfl rfl rfl ?_
  refine w_il (j := 14) rfl rfl rfl ?_
  refine w_bi (j := 15) (a := nI 8) rfl rfl (by decide) ?_
  refine w_ac (j := 16) rfl rfl (by first | assumption | rfl) (by first | assumption | rfl) rfl rfl rfl hl rfl (by omega) (by omega) rfl ?_
  refine w_al (j := 17) rfl rfl rfl ?_
  first | refine w_gr (j := 18) rfl rfl (by first | assumption | rfl) (by first | assumption | rfl) rfl ?_ | refine w_gi (j := 18) rfl rfl (by first | assumption | rfl) (by first | assumption | rfl) rfl rfl ?_
  refine w_ic (n := 0) (j := 19) rfl rfl ?_
  refine w_al (j := 20) rfl rfl rfl ?_
  refine w_il (j := 21) rfl rfl rfl ?_
  refine w_bi (j := 22) (a := nI 8) rfl rfl (by decide) ?_
  first | refine w_add0 (j := 23) rfl rfl ?_ | refine w_addN (j := 23) rfl rfl ?_ | refine w_add (j := 23) rfl rfl ?_
  refine w_bi (j := 24) (a := nI 8) rfl rfl (by decide) ?_
  refine w_ac (j := 25) rfl rfl (by first | assumption | rfl) (by first | assumption | rfl) rfl rfl rfl hl rfl (by omega) (by omega) rfl ?_
  refine w_al (j := 26) rfl rfl rfl ?_
  first | refine w_gr (j := 27) rfl rfl (by first | assumption | rfl) (by first | assumption | rfl) rfl ?_ | refine w_gi (j := 27) rfl rfl (by first | assumption | rfl) (by first | assumption | rfl) rfl rfl ?_
  refine w_ic (n := 0) (j := 28) rfl rfl ?_
  refine w_al (j := 29) rfl rfl rfl ?_
  refine w_il (j := 30) rfl rfl rfl ?_
  refine w_bi (j := 31) (a := nI 16) rfl rfl (by decide) ?_
  first | refine w_add0 (j := 32) rfl rfl ?_ | refine w_addN (j := 32) rfl rfl ?_ | refine w_add (j := 32) rfl rfl ?_
  refine w_bi (j := 33) (a := nI 8) rfl rfl (by decide) ?_
  refine w_ac (j := 34) rfl rfl (by first | assumption | rfl) (by first | assumption | rfl) rfl rfl rfl hl rfl (by omega) (by omega) rfl ?_
  refine w_al (j := 35) rfl rfl rfl ?_
  refine w_il (j := 36) rfl rfl rfl ?_
  refine w_bi (j := 37) (a := nI 24) rfl rfl (by decide) ?_
  first | refine w_add0 (j := 38) rfl rfl ?_ | refine w_addN (j := 38) rfl rfl ?_ | refine w_add (j := 38) rfl rfl ?_
  refine w_al (j := 39) rfl rfl rfl ?_
  first | refine w_gr (j := 40) rfl rfl (by first | assumption | rfl) (by first | assumption | rfl) rfl ?_ | refine w_gi (j := 40) rfl rfl (by first | assumption | rfl) (by first | assumption | rfl) rfl rfl ?_
  refine w_ias (j := 41) rfl rfl (by first | assumption | rfl) rfl (by omega) hl ?_
  refine w_al (j := 42) rfl rfl rfl ?_
  refine w_il (j := 43) rfl rfl rfl ?_
  refine w_bi (j := 44) (a := nI 24) rfl rfl (by decide) ?_
  first | refine w_add0 (j := 45) rfl rfl ?_ | refine w_addN (j := 45) rfl rfl ?_ | refine w_add (j := 45) rfl rfl ?_
  refine w_ic (n := 1) (j := 46) rfl rfl ?_
  first | refine w_add0 (j := 47) rfl rfl ?_ | refine w_addN (j := 47) rfl rfl ?_ | refine w_add (j := 47) rfl rfl ?_
  refine w_al (j := 48) rfl rfl rfl ?_
  first | refine w_gr (j := 49) rfl rfl (by first | assumption | rfl) (by first | assumption | rfl) rfl ?_ | refine w_gi (j := 49) rfl rfl (by first | assumption | rfl) (by first | assumption | rfl) rfl rfl ?_
  refine w_ias (j := 50) rfl rfl (by first | assumption | rfl) rfl (by omega) hl ?_
  refine w_al (j := 51) rfl rfl rfl ?_
  refine w_il (j := 52) rfl rfl rfl ?_
  refine w_bi (j := 53) (a := nI 24) rfl rfl (by decide) ?_
  first | refine w_add0 (j := 54) rfl rfl ?_ | refine w_addN (j := 54) rfl rfl ?_ | refine w_add (j := 54) rfl rfl ?_
  refine w_ic (n := 2) (j := 55) rfl rfl ?_
  first | refine w_add0 (j := 56) rfl rfl ?_ | refine w_addN (j := 56) rfl rfl ?_ | refine w_add (j := 56) rfl rfl ?_
  refine w_al (j := 57) rfl rfl rfl ?_
  first | refine w_gr (j := 58) rfl rfl (by first | assumption | rfl) (by first | assumption | rfl) rfl ?_ | refine w_gi (j := 58) rfl rfl (by first | assumption | rfl) (by first | assumption | rfl) rfl rfl ?_
  refine w_ias (j := 59) rfl rfl (by first | assumption | rfl) rfl (by omega) hl ?_
  refine w_rt rfl ?_
  refine ⟨_, rfl, ?_, fun c hc => ?_, fun c hc => ?_, fun c hc => ?_, ?_, ?_, ?_, fun j hj => ?_⟩
  · repeat first | exact px_fr.rf | refine px_fr.up ?_ (by simp) | refine px_fr.row ?_ (by simp)
  · rw [px_up_nk (by omega), px_up_nk (by omega), px_up_nk (by omega), px_cpy_out (by omega), px_cpy_out (by omega), px_cpy_in (by omega) (by omega)]
    congr 1; omega
  · rw [px_up_nk (by omega), px_up_nk (by omega), px_up_nk (by omega), px_cpy_out (by omega), px_cpy_in (by omega) (by omega), px_cpy_na n1]
    congr 1; omega
  · rw [px_up_nk (by omega), px_up_nk (by omega), px_up_nk (by omega), px_cpy_in (by omega) (by omega), px_cpy_na n2, px_cpy_na n2]
    congr 1; omega
  · rw [px_up_nk (by omega), px_up_nk (by omega), px_up_at, px_cpy_na n3, px_cpy_na n3, px_cpy_na n3]
  · rw [px_up_nk (by omega), px_up_at, px_up_na n3, px_cpy_na n3, px_cpy_na n3, px_cpy_na n3]
  · rw [px_up_at, px_up_na n3, px_up_na n3, px_cpy_na n3, px_cpy_na n3, px_cpy_na n3]
  · rw [px_up_nk (by omega), px_up_nk (by omega), px_up_nk (by omega), px_cpy_out (by omega), px_cpy_out (by omega), px_cpy_out (by omega)]
def px_ldq (h h1 : ix_H) (d o : Nat) : Prop := px_fr [64, 65, 66, 67] h h1 ∧ (∀ c, c < 8 → h1 65 c = h d (o + c)) ∧ (∀ c, c < 8 → h1 66 c = h d (o + 8 + c)) ∧ (∀ c, c < 8 → h1 67 c = h d (o + 16 + c)) ∧ h1 64 4 = h d (o + 24) ∧ h1 64 5 = h d (o + 25) ∧ h1 64 6 = h d (o + 26)
theorem sp_76 {d l o : Nat} (hd : ix_sh d = (1, l, 0)) (hl : Nat.blt l 2147483648 = true) (ho : o + 27 ≤ l) (h73 : 73 ≤ d) : px_PU 1 76 [.ref 64, .ref d, .int (nI o)] h (fun h1 => px_ldq h h1 d o) := by
  have hl2 := Nat.blt_eq.mp hl
  have n1 : (d : Nat) ≠ 65 := by omega
  have n2 : (d : Nat) ≠ 66 := by omega
  have n3 : (d : Nat) ≠ 67 := by omega
  have n4 : (d : Nat) ≠ 64 := by omega
  refine px_M (M := mt_76) (ops := mo_76) tb_76 rfl rfl rfl rfl rfl ?_
  refine w_il (j := 1) rfl rfl rfl ?_
  refine w_ltM (j := 2) rfl rfl (by omega) ?_
  refine w_il (j := 3) rfl rfl rfl ?_
  refine w_al (j := 4) rfl rfl rfl ?_
  refine w_alen (j := 5) rfl rfl (by first | assumption | rfl) (by decide) ?_
  refine w_bi (j := 6) (a := nI 27) rfl rfl (by decide) ?_
  refine w_subN (j := 7) rfl rfl (by omega) ?_
  refine w_leN (j := 8) rfl rfl (by omega) (by omega) (fun _ => ?_) (fun c => absurd c (fun c => by omega))
  refine w_al (j := 10) rfl rfl rfl ?_
  refine w_il (j := 11) rfl rfl rfl ?_
  refine w_al (j := 12) rfl rfl rfl ?_
  first | refine w_gr (j := 13) rfl rfl (by first | assumption | rfl) (by first | assumption | rfl) rfl ?_ | refine w_gi (j := 13) rfl rfl (by first | assumption | rfl) (by first | assumption | rfl) rfl rfl ?_
  refine w_ic (n := 0) (j := 14) rfl rfl ?_
  refine w_bi (j := 15) (a := nI 8) rfl rfl (by decide) ?_
  refine w_ac (j := 16) rfl rfl (by first | assumption | rfl) (by first | assumption | rfl) rfl rfl rfl rfl hl (by omega) (by omega) rfl ?_
  refine w_al (j := 17) rfl rfl rfl ?_
  refine w_il (j := 18) rfl rfl rfl ?_
  refine w_bi (j := 19) (a := nI 8) rfl rfl (by decide) ?_
  first | refine w_add0 (j := 20) rfl rfl ?_ | refine w_addN (j := 20) rfl rfl ?_ | refine w_add (j := 20) rfl rfl ?_
  refine w_al (j := 21) rfl rfl rfl ?_
  first | refine w_gr (j := 22) rfl rfl (by first | assumption | rfl) (by first | assumption | rfl) rfl ?_ | refine w_gi (j := 22) rfl rfl (by first | assumption | rfl) (by first | assumption | rfl) rfl rfl ?_
  refine w_ic (n := 0) (j := 23) rfl rfl ?_
  refine w_bi (j := 24) (a := nI 8) rfl rfl (by decide) ?_
  refine w_ac (j := 25) rfl rfl (by first | assumption | rfl) (by first | assumption | rfl) rfl rfl rfl rfl hl (by omega) (by omega) rfl ?_
  refine w_al (j := 26) rfl rfl rfl ?_
  refine w_il (j := 27) rfl rfl rfl ?_
  refine w_bi (j := 28) (a := nI 16) rfl rfl (by decide) ?_
  first | refine w_add0 (j := 29) rfl rfl ?_ | refine w_addN (j := 29) rfl rfl ?_ | refine w_add (j := 29) rfl rfl ?_
  refine w_al (j := 30) rfl rfl rfl ?_
  first | refine w_gr (j := 31) rfl rfl (by first | assumption | rfl) (by first | assumption | rfl) rfl ?_ | refine w_gi (j := 31) rfl rfl (by first | assumption | rfl) (by first | assumption | rfl) rfl rfl ?_
  refine w_ic (n := 0) (j := 32) rfl rfl ?_
  refine w_bi (j := 33) (a := nI 8) rfl rfl (by decide) ?_
  refine w_ac (j := 34) rfl rfl (by first | assumption | rfl) (by first | assumption | rfl) rfl rfl rfl rfl hl (by omega) (by omega) rfl ?_
  refine w_al (j := 35) rfl rfl rfl ?_
  refine w_al (j := 36) rfl rfl rfl ?_
  refine w_il (j := 37) rfl rfl rfl ?_
  refine w_bi (j := 38) (a := nI 24) rfl rfl (by decide) ?_
  first | refine w_add0 (j := 39) rfl rfl ?_ | refine w_addN (j := 39) rfl rfl ?_ | refine w_add (j := 39) rfl rfl ?_
  refine w_ial (j := 40) rfl rfl (by first | assumption | rfl) rfl (by omega) hl rfl ?_
  refine w_pf (j := 41) rfl rfl (by first | assumption | rfl) (by first | assumption | rfl) rfl ?_
  refine w_al (j := 42) rfl rfl rfl ?_
  refine w_al (j := 43) rfl rfl rfl ?_
  refine w_il (j := 44) rfl rfl rfl ?_
  refine w_bi (j := 45) (a := nI 24) rfl rfl (by decide) ?_
  first | refine w_add0 (j := 46) rfl rfl ?_ | refine w_addN (j := 46) rfl rfl ?_ | refine w_add (j := 46) rfl rfl ?_
  refine w_ic (n := 1) (j := 47) rfl rfl ?_
  first | refine w_add0 (j := 48) rfl rfl ?_ | refine w_addN (j := 48) rfl rfl ?_ | refine w_add (j := 48) rfl rfl ?_
  refine w_ial (j := 49) rfl rfl (by first | assumption | rfl) rfl (by omega) hl rfl ?_
  refine w_pf (j := 50) rfl rfl (by first | assumption | rfl) (by first | assumption | rfl) rfl ?_
  refine w_al (j := 51) rfl rfl rfl ?_
  refine w_al (j := 52) rfl rfl rfl ?_
  refine w_il (j := 53) rfl rfl rfl ?_
  refine w_bi (j := 54) (a := nI 24) rfl rfl (by decide) ?_
  first | refine w_add0 (j := 55) rfl rfl ?_ | refine w_addN (j := 55) rfl rfl ?_ | refine w_add (j := 55) rfl rfl ?_
  refine w_ic (n := 2) (j := 56) rfl rfl ?_
  first | refine w_add0 (j := 57) rfl rfl ?_ | refine w_addN (j := 57) rfl rfl ?_ | refine w_add (j := 57) rfl rfl ?_
  refine w_ial (j := 58) rfl rfl (by first | assumption | rfl) rfl (by omega) hl rfl ?_
  refine w_pf (j := 59) rfl rfl (by first | assumption | rfl) (by first | assumption | rfl) rfl ?_
  refine w_rt rfl ?_
  refine ⟨_, rfl, ?_, fun c hc => ?_, fun c hc => ?_, fun c hc => ?_, ?_, ?_, ?_⟩
  · repeat first | exact px_fr.rf | refine px_fr.up ?_ (by simp) | refine px_fr.row ?_ (by simp)
  · rw [px_up_na (by decide), px_up_na (by decide), px_up_na (by decide), px_cpy_na (by decide), px_cpy_na (by decide), px_cpy_in (by omega) (by omega)]
    congr 1
  · rw [px_up_na (by decide), px_up_na (by decide), px_up_na (by decide), px_cpy_na (by decide), px_cpy_in (by omega) (by omega), px_cpy_na n1]
    congr 1
  · rw [px_up_na (by decide), px_up_na (by decide), px_up_na (by decide), px_cpy_in (by omega) (by omega), px_cpy_na n2, px_cpy_na n1]
    congr 1
  · rw [px_up_nk (by decide), px_up_nk (by decide), px_up_at, px_cpy_na n3, px_cpy_na n2, px_cpy_na n1]
  · rw [px_up_nk (by decide), px_up_at, px_up_na n4, px_cpy_na n3, px_cpy_na n2, px_cpy_na n1]
  · rw [px_up_at, px_up_na n4, px_up_na n4, px_cpy_na n3, px_cpy_na n2, px_cpy_na n1]
theorem px_savL {h1 h2 : ix_H} {d o : Nat} {m : Nat → Int32} (q : px_ldq h h1 d o) (s : px_sav (h d) o m B) (e : ∀ a, 64 ≤ a → a ≤ 67 → h2 a = h1 a) (em : ∀ j, j < 32 → h2 577 j = m j) : px_now h2 64 577 B 300 := by
  obtain ⟨f, q1, q2, q3, q4, q5, q6⟩ := q
  unfold px_now
  rw [e 64 (by decide) (by decide), e (64 + 1) (by decide) (by decide), e (64 + 2) (by decide) (by decide), e (64 + 3) (by decide) (by decide)]
  exact px_sq_congr q1 q2 q3 q4 q5 q6 em s
-- undo
theorem P_undo {f : ix_H} (hJ : px_J f h) : px_PI 6 112 [.ref 0] h (fun v h1 => px_PI 6 208 [.ref 100] h1 (fun w h2 => v = w ∧ h2 100 0 = nI 0 ∧ px_J f h2)) := by
  obtain ⟨hf, B, N, T, cs, L, W, I, t, hI⟩ := hJ
  have hI' := hI
  obtain ⟨ld, lw, ln, nw, hi, tp, ct, fp⟩ := hI
  obtain ⟨i1, i2, i3, i4, i5, i6, i7, i8, i9⟩ := hi
  have s72 : ix_sh 72 = (5, 3, 0) := by decide
  by_cases hW : W = 0
  · subst hW
    have c16 : px_V 3 16 [.ref 72, .ref 64] h (some (.int (px_b false))) h := by
      refine px_M (M := mt_16) (ops := mo_16) tb_16 rfl rfl rfl rfl rfl ?_
      refine w_al (j := 1) rfl rfl rfl ?_
      first | refine w_gr (j := 2) rfl rfl (by first | assumption | rfl) (by first | assumption | rfl) rfl ?_ | refine w_gi (j := 2) rfl rfl (by first | assumption | rfl) (by first | assumption | rfl) rfl i2 ?_
      refine w_gtM (j := 3) rfl rfl (by omega) (fun c => absurd c (fun c => by omega)) (fun _ => ?_)
      refine w_ic (n := 0) (j := 4) rfl rfl ?_
      refine w_irB rfl (by first | exact Or.inl rfl | exact Or.inr rfl | exact px_b01 _) ?_
      rfl
    refine px_M (M := mt_112) (ops := mo_112) tb_112 rfl rfl rfl rfl rfl ?_
    refine w_al (j := 1) rfl rfl rfl ?_
    first | refine w_gr (j := 2) rfl rfl (by first | assumption | rfl) (by first | assumption | rfl) rfl ?_ | refine w_gi (j := 2) rfl rfl (by first | assumption | rfl) (by first | assumption | rfl) rfl rfl ?_
    refine w_al (j := 3) rfl rfl rfl ?_
    first | refine w_gr (j := 4) rfl rfl (by first | assumption | rfl) (by first | assumption | rfl) rfl ?_ | refine w_gi (j := 4) rfl rfl (by first | assumption | rfl) (by first | assumption | rfl) rfl rfl ?_
    refine w_cvI (j := 5) rfl rfl rfl rfl (by first | assumption | rfl) rfl rfl (c16) rfl ?_
    refine w_eqB (j := 6) rfl rfl (fun _ => ?_) (fun c => absurd c (by simp))
    refine w_im (j := 11) rfl rfl ?_
    refine w_ir rfl ?_
    refine ⟨_, _, rfl, ?_⟩
    have hI := hI'
    refine px_M (M := mt_208) (ops := mo_208) tb_208 rfl rfl rfl rfl rfl ?_
    refine w_al (j := 1) rfl rfl rfl ?_
    refine w_ic (n := 0) (j := 2) rfl rfl ?_
    refine w_pf (j := 3) rfl rfl (by first | assumption | rfl) (by first | assumption | rfl) rfl ?_
    obtain ⟨I1, k1, t0⟩ := px_thr (v := nI 0) hI
    generalize ix_up h 100 0 (nI 0) = h1 at I1 k1 t0 ⊢
    have i3' : h1 100 36 = nI 0 := (k1.2 36 (by decide)).trans i3
    refine w_al (j := 4) rfl rfl rfl ?_
    first | refine w_gr (j := 5) rfl rfl (by first | assumption | rfl) (by first | assumption | rfl) rfl ?_ | refine w_gi (j := 5) rfl rfl (by first | assumption | rfl) (by first | assumption | rfl) rfl i3' ?_
    refine w_neM (j := 6) rfl rfl (by omega) (fun c => absurd c (fun c => by omega)) (fun _ => ?_)
    refine w_im (j := 7) rfl rfl ?_
    refine w_ir rfl ?_
    exact ⟨_, _, rfl, rfl, t0, fun a ha => (k1.1 a (pf_pers_i (by omega))).trans (hf a ha), _, _, _, _, _, _, _, _, I1⟩
  · obtain ⟨w, rfl⟩ : ∃ w, W = w + 1 := ⟨W - 1, by omega⟩
    have c16 : px_PI 3 16 [.ref 72, .ref 64] h (fun v h1 => v = px_b true ∧ px_fr [64, 65, 66, 67, 72] h h1 ∧ h1 72 = upd (upd (h 72) 3 (nI w)) 5 (nI 0) ∧ ∀ h2, (∀ a, 64 ≤ a → a ≤ 67 → h2 a = h1 a) → (∀ j, j < 32 → h2 577 j = h (581 + w) j) → px_now h2 64 577 B 300) := by
      refine px_M (M := mt_16) (ops := mo_16) tb_16 rfl rfl rfl rfl rfl ?_
      refine w_al (j := 1) rfl rfl rfl ?_
      first | refine w_gr (j := 2) rfl rfl (by first | assumption | rfl) (by first | assumption | rfl) rfl ?_ | refine w_gi (j := 2) rfl rfl (by first | assumption | rfl) (by first | assumption | rfl) rfl i2 ?_
      refine w_gtM (j := 3) rfl rfl (by omega) (fun _ => ?_) (fun c => absurd c (fun c => by omega))
      refine w_al (j := 6) rfl rfl rfl ?_
      first | refine w_dupr (j := 7) rfl rfl ?_ | refine w_dupi (j := 7) rfl rfl ?_
      first | refine w_gr (j := 8) rfl rfl (by first | assumption | rfl) (by first | assumption | rfl) rfl ?_ | refine w_gi (j := 8) rfl rfl (by first | assumption | rfl) (by first | assumption | rfl) rfl i2 ?_
      refine w_ic (n := 1) (j := 9) rfl rfl ?_
      first | refine w_subN (j := 10) rfl rfl (by omega) ?_ | refine w_sub (j := 10) rfl rfl ?_
      refine w_pf (j := 11) rfl rfl (by first | assumption | rfl) (by first | assumption | rfl) rfl ?_
      refine w_al (j := 12) rfl rfl rfl ?_
      refine w_ic (n := 0) (j := 13) rfl rfl ?_
      refine w_pf (j := 14) rfl rfl (by first | assumption | rfl) (by first | assumption | rfl) rfl ?_
      refine w_al (j := 15) rfl rfl rfl ?_
      refine w_al (j := 16) rfl rfl rfl ?_
      first | refine w_gr (j := 17) rfl rfl (by first | assumption | rfl) (by first | assumption | rfl) rfl ?_ | refine w_gi (j := 17) rfl rfl (by first | assumption | rfl) (by first | assumption | rfl) rfl rfl ?_
      refine w_al (j := 18) rfl rfl rfl ?_
      refine w_gi (j := 19) (w := nI w) rfl rfl rfl rfl rfl ?_ ?_
      · rw [px_up_nk (by decide), px_up_at, Nat.add_sub_cancel]
      refine w_bi (j := 20) (a := nI 27) rfl rfl (by decide) ?_
      first | refine w_mulN (j := 21) rfl rfl ?_ | refine w_mul (j := 21) rfl rfl ?_
      rw [Nat.mul_comm w 27]
      refine w_cvPU (j := 22) rfl rfl rfl rfl (by first | assumption | rfl) rfl rfl (sp_76 (l := 432) (o := 27 * w) (by decide) rfl (by omega) (by decide)) rfl ?_
      rintro h3 q3
      refine w_ic (n := 1) (j := 23) rfl rfl ?_
      refine w_irB rfl (by first | exact Or.inl rfl | exact Or.inr rfl | exact px_b01 _) ?_
      refine ⟨_, _, rfl, rfl, ?_, ?_, fun h2 e2 em => ?_⟩
      · refine px_fr.tr ?_ (q3.1.sub (by decide))
        repeat first | exact px_fr.rf | refine px_fr.up ?_ (by decide)
      · rw [q3.1 72 (by decide), ix_up_eq, ix_up_eq, Nat.add_sub_cancel]
      · refine px_savL (d := 73) (o := 27 * w) q3 ?_ e2 em
        rw [ix_up_ne (by decide), ix_up_ne (by decide)]
        exact i8 w (by omega)
    refine px_M (M := mt_112) (ops := mo_112) tb_112 rfl rfl rfl rfl rfl ?_
    refine w_al (j := 1) rfl rfl rfl ?_
    first | refine w_gr (j := 2) rfl rfl (by first | assumption | rfl) (by first | assumption | rfl) rfl ?_ | refine w_gi (j := 2) rfl rfl (by first | assumption | rfl) (by first | assumption | rfl) rfl rfl ?_
    refine w_al (j := 3) rfl rfl rfl ?_
    first | refine w_gr (j := 4) rfl rfl (by first | assumption | rfl) (by first | assumption | rfl) rfl ?_ | refine w_gi (j := 4) rfl rfl (by first | assumption | rfl) (by first | assumption | rfl) rfl rfl ?_
    refine w_cvPI (j := 5) rfl rfl rfl rfl (by first | assumption | rfl) rfl rfl (c16) rfl ?_
    rintro v1 h1 ⟨e1, f1, e72, nx⟩
    subst e1
    refine w_eqB (j := 6) rfl rfl (fun c => absurd c (by simp)) (fun _ => ?_)
    have e723 : h1 72 3 = nI w := by rw [e72]; rfl
    refine w_al (j := 7) rfl rfl rfl ?_
    first | refine w_gr (j := 8) rfl rfl (by first | assumption | rfl) (by first | assumption | rfl) rfl ?_ | refine w_gi (j := 8) rfl rfl (by first | assumption | rfl) (by first | assumption | rfl) rfl rfl ?_
    first | refine w_gr (j := 9) rfl rfl (by first | assumption | rfl) (by first | assumption | rfl) rfl ?_ | refine w_gi (j := 9) rfl rfl (by first | assumption | rfl) (by first | assumption | rfl) rfl e723 ?_
    refine w_go rfl ?_
    refine w_ir rfl ?_
    refine ⟨_, _, rfl, ?_⟩
    have g36 : h1 100 36 = nI (w + 1) := by rw [f1 100 (by decide)]; exact i3
    have s581 := sh_581 w (by omega)
    have r1 : ∀ a, a ≠ 100 → ix_up h1 100 0 (nI 0) a = h1 a := fun a ha => ix_up_ne ha
    refine px_M (M := mt_208) (ops := mo_208) tb_208 rfl rfl rfl rfl rfl ?_
    refine w_al (j := 1) rfl rfl rfl ?_
    refine w_ic (n := 0) (j := 2) rfl rfl ?_
    refine w_pf (j := 3) rfl rfl (by first | assumption | rfl) (by first | assumption | rfl) rfl ?_
    have z36 : ix_up h1 100 0 (nI 0) 100 36 = nI (w + 1) := by rw [px_up_nk (by decide)]; exact g36
    refine w_al (j := 4) rfl rfl rfl ?_
    first | refine w_gr (j := 5) rfl rfl (by first | assumption | rfl) (by first | assumption | rfl) rfl ?_ | refine w_gi (j := 5) rfl rfl (by first | assumption | rfl) (by first | assumption | rfl) rfl z36 ?_
    refine w_neM (j := 6) rfl rfl (by omega) (fun _ => ?_) (fun c => absurd c (fun c => by omega))
    refine w_al (j := 9) rfl rfl rfl ?_
    first | refine w_dupr (j := 10) rfl rfl ?_ | refine w_dupi (j := 10) rfl rfl ?_
    first | refine w_gr (j := 11) rfl rfl (by first | assumption | rfl) (by first | assumption | rfl) rfl ?_ | refine w_gi (j := 11) rfl rfl (by first | assumption | rfl) (by first | assumption | rfl) rfl z36 ?_
    refine w_ic (n := 1) (j := 12) rfl rfl ?_
    first | refine w_subN (j := 13) rfl rfl (by omega) ?_ | refine w_sub (j := 13) rfl rfl ?_
    refine w_pf (j := 14) rfl rfl (by first | assumption | rfl) (by first | assumption | rfl) rfl ?_
    rw [Nat.add_sub_cancel]
    generalize hh : ix_up (ix_up h1 100 0 (nI 0)) 100 36 (nI w) = h2
    have e2 : ∀ a, a ≠ 100 → h2 a = h1 a := fun a ha => by rw [← hh, ix_up_ne ha, ix_up_ne ha]
    have e36 : h2 100 36 = nI w := by rw [← hh, px_up_at]
    have e0 : h2 100 0 = nI 0 := by rw [← hh, px_up_nk (by decide), px_up_at]
    have ej : ∀ j, j ≠ 0 → j ≠ 36 → h2 100 j = h 100 j := fun j j0 j1 => by rw [← hh, px_up_nk j1, px_up_nk j0, f1 100 (by decide)]
    refine w_al (j := 15) rfl rfl rfl ?_
    first | refine w_gr (j := 16) rfl rfl (by first | assumption | rfl) (by first | assumption | rfl) rfl ?_ | refine w_gi (j := 16) rfl rfl (by first | assumption | rfl) (by first | assumption | rfl) rfl rfl ?_
    refine w_al (j := 17) rfl rfl rfl ?_
    first | refine w_gr (j := 18) rfl rfl (by first | assumption | rfl) (by first | assumption | rfl) rfl ?_ | refine w_gi (j := 18) rfl rfl (by first | assumption | rfl) (by first | assumption | rfl) rfl e36 ?_
    refine w_aal (j := 19) rfl rfl (by first | assumption | rfl) rfl (by omega) rfl ?_
    refine w_al (j := 20) rfl rfl rfl ?_
    first | refine w_gr (j := 21) rfl rfl (by first | assumption | rfl) (by first | assumption | rfl) rfl ?_ | refine w_gi (j := 21) rfl rfl (by first | assumption | rfl) (by first | assumption | rfl) rfl rfl ?_
    refine w_csPU (j := 22) rfl rfl rfl rfl rfl (sp_179 (a := 581 + w) (b := 577) s581 (by decide) (by omega)) rfl ?_
    rintro h3 ⟨f3, q3⟩
    have g100 := f3 100 (by decide)
    refine w_al (j := 23) rfl rfl rfl ?_
    refine w_ic (n := 0) (j := 24) rfl rfl ?_
    refine w_pf (j := 25) rfl rfl rfl rfl rfl ?_
    have e363 : ix_up h3 100 37 (nI 0) 100 36 = nI w := by rw [px_up_nk (by decide), g100]; exact e36
    refine w_al (j := 26) rfl rfl rfl ?_
    first | refine w_gr (j := 27) rfl rfl (by first | assumption | rfl) (by first | assumption | rfl) rfl ?_ | refine w_gi (j := 27) rfl rfl (by first | assumption | rfl) (by first | assumption | rfl) rfl e363 ?_
    refine w_ir rfl ?_
    have R : ∀ a, a ≠ 100 → a ≠ 577 → a ∉ [64, 65, 66, 67, 72] → ix_up h3 100 37 (nI 0) a = h a := fun a a1 a2 a3 => by rw [ix_up_ne a1, f3 a (by simpa using a2), e2 a a1, f1 a a3]
    have R100 : ∀ j, j ≠ 0 → j ≠ 36 → j ≠ 37 → ix_up h3 100 37 (nI 0) 100 j = h 100 j := fun j j0 j1 j2 => by rw [px_up_nk j2, g100, ej j j0 j1]
    refine ⟨_, _, rfl, rfl, by rw [px_up_nk (by decide), g100]; exact e0, fun a ha => (R a (by omega) (by omega) (by simp; omega)).trans (hf a ha), B, N, T, cs, L, w, I, t, ?_, ?_, ?_, ?_, ?_, ?_, ?_, ?_⟩
    · exact ld.of (fun a h1 h2 => R a (by omega) (by omega) (by simp; omega)) (fun a h1 h2 => R a (by omega) (by omega) (by simp; omega))
    · exact lw.of (fun a h1 h2 h3 => R a (by omega) (by omega) (by simp; omega)) (R100 _ (by decide) (by decide) (by decide)) (fun a h1 h2 => R a (by omega) (by omega) (by simp; omega))
    · exact ln.of (fun a h1 h2 => R a (by omega) (by omega) (by simp; omega)) (R100 _ (by decide) (by decide) (by decide)) (fun a h1 h2 => R a (by omega) (by omega) (by simp; omega))
    · refine nx _ (fun a h1 h2 => ?_) (fun j hj => ?_)
      · rw [ix_up_ne (by omega), f3 a (by simp; omega), e2 a (by omega)]
      · rw [px_up_na (by decide), q3 j hj, e2 _ (by omega), f1 _ (by simp; omega)]
    · have z72 : ix_up h3 100 37 (nI 0) 72 = upd (upd (h 72) 3 (nI w)) 5 (nI 0) := by rw [ix_up_ne (by decide), f3 72 (by decide), e2 72 (by decide), e72]
      unfold px_hist
      rw [z72, R 73 (by decide) (by decide) (by decide), R 74 (by decide) (by decide) (by decide), R 75 (by decide) (by decide) (by decide), R100 38 (by decide) (by decide) (by decide), px_up_at, e363]
      refine ⟨by omega, rfl, rfl, i4, i5, i6, rfl, fun w' hw' => ?_, fun i hi => ?_⟩
      · rw [R (581 + w') (by omega) (by omega) (by simp; omega)]; exact i8 w' (by omega)
      · rw [R (598 + i) (by omega) (by omega) (by simp; omega)]; exact i9 i hi
    · exact tp.of (by rw [R 0 (by decide) (by decide) (by decide)]) (R 1 (by decide) (by decide) (by decide)) (R 101 (by decide) (by decide) (by decide)) (R100 _ (by decide) (by decide) (by decide))
    · rw [R 0 (by decide) (by decide) (by decide), R 102 (by decide) (by decide) (by decide)]; exact ct
    · rw [R 0 (by decide) (by decide) (by decide), R100 3 (by decide) (by decide) (by decide)]; exact fp
end HI
