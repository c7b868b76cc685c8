def pf_pers (a : Nat) : Bool := decide (a = 0 ∨ a = 1 ∨ (3 ≤ a ∧ a ≤ 21) ∨ a = 41 ∨ a = 43 ∨ a = 44 ∨ (51 ≤ a ∧ a ≤ 53) ∨ (64 ≤ a ∧ a ≤ 67) ∨ (72 ≤ a ∧ a ≤ 75) ∨ a = 101 ∨ a = 102 ∨ a = 104 ∨ (113 ≤ a ∧ a ≤ 118) ∨ (129 ≤ a ∧ a ≤ 136) ∨ (145 ≤ a ∧ a ≤ 150) ∨ (152 ≤ a ∧ a ≤ 157) ∨ (159 ≤ a ∧ a ≤ 318) ∨ (481 ≤ a ∧ a ≤ 486) ∨ a = 577 ∨ (581 ≤ a ∧ a ≤ 600) ∨ 3000 ≤ a)
def pf_pf (j : Nat) : Bool := decide (j = 1 ∨ j = 3 ∨ j = 20 ∨ j = 35 ∨ j = 36 ∨ j = 37 ∨ j = 38)
theorem pf_pers_i {a : Nat} (h : a = 0 ∨ a = 1 ∨ (3 ≤ a ∧ a ≤ 21) ∨ a = 41 ∨ a = 43 ∨ a = 44 ∨ (51 ≤ a ∧ a ≤ 53) ∨ (64 ≤ a ∧ a ≤ 67) ∨ (72 ≤ a ∧ a ≤ 75) ∨ a = 101 ∨ a = 102 ∨ a = 104 ∨ (113 ≤ a ∧ a ≤ 118) ∨ (129 ≤ a ∧ a ≤ 136) ∨ (145 ≤ a ∧ a ≤ 150) ∨ (152 ≤ a ∧ a ≤ 157) ∨ (159 ≤ a ∧ a ≤ 318) ∨ (481 ≤ a ∧ a ≤ 486) ∨ a = 577 ∨ (581 ≤ a ∧ a ≤ 600) ∨ 3000 ≤ a) : pf_pers a = true := decide_eq_true h
def px_kp (h h' : ix_H) : Prop := (∀ a, pf_pers a = true → h' a = h a) ∧ ∀ j, pf_pf j = true → h' 100 j = h 100 j
theorem px_kp.rf {h : ix_H} : px_kp h h := ⟨fun _ _ => rfl, fun _ _ => rfl⟩
theorem px_kp.tr {h h1 h2 : ix_H} (a : px_kp h h1) (b : px_kp h1 h2) : px_kp h h2 := ⟨fun q hq => (b.1 q hq).trans (a.1 q hq), fun j hj => (b.2 j hj).trans (a.2 j hj)⟩
theorem px_kp.of {S : List Nat} {h h' : ix_H} (f : px_fr S h h') (hS : ∀ a ∈ S, pf_pers a = false ∧ a ≠ 100) : px_kp h h' := by
  refine ⟨fun a ha => f a (fun q => ?_), fun j _ => ?_⟩
  · rw [(hS a q).1] at ha; cases ha
  · rw [f 100 (fun q => (hS 100 q).2 rfl)]
theorem px_kp.up {h h1 : ix_H} (k : px_kp h h1) {a i : Nat} {v : Int32} (ha : pf_pers a = false) (h1' : a = 100 → pf_pf i = false) : px_kp h (ix_up h1 a i v) := by
  refine k.tr ⟨fun q hq => ix_up_ne (fun e => ?_), fun j hj => ?_⟩
  · subst e; rw [ha] at hq; cases hq
  · by_cases h2 : a = 100
    · subst h2
      refine px_up_nk (fun e => ?_)
      subst e
      rw [h1' rfl] at hj; cases hj
    · exact px_up_na (fun e => h2 e.symm)
theorem px_kp.fr {S : List Nat} {h h1 h2 : ix_H} (k : px_kp h h1) (f : px_fr S h1 h2) (hS : ∀ a ∈ S, pf_pers a = false ∧ a ≠ 100) : px_kp h h2 := k.tr (px_kp.of f hS)
-- the two sides' relation
def px_land (h : ix_H) (B N T : Nat) : Prop := h 3 6 = nI B ∧ h 104 0 = nI B ∧ B ≤ 6 ∧ h 3 7 = nI N ∧ h 104 1 = nI N ∧ N ≤ 8 ∧ h 3 8 = nI T ∧ h 104 2 = nI T ∧ 1 ≤ T ∧ T ≤ 40 ∧ h 3 9 = h 104 3 ∧
  (∀ b, b < B → h 4 b = h (113 + b) 0 ∧ h 5 b = h (113 + b) 1 ∧ ∃ q, 1 ≤ q ∧ q ≤ 4 ∧ h 5 b = nI q) ∧
  (∀ c, c < N → h 6 c = h (129 + c) 0 ∧ (∃ q, q ≤ 60 ∧ h 6 c = nI q) ∧ h 7 c = h (129 + c) 1 ∧ ∃ q, 1 ≤ q ∧ q ≤ 99 ∧ h 7 c = nI q) ∧
  (∀ a b, a < 6 → b < 6 → h (9 + a) b = h (145 + a) b ∧ ∃ q, q ≤ 40 ∧ h (9 + a) b = nI q) ∧
  (0 < B → ∀ a b, a < 6 → b < 6 → (a ≠ b ∧ h (16 + a) b = -1 ∧ h (152 + a) b = nI 100000) ∨ ∃ q, q ≤ 2560 ∧ h (16 + a) b = nI q ∧ h (152 + a) b = nI q ∧ (q = 0 ↔ a = b))
def px_lawr (h : ix_H) (cs : List (Nat × Nat)) : Prop := px_lw h cs ∧ px_mw h cs ∧ pf_wf cs 0 1
def px_line (h : ix_H) (L : Nat) : Prop := L ≤ 6 ∧ h 51 2 = nI L ∧ h 100 35 = nI L ∧ (∀ k, k < L → h 52 k = h (481 + k) 0 ∧ h 53 k = h (481 + k) 1 ∧ (∃ q, q ≤ 40 ∧ h 52 k = nI q) ∧ ∃ q, q ≤ 99 ∧ h 53 k = nI q) ∧ ∀ i j, i < j → j < L → h 52 i ≠ h 52 j
def px_sq (s a p : Nat → Int32) (ft fl yr : Int32) (m : Nat → Int32) (B Y : Nat) : Prop := (∀ c, c < 8 → s c = m (8 + c) ∧ ∃ q, q ≤ 99 ∧ s c = nI q) ∧ (∀ c, c < 8 → a c = m (16 + c)) ∧ (∀ c, c < 8 → p c = m c ∧ (p c = -2 ∨ p c = -1 ∨ ∃ b, b < B ∧ p c = nI b)) ∧ (∃ q, q < 64 ∧ ft = nI q) ∧ (∀ b, b < 6 → pf_bt ft b = m (24 + b)) ∧ fl = m 30 ∧ yr = m 31 ∧ ∃ y, y ≤ Y ∧ yr = nI y ∧ ∀ c, c < 8 → ∃ q, q ≤ y ∧ a c = nI q
def px_now (h : ix_H) (x r B Y : Nat) : Prop := px_sq (h (x + 1)) (h (x + 2)) (h (x + 3)) (h x 4) (h x 5) (h x 6) (h r) B Y
def px_sav (f : Nat → Int32) (o : Nat) (m : Nat → Int32) (B : Nat) : Prop := px_sq (pf_sh f o) (pf_sh f (o + 8)) (pf_sh f (o + 16)) (f (o + 24)) (f (o + 25)) (f (o + 26)) m B 300
def px_hist (h : ix_H) (B W I : Nat) : Prop := W ≤ 16 ∧ h 72 3 = nI W ∧ h 100 36 = nI W ∧ I ≤ 3 ∧ h 72 4 = nI I ∧ h 100 38 = nI I ∧ h 72 5 = h 100 37 ∧ (∀ w, w < W → px_sav (h 73) (27 * w) (h (581 + w)) B) ∧
  ∀ i, i < I → px_sav (h 74) (459 * i) (pf_sh (h (598 + i)) 1) B ∧ ∃ V, V ≤ 16 ∧ h 75 i = nI V ∧ h (598 + i) 0 = nI V ∧ ∀ w, w < V → px_sav (h 74) (459 * i + 27 + 27 * w) (pf_sh (h (598 + i)) (33 + 32 * w)) B
def pf_sb (q : Nat) : Int32 := (nI q).toInt8.toInt32
def px_tape (h : ix_H) (t : Nat) : Prop := t ≤ 600 ∧ h 0 16 = nI t ∧ h 100 1 = nI t ∧ ∀ i, i < t → ∃ q, q < 256 ∧ h 101 i = nI q ∧ h 1 i = pf_sb q
def px_I (h : ix_H) (B N T : Nat) (cs : List (Nat × Nat)) (L W I t : Nat) : Prop := px_land h B N T ∧ px_lawr h cs ∧ px_line h L ∧ px_now h 64 577 B 300 ∧ px_hist h B W I ∧ px_tape h t ∧ (h 0 18 = h 102 0 ∧ h 0 19 = h 102 1) ∧ h 0 17 = h 100 3
theorem px_land.kp {h h' : ix_H} {B N T : Nat} (k : px_kp h h') (a : px_land h B N T) : px_land h' B N T := by
  obtain ⟨a1, a2, a3, a4, a5, a6, a7, a8, a9, a10, a11, a12, a13, a14, a15⟩ := a
  have k3 := k.1 3 (by decide)
  have k104 := k.1 104 (by decide)
  unfold px_land
  rw [k3, k104, k.1 4 (by decide), k.1 5 (by decide), k.1 6 (by decide), k.1 7 (by decide)]
  refine ⟨a1, a2, a3, a4, a5, a6, a7, a8, a9, a10, a11, fun b hb => ?_, fun c hc => ?_, fun x y hx hy => ?_, fun h0 x y hx hy => ?_⟩
  · rw [k.1 (113 + b) (pf_pers_i (by omega))]; exact a12 b hb
  · rw [k.1 (129 + c) (pf_pers_i (by omega))]; exact a13 c hc
  · rw [k.1 (9 + x) (pf_pers_i (by omega)), k.1 (145 + x) (pf_pers_i (by omega))]; exact a14 x y hx hy
  · rw [k.1 (16 + x) (pf_pers_i (by omega)), k.1 (152 + x) (pf_pers_i (by omega))]; exact a15 h0 x y hx hy
theorem px_lawr.kp {h h' : ix_H} {cs : List (Nat × Nat)} (k : px_kp h h') (a : px_lawr h cs) : px_lawr h' cs := by
  obtain ⟨a1, a2, a3⟩ := a
  refine ⟨?_, ?_, a3⟩
  · unfold px_lw at a1 ⊢
    rw [k.1 41 (by decide), k.1 43 (by decide), k.1 44 (by decide)]
    exact a1
  · rcases a2 with ⟨l1, l2, l3, l4⟩ | ⟨l1, l2⟩
    · refine Or.inl ⟨by rw [k.2 20 (by decide)]; exact l1, l2, l3, fun q c hq => ?_⟩
      have hkk : q < cs.length := (List.getElem?_eq_some_iff.mp hq).1
      rw [k.1 (159 + q) (pf_pers_i (by omega))]
      exact l4 q c hq
    · exact Or.inr ⟨by rw [k.2 20 (by decide)]; exact l1, l2⟩
theorem px_line.kp {h h' : ix_H} {L : Nat} (k : px_kp h h') (a : px_line h L) : px_line h' L := by
  obtain ⟨a1, a2, a3, a4, a5⟩ := a
  unfold px_line
  rw [k.1 51 (by decide), k.1 52 (by decide), k.1 53 (by decide), k.2 35 (by decide)]
  refine ⟨a1, a2, a3, fun q hq => ?_, a5⟩
  rw [k.1 (481 + q) (pf_pers_i (by omega))]
  exact a4 q hq
theorem px_nowK {h h' : ix_H} {B Y : Nat} (k : px_kp h h') (a : px_now h 64 577 B Y) : px_now h' 64 577 B Y := by
  unfold px_now at a ⊢
  rw [k.1 64 (by decide), k.1 577 (by decide), show h' (64 + 1) = h (64 + 1) from k.1 65 (by decide), show h' (64 + 2) = h (64 + 2) from k.1 66 (by decide), show h' (64 + 3) = h (64 + 3) from k.1 67 (by decide)]
  exact a
theorem px_hist.kp {h h' : ix_H} {B W I : Nat} (k : px_kp h h') (a : px_hist h B W I) : px_hist h' B W I := by
  obtain ⟨a1, a2, a3, a4, a5, a6, a7, a8, a9⟩ := a
  unfold px_hist
  rw [k.1 72 (by decide), k.1 73 (by decide), k.1 74 (by decide), k.1 75 (by decide), k.2 36 (by decide), k.2 37 (by decide), k.2 38 (by decide)]
  refine ⟨a1, a2, a3, a4, a5, a6, a7, fun w hw => ?_, fun i hi => ?_⟩
  · rw [k.1 (581 + w) (pf_pers_i (by omega))]; exact a8 w hw
  · rw [k.1 (598 + i) (pf_pers_i (by omega))]; exact a9 i hi
theorem px_tape.kp {h h' : ix_H} {t : Nat} (k : px_kp h h') (a : px_tape h t) : px_tape h' t := by
  unfold px_tape at a ⊢
  rw [k.1 0 (by decide), k.1 1 (by decide), k.1 101 (by decide), k.2 1 (by decide)]
  exact a
theorem px_I.kp {h h' : ix_H} {B N T L W I t : Nat} {cs : List (Nat × Nat)} (k : px_kp h h') (a : px_I h B N T cs L W I t) : px_I h' B N T cs L W I t := by
  obtain ⟨a1, a2, a3, a4, a5, a6, a7, a8⟩ := a
  refine ⟨a1.kp k, a2.kp k, a3.kp k, px_nowK k a4, a5.kp k, a6.kp k, ?_, ?_⟩
  · rw [k.1 0 (by decide), k.1 102 (by decide)]; exact a7
  · rw [k.1 0 (by decide), k.2 3 (by decide)]; exact a8
