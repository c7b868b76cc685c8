def kP : List (Nat × Nat) := [(0, 0), (2, 0), (0, 1), (3, 0), (3, 1), (3, 2), (3, 3), (3, 4), (3, 5), (0, 2), (22, 0), (22, 1), (22, 2), (22, 3), (22, 4), (22, 5), (0, 3), (41, 0), (41, 1), (41, 2), (41, 3), (0, 4), (46, 0), (46, 1), (46, 2), (46, 3), (0, 5), (51, 0), (51, 1), (0, 6), (54, 0), (54, 1), (0, 7), (57, 0), (57, 1), (57, 2), (57, 3), (0, 8), (62, 2), (62, 0), (62, 1), (0, 9), (64, 1), (64, 2), (64, 3), (64, 0), (0, 10), (68, 1), (68, 2), (68, 3), (68, 0), (0, 11), (72, 0), (72, 1), (72, 2), (0, 12), (76, 2), (76, 3), (76, 4), (76, 5), (76, 0), (76, 1), (0, 13), (81, 3), (81, 4), (81, 5), (81, 6), (81, 0), (81, 1), (86, 1), (86, 2), (86, 3), (86, 0), (81, 2), (0, 14), (90, 0), (90, 1), (0, 15), (100, 9), (100, 10), (100, 11), (100, 12), (100, 13), (100, 14), (100, 15), (100, 16), (100, 17), (100, 18), (100, 19), (100, 22), (100, 23), (100, 24), (100, 25), (100, 26), (100, 27), (100, 28), (100, 30), (100, 31), (100, 32), (100, 33), (100, 34), (100, 42), (100, 44), (100, 45), (100, 46)]
def kmk (u : Nat) (a k : Nat) : Bool := decide ((a, k) ∈ kP.take u)
theorem kmk_s {u a k : Nat} (e : kP[u]? = some (a, k)) : ∀ a' k', kmk (u + 1) a' k' = if a' = a ∧ k' = k then true else kmk u a' k' := by
  intro a' k'
  unfold kmk
  have et : kP.take (u + 1) = kP.take u ++ [(a, k)] := by rw [List.take_add_one, e]; rfl
  rw [et]
  by_cases h : a' = a ∧ k' = k
  · rw [if_pos h, h.1, h.2]
    exact decide_eq_true (List.mem_append_right _ (List.mem_singleton.mpr rfl))
  · rw [if_neg h]
    refine px_dec_congr ⟨fun q => ?_, fun q => List.mem_append_left _ q⟩
    rcases List.mem_append.mp q with q | q
    · exact q
    · rw [List.mem_singleton] at q
      exact absurd ⟨congrArg Prod.fst q, congrArg Prod.snd q⟩ h
def kin (t a : Nat) : Bool := (decide (a < 91) && decide (a < t)) || (decide (100 ≤ a) && decide (a < 717) && decide (a - 9 < t)) || (decide (a = 99) && decide (708 < t))
theorem kin_mem {t a : Nat} (h : kin t a = true) : a ∈ kids t := by
  unfold kin at h
  simp only [Bool.or_eq_true, Bool.and_eq_true, decide_eq_true_eq] at h
  refine kids_mem.mpr ?_
  rcases h with (h | h) | h
  · exact ⟨a, h.2, by unfold kal; rw [if_pos h.1]⟩
  · exact ⟨a - 9, h.2, by unfold kal; rw [if_neg (by omega), if_pos (by omega)]; omega⟩
  · exact ⟨708, h.2, by unfold kal; rw [if_neg (by omega), if_neg (by omega)]; omega⟩
def kdm (t u : Nat) (a : Nat) : Bool := if a < 10000 then kin t a else kmk u ((a - 10000) / 100) ((a - 10000) % 100)
theorem kx_F {g : ClassId × ClassId × ClassId × ClassId} {lo b : Nat} {sa : Nat → Nat} {t u : Nat} (ht : t ≤ 709) : ix_Fx (g.1, g.2.1, g.2.2.1, g.2.2.2, kmk u) (kad lo b sa) (kids t) (kdm t u) lo := by
  refine kx_Fx ht (fun a k hk h => ?_) (fun a h h1 h5 => ?_)
  · unfold kdm at h
    rw [if_neg (by omega), show (10000 + 100 * a + k - 10000) / 100 = a by omega, show (10000 + 100 * a + k - 10000) % 100 = k by omega] at h
    exact h
  · unfold kdm at h
    by_cases ha : a < 10000
    · rw [if_pos ha] at h
      exact kin_mem h
    · exfalso
      have e : ix_sh a = (0, 0, 0) := by unfold ix_sh; rw [if_pos (by omega)]
      simp [ix_k, e] at h1
def kE (mi a t u : Nat) (h : ix_H) : Option ix_R := ix_exec ix_tabP ix_pr (kdm t u) 8 20000 mi [.ref a] h
def kEh (mi a t u : Nat) (h : ix_H) : ix_H := match kE mi a t u h with
  | some r => r.2.1
  | none => h
def kEb (mi a t u : Nat) (h : ix_H) : Bool := match kE mi a t u h with
  | some (.inl none, _, 0) => true
  | _ => false
theorem kE_ok {mi a t u : Nat} {h : ix_H} (e : kEb mi a t u h = true) : kE mi a t u h = some (.inl none, kEh mi a t u h, 0) := by
  unfold kEb at e
  unfold kEh
  split at e
  · rename_i h' q
    rw [q]
  · cases e
theorem kE_s {mi a t u : Nat} {h : ix_H} {w : (Nat → Int32) × (Nat → Int32)} (ha : a ≠ 3000) (e : kEb mi a t u h = true) : ix_exec ix_tabP ix_pr (kdm t u) 8 20000 mi [.ref a] (Fzz w h) = some (.inl none, Fzz w (kEh mi a t u h), 0) := by
  have := (execzz (w := w) (dm := kdm t u) tabzz 8 20000 mi [.ref a] h (nzz_cons.mpr ⟨nzz_ref ha, nzz_nil⟩)).1
  rw [show ix_exec ix_tabP ix_pr (kdm t u) 8 20000 mi [.ref a] h = _ from kE_ok e] at this
  exact this
def kz_0 : ix_H := fun _ _ => 0
def kz_1 : ix_H := ix_up kz_0 3 8 (nI 21)
def kz_2 : ix_H := ix_up kz_1 3 9 (nI 3)
def kz_3 : ix_H := ix_up kz_2 22 8 (nI 21)
def kz_4 : ix_H := ix_up kz_3 22 9 (nI 3)
def kz_5 : ix_H := kEh 37 41 46 21 kz_4
theorem kb_5 : kEb 37 41 46 21 kz_4 = true := by decide +kernel
def kz_6 : ix_H := kEh 37 46 51 26 kz_5
theorem kb_6 : kEb 37 46 51 26 kz_5 = true := by decide +kernel
def kz_7 : ix_H := kEh 73 64 68 46 kz_6
theorem kb_7 : kEb 73 64 68 46 kz_6 = true := by decide +kernel
def kz_8 : ix_H := kEh 73 68 72 51 kz_7
theorem kb_8 : kEb 73 68 72 51 kz_7 = true := by decide +kernel
def kz_9 : ix_H := kEh 73 86 90 73 kz_8
theorem kb_9 : kEb 73 86 90 73 kz_8 = true := by decide +kernel
def kz_10 : ix_H := ix_up kz_9 0 17 (-1)
def kz_11 : ix_H := ix_up kz_10 100 3 (-1)
def kz_12 : ix_H := kEh 152 100 708 105 kz_11
theorem kb_12 : kEb 152 100 708 105 kz_11 = true := by decide +kernel
def kz_13 : ix_H := kEh 180 100 708 105 kz_12
theorem kb_13 : kEb 180 100 708 105 kz_12 = true := by decide +kernel
