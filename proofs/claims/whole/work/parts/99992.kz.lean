-- what is not there yet isn't written
theorem ghdm {dm : Nat → Bool} {o : ix_Op} {st : List Value} {h : ix_H} {q : List Value × ix_H} {a0 : Nat} (hd : dm a0 = false) (e : ix_gh dm o st h = some q) : q.2 a0 = h a0 := by
  have up : ∀ {a i : Nat} {v : Int32}, dm a = true → ix_up h a i v a0 = h a0 := fun ha => ix_up_ne (fun z => by rw [← z, hd] at ha; cases ha)
  unfold ix_gh at e
  split at e
  · split at e
    · split at e
      · split at e
        · cases e; rfl
        · cases e
      · cases e; rfl
      · cases e
    · cases e
  · split at e
    · rename_i hc
      cases e; exact up hc.1
    · cases e
  · split at e
    · cases e; rfl
    · split at e
      · cases e; rfl
      · cases e
  · split at e
    · rename_i hc
      cases e; exact up hc.1
    · cases e
  · split at e
    · cases e; rfl
    · cases e
  · split at e
    · rename_i hc
      cases e; exact up hc.1
    · cases e
  · split at e
    · cases e; rfl
    · cases e
  · split at e
    · cases e; rfl
    · cases e
  · split at e
    · rename_i hc
      cases e; exact up hc.1
    · cases e
  · split at e
    · cases e; rfl
    · split at e
      · cases e; rfl
      · cases e
  · split at e
    · rename_i hc
      cases e
      have ha := hc.2.1
      unfold ix_cpy
      exact px_row_ne (fun z => by rw [← z, hd] at ha; cases ha)
    · cases e
  · cases e
def Cdm (a0 : Nat) (call : Nat → List Value → ix_H → Option ix_R) : Prop := ∀ mi vs h r, call mi vs h = some r → r.2.1 a0 = h a0
theorem rundm {dm : Nat → Bool} {a0 : Nat} {call : Nat → List Value → ix_H → Option ix_R} {ops : List ix_Op} {hs : List ix_Hd} (hd : dm a0 = false) (hc : Cdm a0 call) : ∀ g i ls st h k r, ix_run dm call ops hs g i ls st h k = some r → r.2.1 a0 = h a0 := by
  intro g
  induction g with
  | zero => intro i ls st h k r e; cases e
  | succ g ih =>
    intro i ls st h k r e
    rw [ix_run] at e
    cases hop : ops[i]? with
    | none => rw [hop] at e; cases e
    | some o =>
      rw [hop] at e
      simp only [] at e
      cases h1 : ix_g1 o ls st with
      | some q => rw [h1] at e; exact ih _ _ _ _ _ _ e
      | none =>
        rw [h1] at e
        simp only [] at e
        cases h2 : ix_g2 o ls st with
        | some q => rw [h2] at e; exact ih _ _ _ _ _ _ e
        | none =>
          rw [h2] at e
          simp only [] at e
          cases h3 : ix_g3 o ls st with
          | some q => rw [h3] at e; exact ih _ _ _ _ _ _ e
          | none =>
            rw [h3] at e
            simp only [] at e
            cases h4 : ix_gb o i st with
            | some q => rw [h4] at e; exact ih _ _ _ _ _ _ e
            | none =>
              rw [h4] at e
              simp only [] at e
              cases h5 : ix_gh dm o st h with
              | some q => rw [h5] at e; exact (ih _ _ _ _ _ _ e).trans (ghdm hd h5)
              | none =>
                rw [h5] at e
                simp only [] at e
                split at e
                · split at e
                  · cases h6 : call (ix_x o) (st.take (ix_z o)).reverse h with
                    | none => rw [h6] at e; cases e
                    | some r1 =>
                      have k1 := hc _ _ _ _ h6
                      rw [h6] at e
                      obtain ⟨r1, h', k'⟩ := r1
                      cases r1 with
                      | inl v => exact (ih _ _ _ _ _ _ e).trans k1
                      | inr x =>
                        simp only [] at e
                        split at e
                        · cases e
                        · split at e
                          · split at e
                            · cases e; exact k1
                            · cases e
                          · split at e
                            · exact (ih _ _ _ _ _ _ e).trans k1
                            · cases e
                  · cases e
                · split at e
                  · split at e
                    · cases e; exact rfl
                    · cases e
                  · cases e; exact rfl
                  · split at e
                    · cases e; exact rfl
                    · cases e
                  · cases e
theorem prdm {a0 : Nat} : Cdm a0 ix_pr := by
  intro mi vs h r e
  unfold ix_pr at e
  split at e
  · split at e
    · unfold ix_p900 at e
      split at e
      · cases e; exact rfl
      · cases e
    · cases e
  · split at e
    · split at e
      · unfold ix_p901 at e
        split at e
        · cases e; exact rfl
        · cases e
      · cases e
    · cases e
theorem execdm {tab : List ix_M} {dm : Nat → Bool} {a0 : Nat} (hd : dm a0 = false) : ∀ d f, Cdm a0 (ix_exec tab ix_pr dm d f) := by
  intro d
  induction d with
  | zero => intro f mi vs h r e; cases e
  | succ d ih =>
    intro f mi vs h r e
    rw [ix_exec] at e
    cases hM : tab[mi]? with
    | none => rw [hM] at e; exact prdm mi vs h r e
    | some M =>
      rw [hM] at e
      simp only [] at e
      split at e
      · exact rundm hd (ih f) _ _ _ _ _ _ _ e
      · cases e
theorem kEh_keep {mi a t u a0 : Nat} {h : ix_H} (e : kEb mi a t u h = true) (hd : kdm t u a0 = false) : kEh mi a t u h a0 = h a0 := execdm hd 8 20000 mi [.ref a] h _ (kE_ok e)
theorem kin_mono {t t' a : Nat} (ht : t ≤ t') (h : kin t' a = false) : kin t a = false := by
  unfold kin at h ⊢
  simp only [Bool.or_eq_false_iff, Bool.and_eq_false_imp, decide_eq_true_eq, decide_eq_false_iff_not] at h ⊢
  obtain ⟨⟨h1, h2⟩, h3⟩ := h
  refine ⟨⟨fun q => ?_, fun q => ?_⟩, fun q => ?_⟩
  · have := h1 q; omega
  · have := h2 q; omega
  · have := h3 q; omega
theorem kdm_kin {t u a : Nat} (ha : a < 10000) (h : kin t a = false) : kdm t u a = false := by unfold kdm; rw [if_pos ha]; exact h
theorem kzf_0 (a : Nat) (_ : kin 0 a = false) (_ : a < 10000) : kz_0 a = fun _ => 0 := rfl
theorem kzf_1 (a : Nat) (hk : kin 22 a = false) (ha : a < 10000) : kz_1 a = fun _ => 0 := (ix_up_ne (fun z => by rw [z] at hk; revert hk; decide)).trans (kzf_0 a (kin_mono (by decide) hk) ha)
theorem kzf_2 (a : Nat) (hk : kin 22 a = false) (ha : a < 10000) : kz_2 a = fun _ => 0 := (ix_up_ne (fun z => by rw [z] at hk; revert hk; decide)).trans (kzf_1 a (kin_mono (by decide) hk) ha)
theorem kzf_3 (a : Nat) (hk : kin 41 a = false) (ha : a < 10000) : kz_3 a = fun _ => 0 := (ix_up_ne (fun z => by rw [z] at hk; revert hk; decide)).trans (kzf_2 a (kin_mono (by decide) hk) ha)
theorem kzf_4 (a : Nat) (hk : kin 41 a = false) (ha : a < 10000) : kz_4 a = fun _ => 0 := (ix_up_ne (fun z => by rw [z] at hk; revert hk; decide)).trans (kzf_3 a (kin_mono (by decide) hk) ha)
theorem kzf_5 (a : Nat) (hk : kin 46 a = false) (ha : a < 10000) : kz_5 a = fun _ => 0 := (kEh_keep kb_5 (kdm_kin ha hk)).trans (kzf_4 a (kin_mono (by decide) hk) ha)
theorem kzf_6 (a : Nat) (hk : kin 51 a = false) (ha : a < 10000) : kz_6 a = fun _ => 0 := (kEh_keep kb_6 (kdm_kin ha hk)).trans (kzf_5 a (kin_mono (by decide) hk) ha)
theorem kzf_7 (a : Nat) (hk : kin 68 a = false) (ha : a < 10000) : kz_7 a = fun _ => 0 := (kEh_keep kb_7 (kdm_kin ha hk)).trans (kzf_6 a (kin_mono (by decide) hk) ha)
theorem kzf_8 (a : Nat) (hk : kin 72 a = false) (ha : a < 10000) : kz_8 a = fun _ => 0 := (kEh_keep kb_8 (kdm_kin ha hk)).trans (kzf_7 a (kin_mono (by decide) hk) ha)
theorem kzf_9 (a : Nat) (hk : kin 90 a = false) (ha : a < 10000) : kz_9 a = fun _ => 0 := (kEh_keep kb_9 (kdm_kin ha hk)).trans (kzf_8 a (kin_mono (by decide) hk) ha)
theorem kzf_10 (a : Nat) (hk : kin 91 a = false) (ha : a < 10000) : kz_10 a = fun _ => 0 := (ix_up_ne (fun z => by rw [z] at hk; revert hk; decide)).trans (kzf_9 a (kin_mono (by decide) hk) ha)
theorem kzf_11 (a : Nat) (hk : kin 92 a = false) (ha : a < 10000) : kz_11 a = fun _ => 0 := (ix_up_ne (fun z => by rw [z] at hk; revert hk; decide)).trans (kzf_10 a (kin_mono (by decide) hk) ha)
theorem kzf_12 (a : Nat) (hk : kin 708 a = false) (ha : a < 10000) : kz_12 a = fun _ => 0 := (kEh_keep kb_12 (kdm_kin ha hk)).trans (kzf_11 a (kin_mono (by decide) hk) ha)
theorem kzf_13 (a : Nat) (hk : kin 708 a = false) (ha : a < 10000) : kz_13 a = fun _ => 0 := (kEh_keep kb_13 (kdm_kin ha hk)).trans (kzf_12 a (kin_mono (by decide) hk) ha)
theorem kx_fs {G : ix_G} {ad : Nat → Nat} {h : ix_H} {a N : Nat} (h0 : h a = fun _ => 0) (hm : ∀ k, k < N → G.2.2.2.2 a k = false) (hl : (ix_rf a).length = N) (ty : Nat → FieldType) (ht : ∀ j, j < N → defaultValue (ty j) = (match (ix_rf a)[j]? with
    | some (some _) => Value.null
    | _ => .int 0)) : ∀ j, j < N → defaultValue (ty j) = vp_V (ix_fv G ad h a) j := by
  intro j hj
  have e := ht j hj
  cases hr : (ix_rf a)[j]? with
  | none => rw [List.getElem?_eq_none_iff] at hr; omega
  | some r =>
    rw [hr] at e
    rw [e]
    unfold vp_V
    rw [List.getD_eq_getElem?_getD, ix_fv_at hr, hm j hj, h0]
    cases r <;> rfl
theorem ix_cal_of {mi : Nat} {M : ix_M} (hmi : mi < 260) (h : ix_tabP[mi]? = some M) : ix_cal mi = some (ix_my M, ix_mb M, ix_ml M, ix_mr M) := by
  have hM : ix_tab[mi]? = some M := by rw [ix_tabP_eq, List.getElem?_take, if_pos hmi] at h; exact h
  unfold ix_cal
  rw [hM]
theorem kx_SX {ad : Nat → Nat} {lo : Nat} {w : (Nat → Int32) × (Nat → Int32)} {h1 h2 : ix_H} {s : State} {H : Heap} (hX : ix_SX ad lo (Fzz w h1) s H) : ix_SX ad lo (Fzz w h2) s H := hX.same rfl rfl
