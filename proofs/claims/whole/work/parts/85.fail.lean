-- the class's reader once it has failed
def px_rf (h : ix_H) (tx : Nat → Nat) (n o k : Nat) (pl : Int32) : Prop := k ≠ 0 ∧ ∃ p pc, px_rd h tx n p pc o k pl
section RF
variable {h : ix_H} {tx : Nat → Nat} {n o k : Nat} {pl : Int32}
theorem gx_fkN {kd : Nat} (hk : k ≠ 0) : gx_fk k kd = k := if_neg hk
theorem gx_fpN {pc : Nat} (hk : k ≠ 0) : gx_fp k pl pc = pl := if_neg hk
theorem px_PUi {D mi : Nat} {vs : List Value} {P P' : ix_H → Prop} (T : px_PU D mi vs h P) (e : ∀ h1, P h1 → P' h1) : px_PU D mi vs h P' := by
  obtain ⟨r, ⟨h', hr, hp⟩, F⟩ := T
  exact ⟨r, ⟨h', hr, e h' hp⟩, F⟩
theorem px_PIi {D mi : Nat} {vs : List Value} {P P' : Int32 → ix_H → Prop} (T : px_PI D mi vs h P) (e : ∀ v h1, P v h1 → P' v h1) : px_PI D mi vs h P' := by
  obtain ⟨r, ⟨v, h', hr, hp⟩, F⟩ := T
  exact ⟨r, ⟨v, h', hr, e v h' hp⟩, F⟩
theorem px_rf.fr {S : List Nat} {h h' : ix_H} (f : px_fr S h h') (r : px_rf h tx n o k pl) (h1 : 1 ∉ S) (h2 : 2 ∉ S) (h3 : 101 ∉ S) : px_rf h' tx n o k pl := by
  obtain ⟨hk, p, pc, r⟩ := r
  exact ⟨hk, p, pc, r.fr f h1 h2 h3⟩
theorem sp_59f {kd : Nat} (hk : kd ≤ 3) (r : px_rf h tx n o k pl) : px_PU 1 59 [.ref 2, .int (nI kd)] h (fun h1 => px_fr [2] h h1 ∧ px_rf h1 tx n o k pl) := by
  obtain ⟨k0, p, pc, r⟩ := r
  exact px_PUi (sp_59 hk r) (fun h1 q => by rw [gx_fkN k0, gx_fpN k0] at q; exact ⟨q.1, k0, _, _, q.2⟩)
theorem sp_56f (r : px_rf h tx n o k pl) : px_V 1 56 [.ref 2] h (some (.int (px_b true))) h := by
  obtain ⟨k0, p, pc, r⟩ := r
  have := sp_56 r
  rw [decide_eq_true k0] at this
  exact this
theorem sp_60f (r : px_rf h tx n o k pl) : px_PI 1 60 [.ref 2] h (fun v h1 => px_fr [2] h h1 ∧ px_rf h1 tx n o k pl) := by
  obtain ⟨k0, p, pc, r⟩ := r
  exact px_PIi (sp_60 r) (fun v h1 q => ⟨q.2.1, k0, _, _, q.2.2⟩)
theorem sp_61f (r : px_rf h tx n o k pl) : px_PI 2 61 [.ref 2] h (fun v h1 => v = px_b false ∧ h1 = h) := by
  obtain ⟨k0, p, pc, r⟩ := r
  exact px_PIi (sp_61 r) (fun v h1 q => by rw [if_neg k0, decide_eq_false (fun z => k0 z.1)] at q; exact ⟨q.1, q.2.2⟩)
theorem sp_62f {c : Nat} (hc : c < 256) (r : px_rf h tx n o k pl) : px_PI 2 62 [.ref 2, .int (nI c)] h (fun v h1 => (∃ z, v = px_b z) ∧ px_fr [2] h h1 ∧ px_rf h1 tx n o k pl) := by
  obtain ⟨k0, p, pc, r⟩ := r
  exact px_PIi (sp_62 hc r) (fun v h1 q => ⟨⟨_, q.1⟩, q.2.1, k0, _, _, q.2.2⟩)
theorem sp_63f {c : Nat} (hc : c < 256) (r : px_rf h tx n o k pl) : px_PU 2 63 [.ref 2, .int (nI c)] h (fun h1 => px_fr [2] h h1 ∧ px_rf h1 tx n o k pl) := by
  obtain ⟨k0, p, pc, r⟩ := r
  refine px_PUi (sp_63 hc r) (fun h1 q => ⟨q.1, k0, ?_⟩)
  by_cases z : gx_sk tx n p < n ∧ tx (gx_sk tx n p) = c
  · rw [if_pos z] at q; exact ⟨_, _, q.2⟩
  · rw [if_neg z, gx_fkN k0, gx_fpN k0] at q; exact ⟨_, _, q.2⟩
theorem sp_64f {lo H : Nat} {hi : Int32} (hlo : lo ≤ 1000) (hh : ∀ v, v ≤ 1000000 → (nI v ≤ hi ↔ v < H)) (hH : H ≤ 2000) (r : px_rf h tx n o k pl) : px_PI 3 64 [.ref 2, .int (nI lo), .int hi] h (fun v h1 => px_fr [2] h h1 ∧ px_rf h1 tx n o k pl ∧ ∃ q, q ≤ 1000000 ∧ v = nI q) := by
  obtain ⟨k0, p, pc, r⟩ := r
  refine px_PIi (sp_64 hlo hh hH r) (fun v h1 q => ⟨q.2.1, ⟨k0, ?_⟩, _, Nat.min_le_right _ _, q.1⟩)
  have q := q.2.2
  rw [gx_fkN k0, gx_fpN k0, ite_self, ite_self] at q
  exact ⟨_, _, q⟩
theorem sp_65f (r : px_rf h tx n o k pl) : px_PU 2 65 [.ref 2] h (fun h1 => px_fr [2] h h1 ∧ px_rf h1 tx n o k pl) := by
  obtain ⟨k0, p, pc, r⟩ := r
  exact px_PUi (sp_65 r) (fun h1 q => ⟨q.1, k0, _, _, q.2⟩)
theorem sp_67f (ho : o < 1000) (r : px_rf h tx n o k pl) : px_PU 2 67 [.ref 2] h (fun h1 => px_fr [2] h h1 ∧ px_rf h1 tx n (o + 1) k pl) := by
  obtain ⟨k0, p, pc, r⟩ := r
  exact px_PUi (sp_67 ho r) (fun h1 q => by rw [gx_fkN k0, gx_fpN k0, ite_self, ite_self] at q; exact ⟨q.1, k0, _, _, q.2⟩)
theorem sp_68f (ho : 1 ≤ o) (r : px_rf h tx n o k pl) : px_PU 2 68 [.ref 2] h (fun h1 => px_fr [2] h h1 ∧ px_rf h1 tx n (o - 1) k pl) := by
  obtain ⟨k0, p, pc, r⟩ := r
  exact px_PUi (sp_68 ho r) (fun h1 q => ⟨q.1, k0, _, _, q.2⟩)
end RF
