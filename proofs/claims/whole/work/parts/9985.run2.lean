section PW
variable {h : ix_H} {B N T : Nat} {X : pw_X} {cs : List (Nat × Nat)} {hd fd pt : Nat → Int32}
-- a condition on rows that a run leaves alone
def pw_rP (i j : Nat) (P : ix_H → Prop) : Prop := ∀ h h' : ix_H, (∀ k, i ≤ k → k < j → h' 58 k = h 58 k ∧ h' 59 k = h 59 k ∧ h' 60 k = h 60 k) → P h → P h'
theorem pw_rP.fr {i j i' j' : Nat} {P : ix_H → Prop} {h h' : ix_H} (p : pw_rP i j P) (f : pw_cfr i' j' h h') (x : P h) : P h' := p h h' (fun k _ _ => by rw [f.1 58 (by decide), f.1 59 (by decide), f.1 60 (by decide)]; exact ⟨rfl, rfl, rfl⟩) x
theorem pw_cE.fr {i j : Nat} {h h' : ix_H} (f : pw_cfr i j h h') (x : pw_cE cs N B T hd fd pt h) : pw_cE cs N B T hd fd pt h' := x.of (fun a ha => f.1 a (by simp; omega))
theorem pw_cx_seq {i j m : Nat} {P1 P2 : ix_H → Prop} {D1 D2 : pw_s → pw_s} (hij : i ≤ j) (hjm : j ≤ m) (p2 : pw_rP j m P2) (hD1 : pw_D B D1) (hD2 : pw_D B D2) (x1 : pw_cx cs N B T hd fd pt i j P1 D1) (x2 : pw_cx cs N B T hd fd pt j m P2 D2) : pw_cx cs N B T hd fd pt i m (fun h => P1 h ∧ P2 h) (fun s => D2 (D1 s)) := by
  rintro h s tick Q E ⟨q1, q2⟩ ⟨n, n1, n2, n4⟩ so st ht H HS
  obtain ⟨so1, le1⟩ := hD1.2 s so
  obtain ⟨so2, le2⟩ := hD2.2 _ so1
  refine x1 h s tick Q E q1 ⟨n, n1, by omega, n4⟩ so st ht (fun h1 t1 f1 st1 ht1 => ?_) (fun h1 f1 st1 e1 => ?_)
  · refine x2 h1 (D1 s) t1 Q (E.fr f1) (p2.fr f1 q2) ⟨n, n1, n2, by rw [f1.2.1 4 (by decide) (by decide)]; exact n4⟩ so1 st1 (by omega) (fun h2 t2 f2 st2 ht2 => ?_) (fun h2 f2 st2 e2 => ?_)
    · exact H h2 t2 ((f1.wd (Nat.le_refl _) hjm).tr (f2.wd hij (Nat.le_refl _))) st2 (by show t2 ≤ tick + 41 * ((D2 (D1 s)).1.1 - s.1.1); omega)
    · exact HS h2 ((f1.wd (Nat.le_refl _) hjm).tr (f2.wd hij (Nat.le_refl _))) st2 e2
  · have e3 := hD2.1 (D1 s) (by omega)
    refine HS h1 (f1.wd (Nat.le_refl _) hjm) ?_ ?_
    · show pw_cst (D2 (D1 s)) h1
      rw [e3]; exact st1
    · show (D2 (D1 s)).1.1 = 200
      rw [e3]; exact e1
end PW
