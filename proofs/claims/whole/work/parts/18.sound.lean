section IXS
variable {p : Program} {l : Launch} {e : Env} {R : Room} {s : State} {m : MethodId} {args : Array Value} {below : List Frame} {meth : Method} {c : Code} {H : Heap} {locs : List Loc} {k : Nat}
variable {cc : ByteArray} {pc : Nat} {lsA : Array Slot} {ad : Nat → Nat} {o : ix_Op} {own : Nat} {ops : List ix_Op} {D : va_G} {G : ix_G} {ids : List Nat} {dm : Nat → Bool} {lo d c0 s0 : Nat} {h : ix_H} {r : ix_R}
theorem ix_lend (hP : va_P D vwCl (ix_ws G ad ids h) H) (hE : ix_Es ad lo s s.heap) (hX : ix_SX ad lo h s s.heap) (hS : va_S (ix_A lo) s.heap H locs) {t : State} (ht : t.heap = H) (hv : s.vm.Alike t.vm) : ix_Sp D G ad ids lo h t ∧ va_F (ix_A lo) s t :=
  ⟨⟨by rw [ht]; exact hP, by rw [ht]; exact (hX.kept hE.1 hS.2.1).moved hv⟩, hS.F ht⟩
theorem ix_lthrow0 (hl : l.stackTraces = false) (hx : p.tables.exec = Jvm.exec) (hb : c.code = cc) (hml : c.maxLocals = lsA.size) (hown : s.vm.findClass "CryGorge" = some m.cls) (hR : d + 13 ≤ R.frames ∧ 41 * d + 341 ≤ R.locals ∧ c0 + (k + 1) ≤ R.cells ∧ s0 + 6 * (k + 1) ≤ R.slots) (hP : va_P D vwCl (ix_ws G ad ids h) H) (hS : va_S (ix_A lo) s.heap H locs) (hE : ix_Es ad lo s s.heap) (hX : ix_SX ad lo h s s.heap)
    (hno : ∀ x ∈ c.exceptionTable.toList, False) (hlk : meth.locks = false)
    (d0 : decode cc pc = .ok (.new 400, 3)) (d3 : decode cc (pc + 3) = .ok (.dup, 1)) (d4 : decode cc (pc + 4) = .ok (.ldc_w 402, 3)) (d7 : decode cc (pc + 7) = .ok (.invokespecial 404, 3)) (d10 : decode cc (pc + 10) = .ok (.athrow, 1)) :
    W p l e R s m args below meth c H locs (c0 + k) (s0 + 6 * k) (vx_MQ below (ix_Qc D G ad ids lo (.inr 0, h, k + 1)) (ix_XC D G ad ids lo (.inr 0, h, k + 1)) args s (c0 + (k + 1)) (s0 + 6 * (k + 1)) (ix_A lo)) (F0 m pc lsA []) := by
  obtain ⟨e1, e2, e3, e4, e5, e6, ⟨sa, e7⟩, e8, e9, e10, e11, e12, -⟩ := id hE
  have hw : ∀ w ∈ ix_thw 0, w.before args s = true := fun w hw => by
    have hm : w ∈ ix_thA := List.mem_append_left _ hw
    have hg := List.all_eq_true.mp ix_thA_ok w hm
    simp only [Bool.and_eq_true] at hg
    exact va_Nw.use hg.2 (e12 w hm)
  have hw0 : ∀ w ∈ Cond.classLink "CryGorge" 400 (ix_en 0) :: Cond.initialized (ix_en 0) :: vx_atS "CryGorge" 404 (ix_en 0) ix_nms, vx_ot w = true := fun w hw => by
    have hm : w ∈ ix_thA := List.mem_append_left _ hw
    have hg := List.all_eq_true.mp ix_thA_ok w hm
    simp only [Bool.and_eq_true] at hg
    unfold vx_ot
    rw [hg.2]
    rfl
  refine vx_throwSW hx hb hl (own := "CryGorge") (cls := ix_en 0) (names := ix_nms) (ik := 400) (is := 402) (ic := 404) (A := ix_A lo) hown (by decide +kernel) (by decide +kernel) (hw _ List.mem_cons_self) (hw _ (List.mem_cons_of_mem _ List.mem_cons_self)) e7
    (fun w h9 => hw w (List.mem_cons_of_mem _ (List.mem_cons_of_mem _ h9))) hw0 e5 e6 hS hml.symm d0 d3 d4 d7 d10 (fun x hx => absurd (hno x hx) id) ?_ ?_ ?_ ?_ hlk ?_ hS.2.2 (by omega) (by omega)
  · show 5 < R.frames; omega
  · show 0 + (13 * 3 + 43) ≤ R.locals; omega
  · omega
  · omega
  · intro t hv hz hq
    refine ⟨0, rfl, rfl, ⟨va_P.kept hP (fun j q hj => hq q.1 (hP j q hj).lt), ?_⟩, Nat.le_trans hS.1 hz, fun q h1 h2 => ?_⟩
    · have h1 := (hX.kept hE.1 hS.2.1).moved hv
      refine ⟨h1.1.kept (hq _ ?_), h1.2⟩
      exact Nat.lt_of_lt_of_le (Nat.lt_of_lt_of_le hX.2.2 hE.1) hS.1
    · rw [hq q (Nat.lt_of_lt_of_le h1 hS.1)]
      exact hS.2.1 q h1 h2
end IXS
