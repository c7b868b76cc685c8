-- the order in which things are made
def kal (t : Nat) : Nat := if t < 91 then t else if t < 708 then t + 9 else 99
def kids (t : Nat) : List Nat := (List.range t).map kal
def kad (lo b : Nat) (sa : Nat → Nat) (a : Nat) : Nat := if a < 91 then lo + a else if a = 99 then lo + 708 else if a < 717 then lo + (a - 9) else if a < 3000 then sa (a - 2000) else b
theorem kad_al {lo b : Nat} {sa : Nat → Nat} {t : Nat} (ht : t < 709) : kad lo b sa (kal t) = lo + t := by
  unfold kal
  by_cases h1 : t < 91
  · rw [if_pos h1]; unfold kad; rw [if_pos h1]
  · rw [if_neg h1]
    by_cases h2 : t < 708
    · rw [if_pos h2]; unfold kad; rw [if_neg (by omega), if_neg (by omega), if_pos (by omega)]; omega
    · rw [if_neg h2]; unfold kad; rw [if_neg (by omega), if_pos rfl]; omega
theorem kids_succ (t : Nat) : kids (t + 1) = kids t ++ [kal t] := by
  unfold kids
  rw [List.range_succ, List.map_append]
  rfl
theorem kids_mem {t a : Nat} : a ∈ kids t ↔ ∃ i, i < t ∧ kal i = a := by
  unfold kids
  rw [List.mem_map]
  exact ⟨fun ⟨i, h1, h2⟩ => ⟨i, List.mem_range.mp h1, h2⟩, fun ⟨i, h1, h2⟩ => ⟨i, List.mem_range.mpr h1, h2⟩⟩
theorem kids_at {t i : Nat} (h : i < t) : (kids t)[i]? = some (kal i) := by
  unfold kids
  rw [List.getElem?_map, List.getElem?_range h]
  rfl
theorem kal_inj {i j : Nat} (hi : i < 709) (hj : j < 709) (e : kal i = kal j) : i = j := by
  have h1 := kad_al (lo := 0) (b := 0) (sa := id) hi
  have h2 := kad_al (lo := 0) (b := 0) (sa := id) hj
  rw [e] at h1
  omega
theorem kids_nd {t : Nat} (ht : t ≤ 709) : (kids t).Nodup := by
  unfold kids List.Nodup
  rw [List.pairwise_map]
  refine (List.pairwise_lt_range (n := t)).imp_of_mem (fun {a b} ha hb hab e => ?_)
  have ha := List.mem_range.mp ha
  have hb := List.mem_range.mp hb
  have := kal_inj (by omega) (by omega) e
  omega
theorem kx_Fx {G : ix_G} {lo b : Nat} {sa : Nat → Nat} {t : Nat} {dm : Nat → Bool} (ht : t ≤ 709) (h1 : ∀ a k, k < 100 → dm (10000 + 100 * a + k) = true → G.2.2.2.2 a k = true) (h2 : ∀ a, dm a = true → 1 ≤ ix_k a → ix_k a ≤ 5 → a ∈ kids t) : ix_Fx G (kad lo b sa) (kids t) dm lo := by
  refine ⟨h1, kids_nd ht, fun x hx y hy e => ?_, fun x hx => ?_, h2⟩
  · obtain ⟨i, hi, rfl⟩ := kids_mem.mp hx
    obtain ⟨j, hj, rfl⟩ := kids_mem.mp hy
    rw [kad_al (by omega), kad_al (by omega)] at e
    rw [show i = j by omega]
  · obtain ⟨i, hi, rfl⟩ := kids_mem.mp hx
    rw [kad_al (by omega)]
    omega
theorem kx_D {G : ix_G} {lo b : Nat} {sa : Nat → Nat} {t : Nat} {h : ix_H} (ht : t ≤ 709) : va_D (ix_A lo) (ix_ws G (kad lo b sa) (kids t) h) := ix_va_D (dm := fun _ => false) (kx_Fx ht (fun _ _ _ z => by cases z) (fun _ z => by cases z)) h
theorem kx_lt {D : va_G} {G : ix_G} {lo b : Nat} {sa : Nat → Nat} {t : Nat} {h : ix_H} {H : Heap} (hP : va_P D vwCl (ix_ws G (kad lo b sa) (kids t) h) H) {H1 : Heap} (ho : ∀ q, q < H.size → H1[q]? = H[q]?) : va_P D vwCl (ix_ws G (kad lo b sa) (kids t) h) H1 := fun k x hx => (hP k x hx).kept (ho _ (hP k x hx).lt)
theorem kx_add {D : va_G} {G : ix_G} {lo b : Nat} {sa : Nat → Nat} {t : Nat} {h : ix_H} {H1 : Heap} (hP : va_P D vwCl (ix_ws G (kad lo b sa) (kids t) h) H1) (hn : va_at D vwCl (kad lo b sa (kal t), ix_cell G (kad lo b sa) h (kal t)) H1) : va_P D vwCl (ix_ws G (kad lo b sa) (kids (t + 1)) h) H1 := by
  intro k x hx
  rw [kids_succ] at hx
  unfold ix_ws at hx
  rw [List.map_append] at hx
  by_cases hk : k < ((kids t).map (fun a => (kad lo b sa a, ix_cell G (kad lo b sa) h a))).length
  · rw [List.getElem?_append_left hk] at hx
    exact hP k x hx
  · rw [List.getElem?_append_right (by omega)] at hx
    have h0 : k - ((kids t).map (fun a => (kad lo b sa a, ix_cell G (kad lo b sa) h a))).length < 1 := (List.getElem?_eq_some_iff.mp hx).1
    rw [show k - ((kids t).map (fun a => (kad lo b sa a, ix_cell G (kad lo b sa) h a))).length = 0 by omega] at hx
    cases hx
    exact hn
theorem kx_S {lo : Nat} {H0 H H1 : Heap} {locs : List Loc} (hS : va_S (ix_A lo) H0 H locs) (hz : H.size ≤ H1.size) (ho : ∀ q, q < H.size → H1[q]? = H[q]?) : va_S (ix_A lo) H0 H1 locs := ⟨Nat.le_trans hS.1 hz, fun q h1 h2 => (ho q (Nat.lt_of_lt_of_le h1 hS.1)).trans (hS.2.1 q h1 h2), hS.2.2⟩
theorem arrV_cg {c : ClassId} {N : Nat} {f g : Nat → Value} (e : ∀ j, j < N → f j = g j) : arrV c N f = arrV c N g := by
  unfold arrV
  congr 1
  congr 1
  funext j
  exact e j.val j.isLt
section KX
variable {p : Program} {l : Launch} {e : Env} {R : Room} {s : State} {m : MethodId} {args : Array Value} {below : List Frame} {meth : Method} {c : Code} {H : Heap} {locs : List Loc} {cells slots : Nat} {Q : State → Prop}
variable {cc : ByteArray} {pc : Nat} {ls : Array Slot} {rest : List Value} {D : va_G} {G : ix_G} {lo b : Nat} {sa : Nat → Nat} {t : Nat} {h : ix_H}
theorem kx_newa (hx : p.tables.exec = Jvm.exec) (hb : c.code = cc) {atype : ArrayType} (harr : (Cond.arrayClass (newarray.typeOf atype)).before args s = true) (ht : t < 709) (hP : va_P D vwCl (ix_ws G (kad lo b sa) (kids t) h) H) (hz : H.size = lo + t) (hS : va_S (ix_A lo) s.heap H locs) {n : Int32} {N : Nat} (hn : ¬ n < 0) (hN : n.toNatClampNeg = N) (hby : N * componentBytes (newarray.typeOf atype) ≤ 536870912) (hcl : cells + 1 ≤ R.cells) (hsl : slots + N ≤ R.slots)
    (hc : ∀ (cA : ClassId) (H1 : Heap), s.vm.findClass ("[" ++ (newarray.typeOf atype).toString) = some cA → H1[lo + t]? = some (arrV cA N (fun _ => defaultValue (newarray.typeOf atype))) → va_at D vwCl (lo + t, ix_cell G (kad lo b sa) h (kal t)) H1) (hdg : decode cc pc = .ok (.newarray atype, 2))
    (kk : ∀ H1, va_P D vwCl (ix_ws G (kad lo b sa) (kids (t + 1)) h) H1 → H1.size = lo + (t + 1) → va_S (ix_A lo) s.heap H1 locs → W p l e R s m args below meth c H1 locs (cells + 1) (slots + N) Q (F0 m (pc + 2) ls (.ref (lo + t) :: rest))) : W p l e R s m args below meth c H locs cells slots Q (F0 m pc ls (.int n :: rest)) := by
  refine va_newaK hx hb harr rfl hdg rfl hn hN hby hcl hsl hz fun H1 cA e1 z1 o1 _ hNm => ?_
  have o2 : ∀ q, q < H.size → H1[q]? = H[q]? := fun q hq => o1 q (by omega)
  refine kk H1 (kx_add (kx_lt hP o2) ?_) (by omega) (kx_S hS (by omega) o2)
  rw [kad_al ht]
  exact hc cA H1 hNm e1
theorem kx_nI (hx : p.tables.exec = Jvm.exec) (hb : c.code = cc) (harr : (Cond.arrayClass .int).before args s = true) (hK : va_K D vwCl (ix_tys G) s) {a : Nat} (ha : kal t = a) (hk : ix_k a = 1) (h0 : h a = fun _ => 0) (ht : t < 709) (hP : va_P D vwCl (ix_ws G (kad lo b sa) (kids t) h) H) (hz : H.size = lo + t) (hS : va_S (ix_A lo) s.heap H locs) {n : Int32} (hn : ¬ n < 0) (hN : n.toNatClampNeg = ix_n a) (hby : ix_n a * 4 ≤ 536870912) (hcl : cells + 1 ≤ R.cells) (hsl : slots + ix_n a ≤ R.slots) (hdg : decode cc pc = .ok (.newarray .int, 2))
    (kk : ∀ H1, va_P D vwCl (ix_ws G (kad lo b sa) (kids (t + 1)) h) H1 → H1.size = lo + (t + 1) → va_S (ix_A lo) s.heap H1 locs → W p l e R s m args below meth c H1 locs (cells + 1) (slots + ix_n a) Q (F0 m (pc + 2) ls (.ref (lo + t) :: rest))) : W p l e R s m args below meth c H locs cells slots Q (F0 m pc ls (.int n :: rest)) := by
  refine kx_newa (atype := .int) hx hb harr ht hP hz hS hn hN hby hcl hsl (fun cA H1 f1 e1 => ?_) hdg kk
  have f2 : s.vm.findClass ("[" ++ FieldType.int.toString) = some G.2.1 := (hK.2 1 (G.2.1, .int) rfl).2
  have ec : cA = G.2.1 := Option.some.inj (f1.symm.trans f2)
  subst ec
  rw [ha, ix_cell1 hk, h0]
  exact e1
theorem kx_nB (hx : p.tables.exec = Jvm.exec) (hb : c.code = cc) (harr : (Cond.arrayClass .byte).before args s = true) (hK : va_K D vwCl (ix_tys G) s) {a : Nat} (ha : kal t = a) (hk : ix_k a = 2) (h0 : h a = fun _ => 0) (ht : t < 709) (hP : va_P D vwCl (ix_ws G (kad lo b sa) (kids t) h) H) (hz : H.size = lo + t) (hS : va_S (ix_A lo) s.heap H locs) {n : Int32} (hn : ¬ n < 0) (hN : n.toNatClampNeg = ix_n a) (hby : ix_n a * 1 ≤ 536870912) (hcl : cells + 1 ≤ R.cells) (hsl : slots + ix_n a ≤ R.slots) (hdg : decode cc pc = .ok (.newarray .byte, 2))
    (kk : ∀ H1, va_P D vwCl (ix_ws G (kad lo b sa) (kids (t + 1)) h) H1 → H1.size = lo + (t + 1) → va_S (ix_A lo) s.heap H1 locs → W p l e R s m args below meth c H1 locs (cells + 1) (slots + ix_n a) Q (F0 m (pc + 2) ls (.ref (lo + t) :: rest))) : W p l e R s m args below meth c H locs cells slots Q (F0 m pc ls (.int n :: rest)) := by
  refine kx_newa (atype := .byte) hx hb harr ht hP hz hS hn hN hby hcl hsl (fun cA H1 f1 e1 => ?_) hdg kk
  have f2 : s.vm.findClass ("[" ++ FieldType.byte.toString) = some G.1 := (hK.2 0 (G.1, .byte) rfl).2
  have ec : cA = G.1 := Option.some.inj (f1.symm.trans f2)
  subst ec
  rw [ha, ix_cell2 hk, h0]
  exact e1
theorem kx_nL (hx : p.tables.exec = Jvm.exec) (hb : c.code = cc) (harr : (Cond.arrayClass .long).before args s = true) (hK : va_K D vwCl (ix_tys G) s) {a : Nat} (ha : kal t = a) (hk : ix_k a = 4) (h0 : h a = fun _ => 0) (ht : t < 709) (hP : va_P D vwCl (ix_ws G (kad lo b sa) (kids t) h) H) (hz : H.size = lo + t) (hS : va_S (ix_A lo) s.heap H locs) {n : Int32} (hn : ¬ n < 0) (hN : n.toNatClampNeg = ix_n a) (hby : ix_n a * 8 ≤ 536870912) (hcl : cells + 1 ≤ R.cells) (hsl : slots + ix_n a ≤ R.slots) (hdg : decode cc pc = .ok (.newarray .long, 2))
    (kk : ∀ H1, va_P D vwCl (ix_ws G (kad lo b sa) (kids (t + 1)) h) H1 → H1.size = lo + (t + 1) → va_S (ix_A lo) s.heap H1 locs → W p l e R s m args below meth c H1 locs (cells + 1) (slots + ix_n a) Q (F0 m (pc + 2) ls (.ref (lo + t) :: rest))) : W p l e R s m args below meth c H locs cells slots Q (F0 m pc ls (.int n :: rest)) := by
  refine kx_newa (atype := .long) hx hb harr ht hP hz hS hn hN hby hcl hsl (fun cA H1 f1 e1 => ?_) hdg kk
  have f2 : s.vm.findClass ("[" ++ FieldType.long.toString) = some G.2.2.2.1 := (hK.2 3 (G.2.2.2.1, .long) rfl).2
  have ec : cA = G.2.2.2.1 := Option.some.inj (f1.symm.trans f2)
  subst ec
  rw [ha, ix_cell4 hk, h0]
  exact e1
end KX
