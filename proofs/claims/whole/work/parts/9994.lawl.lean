abbrev lL (i : Nat) (g5 g6 : Value) : List Value := [.ref 3000, .ref 0, .ref 100, .ref 99, .int (nI i), g5, g6]
theorem lg_self (x : Int64) : lg_cmp x x = 0 := by unfold lg_cmp; simp
section LL
variable {h : ix_H} {D k p i0 c q : Nat} {g5 g6 : Value} {st : List Value} {Q : ix_R → Prop}
theorem L_ac {pc0 ln0 x0 y0 z0 pc1 ln1 x1 y1 z1 pc2 ln2 x2 y2 z2 pc3 ln3 x3 y3 z3 pc4 ln4 x4 y4 z4 : Nat} {tl0 tl1 tl2 tl3 tl4 : List Nat} {v0 v1 v2 v3 v4 : Int32} (h0 : ix_lo[p]? = some (pc0, ln0, .aload_n 0, x0, y0, z0, tl0, v0)) (h1 : ix_lo[p+1]? = some (pc1, ln1, .iload 4, x1, y1, z1, tl1, v1)) (h2 : ix_lo[p+2]? = some (pc2, ln2, .iconst (Int.ofNat c), x2, y2, z2, tl2, v2)) (h3 : ix_lo[p+3]? = some (pc3, ln3, .iadd, x3, y3, z3, tl3, v3)) (h4 : ix_lo[p+4]? = some (pc4, ln4, .iaload, x4, y4, z4, tl4, v4)) (hq : h 3001 0 = nI q) (q31 : q < 2147483648) (hc : i0 + c < q) (H : px_R px_L D ix_lo [] (p+5) (lL i0 g5 g6) (.int (h 3000 (i0 + c)) :: st) h k Q) : px_R px_L D ix_lo [] p (lL i0 g5 g6) st h k Q := by
  refine w_al (j := p+1) h0 rfl rfl ?_
  refine w_iL (j := p+2) h1 rfl rfl ?_
  refine w_ic (n := c) (j := p+3) h2 rfl ?_
  refine w_addN (j := p+4) h3 rfl ?_
  exact w_ialS (j := p+5) h4 rfl rfl rfl hc q31 hq H
theorem L_ab {pc0 ln0 x0 y0 z0 pc1 ln1 x1 y1 z1 pc2 ln2 x2 y2 z2 pc3 ln3 x3 y3 z3 pc4 ln4 x4 y4 z4 : Nat} {tl0 tl1 tl2 tl3 tl4 : List Nat} {v0 v1 v2 v3 v4 : Int32} {cc : Int} (h0 : ix_lo[p]? = some (pc0, ln0, .aload_n 0, x0, y0, z0, tl0, v0)) (h1 : ix_lo[p+1]? = some (pc1, ln1, .iload 4, x1, y1, z1, tl1, v1)) (h2 : ix_lo[p+2]? = some (pc2, ln2, .bipush cc, x2, y2, z2, tl2, v2)) (h3 : ix_lo[p+3]? = some (pc3, ln3, .iadd, x3, y3, z3, tl3, v3)) (h4 : ix_lo[p+4]? = some (pc4, ln4, .iaload, x4, y4, z4, tl4, v4)) (hcc : (Int8.ofInt cc).toInt32 = nI c) (hq : h 3001 0 = nI q) (q31 : q < 2147483648) (hc : i0 + c < q) (H : px_R px_L D ix_lo [] (p+5) (lL i0 g5 g6) (.int (h 3000 (i0 + c)) :: st) h k Q) : px_R px_L D ix_lo [] p (lL i0 g5 g6) st h k Q := by
  refine w_al (j := p+1) h0 rfl rfl ?_
  refine w_iL (j := p+2) h1 rfl rfl ?_
  refine w_bi (a := nI c) (j := p+3) h2 rfl hcc ?_
  refine w_addN (j := p+4) h3 rfl ?_
  exact w_ialS (j := p+5) h4 rfl rfl rfl hc q31 hq H
theorem px_lift' {D D' mi : Nat} {vs : List Value} {h : ix_H} {Q : ix_R → Prop} (hT : px_T px_E D mi vs h Q) (hD : D ≤ D') : px_T px_E D' mi vs h Q := px_lift hT (Nat.ble_eq.mpr hD)
theorem L_tail {pc0 ln0 x0 y0 z0 pc1 ln1 x1 y1 z1 pc2 ln2 pc3 ln3 x3 y3 z3 pc4 ln4 y4 z4 pc7 ln7 x7 y7 z7 pc8 ln8 y8 z8 pc9 ln9 x9 y9 z9 pc10 ln10 x10 y10 z10 pc11 ln11 x11 y11 z11 pc12 ln12 x12 y12 z12 pc13 ln13 x13 y13 z13 pc14 ln14 x14 y14 z14 pc15 ln15 y15 z15 pc18 ln18 y18 z18 : Nat} {tl0 tl1 tl3 tl4 tl7 tl8 tl9 tl10 tl11 tl12 tl13 tl14 tl15 tl18 : List Nat} {v0 v1 v2 v3 v4 v7 v8 v9 v10 v11 v12 v13 v14 v15 v18 : Int32} {cz : Nat} {ez1 ez2 ez3 ez4 : Int} {vv : Int32} (h0 : ix_lo[p]? = some (pc0, ln0, .istore 6, x0, y0, z0, tl0, v0)) (h1 : ix_lo[p+1]? = some (pc1, ln1, .aload_n 2, x1, y1, z1, tl1, v1)) (h2 : ix_lo[p+2]? = some (pc2, ln2, .invokevirtual cz, 153, 0, 1, [12], v2)) (h3 : ix_lo[p+3]? = some (pc3, ln3, .iload 5, x3, y3, z3, tl3, v3)) (h4 : ix_lo[p+4]? = some (pc4, ln4, .if_icmp .eq ez1, (p+7), y4, z4, tl4, v4)) (h7 : ix_lo[p+7]? = some (pc7, ln7, .iload 5, x7, y7, z7, tl7, v7)) (h8 : ix_lo[p+8]? = some (pc8, ln8, .ifCond .ne ez2, (p+18), y8, z8, tl8, v8)) (h9 : ix_lo[p+9]? = some (pc9, ln9, .aload_n 3, x9, y9, z9, tl9, v9)) (h10 : ix_lo[p+10]? = some (pc10, ln10, .iconst (Int.ofNat 0), x10, y10, z10, tl10, v10)) (h11 : ix_lo[p+11]? = some (pc11, ln11, .laload, x11, y11, z11, tl11, v11)) (h12 : ix_lo[p+12]? = some (pc12, ln12, .iload 6, x12, y12, z12, tl12, v12)) (h13 : ix_lo[p+13]? = some (pc13, ln13, .i2l, x13, y13, z13, tl13, v13)) (h14 : ix_lo[p+14]? = some (pc14, ln14, .lcmp, x14, y14, z14, tl14, v14)) (h15 : ix_lo[p+15]? = some (pc15, ln15, .ifCond .eq ez3, (p+18), y15, z15, tl15, v15)) (h18 : ix_lo[p+18]? = some (pc18, ln18, .goto ez4, 1395, y18, z18, tl18, v18)) (hD : 1 ≤ D) (c2 : c ≤ 2) (e0 : h 100 0 = nI c) (e9 : c = 0 → h 99 0 = vv) (H : ∀ g6, px_R px_L D ix_lo [] 1395 (lL i0 (.int (nI c)) g6) [] h k Q) : px_R px_L D ix_lo [] p (lL i0 (.int (nI c)) g6) [.int vv] h k Q := by
  refine w_iS (j := p+1) h0 rfl rfl ?_
  refine w_al (j := p+2) h1 rfl rfl ?_
  refine w_cvQ (j := p+3) (n := 100) h2 rfl rfl rfl rfl rfl rfl (px_LE (by decide) (px_lift' sp_153 hD)) (fun u h' k' q => ?_) (fun u h' k' q => by cases q)
  cases q
  rw [e0]
  refine w_iL (j := p+4) h3 rfl rfl ?_
  refine w_eq (j := p+5) h4 rfl (fun _ => ?_) (fun z => absurd rfl z)
  refine w_iL (j := p+8) h7 rfl rfl ?_
  refine w_neZ (j := p+9) h8 rfl (fun _ => ?_) (fun z => ?_)
  · refine w_go h18 ?_
    exact H _
  · have c0 : c = 0 := (px_neq (by omega) (by omega)).mp (z : nI c = nI 0)
    refine w_al (j := p+10) h9 rfl rfl ?_
    refine w_ic (n := 0) (j := p+11) h10 rfl ?_
    refine w_lal (j := p+12) h11 rfl rfl rfl (by decide) rfl ?_
    refine w_iL (j := p+13) h12 rfl rfl ?_
    refine w_i2l (j := p+14) h13 rfl ?_
    refine w_lcmp (j := p+15) h14 rfl ?_
    rw [e9 c0, lg_self]
    refine w_eqZ (j := p+16) h15 rfl (fun _ => ?_) (fun z => absurd rfl z)
    refine w_go h18 ?_
    exact H _
end LL
