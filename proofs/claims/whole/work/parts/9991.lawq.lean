theorem lx_0 (j : Nat) : ix_lo[0 + j]? = (lo_0 ++ (lo_1 ++ (lo_2 ++ (lo_3 ++ (lo_4 ++ (lo_5 ++ (lo_6 ++ (lo_7 ++ (lo_8 ++ (lo_9 ++ (lo_10 ++ (lo_11 ++ (lo_12 ++ (lo_13 ++ (lo_14 ++ (lo_15 ++ (lo_16 ++ (lo_17 ++ (lo_18 ++ (lo_19 ++ (lo_20 ++ (lo_21 ++ (lo_22 ++ (lo_23 ++ (lo_24 ++ (lo_25 ++ (lo_26 ++ (lo_27))))))))))))))))))))))))))))[j]? := by rw [Nat.zero_add]; rfl
theorem lx_1 (j : Nat) : ix_lo[50 + j]? = (lo_1 ++ (lo_2 ++ (lo_3 ++ (lo_4 ++ (lo_5 ++ (lo_6 ++ (lo_7 ++ (lo_8 ++ (lo_9 ++ (lo_10 ++ (lo_11 ++ (lo_12 ++ (lo_13 ++ (lo_14 ++ (lo_15 ++ (lo_16 ++ (lo_17 ++ (lo_18 ++ (lo_19 ++ (lo_20 ++ (lo_21 ++ (lo_22 ++ (lo_23 ++ (lo_24 ++ (lo_25 ++ (lo_26 ++ (lo_27)))))))))))))))))))))))))))[j]? := by
  have e := lx_0 (50 + j)
  rw [← Nat.add_assoc, List.getElem?_append_right (show (lo_0).length ≤ 50 + j from Nat.le_add_right _ _), show 50 + j - (lo_0).length = j from Nat.add_sub_cancel_left _ _] at e
  exact e
theorem lx_2 (j : Nat) : ix_lo[100 + j]? = (lo_2 ++ (lo_3 ++ (lo_4 ++ (lo_5 ++ (lo_6 ++ (lo_7 ++ (lo_8 ++ (lo_9 ++ (lo_10 ++ (lo_11 ++ (lo_12 ++ (lo_13 ++ (lo_14 ++ (lo_15 ++ (lo_16 ++ (lo_17 ++ (lo_18 ++ (lo_19 ++ (lo_20 ++ (lo_21 ++ (lo_22 ++ (lo_23 ++ (lo_24 ++ (lo_25 ++ (lo_26 ++ (lo_27))))))))))))))))))))))))))[j]? := by
  have e := lx_1 (50 + j)
  rw [← Nat.add_assoc, List.getElem?_append_right (show (lo_1).length ≤ 50 + j from Nat.le_add_right _ _), show 50 + j - (lo_1).length = j from Nat.add_sub_cancel_left _ _] at e
  exact e
theorem lx_3 (j : Nat) : ix_lo[150 + j]? = (lo_3 ++ (lo_4 ++ (lo_5 ++ (lo_6 ++ (lo_7 ++ (lo_8 ++ (lo_9 ++ (lo_10 ++ (lo_11 ++ (lo_12 ++ (lo_13 ++ (lo_14 ++ (lo_15 ++ (lo_16 ++ (lo_17 ++ (lo_18 ++ (lo_19 ++ (lo_20 ++ (lo_21 ++ (lo_22 ++ (lo_23 ++ (lo_24 ++ (lo_25 ++ (lo_26 ++ (lo_27)))))))))))))))))))))))))[j]? := by
  have e := lx_2 (50 + j)
  rw [← Nat.add_assoc, List.getElem?_append_right (show (lo_2).length ≤ 50 + j from Nat.le_add_right _ _), show 50 + j - (lo_2).length = j from Nat.add_sub_cancel_left _ _] at e
  exact e
theorem lx_4 (j : Nat) : ix_lo[200 + j]? = (lo_4 ++ (lo_5 ++ (lo_6 ++ (lo_7 ++ (lo_8 ++ (lo_9 ++ (lo_10 ++ (lo_11 ++ (lo_12 ++ (lo_13 ++ (lo_14 ++ (lo_15 ++ (lo_16 ++ (lo_17 ++ (lo_18 ++ (lo_19 ++ (lo_20 ++ (lo_21 ++ (lo_22 ++ (lo_23 ++ (lo_24 ++ (lo_25 ++ (lo_26 ++ (lo_27))))))))))))))))))))))))[j]? := by
  have e := lx_3 (50 + j)
  rw [← Nat.add_assoc, List.getElem?_append_right (show (lo_3).length ≤ 50 + j from Nat.le_add_right _ _), show 50 + j - (lo_3).length = j from Nat.add_sub_cancel_left _ _] at e
  exact e
theorem lx_5 (j : Nat) : ix_lo[250 + j]? = (lo_5 ++ (lo_6 ++ (lo_7 ++ (lo_8 ++ (lo_9 ++ (lo_10 ++ (lo_11 ++ (lo_12 ++ (lo_13 ++ (lo_14 ++ (lo_15 ++ (lo_16 ++ (lo_17 ++ (lo_18 ++ (lo_19 ++ (lo_20 ++ (lo_21 ++ (lo_22 ++ (lo_23 ++ (lo_24 ++ (lo_25 ++ (lo_26 ++ (lo_27)))))))))))))))))))))))[j]? := by
  have e := lx_4 (50 + j)
  rw [← Nat.add_assoc, List.getElem?_append_right (show (lo_4).length ≤ 50 + j from Nat.le_add_right _ _), show 50 + j - (lo_4).length = j from Nat.add_sub_cancel_left _ _] at e
  exact e
theorem lx_6 (j : Nat) : ix_lo[300 + j]? = (lo_6 ++ (lo_7 ++ (lo_8 ++ (lo_9 ++ (lo_10 ++ (lo_11 ++ (lo_12 ++ (lo_13 ++ (lo_14 ++ (lo_15 ++ (lo_16 ++ (lo_17 ++ (lo_18 ++ (lo_19 ++ (lo_20 ++ (lo_21 ++ (lo_22 ++ (lo_23 ++ (lo_24 ++ (lo_25 ++ (lo_26 ++ (lo_27))))))))))))))))))))))[j]? := by
  have e := lx_5 (50 + j)
  rw [← Nat.add_assoc, List.getElem?_append_right (show (lo_5).length ≤ 50 + j from Nat.le_add_right _ _), show 50 + j - (lo_5).length = j from Nat.add_sub_cancel_left _ _] at e
  exact e
theorem lx_7 (j : Nat) : ix_lo[350 + j]? = (lo_7 ++ (lo_8 ++ (lo_9 ++ (lo_10 ++ (lo_11 ++ (lo_12 ++ (lo_13 ++ (lo_14 ++ (lo_15 ++ (lo_16 ++ (lo_17 ++ (lo_18 ++ (lo_19 ++ (lo_20 ++ (lo_21 ++ (lo_22 ++ (lo_23 ++ (lo_24 ++ (lo_25 ++ (lo_26 ++ (lo_27)))))))))))))))))))))[j]? := by
  have e := lx_6 (50 + j)
  rw [← Nat.add_assoc, List.getElem?_append_right (show (lo_6).length ≤ 50 + j from Nat.le_add_right _ _), show 50 + j - (lo_6).length = j from Nat.add_sub_cancel_left _ _] at e
  exact e
theorem lx_8 (j : Nat) : ix_lo[400 + j]? = (lo_8 ++ (lo_9 ++ (lo_10 ++ (lo_11 ++ (lo_12 ++ (lo_13 ++ (lo_14 ++ (lo_15 ++ (lo_16 ++ (lo_17 ++ (lo_18 ++ (lo_19 ++ (lo_20 ++ (lo_21 ++ (lo_22 ++ (lo_23 ++ (lo_24 ++ (lo_25 ++ (lo_26 ++ (lo_27))))))))))))))))))))[j]? := by
  have e := lx_7 (50 + j)
  rw [← Nat.add_assoc, List.getElem?_append_right (show (lo_7).length ≤ 50 + j from Nat.le_add_right _ _), show 50 + j - (lo_7).length = j from Nat.add_sub_cancel_left _ _] at e
  exact e
theorem lx_9 (j : Nat) : ix_lo[450 + j]? = (lo_9 ++ (lo_10 ++ (lo_11 ++ (lo_12 ++ (lo_13 ++ (lo_14 ++ (lo_15 ++ (lo_16 ++ (lo_17 ++ (lo_18 ++ (lo_19 ++ (lo_20 ++ (lo_21 ++ (lo_22 ++ (lo_23 ++ (lo_24 ++ (lo_25 ++ (lo_26 ++ (lo_27)))))))))))))))))))[j]? := by
  have e := lx_8 (50 + j)
  rw [← Nat.add_assoc, List.getElem?_append_right (show (lo_8).length ≤ 50 + j from Nat.le_add_right _ _), show 50 + j - (lo_8).length = j from Nat.add_sub_cancel_left _ _] at e
  exact e
theorem lx_10 (j : Nat) : ix_lo[500 + j]? = (lo_10 ++ (lo_11 ++ (lo_12 ++ (lo_13 ++ (lo_14 ++ (lo_15 ++ (lo_16 ++ (lo_17 ++ (lo_18 ++ (lo_19 ++ (lo_20 ++ (lo_21 ++ (lo_22 ++ (lo_23 ++ (lo_24 ++ (lo_25 ++ (lo_26 ++ (lo_27))))))))))))))))))[j]? := by
  have e := lx_9 (50 + j)
  rw [← Nat.add_assoc, List.getElem?_append_right (show (lo_9).length ≤ 50 + j from Nat.le_add_right _ _), show 50 + j - (lo_9).length = j from Nat.add_sub_cancel_left _ _] at e
  exact e
theorem lx_11 (j : Nat) : ix_lo[550 + j]? = (lo_11 ++ (lo_12 ++ (lo_13 ++ (lo_14 ++ (lo_15 ++ (lo_16 ++ (lo_17 ++ (lo_18 ++ (lo_19 ++ (lo_20 ++ (lo_21 ++ (lo_22 ++ (lo_23 ++ (lo_24 ++ (lo_25 ++ (lo_26 ++ (lo_27)))))))))))))))))[j]? := by
  have e := lx_10 (50 + j)
  rw [← Nat.add_assoc, List.getElem?_append_right (show (lo_10).length ≤ 50 + j from Nat.le_add_right _ _), show 50 + j - (lo_10).length = j from Nat.add_sub_cancel_left _ _] at e
  exact e
theorem lx_12 (j : Nat) : ix_lo[600 + j]? = (lo_12 ++ (lo_13 ++ (lo_14 ++ (lo_15 ++ (lo_16 ++ (lo_17 ++ (lo_18 ++ (lo_19 ++ (lo_20 ++ (lo_21 ++ (lo_22 ++ (lo_23 ++ (lo_24 ++ (lo_25 ++ (lo_26 ++ (lo_27))))))))))))))))[j]? := by
  have e := lx_11 (50 + j)
  rw [← Nat.add_assoc, List.getElem?_append_right (show (lo_11).length ≤ 50 + j from Nat.le_add_right _ _), show 50 + j - (lo_11).length = j from Nat.add_sub_cancel_left _ _] at e
  exact e
theorem lx_13 (j : Nat) : ix_lo[650 + j]? = (lo_13 ++ (lo_14 ++ (lo_15 ++ (lo_16 ++ (lo_17 ++ (lo_18 ++ (lo_19 ++ (lo_20 ++ (lo_21 ++ (lo_22 ++ (lo_23 ++ (lo_24 ++ (lo_25 ++ (lo_26 ++ (lo_27)))))))))))))))[j]? := by
  have e := lx_12 (50 + j)
  rw [← Nat.add_assoc, List.getElem?_append_right (show (lo_12).length ≤ 50 + j from Nat.le_add_right _ _), show 50 + j - (lo_12).length = j from Nat.add_sub_cancel_left _ _] at e
  exact e
theorem lx_14 (j : Nat) : ix_lo[700 + j]? = (lo_14 ++ (lo_15 ++ (lo_16 ++ (lo_17 ++ (lo_18 ++ (lo_19 ++ (lo_20 ++ (lo_21 ++ (lo_22 ++ (lo_23 ++ (lo_24 ++ (lo_25 ++ (lo_26 ++ (lo_27))))))))))))))[j]? := by
  have e := lx_13 (50 + j)
  rw [← Nat.add_assoc, List.getElem?_append_right (show (lo_13).length ≤ 50 + j from Nat.le_add_right _ _), show 50 + j - (lo_13).length = j from Nat.add_sub_cancel_left _ _] at e
  exact e
theorem lx_15 (j : Nat) : ix_lo[750 + j]? = (lo_15 ++ (lo_16 ++ (lo_17 ++ (lo_18 ++ (lo_19 ++ (lo_20 ++ (lo_21 ++ (lo_22 ++ (lo_23 ++ (lo_24 ++ (lo_25 ++ (lo_26 ++ (lo_27)))))))))))))[j]? := by
  have e := lx_14 (50 + j)
  rw [← Nat.add_assoc, List.getElem?_append_right (show (lo_14).length ≤ 50 + j from Nat.le_add_right _ _), show 50 + j - (lo_14).length = j from Nat.add_sub_cancel_left _ _] at e
  exact e
theorem lx_16 (j : Nat) : ix_lo[800 + j]? = (lo_16 ++ (lo_17 ++ (lo_18 ++ (lo_19 ++ (lo_20 ++ (lo_21 ++ (lo_22 ++ (lo_23 ++ (lo_24 ++ (lo_25 ++ (lo_26 ++ (lo_27))))))))))))[j]? := by
  have e := lx_15 (50 + j)
  rw [← Nat.add_assoc, List.getElem?_append_right (show (lo_15).length ≤ 50 + j from Nat.le_add_right _ _), show 50 + j - (lo_15).length = j from Nat.add_sub_cancel_left _ _] at e
  exact e
theorem lx_17 (j : Nat) : ix_lo[850 + j]? = (lo_17 ++ (lo_18 ++ (lo_19 ++ (lo_20 ++ (lo_21 ++ (lo_22 ++ (lo_23 ++ (lo_24 ++ (lo_25 ++ (lo_26 ++ (lo_27)))))))))))[j]? := by
  have e := lx_16 (50 + j)
  rw [← Nat.add_assoc, List.getElem?_append_right (show (lo_16).length ≤ 50 + j from Nat.le_add_right _ _), show 50 + j - (lo_16).length = j from Nat.add_sub_cancel_left _ _] at e
  exact e
theorem lx_18 (j : Nat) : ix_lo[900 + j]? = (lo_18 ++ (lo_19 ++ (lo_20 ++ (lo_21 ++ (lo_22 ++ (lo_23 ++ (lo_24 ++ (lo_25 ++ (lo_26 ++ (lo_27))))))))))[j]? := by
  have e := lx_17 (50 + j)
  rw [← Nat.add_assoc, List.getElem?_append_right (show (lo_17).length ≤ 50 + j from Nat.le_add_right _ _), show 50 + j - (lo_17).length = j from Nat.add_sub_cancel_left _ _] at e
  exact e
theorem lx_19 (j : Nat) : ix_lo[950 + j]? = (lo_19 ++ (lo_20 ++ (lo_21 ++ (lo_22 ++ (lo_23 ++ (lo_24 ++ (lo_25 ++ (lo_26 ++ (lo_27)))))))))[j]? := by
  have e := lx_18 (50 + j)
  rw [← Nat.add_assoc, List.getElem?_append_right (show (lo_18).length ≤ 50 + j from Nat.le_add_right _ _), show 50 + j - (lo_18).length = j from Nat.add_sub_cancel_left _ _] at e
  exact e
theorem lx_20 (j : Nat) : ix_lo[1000 + j]? = (lo_20 ++ (lo_21 ++ (lo_22 ++ (lo_23 ++ (lo_24 ++ (lo_25 ++ (lo_26 ++ (lo_27))))))))[j]? := by
  have e := lx_19 (50 + j)
  rw [← Nat.add_assoc, List.getElem?_append_right (show (lo_19).length ≤ 50 + j from Nat.le_add_right _ _), show 50 + j - (lo_19).length = j from Nat.add_sub_cancel_left _ _] at e
  exact e
theorem lx_21 (j : Nat) : ix_lo[1050 + j]? = (lo_21 ++ (lo_22 ++ (lo_23 ++ (lo_24 ++ (lo_25 ++ (lo_26 ++ (lo_27)))))))[j]? := by
  have e := lx_20 (50 + j)
  rw [← Nat.add_assoc, List.getElem?_append_right (show (lo_20).length ≤ 50 + j from Nat.le_add_right _ _), show 50 + j - (lo_20).length = j from Nat.add_sub_cancel_left _ _] at e
  exact e
theorem lx_22 (j : Nat) : ix_lo[1100 + j]? = (lo_22 ++ (lo_23 ++ (lo_24 ++ (lo_25 ++ (lo_26 ++ (lo_27))))))[j]? := by
  have e := lx_21 (50 + j)
  rw [← Nat.add_assoc, List.getElem?_append_right (show (lo_21).length ≤ 50 + j from Nat.le_add_right _ _), show 50 + j - (lo_21).length = j from Nat.add_sub_cancel_left _ _] at e
  exact e
theorem lx_23 (j : Nat) : ix_lo[1150 + j]? = (lo_23 ++ (lo_24 ++ (lo_25 ++ (lo_26 ++ (lo_27)))))[j]? := by
  have e := lx_22 (50 + j)
  rw [← Nat.add_assoc, List.getElem?_append_right (show (lo_22).length ≤ 50 + j from Nat.le_add_right _ _), show 50 + j - (lo_22).length = j from Nat.add_sub_cancel_left _ _] at e
  exact e
theorem lx_24 (j : Nat) : ix_lo[1200 + j]? = (lo_24 ++ (lo_25 ++ (lo_26 ++ (lo_27))))[j]? := by
  have e := lx_23 (50 + j)
  rw [← Nat.add_assoc, List.getElem?_append_right (show (lo_23).length ≤ 50 + j from Nat.le_add_right _ _), show 50 + j - (lo_23).length = j from Nat.add_sub_cancel_left _ _] at e
  exact e
theorem lx_25 (j : Nat) : ix_lo[1250 + j]? = (lo_25 ++ (lo_26 ++ (lo_27)))[j]? := by
  have e := lx_24 (50 + j)
  rw [← Nat.add_assoc, List.getElem?_append_right (show (lo_24).length ≤ 50 + j from Nat.le_add_right _ _), show 50 + j - (lo_24).length = j from Nat.add_sub_cancel_left _ _] at e
  exact e
theorem lx_26 (j : Nat) : ix_lo[1300 + j]? = (lo_26 ++ (lo_27))[j]? := by
  have e := lx_25 (50 + j)
  rw [← Nat.add_assoc, List.getElem?_append_right (show (lo_25).length ≤ 50 + j from Nat.le_add_right _ _), show 50 + j - (lo_25).length = j from Nat.add_sub_cancel_left _ _] at e
  exact e
theorem lx_27 (j : Nat) : ix_lo[1350 + j]? = (lo_27)[j]? := by
  have e := lx_26 (50 + j)
  rw [← Nat.add_assoc, List.getElem?_append_right (show (lo_26).length ≤ 50 + j from Nat.le_add_right _ _), show 50 + j - (lo_26).length = j from Nat.add_sub_cancel_left _ _] at e
  exact e
theorem lq_0 : ix_lo[0]? = some (0, 3, .new 8, 0, 0, 0, [], 0) := (lx_0 0).trans rfl
theorem lq_1 : ix_lo[1]? = some (3, 1, .dup, 0, 0, 0, [], 0) := (lx_0 1).trans rfl
theorem lq_2 : ix_lo[2]? = some (4, 3, .invokespecial 97, 0, 0, 0, [], 0) := (lx_0 2).trans rfl
theorem lq_3 : ix_lo[3]? = some (7, 1, .astore_n 1, 0, 0, 0, [], 0) := (lx_0 3).trans rfl
theorem lq_4 : ix_lo[4]? = some (8, 3, .new 98, 0, 0, 0, [], 0) := (lx_0 4).trans rfl
theorem lq_5 : ix_lo[5]? = some (11, 1, .dup, 0, 0, 0, [], 0) := (lx_0 5).trans rfl
theorem lq_6 : ix_lo[6]? = some (12, 3, .invokespecial 100, 0, 0, 0, [], 0) := (lx_0 6).trans rfl
theorem lq_7 : ix_lo[7]? = some (15, 1, .astore_n 2, 0, 0, 0, [], 0) := (lx_0 7).trans rfl
theorem lq_8 : ix_lo[8]? = some (16, 1, .iconst 1, 0, 0, 0, [], 0) := (lx_0 8).trans rfl
theorem lq_9 : ix_lo[9]? = some (17, 2, .newarray .long, 0, 0, 0, [], 0) := (lx_0 9).trans rfl
theorem lq_10 : ix_lo[10]? = some (19, 1, .astore_n 3, 0, 0, 0, [], 0) := (lx_0 10).trans rfl
theorem lq_11 : ix_lo[11]? = some (20, 1, .iconst 0, 0, 0, 0, [], 0) := (lx_0 11).trans rfl
theorem lq_12 : ix_lo[12]? = some (21, 2, .istore 4, 0, 0, 0, [], 0) := (lx_0 12).trans rfl
theorem lq_13 : ix_lo[13]? = some (23, 2, .iload 4, 0, 0, 0, [], 0) := (lx_0 13).trans rfl
theorem lq_14 : ix_lo[14]? = some (25, 1, .aload_n 0, 0, 0, 0, [], 0) := (lx_0 14).trans rfl
theorem lq_15 : ix_lo[15]? = some (26, 1, .arraylength, 0, 0, 0, [], 0) := (lx_0 15).trans rfl
theorem lq_16 : ix_lo[16]? = some (27, 2, .bipush 9, 0, 0, 0, [], 0) := (lx_0 16).trans rfl
theorem lq_17 : ix_lo[17]? = some (29, 1, .isub, 0, 0, 0, [], 0) := (lx_0 17).trans rfl
theorem lq_18 : ix_lo[18]? = some (30, 3, .if_icmp .gt 2240, 1397, 0, 0, [], 0) := (lx_0 18).trans rfl
theorem lq_19 : ix_lo[19]? = some (33, 1, .aload_n 0, 0, 0, 0, [], 0) := (lx_0 19).trans rfl
theorem lq_20 : ix_lo[20]? = some (34, 2, .iload 4, 0, 0, 0, [], 0) := (lx_0 20).trans rfl
theorem lq_21 : ix_lo[21]? = some (36, 1, .iaload, 0, 0, 0, [], 0) := (lx_0 21).trans rfl
theorem lq_22 : ix_lo[22]? = some (37, 2, .bipush 63, 0, 0, 0, [], 0) := (lx_0 22).trans rfl
theorem lq_23 : ix_lo[23]? = some (39, 1, .iand, 0, 0, 0, [], 0) := (lx_0 23).trans rfl
theorem lq_24 : ix_lo[24]? = some (40, 160, .tableswitch 2224 0 35 #[160, 233, 289, 345, 401, 457, 470, 483, 539, 607, 675, 821, 889, 945, 1001, 1057, 1125, 1181, 1237, 1305, 1373, 1441, 1521, 1589, 1602, 1682, 1762, 1818, 1886, 1899, 1912, 2016, 2148, 2161, 2174, 2199], 1395, 0, 0, [25, 82, 117, 152, 187, 222, 229, 236, 271, 316, 361, 466, 511, 546, 581, 616, 661, 696, 731, 776, 821, 866, 921, 966, 973, 1028, 1083, 1118, 1163, 1170, 1177, 1252, 1347, 1354, 1361, 1378], 0) := (lx_0 24).trans rfl
theorem lq_25 : ix_lo[25]? = some (200, 1, .aload_n 1, 0, 0, 0, [], 0) := (lx_0 25).trans rfl
theorem lq_26 : ix_lo[26]? = some (201, 1, .aload_n 0, 0, 0, 0, [], 0) := (lx_0 26).trans rfl
theorem lq_27 : ix_lo[27]? = some (202, 2, .iload 4, 0, 0, 0, [], 0) := (lx_0 27).trans rfl
theorem lq_28 : ix_lo[28]? = some (204, 1, .iconst 1, 0, 0, 0, [], 0) := (lx_0 28).trans rfl
theorem lq_29 : ix_lo[29]? = some (205, 1, .iadd, 0, 0, 0, [], 0) := (lx_0 29).trans rfl
theorem lq_30 : ix_lo[30]? = some (206, 1, .iaload, 0, 0, 0, [], 0) := (lx_0 30).trans rfl
theorem lq_31 : ix_lo[31]? = some (207, 1, .aload_n 0, 0, 0, 0, [], 0) := (lx_0 31).trans rfl
theorem lq_32 : ix_lo[32]? = some (208, 2, .iload 4, 0, 0, 0, [], 0) := (lx_0 32).trans rfl
theorem lq_33 : ix_lo[33]? = some (210, 1, .iconst 2, 0, 0, 0, [], 0) := (lx_0 33).trans rfl
theorem lq_34 : ix_lo[34]? = some (211, 1, .iadd, 0, 0, 0, [], 0) := (lx_0 34).trans rfl
theorem lq_35 : ix_lo[35]? = some (212, 1, .iaload, 0, 0, 0, [], 0) := (lx_0 35).trans rfl
theorem lq_36 : ix_lo[36]? = some (213, 1, .aload_n 0, 0, 0, 0, [], 0) := (lx_0 36).trans rfl
theorem lq_37 : ix_lo[37]? = some (214, 2, .iload 4, 0, 0, 0, [], 0) := (lx_0 37).trans rfl
theorem lq_38 : ix_lo[38]? = some (216, 1, .iconst 3, 0, 0, 0, [], 0) := (lx_0 38).trans rfl
theorem lq_39 : ix_lo[39]? = some (217, 1, .iadd, 0, 0, 0, [], 0) := (lx_0 39).trans rfl
theorem lq_40 : ix_lo[40]? = some (218, 1, .iaload, 0, 0, 0, [], 0) := (lx_0 40).trans rfl
theorem lq_41 : ix_lo[41]? = some (219, 1, .aload_n 0, 0, 0, 0, [], 0) := (lx_0 41).trans rfl
theorem lq_42 : ix_lo[42]? = some (220, 2, .iload 4, 0, 0, 0, [], 0) := (lx_0 42).trans rfl
theorem lq_43 : ix_lo[43]? = some (222, 1, .iconst 4, 0, 0, 0, [], 0) := (lx_0 43).trans rfl
theorem lq_44 : ix_lo[44]? = some (223, 1, .iadd, 0, 0, 0, [], 0) := (lx_0 44).trans rfl
theorem lq_45 : ix_lo[45]? = some (224, 1, .iaload, 0, 0, 0, [], 0) := (lx_0 45).trans rfl
theorem lq_46 : ix_lo[46]? = some (225, 1, .aload_n 0, 0, 0, 0, [], 0) := (lx_0 46).trans rfl
theorem lq_47 : ix_lo[47]? = some (226, 2, .iload 4, 0, 0, 0, [], 0) := (lx_0 47).trans rfl
theorem lq_48 : ix_lo[48]? = some (228, 1, .iconst 5, 0, 0, 0, [], 0) := (lx_0 48).trans rfl
theorem lq_49 : ix_lo[49]? = some (229, 1, .iadd, 0, 0, 0, [], 0) := (lx_0 49).trans rfl
theorem lq_50 : ix_lo[50]? = some (230, 1, .iaload, 0, 0, 0, [], 0) := (lx_1 0).trans rfl
theorem lq_51 : ix_lo[51]? = some (231, 3, .invokevirtual 101, 102, 0, 6, [11], 0) := (lx_1 1).trans rfl
theorem lq_52 : ix_lo[52]? = some (234, 1, .aload_n 2, 0, 0, 0, [], 0) := (lx_1 2).trans rfl
theorem lq_53 : ix_lo[53]? = some (235, 1, .aload_n 0, 0, 0, 0, [], 0) := (lx_1 3).trans rfl
theorem lq_54 : ix_lo[54]? = some (236, 2, .iload 4, 0, 0, 0, [], 0) := (lx_1 4).trans rfl
theorem lq_55 : ix_lo[55]? = some (238, 1, .iconst 1, 0, 0, 0, [], 0) := (lx_1 5).trans rfl
theorem lq_56 : ix_lo[56]? = some (239, 1, .iadd, 0, 0, 0, [], 0) := (lx_1 6).trans rfl
theorem lq_57 : ix_lo[57]? = some (240, 1, .iaload, 0, 0, 0, [], 0) := (lx_1 7).trans rfl
theorem lq_58 : ix_lo[58]? = some (241, 1, .aload_n 0, 0, 0, 0, [], 0) := (lx_1 8).trans rfl
theorem lq_59 : ix_lo[59]? = some (242, 2, .iload 4, 0, 0, 0, [], 0) := (lx_1 9).trans rfl
theorem lq_60 : ix_lo[60]? = some (244, 1, .iconst 2, 0, 0, 0, [], 0) := (lx_1 10).trans rfl
theorem lq_61 : ix_lo[61]? = some (245, 1, .iadd, 0, 0, 0, [], 0) := (lx_1 11).trans rfl
theorem lq_62 : ix_lo[62]? = some (246, 1, .iaload, 0, 0, 0, [], 0) := (lx_1 12).trans rfl
theorem lq_63 : ix_lo[63]? = some (247, 1, .aload_n 0, 0, 0, 0, [], 0) := (lx_1 13).trans rfl
theorem lq_64 : ix_lo[64]? = some (248, 2, .iload 4, 0, 0, 0, [], 0) := (lx_1 14).trans rfl
theorem lq_65 : ix_lo[65]? = some (250, 1, .iconst 3, 0, 0, 0, [], 0) := (lx_1 15).trans rfl
theorem lq_66 : ix_lo[66]? = some (251, 1, .iadd, 0, 0, 0, [], 0) := (lx_1 16).trans rfl
theorem lq_67 : ix_lo[67]? = some (252, 1, .iaload, 0, 0, 0, [], 0) := (lx_1 17).trans rfl
theorem lq_68 : ix_lo[68]? = some (253, 1, .aload_n 0, 0, 0, 0, [], 0) := (lx_1 18).trans rfl
theorem lq_69 : ix_lo[69]? = some (254, 2, .iload 4, 0, 0, 0, [], 0) := (lx_1 19).trans rfl
theorem lq_70 : ix_lo[70]? = some (256, 1, .iconst 4, 0, 0, 0, [], 0) := (lx_1 20).trans rfl
theorem lq_71 : ix_lo[71]? = some (257, 1, .iadd, 0, 0, 0, [], 0) := (lx_1 21).trans rfl
theorem lq_72 : ix_lo[72]? = some (258, 1, .iaload, 0, 0, 0, [], 0) := (lx_1 22).trans rfl
theorem lq_73 : ix_lo[73]? = some (259, 1, .aload_n 0, 0, 0, 0, [], 0) := (lx_1 23).trans rfl
theorem lq_74 : ix_lo[74]? = some (260, 2, .iload 4, 0, 0, 0, [], 0) := (lx_1 24).trans rfl
theorem lq_75 : ix_lo[75]? = some (262, 1, .iconst 5, 0, 0, 0, [], 0) := (lx_1 25).trans rfl
theorem lq_76 : ix_lo[76]? = some (263, 1, .iadd, 0, 0, 0, [], 0) := (lx_1 26).trans rfl
theorem lq_77 : ix_lo[77]? = some (264, 1, .iaload, 0, 0, 0, [], 0) := (lx_1 27).trans rfl
theorem lq_78 : ix_lo[78]? = some (265, 3, .invokevirtual 104, 159, 0, 6, [12], 0) := (lx_1 28).trans rfl
theorem lq_79 : ix_lo[79]? = some (268, 3, .if_icmp .eq 1996, 1395, 0, 0, [], 0) := (lx_1 29).trans rfl
theorem lq_80 : ix_lo[80]? = some (271, 1, .iconst 0, 0, 0, 0, [], 0) := (lx_1 30).trans rfl
theorem lq_81 : ix_lo[81]? = some (272, 1, .ireturn, 1, 0, 0, [], 0) := (lx_1 31).trans rfl
theorem lq_82 : ix_lo[82]? = some (273, 1, .aload_n 1, 0, 0, 0, [], 0) := (lx_1 32).trans rfl
theorem lq_83 : ix_lo[83]? = some (274, 1, .aload_n 0, 0, 0, 0, [], 0) := (lx_1 33).trans rfl
theorem lq_84 : ix_lo[84]? = some (275, 2, .iload 4, 0, 0, 0, [], 0) := (lx_1 34).trans rfl
theorem lq_85 : ix_lo[85]? = some (277, 1, .iconst 1, 0, 0, 0, [], 0) := (lx_1 35).trans rfl
theorem lq_86 : ix_lo[86]? = some (278, 1, .iadd, 0, 0, 0, [], 0) := (lx_1 36).trans rfl
theorem lq_87 : ix_lo[87]? = some (279, 1, .iaload, 0, 0, 0, [], 0) := (lx_1 37).trans rfl
theorem lq_88 : ix_lo[88]? = some (280, 1, .aload_n 3, 0, 0, 0, [], 0) := (lx_1 38).trans rfl
theorem lq_89 : ix_lo[89]? = some (281, 3, .invokestatic 105, 260, 3, 3, [], 0) := (lx_1 39).trans rfl
theorem lq_90 : ix_lo[90]? = some (284, 2, .istore 5, 0, 0, 0, [], 0) := (lx_1 40).trans rfl
theorem lq_91 : ix_lo[91]? = some (286, 1, .aload_n 2, 0, 0, 0, [], 0) := (lx_1 41).trans rfl
theorem lq_92 : ix_lo[92]? = some (287, 1, .aload_n 0, 0, 0, 0, [], 0) := (lx_1 42).trans rfl
theorem lq_93 : ix_lo[93]? = some (288, 2, .iload 4, 0, 0, 0, [], 0) := (lx_1 43).trans rfl
theorem lq_94 : ix_lo[94]? = some (290, 1, .iconst 1, 0, 0, 0, [], 0) := (lx_1 44).trans rfl
theorem lq_95 : ix_lo[95]? = some (291, 1, .iadd, 0, 0, 0, [], 0) := (lx_1 45).trans rfl
theorem lq_96 : ix_lo[96]? = some (292, 1, .iaload, 0, 0, 0, [], 0) := (lx_1 46).trans rfl
theorem lq_97 : ix_lo[97]? = some (293, 3, .invokevirtual 110, 177, 0, 2, [12], 0) := (lx_1 47).trans rfl
theorem lq_98 : ix_lo[98]? = some (296, 2, .istore 6, 0, 0, 0, [], 0) := (lx_1 48).trans rfl
theorem lq_99 : ix_lo[99]? = some (298, 1, .aload_n 2, 0, 0, 0, [], 0) := (lx_1 49).trans rfl
theorem lq_100 : ix_lo[100]? = some (299, 3, .invokevirtual 111, 153, 0, 1, [12], 0) := (lx_2 0).trans rfl
theorem lq_101 : ix_lo[101]? = some (302, 2, .iload 5, 0, 0, 0, [], 0) := (lx_2 1).trans rfl
theorem lq_102 : ix_lo[102]? = some (304, 3, .if_icmp .eq 5, 105, 0, 0, [], 0) := (lx_2 2).trans rfl
theorem lq_103 : ix_lo[103]? = some (307, 1, .iconst 0, 0, 0, 0, [], 0) := (lx_2 3).trans rfl
theorem lq_104 : ix_lo[104]? = some (308, 1, .ireturn, 1, 0, 0, [], 0) := (lx_2 4).trans rfl
theorem lq_105 : ix_lo[105]? = some (309, 2, .iload 5, 0, 0, 0, [], 0) := (lx_2 5).trans rfl
theorem lq_106 : ix_lo[106]? = some (311, 3, .ifCond .ne 15, 116, 0, 0, [], 0) := (lx_2 6).trans rfl
theorem lq_107 : ix_lo[107]? = some (314, 1, .aload_n 3, 0, 0, 0, [], 0) := (lx_2 7).trans rfl
theorem lq_108 : ix_lo[108]? = some (315, 1, .iconst 0, 0, 0, 0, [], 0) := (lx_2 8).trans rfl
theorem lq_109 : ix_lo[109]? = some (316, 1, .laload, 0, 0, 0, [], 0) := (lx_2 9).trans rfl
theorem lq_110 : ix_lo[110]? = some (317, 2, .iload 6, 0, 0, 0, [], 0) := (lx_2 10).trans rfl
theorem lq_111 : ix_lo[111]? = some (319, 1, .i2l, 0, 0, 0, [], 0) := (lx_2 11).trans rfl
theorem lq_112 : ix_lo[112]? = some (320, 1, .lcmp, 0, 0, 0, [], 0) := (lx_2 12).trans rfl
theorem lq_113 : ix_lo[113]? = some (321, 3, .ifCond .eq 5, 116, 0, 0, [], 0) := (lx_2 13).trans rfl
theorem lq_114 : ix_lo[114]? = some (324, 1, .iconst 0, 0, 0, 0, [], 0) := (lx_2 14).trans rfl
theorem lq_115 : ix_lo[115]? = some (325, 1, .ireturn, 1, 0, 0, [], 0) := (lx_2 15).trans rfl
theorem lq_116 : ix_lo[116]? = some (326, 3, .goto 1938, 1395, 0, 0, [], 0) := (lx_2 16).trans rfl
theorem lq_117 : ix_lo[117]? = some (329, 1, .aload_n 1, 0, 0, 0, [], 0) := (lx_2 17).trans rfl
theorem lq_118 : ix_lo[118]? = some (330, 1, .aload_n 0, 0, 0, 0, [], 0) := (lx_2 18).trans rfl
theorem lq_119 : ix_lo[119]? = some (331, 2, .iload 4, 0, 0, 0, [], 0) := (lx_2 19).trans rfl
theorem lq_120 : ix_lo[120]? = some (333, 1, .iconst 1, 0, 0, 0, [], 0) := (lx_2 20).trans rfl
theorem lq_121 : ix_lo[121]? = some (334, 1, .iadd, 0, 0, 0, [], 0) := (lx_2 21).trans rfl
theorem lq_122 : ix_lo[122]? = some (335, 1, .iaload, 0, 0, 0, [], 0) := (lx_2 22).trans rfl
theorem lq_123 : ix_lo[123]? = some (336, 1, .aload_n 3, 0, 0, 0, [], 0) := (lx_2 23).trans rfl
theorem lq_124 : ix_lo[124]? = some (337, 3, .invokestatic 115, 261, 3, 3, [], 0) := (lx_2 24).trans rfl
theorem lq_125 : ix_lo[125]? = some (340, 2, .istore 5, 0, 0, 0, [], 0) := (lx_2 25).trans rfl
theorem lq_126 : ix_lo[126]? = some (342, 1, .aload_n 2, 0, 0, 0, [], 0) := (lx_2 26).trans rfl
theorem lq_127 : ix_lo[127]? = some (343, 1, .aload_n 0, 0, 0, 0, [], 0) := (lx_2 27).trans rfl
theorem lq_128 : ix_lo[128]? = some (344, 2, .iload 4, 0, 0, 0, [], 0) := (lx_2 28).trans rfl
theorem lq_129 : ix_lo[129]? = some (346, 1, .iconst 1, 0, 0, 0, [], 0) := (lx_2 29).trans rfl
theorem lq_130 : ix_lo[130]? = some (347, 1, .iadd, 0, 0, 0, [], 0) := (lx_2 30).trans rfl
theorem lq_131 : ix_lo[131]? = some (348, 1, .iaload, 0, 0, 0, [], 0) := (lx_2 31).trans rfl
theorem lq_132 : ix_lo[132]? = some (349, 3, .invokevirtual 117, 189, 0, 2, [12], 0) := (lx_2 32).trans rfl
theorem lq_133 : ix_lo[133]? = some (352, 2, .istore 6, 0, 0, 0, [], 0) := (lx_2 33).trans rfl
theorem lq_134 : ix_lo[134]? = some (354, 1, .aload_n 2, 0, 0, 0, [], 0) := (lx_2 34).trans rfl
theorem lq_135 : ix_lo[135]? = some (355, 3, .invokevirtual 111, 153, 0, 1, [12], 0) := (lx_2 35).trans rfl
theorem lq_136 : ix_lo[136]? = some (358, 2, .iload 5, 0, 0, 0, [], 0) := (lx_2 36).trans rfl
theorem lq_137 : ix_lo[137]? = some (360, 3, .if_icmp .eq 5, 140, 0, 0, [], 0) := (lx_2 37).trans rfl
theorem lq_138 : ix_lo[138]? = some (363, 1, .iconst 0, 0, 0, 0, [], 0) := (lx_2 38).trans rfl
theorem lq_139 : ix_lo[139]? = some (364, 1, .ireturn, 1, 0, 0, [], 0) := (lx_2 39).trans rfl
theorem lq_140 : ix_lo[140]? = some (365, 2, .iload 5, 0, 0, 0, [], 0) := (lx_2 40).trans rfl
theorem lq_141 : ix_lo[141]? = some (367, 3, .ifCond .ne 15, 151, 0, 0, [], 0) := (lx_2 41).trans rfl
theorem lq_142 : ix_lo[142]? = some (370, 1, .aload_n 3, 0, 0, 0, [], 0) := (lx_2 42).trans rfl
theorem lq_143 : ix_lo[143]? = some (371, 1, .iconst 0, 0, 0, 0, [], 0) := (lx_2 43).trans rfl
theorem lq_144 : ix_lo[144]? = some (372, 1, .laload, 0, 0, 0, [], 0) := (lx_2 44).trans rfl
theorem lq_145 : ix_lo[145]? = some (373, 2, .iload 6, 0, 0, 0, [], 0) := (lx_2 45).trans rfl
theorem lq_146 : ix_lo[146]? = some (375, 1, .i2l, 0, 0, 0, [], 0) := (lx_2 46).trans rfl
theorem lq_147 : ix_lo[147]? = some (376, 1, .lcmp, 0, 0, 0, [], 0) := (lx_2 47).trans rfl
theorem lq_148 : ix_lo[148]? = some (377, 3, .ifCond .eq 5, 151, 0, 0, [], 0) := (lx_2 48).trans rfl
theorem lq_149 : ix_lo[149]? = some (380, 1, .iconst 0, 0, 0, 0, [], 0) := (lx_2 49).trans rfl
theorem lq_150 : ix_lo[150]? = some (381, 1, .ireturn, 1, 0, 0, [], 0) := (lx_3 0).trans rfl
theorem lq_151 : ix_lo[151]? = some (382, 3, .goto 1882, 1395, 0, 0, [], 0) := (lx_3 1).trans rfl
theorem lq_152 : ix_lo[152]? = some (385, 1, .aload_n 1, 0, 0, 0, [], 0) := (lx_3 2).trans rfl
theorem lq_153 : ix_lo[153]? = some (386, 1, .aload_n 0, 0, 0, 0, [], 0) := (lx_3 3).trans rfl
theorem lq_154 : ix_lo[154]? = some (387, 2, .iload 4, 0, 0, 0, [], 0) := (lx_3 4).trans rfl
theorem lq_155 : ix_lo[155]? = some (389, 1, .iconst 1, 0, 0, 0, [], 0) := (lx_3 5).trans rfl
theorem lq_156 : ix_lo[156]? = some (390, 1, .iadd, 0, 0, 0, [], 0) := (lx_3 6).trans rfl
theorem lq_157 : ix_lo[157]? = some (391, 1, .iaload, 0, 0, 0, [], 0) := (lx_3 7).trans rfl
theorem lq_158 : ix_lo[158]? = some (392, 1, .aload_n 3, 0, 0, 0, [], 0) := (lx_3 8).trans rfl
theorem lq_159 : ix_lo[159]? = some (393, 3, .invokestatic 118, 262, 3, 3, [], 0) := (lx_3 9).trans rfl
theorem lq_160 : ix_lo[160]? = some (396, 2, .istore 5, 0, 0, 0, [], 0) := (lx_3 10).trans rfl
theorem lq_161 : ix_lo[161]? = some (398, 1, .aload_n 2, 0, 0, 0, [], 0) := (lx_3 11).trans rfl
theorem lq_162 : ix_lo[162]? = some (399, 1, .aload_n 0, 0, 0, 0, [], 0) := (lx_3 12).trans rfl
theorem lq_163 : ix_lo[163]? = some (400, 2, .iload 4, 0, 0, 0, [], 0) := (lx_3 13).trans rfl
theorem lq_164 : ix_lo[164]? = some (402, 1, .iconst 1, 0, 0, 0, [], 0) := (lx_3 14).trans rfl
theorem lq_165 : ix_lo[165]? = some (403, 1, .iadd, 0, 0, 0, [], 0) := (lx_3 15).trans rfl
theorem lq_166 : ix_lo[166]? = some (404, 1, .iaload, 0, 0, 0, [], 0) := (lx_3 16).trans rfl
theorem lq_167 : ix_lo[167]? = some (405, 3, .invokevirtual 120, 207, 0, 2, [12], 0) := (lx_3 17).trans rfl
theorem lq_168 : ix_lo[168]? = some (408, 2, .istore 6, 0, 0, 0, [], 0) := (lx_3 18).trans rfl
theorem lq_169 : ix_lo[169]? = some (410, 1, .aload_n 2, 0, 0, 0, [], 0) := (lx_3 19).trans rfl
theorem lq_170 : ix_lo[170]? = some (411, 3, .invokevirtual 111, 153, 0, 1, [12], 0) := (lx_3 20).trans rfl
theorem lq_171 : ix_lo[171]? = some (414, 2, .iload 5, 0, 0, 0, [], 0) := (lx_3 21).trans rfl
theorem lq_172 : ix_lo[172]? = some (416, 3, .if_icmp .eq 5, 175, 0, 0, [], 0) := (lx_3 22).trans rfl
theorem lq_173 : ix_lo[173]? = some (419, 1, .iconst 0, 0, 0, 0, [], 0) := (lx_3 23).trans rfl
theorem lq_174 : ix_lo[174]? = some (420, 1, .ireturn, 1, 0, 0, [], 0) := (lx_3 24).trans rfl
theorem lq_175 : ix_lo[175]? = some (421, 2, .iload 5, 0, 0, 0, [], 0) := (lx_3 25).trans rfl
theorem lq_176 : ix_lo[176]? = some (423, 3, .ifCond .ne 15, 186, 0, 0, [], 0) := (lx_3 26).trans rfl
theorem lq_177 : ix_lo[177]? = some (426, 1, .aload_n 3, 0, 0, 0, [], 0) := (lx_3 27).trans rfl
theorem lq_178 : ix_lo[178]? = some (427, 1, .iconst 0, 0, 0, 0, [], 0) := (lx_3 28).trans rfl
theorem lq_179 : ix_lo[179]? = some (428, 1, .laload, 0, 0, 0, [], 0) := (lx_3 29).trans rfl
theorem lq_180 : ix_lo[180]? = some (429, 2, .iload 6, 0, 0, 0, [], 0) := (lx_3 30).trans rfl
theorem lq_181 : ix_lo[181]? = some (431, 1, .i2l, 0, 0, 0, [], 0) := (lx_3 31).trans rfl
theorem lq_182 : ix_lo[182]? = some (432, 1, .lcmp, 0, 0, 0, [], 0) := (lx_3 32).trans rfl
theorem lq_183 : ix_lo[183]? = some (433, 3, .ifCond .eq 5, 186, 0, 0, [], 0) := (lx_3 33).trans rfl
theorem lq_184 : ix_lo[184]? = some (436, 1, .iconst 0, 0, 0, 0, [], 0) := (lx_3 34).trans rfl
theorem lq_185 : ix_lo[185]? = some (437, 1, .ireturn, 1, 0, 0, [], 0) := (lx_3 35).trans rfl
theorem lq_186 : ix_lo[186]? = some (438, 3, .goto 1826, 1395, 0, 0, [], 0) := (lx_3 36).trans rfl
theorem lq_187 : ix_lo[187]? = some (441, 1, .aload_n 1, 0, 0, 0, [], 0) := (lx_3 37).trans rfl
theorem lq_188 : ix_lo[188]? = some (442, 1, .aload_n 0, 0, 0, 0, [], 0) := (lx_3 38).trans rfl
theorem lq_189 : ix_lo[189]? = some (443, 2, .iload 4, 0, 0, 0, [], 0) := (lx_3 39).trans rfl
theorem lq_190 : ix_lo[190]? = some (445, 1, .iconst 1, 0, 0, 0, [], 0) := (lx_3 40).trans rfl
theorem lq_191 : ix_lo[191]? = some (446, 1, .iadd, 0, 0, 0, [], 0) := (lx_3 41).trans rfl
theorem lq_192 : ix_lo[192]? = some (447, 1, .iaload, 0, 0, 0, [], 0) := (lx_3 42).trans rfl
theorem lq_193 : ix_lo[193]? = some (448, 1, .aload_n 3, 0, 0, 0, [], 0) := (lx_3 43).trans rfl
theorem lq_194 : ix_lo[194]? = some (449, 3, .invokestatic 121, 263, 3, 3, [], 0) := (lx_3 44).trans rfl
theorem lq_195 : ix_lo[195]? = some (452, 2, .istore 5, 0, 0, 0, [], 0) := (lx_3 45).trans rfl
theorem lq_196 : ix_lo[196]? = some (454, 1, .aload_n 2, 0, 0, 0, [], 0) := (lx_3 46).trans rfl
theorem lq_197 : ix_lo[197]? = some (455, 1, .aload_n 0, 0, 0, 0, [], 0) := (lx_3 47).trans rfl
theorem lq_198 : ix_lo[198]? = some (456, 2, .iload 4, 0, 0, 0, [], 0) := (lx_3 48).trans rfl
theorem lq_199 : ix_lo[199]? = some (458, 1, .iconst 1, 0, 0, 0, [], 0) := (lx_3 49).trans rfl
theorem lq_200 : ix_lo[200]? = some (459, 1, .iadd, 0, 0, 0, [], 0) := (lx_4 0).trans rfl
theorem lq_201 : ix_lo[201]? = some (460, 1, .iaload, 0, 0, 0, [], 0) := (lx_4 1).trans rfl
theorem lq_202 : ix_lo[202]? = some (461, 3, .invokevirtual 123, 194, 0, 2, [12], 0) := (lx_4 2).trans rfl
theorem lq_203 : ix_lo[203]? = some (464, 2, .istore 6, 0, 0, 0, [], 0) := (lx_4 3).trans rfl
theorem lq_204 : ix_lo[204]? = some (466, 1, .aload_n 2, 0, 0, 0, [], 0) := (lx_4 4).trans rfl
theorem lq_205 : ix_lo[205]? = some (467, 3, .invokevirtual 111, 153, 0, 1, [12], 0) := (lx_4 5).trans rfl
theorem lq_206 : ix_lo[206]? = some (470, 2, .iload 5, 0, 0, 0, [], 0) := (lx_4 6).trans rfl
theorem lq_207 : ix_lo[207]? = some (472, 3, .if_icmp .eq 5, 210, 0, 0, [], 0) := (lx_4 7).trans rfl
theorem lq_208 : ix_lo[208]? = some (475, 1, .iconst 0, 0, 0, 0, [], 0) := (lx_4 8).trans rfl
theorem lq_209 : ix_lo[209]? = some (476, 1, .ireturn, 1, 0, 0, [], 0) := (lx_4 9).trans rfl
theorem lq_210 : ix_lo[210]? = some (477, 2, .iload 5, 0, 0, 0, [], 0) := (lx_4 10).trans rfl
theorem lq_211 : ix_lo[211]? = some (479, 3, .ifCond .ne 15, 221, 0, 0, [], 0) := (lx_4 11).trans rfl
theorem lq_212 : ix_lo[212]? = some (482, 1, .aload_n 3, 0, 0, 0, [], 0) := (lx_4 12).trans rfl
theorem lq_213 : ix_lo[213]? = some (483, 1, .iconst 0, 0, 0, 0, [], 0) := (lx_4 13).trans rfl
theorem lq_214 : ix_lo[214]? = some (484, 1, .laload, 0, 0, 0, [], 0) := (lx_4 14).trans rfl
theorem lq_215 : ix_lo[215]? = some (485, 2, .iload 6, 0, 0, 0, [], 0) := (lx_4 15).trans rfl
theorem lq_216 : ix_lo[216]? = some (487, 1, .i2l, 0, 0, 0, [], 0) := (lx_4 16).trans rfl
theorem lq_217 : ix_lo[217]? = some (488, 1, .lcmp, 0, 0, 0, [], 0) := (lx_4 17).trans rfl
theorem lq_218 : ix_lo[218]? = some (489, 3, .ifCond .eq 5, 221, 0, 0, [], 0) := (lx_4 18).trans rfl
theorem lq_219 : ix_lo[219]? = some (492, 1, .iconst 0, 0, 0, 0, [], 0) := (lx_4 19).trans rfl
theorem lq_220 : ix_lo[220]? = some (493, 1, .ireturn, 1, 0, 0, [], 0) := (lx_4 20).trans rfl
theorem lq_221 : ix_lo[221]? = some (494, 3, .goto 1770, 1395, 0, 0, [], 0) := (lx_4 21).trans rfl
theorem lq_222 : ix_lo[222]? = some (497, 1, .aload_n 1, 0, 0, 0, [], 0) := (lx_4 22).trans rfl
theorem lq_223 : ix_lo[223]? = some (498, 3, .invokevirtual 124, 111, 0, 1, [11], 0) := (lx_4 23).trans rfl
theorem lq_224 : ix_lo[224]? = some (501, 1, .aload_n 2, 0, 0, 0, [], 0) := (lx_4 24).trans rfl
theorem lq_225 : ix_lo[225]? = some (502, 3, .invokevirtual 127, 195, 0, 1, [12], 0) := (lx_4 25).trans rfl
theorem lq_226 : ix_lo[226]? = some (505, 3, .if_icmp .eq 1759, 1395, 0, 0, [], 0) := (lx_4 26).trans rfl
theorem lq_227 : ix_lo[227]? = some (508, 1, .iconst 0, 0, 0, 0, [], 0) := (lx_4 27).trans rfl
theorem lq_228 : ix_lo[228]? = some (509, 1, .ireturn, 1, 0, 0, [], 0) := (lx_4 28).trans rfl
theorem lq_229 : ix_lo[229]? = some (510, 1, .aload_n 1, 0, 0, 0, [], 0) := (lx_4 29).trans rfl
theorem lq_230 : ix_lo[230]? = some (511, 3, .invokevirtual 128, 112, 0, 1, [11], 0) := (lx_4 30).trans rfl
theorem lq_231 : ix_lo[231]? = some (514, 1, .aload_n 2, 0, 0, 0, [], 0) := (lx_4 31).trans rfl
theorem lq_232 : ix_lo[232]? = some (515, 3, .invokevirtual 131, 208, 0, 1, [12], 0) := (lx_4 32).trans rfl
theorem lq_233 : ix_lo[233]? = some (518, 3, .if_icmp .eq 1746, 1395, 0, 0, [], 0) := (lx_4 33).trans rfl
theorem lq_234 : ix_lo[234]? = some (521, 1, .iconst 0, 0, 0, 0, [], 0) := (lx_4 34).trans rfl
theorem lq_235 : ix_lo[235]? = some (522, 1, .ireturn, 1, 0, 0, [], 0) := (lx_4 35).trans rfl
theorem lq_236 : ix_lo[236]? = some (523, 1, .aload_n 1, 0, 0, 0, [], 0) := (lx_4 36).trans rfl
theorem lq_237 : ix_lo[237]? = some (524, 1, .aload_n 0, 0, 0, 0, [], 0) := (lx_4 37).trans rfl
theorem lq_238 : ix_lo[238]? = some (525, 2, .iload 4, 0, 0, 0, [], 0) := (lx_4 38).trans rfl
theorem lq_239 : ix_lo[239]? = some (527, 1, .iconst 1, 0, 0, 0, [], 0) := (lx_4 39).trans rfl
theorem lq_240 : ix_lo[240]? = some (528, 1, .iadd, 0, 0, 0, [], 0) := (lx_4 40).trans rfl
theorem lq_241 : ix_lo[241]? = some (529, 1, .iaload, 0, 0, 0, [], 0) := (lx_4 41).trans rfl
theorem lq_242 : ix_lo[242]? = some (530, 1, .aload_n 3, 0, 0, 0, [], 0) := (lx_4 42).trans rfl
theorem lq_243 : ix_lo[243]? = some (531, 3, .invokestatic 132, 264, 3, 3, [], 0) := (lx_4 43).trans rfl
theorem lq_244 : ix_lo[244]? = some (534, 2, .istore 5, 0, 0, 0, [], 0) := (lx_4 44).trans rfl
theorem lq_245 : ix_lo[245]? = some (536, 1, .aload_n 2, 0, 0, 0, [], 0) := (lx_4 45).trans rfl
theorem lq_246 : ix_lo[246]? = some (537, 1, .aload_n 0, 0, 0, 0, [], 0) := (lx_4 46).trans rfl
theorem lq_247 : ix_lo[247]? = some (538, 2, .iload 4, 0, 0, 0, [], 0) := (lx_4 47).trans rfl
theorem lq_248 : ix_lo[248]? = some (540, 1, .iconst 1, 0, 0, 0, [], 0) := (lx_4 48).trans rfl
theorem lq_249 : ix_lo[249]? = some (541, 1, .iadd, 0, 0, 0, [], 0) := (lx_4 49).trans rfl
theorem lq_250 : ix_lo[250]? = some (542, 1, .iaload, 0, 0, 0, [], 0) := (lx_5 0).trans rfl
theorem lq_251 : ix_lo[251]? = some (543, 3, .invokevirtual 134, 211, 0, 2, [12], 0) := (lx_5 1).trans rfl
theorem lq_252 : ix_lo[252]? = some (546, 2, .istore 6, 0, 0, 0, [], 0) := (lx_5 2).trans rfl
theorem lq_253 : ix_lo[253]? = some (548, 1, .aload_n 2, 0, 0, 0, [], 0) := (lx_5 3).trans rfl
theorem lq_254 : ix_lo[254]? = some (549, 3, .invokevirtual 111, 153, 0, 1, [12], 0) := (lx_5 4).trans rfl
theorem lq_255 : ix_lo[255]? = some (552, 2, .iload 5, 0, 0, 0, [], 0) := (lx_5 5).trans rfl
theorem lq_256 : ix_lo[256]? = some (554, 3, .if_icmp .eq 5, 259, 0, 0, [], 0) := (lx_5 6).trans rfl
theorem lq_257 : ix_lo[257]? = some (557, 1, .iconst 0, 0, 0, 0, [], 0) := (lx_5 7).trans rfl
theorem lq_258 : ix_lo[258]? = some (558, 1, .ireturn, 1, 0, 0, [], 0) := (lx_5 8).trans rfl
theorem lq_259 : ix_lo[259]? = some (559, 2, .iload 5, 0, 0, 0, [], 0) := (lx_5 9).trans rfl
theorem lq_260 : ix_lo[260]? = some (561, 3, .ifCond .ne 15, 270, 0, 0, [], 0) := (lx_5 10).trans rfl
theorem lq_261 : ix_lo[261]? = some (564, 1, .aload_n 3, 0, 0, 0, [], 0) := (lx_5 11).trans rfl
theorem lq_262 : ix_lo[262]? = some (565, 1, .iconst 0, 0, 0, 0, [], 0) := (lx_5 12).trans rfl
theorem lq_263 : ix_lo[263]? = some (566, 1, .laload, 0, 0, 0, [], 0) := (lx_5 13).trans rfl
theorem lq_264 : ix_lo[264]? = some (567, 2, .iload 6, 0, 0, 0, [], 0) := (lx_5 14).trans rfl
theorem lq_265 : ix_lo[265]? = some (569, 1, .i2l, 0, 0, 0, [], 0) := (lx_5 15).trans rfl
theorem lq_266 : ix_lo[266]? = some (570, 1, .lcmp, 0, 0, 0, [], 0) := (lx_5 16).trans rfl
theorem lq_267 : ix_lo[267]? = some (571, 3, .ifCond .eq 5, 270, 0, 0, [], 0) := (lx_5 17).trans rfl
theorem lq_268 : ix_lo[268]? = some (574, 1, .iconst 0, 0, 0, 0, [], 0) := (lx_5 18).trans rfl
theorem lq_269 : ix_lo[269]? = some (575, 1, .ireturn, 1, 0, 0, [], 0) := (lx_5 19).trans rfl
theorem lq_270 : ix_lo[270]? = some (576, 3, .goto 1688, 1395, 0, 0, [], 0) := (lx_5 20).trans rfl
theorem lq_271 : ix_lo[271]? = some (579, 1, .aload_n 1, 0, 0, 0, [], 0) := (lx_5 21).trans rfl
theorem lq_272 : ix_lo[272]? = some (580, 1, .aload_n 0, 0, 0, 0, [], 0) := (lx_5 22).trans rfl
theorem lq_273 : ix_lo[273]? = some (581, 2, .iload 4, 0, 0, 0, [], 0) := (lx_5 23).trans rfl
theorem lq_274 : ix_lo[274]? = some (583, 1, .iconst 1, 0, 0, 0, [], 0) := (lx_5 24).trans rfl
theorem lq_275 : ix_lo[275]? = some (584, 1, .iadd, 0, 0, 0, [], 0) := (lx_5 25).trans rfl
theorem lq_276 : ix_lo[276]? = some (585, 1, .iaload, 0, 0, 0, [], 0) := (lx_5 26).trans rfl
theorem lq_277 : ix_lo[277]? = some (586, 1, .aload_n 0, 0, 0, 0, [], 0) := (lx_5 27).trans rfl
theorem lq_278 : ix_lo[278]? = some (587, 2, .iload 4, 0, 0, 0, [], 0) := (lx_5 28).trans rfl
theorem lq_279 : ix_lo[279]? = some (589, 1, .iconst 2, 0, 0, 0, [], 0) := (lx_5 29).trans rfl
theorem lq_280 : ix_lo[280]? = some (590, 1, .iadd, 0, 0, 0, [], 0) := (lx_5 30).trans rfl
theorem lq_281 : ix_lo[281]? = some (591, 1, .iaload, 0, 0, 0, [], 0) := (lx_5 31).trans rfl
theorem lq_282 : ix_lo[282]? = some (592, 1, .aload_n 3, 0, 0, 0, [], 0) := (lx_5 32).trans rfl
theorem lq_283 : ix_lo[283]? = some (593, 3, .invokestatic 135, 265, 3, 4, [], 0) := (lx_5 33).trans rfl
theorem lq_284 : ix_lo[284]? = some (596, 2, .istore 5, 0, 0, 0, [], 0) := (lx_5 34).trans rfl
theorem lq_285 : ix_lo[285]? = some (598, 1, .aload_n 2, 0, 0, 0, [], 0) := (lx_5 35).trans rfl
theorem lq_286 : ix_lo[286]? = some (599, 1, .aload_n 0, 0, 0, 0, [], 0) := (lx_5 36).trans rfl
theorem lq_287 : ix_lo[287]? = some (600, 2, .iload 4, 0, 0, 0, [], 0) := (lx_5 37).trans rfl
theorem lq_288 : ix_lo[288]? = some (602, 1, .iconst 1, 0, 0, 0, [], 0) := (lx_5 38).trans rfl
theorem lq_289 : ix_lo[289]? = some (603, 1, .iadd, 0, 0, 0, [], 0) := (lx_5 39).trans rfl
theorem lq_290 : ix_lo[290]? = some (604, 1, .iaload, 0, 0, 0, [], 0) := (lx_5 40).trans rfl
theorem lq_291 : ix_lo[291]? = some (605, 1, .aload_n 0, 0, 0, 0, [], 0) := (lx_5 41).trans rfl
theorem lq_292 : ix_lo[292]? = some (606, 2, .iload 4, 0, 0, 0, [], 0) := (lx_5 42).trans rfl
theorem lq_293 : ix_lo[293]? = some (608, 1, .iconst 2, 0, 0, 0, [], 0) := (lx_5 43).trans rfl
theorem lq_294 : ix_lo[294]? = some (609, 1, .iadd, 0, 0, 0, [], 0) := (lx_5 44).trans rfl
theorem lq_295 : ix_lo[295]? = some (610, 1, .iaload, 0, 0, 0, [], 0) := (lx_5 45).trans rfl
theorem lq_296 : ix_lo[296]? = some (611, 3, .invokevirtual 138, 216, 0, 3, [12], 0) := (lx_5 46).trans rfl
theorem lq_297 : ix_lo[297]? = some (614, 2, .istore 6, 0, 0, 0, [], 0) := (lx_5 47).trans rfl
theorem lq_298 : ix_lo[298]? = some (616, 1, .aload_n 2, 0, 0, 0, [], 0) := (lx_5 48).trans rfl
theorem lq_299 : ix_lo[299]? = some (617, 3, .invokevirtual 111, 153, 0, 1, [12], 0) := (lx_5 49).trans rfl
theorem lq_300 : ix_lo[300]? = some (620, 2, .iload 5, 0, 0, 0, [], 0) := (lx_6 0).trans rfl
theorem lq_301 : ix_lo[301]? = some (622, 3, .if_icmp .eq 5, 304, 0, 0, [], 0) := (lx_6 1).trans rfl
theorem lq_302 : ix_lo[302]? = some (625, 1, .iconst 0, 0, 0, 0, [], 0) := (lx_6 2).trans rfl
theorem lq_303 : ix_lo[303]? = some (626, 1, .ireturn, 1, 0, 0, [], 0) := (lx_6 3).trans rfl
theorem lq_304 : ix_lo[304]? = some (627, 2, .iload 5, 0, 0, 0, [], 0) := (lx_6 4).trans rfl
theorem lq_305 : ix_lo[305]? = some (629, 3, .ifCond .ne 15, 315, 0, 0, [], 0) := (lx_6 5).trans rfl
theorem lq_306 : ix_lo[306]? = some (632, 1, .aload_n 3, 0, 0, 0, [], 0) := (lx_6 6).trans rfl
theorem lq_307 : ix_lo[307]? = some (633, 1, .iconst 0, 0, 0, 0, [], 0) := (lx_6 7).trans rfl
theorem lq_308 : ix_lo[308]? = some (634, 1, .laload, 0, 0, 0, [], 0) := (lx_6 8).trans rfl
theorem lq_309 : ix_lo[309]? = some (635, 2, .iload 6, 0, 0, 0, [], 0) := (lx_6 9).trans rfl
theorem lq_310 : ix_lo[310]? = some (637, 1, .i2l, 0, 0, 0, [], 0) := (lx_6 10).trans rfl
theorem lq_311 : ix_lo[311]? = some (638, 1, .lcmp, 0, 0, 0, [], 0) := (lx_6 11).trans rfl
theorem lq_312 : ix_lo[312]? = some (639, 3, .ifCond .eq 5, 315, 0, 0, [], 0) := (lx_6 12).trans rfl
theorem lq_313 : ix_lo[313]? = some (642, 1, .iconst 0, 0, 0, 0, [], 0) := (lx_6 13).trans rfl
theorem lq_314 : ix_lo[314]? = some (643, 1, .ireturn, 1, 0, 0, [], 0) := (lx_6 14).trans rfl
theorem lq_315 : ix_lo[315]? = some (644, 3, .goto 1620, 1395, 0, 0, [], 0) := (lx_6 15).trans rfl
theorem lq_316 : ix_lo[316]? = some (647, 1, .aload_n 1, 0, 0, 0, [], 0) := (lx_6 16).trans rfl
theorem lq_317 : ix_lo[317]? = some (648, 1, .aload_n 0, 0, 0, 0, [], 0) := (lx_6 17).trans rfl
theorem lq_318 : ix_lo[318]? = some (649, 2, .iload 4, 0, 0, 0, [], 0) := (lx_6 18).trans rfl
theorem lq_319 : ix_lo[319]? = some (651, 1, .iconst 1, 0, 0, 0, [], 0) := (lx_6 19).trans rfl
theorem lq_320 : ix_lo[320]? = some (652, 1, .iadd, 0, 0, 0, [], 0) := (lx_6 20).trans rfl
theorem lq_321 : ix_lo[321]? = some (653, 1, .iaload, 0, 0, 0, [], 0) := (lx_6 21).trans rfl
theorem lq_322 : ix_lo[322]? = some (654, 1, .aload_n 0, 0, 0, 0, [], 0) := (lx_6 22).trans rfl
theorem lq_323 : ix_lo[323]? = some (655, 2, .iload 4, 0, 0, 0, [], 0) := (lx_6 23).trans rfl
theorem lq_324 : ix_lo[324]? = some (657, 1, .iconst 2, 0, 0, 0, [], 0) := (lx_6 24).trans rfl
theorem lq_325 : ix_lo[325]? = some (658, 1, .iadd, 0, 0, 0, [], 0) := (lx_6 25).trans rfl
theorem lq_326 : ix_lo[326]? = some (659, 1, .iaload, 0, 0, 0, [], 0) := (lx_6 26).trans rfl
theorem lq_327 : ix_lo[327]? = some (660, 1, .aload_n 3, 0, 0, 0, [], 0) := (lx_6 27).trans rfl
theorem lq_328 : ix_lo[328]? = some (661, 3, .invokestatic 139, 266, 3, 4, [], 0) := (lx_6 28).trans rfl
theorem lq_329 : ix_lo[329]? = some (664, 2, .istore 5, 0, 0, 0, [], 0) := (lx_6 29).trans rfl
theorem lq_330 : ix_lo[330]? = some (666, 1, .aload_n 2, 0, 0, 0, [], 0) := (lx_6 30).trans rfl
theorem lq_331 : ix_lo[331]? = some (667, 1, .aload_n 0, 0, 0, 0, [], 0) := (lx_6 31).trans rfl
theorem lq_332 : ix_lo[332]? = some (668, 2, .iload 4, 0, 0, 0, [], 0) := (lx_6 32).trans rfl
theorem lq_333 : ix_lo[333]? = some (670, 1, .iconst 1, 0, 0, 0, [], 0) := (lx_6 33).trans rfl
theorem lq_334 : ix_lo[334]? = some (671, 1, .iadd, 0, 0, 0, [], 0) := (lx_6 34).trans rfl
theorem lq_335 : ix_lo[335]? = some (672, 1, .iaload, 0, 0, 0, [], 0) := (lx_6 35).trans rfl
theorem lq_336 : ix_lo[336]? = some (673, 1, .aload_n 0, 0, 0, 0, [], 0) := (lx_6 36).trans rfl
theorem lq_337 : ix_lo[337]? = some (674, 2, .iload 4, 0, 0, 0, [], 0) := (lx_6 37).trans rfl
theorem lq_338 : ix_lo[338]? = some (676, 1, .iconst 2, 0, 0, 0, [], 0) := (lx_6 38).trans rfl
theorem lq_339 : ix_lo[339]? = some (677, 1, .iadd, 0, 0, 0, [], 0) := (lx_6 39).trans rfl
theorem lq_340 : ix_lo[340]? = some (678, 1, .iaload, 0, 0, 0, [], 0) := (lx_6 40).trans rfl
theorem lq_341 : ix_lo[341]? = some (679, 3, .invokevirtual 141, 217, 0, 3, [12], 0) := (lx_6 41).trans rfl
theorem lq_342 : ix_lo[342]? = some (682, 2, .istore 6, 0, 0, 0, [], 0) := (lx_6 42).trans rfl
theorem lq_343 : ix_lo[343]? = some (684, 1, .aload_n 2, 0, 0, 0, [], 0) := (lx_6 43).trans rfl
theorem lq_344 : ix_lo[344]? = some (685, 3, .invokevirtual 111, 153, 0, 1, [12], 0) := (lx_6 44).trans rfl
theorem lq_345 : ix_lo[345]? = some (688, 2, .iload 5, 0, 0, 0, [], 0) := (lx_6 45).trans rfl
theorem lq_346 : ix_lo[346]? = some (690, 3, .if_icmp .eq 5, 349, 0, 0, [], 0) := (lx_6 46).trans rfl
theorem lq_347 : ix_lo[347]? = some (693, 1, .iconst 0, 0, 0, 0, [], 0) := (lx_6 47).trans rfl
theorem lq_348 : ix_lo[348]? = some (694, 1, .ireturn, 1, 0, 0, [], 0) := (lx_6 48).trans rfl
theorem lq_349 : ix_lo[349]? = some (695, 2, .iload 5, 0, 0, 0, [], 0) := (lx_6 49).trans rfl
theorem lq_350 : ix_lo[350]? = some (697, 3, .ifCond .ne 15, 360, 0, 0, [], 0) := (lx_7 0).trans rfl
theorem lq_351 : ix_lo[351]? = some (700, 1, .aload_n 3, 0, 0, 0, [], 0) := (lx_7 1).trans rfl
theorem lq_352 : ix_lo[352]? = some (701, 1, .iconst 0, 0, 0, 0, [], 0) := (lx_7 2).trans rfl
theorem lq_353 : ix_lo[353]? = some (702, 1, .laload, 0, 0, 0, [], 0) := (lx_7 3).trans rfl
theorem lq_354 : ix_lo[354]? = some (703, 2, .iload 6, 0, 0, 0, [], 0) := (lx_7 4).trans rfl
theorem lq_355 : ix_lo[355]? = some (705, 1, .i2l, 0, 0, 0, [], 0) := (lx_7 5).trans rfl
theorem lq_356 : ix_lo[356]? = some (706, 1, .lcmp, 0, 0, 0, [], 0) := (lx_7 6).trans rfl
theorem lq_357 : ix_lo[357]? = some (707, 3, .ifCond .eq 5, 360, 0, 0, [], 0) := (lx_7 7).trans rfl
theorem lq_358 : ix_lo[358]? = some (710, 1, .iconst 0, 0, 0, 0, [], 0) := (lx_7 8).trans rfl
theorem lq_359 : ix_lo[359]? = some (711, 1, .ireturn, 1, 0, 0, [], 0) := (lx_7 9).trans rfl
theorem lq_360 : ix_lo[360]? = some (712, 3, .goto 1552, 1395, 0, 0, [], 0) := (lx_7 10).trans rfl
theorem lq_361 : ix_lo[361]? = some (715, 1, .aload_n 1, 0, 0, 0, [], 0) := (lx_7 11).trans rfl
theorem lq_362 : ix_lo[362]? = some (716, 1, .aload_n 0, 0, 0, 0, [], 0) := (lx_7 12).trans rfl
theorem lq_363 : ix_lo[363]? = some (717, 2, .iload 4, 0, 0, 0, [], 0) := (lx_7 13).trans rfl
theorem lq_364 : ix_lo[364]? = some (719, 1, .iconst 1, 0, 0, 0, [], 0) := (lx_7 14).trans rfl
theorem lq_365 : ix_lo[365]? = some (720, 1, .iadd, 0, 0, 0, [], 0) := (lx_7 15).trans rfl
theorem lq_366 : ix_lo[366]? = some (721, 1, .iaload, 0, 0, 0, [], 0) := (lx_7 16).trans rfl
theorem lq_367 : ix_lo[367]? = some (722, 1, .aload_n 0, 0, 0, 0, [], 0) := (lx_7 17).trans rfl
theorem lq_368 : ix_lo[368]? = some (723, 2, .iload 4, 0, 0, 0, [], 0) := (lx_7 18).trans rfl
theorem lq_369 : ix_lo[369]? = some (725, 1, .iconst 2, 0, 0, 0, [], 0) := (lx_7 19).trans rfl
theorem lq_370 : ix_lo[370]? = some (726, 1, .iadd, 0, 0, 0, [], 0) := (lx_7 20).trans rfl
theorem lq_371 : ix_lo[371]? = some (727, 1, .iaload, 0, 0, 0, [], 0) := (lx_7 21).trans rfl
theorem lq_372 : ix_lo[372]? = some (728, 1, .aload_n 0, 0, 0, 0, [], 0) := (lx_7 22).trans rfl
theorem lq_373 : ix_lo[373]? = some (729, 2, .iload 4, 0, 0, 0, [], 0) := (lx_7 23).trans rfl
theorem lq_374 : ix_lo[374]? = some (731, 1, .iconst 3, 0, 0, 0, [], 0) := (lx_7 24).trans rfl
theorem lq_375 : ix_lo[375]? = some (732, 1, .iadd, 0, 0, 0, [], 0) := (lx_7 25).trans rfl
theorem lq_376 : ix_lo[376]? = some (733, 1, .iaload, 0, 0, 0, [], 0) := (lx_7 26).trans rfl
theorem lq_377 : ix_lo[377]? = some (734, 1, .aload_n 0, 0, 0, 0, [], 0) := (lx_7 27).trans rfl
theorem lq_378 : ix_lo[378]? = some (735, 2, .iload 4, 0, 0, 0, [], 0) := (lx_7 28).trans rfl
theorem lq_379 : ix_lo[379]? = some (737, 1, .iconst 4, 0, 0, 0, [], 0) := (lx_7 29).trans rfl
theorem lq_380 : ix_lo[380]? = some (738, 1, .iadd, 0, 0, 0, [], 0) := (lx_7 30).trans rfl
theorem lq_381 : ix_lo[381]? = some (739, 1, .iaload, 0, 0, 0, [], 0) := (lx_7 31).trans rfl
theorem lq_382 : ix_lo[382]? = some (740, 1, .aload_n 0, 0, 0, 0, [], 0) := (lx_7 32).trans rfl
theorem lq_383 : ix_lo[383]? = some (741, 2, .iload 4, 0, 0, 0, [], 0) := (lx_7 33).trans rfl
theorem lq_384 : ix_lo[384]? = some (743, 1, .iconst 5, 0, 0, 0, [], 0) := (lx_7 34).trans rfl
theorem lq_385 : ix_lo[385]? = some (744, 1, .iadd, 0, 0, 0, [], 0) := (lx_7 35).trans rfl
theorem lq_386 : ix_lo[386]? = some (745, 1, .iaload, 0, 0, 0, [], 0) := (lx_7 36).trans rfl
theorem lq_387 : ix_lo[387]? = some (746, 1, .aload_n 0, 0, 0, 0, [], 0) := (lx_7 37).trans rfl
theorem lq_388 : ix_lo[388]? = some (747, 2, .iload 4, 0, 0, 0, [], 0) := (lx_7 38).trans rfl
theorem lq_389 : ix_lo[389]? = some (749, 2, .bipush 6, 0, 0, 0, [], 0) := (lx_7 39).trans rfl
theorem lq_390 : ix_lo[390]? = some (751, 1, .iadd, 0, 0, 0, [], 0) := (lx_7 40).trans rfl
theorem lq_391 : ix_lo[391]? = some (752, 1, .iaload, 0, 0, 0, [], 0) := (lx_7 41).trans rfl
theorem lq_392 : ix_lo[392]? = some (753, 1, .aload_n 0, 0, 0, 0, [], 0) := (lx_7 42).trans rfl
theorem lq_393 : ix_lo[393]? = some (754, 2, .iload 4, 0, 0, 0, [], 0) := (lx_7 43).trans rfl
theorem lq_394 : ix_lo[394]? = some (756, 2, .bipush 7, 0, 0, 0, [], 0) := (lx_7 44).trans rfl
theorem lq_395 : ix_lo[395]? = some (758, 1, .iadd, 0, 0, 0, [], 0) := (lx_7 45).trans rfl
theorem lq_396 : ix_lo[396]? = some (759, 1, .iaload, 0, 0, 0, [], 0) := (lx_7 46).trans rfl
theorem lq_397 : ix_lo[397]? = some (760, 1, .aload_n 0, 0, 0, 0, [], 0) := (lx_7 47).trans rfl
theorem lq_398 : ix_lo[398]? = some (761, 2, .iload 4, 0, 0, 0, [], 0) := (lx_7 48).trans rfl
theorem lq_399 : ix_lo[399]? = some (763, 2, .bipush 8, 0, 0, 0, [], 0) := (lx_7 49).trans rfl
theorem lq_400 : ix_lo[400]? = some (765, 1, .iadd, 0, 0, 0, [], 0) := (lx_8 0).trans rfl
theorem lq_401 : ix_lo[401]? = some (766, 1, .iaload, 0, 0, 0, [], 0) := (lx_8 1).trans rfl
theorem lq_402 : ix_lo[402]? = some (767, 1, .aload_n 3, 0, 0, 0, [], 0) := (lx_8 2).trans rfl
theorem lq_403 : ix_lo[403]? = some (768, 3, .invokestatic 142, 267, 3, 10, [], 0) := (lx_8 3).trans rfl
theorem lq_404 : ix_lo[404]? = some (771, 2, .istore 5, 0, 0, 0, [], 0) := (lx_8 4).trans rfl
theorem lq_405 : ix_lo[405]? = some (773, 1, .aload_n 2, 0, 0, 0, [], 0) := (lx_8 5).trans rfl
theorem lq_406 : ix_lo[406]? = some (774, 1, .aload_n 0, 0, 0, 0, [], 0) := (lx_8 6).trans rfl
theorem lq_407 : ix_lo[407]? = some (775, 2, .iload 4, 0, 0, 0, [], 0) := (lx_8 7).trans rfl
theorem lq_408 : ix_lo[408]? = some (777, 1, .iconst 1, 0, 0, 0, [], 0) := (lx_8 8).trans rfl
theorem lq_409 : ix_lo[409]? = some (778, 1, .iadd, 0, 0, 0, [], 0) := (lx_8 9).trans rfl
theorem lq_410 : ix_lo[410]? = some (779, 1, .iaload, 0, 0, 0, [], 0) := (lx_8 10).trans rfl
theorem lq_411 : ix_lo[411]? = some (780, 1, .aload_n 0, 0, 0, 0, [], 0) := (lx_8 11).trans rfl
theorem lq_412 : ix_lo[412]? = some (781, 2, .iload 4, 0, 0, 0, [], 0) := (lx_8 12).trans rfl
theorem lq_413 : ix_lo[413]? = some (783, 1, .iconst 2, 0, 0, 0, [], 0) := (lx_8 13).trans rfl
theorem lq_414 : ix_lo[414]? = some (784, 1, .iadd, 0, 0, 0, [], 0) := (lx_8 14).trans rfl
theorem lq_415 : ix_lo[415]? = some (785, 1, .iaload, 0, 0, 0, [], 0) := (lx_8 15).trans rfl
theorem lq_416 : ix_lo[416]? = some (786, 1, .aload_n 0, 0, 0, 0, [], 0) := (lx_8 16).trans rfl
theorem lq_417 : ix_lo[417]? = some (787, 2, .iload 4, 0, 0, 0, [], 0) := (lx_8 17).trans rfl
theorem lq_418 : ix_lo[418]? = some (789, 1, .iconst 3, 0, 0, 0, [], 0) := (lx_8 18).trans rfl
theorem lq_419 : ix_lo[419]? = some (790, 1, .iadd, 0, 0, 0, [], 0) := (lx_8 19).trans rfl
theorem lq_420 : ix_lo[420]? = some (791, 1, .iaload, 0, 0, 0, [], 0) := (lx_8 20).trans rfl
theorem lq_421 : ix_lo[421]? = some (792, 1, .aload_n 0, 0, 0, 0, [], 0) := (lx_8 21).trans rfl
theorem lq_422 : ix_lo[422]? = some (793, 2, .iload 4, 0, 0, 0, [], 0) := (lx_8 22).trans rfl
theorem lq_423 : ix_lo[423]? = some (795, 1, .iconst 4, 0, 0, 0, [], 0) := (lx_8 23).trans rfl
theorem lq_424 : ix_lo[424]? = some (796, 1, .iadd, 0, 0, 0, [], 0) := (lx_8 24).trans rfl
theorem lq_425 : ix_lo[425]? = some (797, 1, .iaload, 0, 0, 0, [], 0) := (lx_8 25).trans rfl
theorem lq_426 : ix_lo[426]? = some (798, 1, .aload_n 0, 0, 0, 0, [], 0) := (lx_8 26).trans rfl
theorem lq_427 : ix_lo[427]? = some (799, 2, .iload 4, 0, 0, 0, [], 0) := (lx_8 27).trans rfl
theorem lq_428 : ix_lo[428]? = some (801, 1, .iconst 5, 0, 0, 0, [], 0) := (lx_8 28).trans rfl
theorem lq_429 : ix_lo[429]? = some (802, 1, .iadd, 0, 0, 0, [], 0) := (lx_8 29).trans rfl
theorem lq_430 : ix_lo[430]? = some (803, 1, .iaload, 0, 0, 0, [], 0) := (lx_8 30).trans rfl
theorem lq_431 : ix_lo[431]? = some (804, 1, .aload_n 0, 0, 0, 0, [], 0) := (lx_8 31).trans rfl
theorem lq_432 : ix_lo[432]? = some (805, 2, .iload 4, 0, 0, 0, [], 0) := (lx_8 32).trans rfl
theorem lq_433 : ix_lo[433]? = some (807, 2, .bipush 6, 0, 0, 0, [], 0) := (lx_8 33).trans rfl
theorem lq_434 : ix_lo[434]? = some (809, 1, .iadd, 0, 0, 0, [], 0) := (lx_8 34).trans rfl
theorem lq_435 : ix_lo[435]? = some (810, 1, .iaload, 0, 0, 0, [], 0) := (lx_8 35).trans rfl
theorem lq_436 : ix_lo[436]? = some (811, 1, .aload_n 0, 0, 0, 0, [], 0) := (lx_8 36).trans rfl
theorem lq_437 : ix_lo[437]? = some (812, 2, .iload 4, 0, 0, 0, [], 0) := (lx_8 37).trans rfl
theorem lq_438 : ix_lo[438]? = some (814, 2, .bipush 7, 0, 0, 0, [], 0) := (lx_8 38).trans rfl
theorem lq_439 : ix_lo[439]? = some (816, 1, .iadd, 0, 0, 0, [], 0) := (lx_8 39).trans rfl
theorem lq_440 : ix_lo[440]? = some (817, 1, .iaload, 0, 0, 0, [], 0) := (lx_8 40).trans rfl
theorem lq_441 : ix_lo[441]? = some (818, 1, .aload_n 0, 0, 0, 0, [], 0) := (lx_8 41).trans rfl
theorem lq_442 : ix_lo[442]? = some (819, 2, .iload 4, 0, 0, 0, [], 0) := (lx_8 42).trans rfl
theorem lq_443 : ix_lo[443]? = some (821, 2, .bipush 8, 0, 0, 0, [], 0) := (lx_8 43).trans rfl
theorem lq_444 : ix_lo[444]? = some (823, 1, .iadd, 0, 0, 0, [], 0) := (lx_8 44).trans rfl
theorem lq_445 : ix_lo[445]? = some (824, 1, .iaload, 0, 0, 0, [], 0) := (lx_8 45).trans rfl
theorem lq_446 : ix_lo[446]? = some (825, 3, .invokevirtual 145, 218, 0, 9, [12], 0) := (lx_8 46).trans rfl
theorem lq_447 : ix_lo[447]? = some (828, 2, .istore 6, 0, 0, 0, [], 0) := (lx_8 47).trans rfl
theorem lq_448 : ix_lo[448]? = some (830, 1, .aload_n 2, 0, 0, 0, [], 0) := (lx_8 48).trans rfl
theorem lq_449 : ix_lo[449]? = some (831, 3, .invokevirtual 111, 153, 0, 1, [12], 0) := (lx_8 49).trans rfl
theorem lq_450 : ix_lo[450]? = some (834, 2, .iload 5, 0, 0, 0, [], 0) := (lx_9 0).trans rfl
theorem lq_451 : ix_lo[451]? = some (836, 3, .if_icmp .eq 5, 454, 0, 0, [], 0) := (lx_9 1).trans rfl
theorem lq_452 : ix_lo[452]? = some (839, 1, .iconst 0, 0, 0, 0, [], 0) := (lx_9 2).trans rfl
theorem lq_453 : ix_lo[453]? = some (840, 1, .ireturn, 1, 0, 0, [], 0) := (lx_9 3).trans rfl
theorem lq_454 : ix_lo[454]? = some (841, 2, .iload 5, 0, 0, 0, [], 0) := (lx_9 4).trans rfl
theorem lq_455 : ix_lo[455]? = some (843, 3, .ifCond .ne 15, 465, 0, 0, [], 0) := (lx_9 5).trans rfl
theorem lq_456 : ix_lo[456]? = some (846, 1, .aload_n 3, 0, 0, 0, [], 0) := (lx_9 6).trans rfl
theorem lq_457 : ix_lo[457]? = some (847, 1, .iconst 0, 0, 0, 0, [], 0) := (lx_9 7).trans rfl
theorem lq_458 : ix_lo[458]? = some (848, 1, .laload, 0, 0, 0, [], 0) := (lx_9 8).trans rfl
theorem lq_459 : ix_lo[459]? = some (849, 2, .iload 6, 0, 0, 0, [], 0) := (lx_9 9).trans rfl
theorem lq_460 : ix_lo[460]? = some (851, 1, .i2l, 0, 0, 0, [], 0) := (lx_9 10).trans rfl
theorem lq_461 : ix_lo[461]? = some (852, 1, .lcmp, 0, 0, 0, [], 0) := (lx_9 11).trans rfl
theorem lq_462 : ix_lo[462]? = some (853, 3, .ifCond .eq 5, 465, 0, 0, [], 0) := (lx_9 12).trans rfl
theorem lq_463 : ix_lo[463]? = some (856, 1, .iconst 0, 0, 0, 0, [], 0) := (lx_9 13).trans rfl
theorem lq_464 : ix_lo[464]? = some (857, 1, .ireturn, 1, 0, 0, [], 0) := (lx_9 14).trans rfl
theorem lq_465 : ix_lo[465]? = some (858, 3, .goto 1406, 1395, 0, 0, [], 0) := (lx_9 15).trans rfl
theorem lq_466 : ix_lo[466]? = some (861, 1, .aload_n 1, 0, 0, 0, [], 0) := (lx_9 16).trans rfl
theorem lq_467 : ix_lo[467]? = some (862, 1, .aload_n 0, 0, 0, 0, [], 0) := (lx_9 17).trans rfl
theorem lq_468 : ix_lo[468]? = some (863, 2, .iload 4, 0, 0, 0, [], 0) := (lx_9 18).trans rfl
theorem lq_469 : ix_lo[469]? = some (865, 1, .iconst 1, 0, 0, 0, [], 0) := (lx_9 19).trans rfl
theorem lq_470 : ix_lo[470]? = some (866, 1, .iadd, 0, 0, 0, [], 0) := (lx_9 20).trans rfl
theorem lq_471 : ix_lo[471]? = some (867, 1, .iaload, 0, 0, 0, [], 0) := (lx_9 21).trans rfl
theorem lq_472 : ix_lo[472]? = some (868, 1, .aload_n 0, 0, 0, 0, [], 0) := (lx_9 22).trans rfl
theorem lq_473 : ix_lo[473]? = some (869, 2, .iload 4, 0, 0, 0, [], 0) := (lx_9 23).trans rfl
theorem lq_474 : ix_lo[474]? = some (871, 1, .iconst 2, 0, 0, 0, [], 0) := (lx_9 24).trans rfl
theorem lq_475 : ix_lo[475]? = some (872, 1, .iadd, 0, 0, 0, [], 0) := (lx_9 25).trans rfl
theorem lq_476 : ix_lo[476]? = some (873, 1, .iaload, 0, 0, 0, [], 0) := (lx_9 26).trans rfl
theorem lq_477 : ix_lo[477]? = some (874, 1, .aload_n 3, 0, 0, 0, [], 0) := (lx_9 27).trans rfl
theorem lq_478 : ix_lo[478]? = some (875, 3, .invokestatic 146, 268, 3, 4, [], 0) := (lx_9 28).trans rfl
theorem lq_479 : ix_lo[479]? = some (878, 2, .istore 5, 0, 0, 0, [], 0) := (lx_9 29).trans rfl
theorem lq_480 : ix_lo[480]? = some (880, 1, .aload_n 2, 0, 0, 0, [], 0) := (lx_9 30).trans rfl
theorem lq_481 : ix_lo[481]? = some (881, 1, .aload_n 0, 0, 0, 0, [], 0) := (lx_9 31).trans rfl
theorem lq_482 : ix_lo[482]? = some (882, 2, .iload 4, 0, 0, 0, [], 0) := (lx_9 32).trans rfl
theorem lq_483 : ix_lo[483]? = some (884, 1, .iconst 1, 0, 0, 0, [], 0) := (lx_9 33).trans rfl
theorem lq_484 : ix_lo[484]? = some (885, 1, .iadd, 0, 0, 0, [], 0) := (lx_9 34).trans rfl
theorem lq_485 : ix_lo[485]? = some (886, 1, .iaload, 0, 0, 0, [], 0) := (lx_9 35).trans rfl
theorem lq_486 : ix_lo[486]? = some (887, 1, .aload_n 0, 0, 0, 0, [], 0) := (lx_9 36).trans rfl
theorem lq_487 : ix_lo[487]? = some (888, 2, .iload 4, 0, 0, 0, [], 0) := (lx_9 37).trans rfl
theorem lq_488 : ix_lo[488]? = some (890, 1, .iconst 2, 0, 0, 0, [], 0) := (lx_9 38).trans rfl
theorem lq_489 : ix_lo[489]? = some (891, 1, .iadd, 0, 0, 0, [], 0) := (lx_9 39).trans rfl
theorem lq_490 : ix_lo[490]? = some (892, 1, .iaload, 0, 0, 0, [], 0) := (lx_9 40).trans rfl
theorem lq_491 : ix_lo[491]? = some (893, 3, .invokevirtual 148, 219, 0, 3, [12], 0) := (lx_9 41).trans rfl
theorem lq_492 : ix_lo[492]? = some (896, 2, .istore 6, 0, 0, 0, [], 0) := (lx_9 42).trans rfl
theorem lq_493 : ix_lo[493]? = some (898, 1, .aload_n 2, 0, 0, 0, [], 0) := (lx_9 43).trans rfl
theorem lq_494 : ix_lo[494]? = some (899, 3, .invokevirtual 111, 153, 0, 1, [12], 0) := (lx_9 44).trans rfl
theorem lq_495 : ix_lo[495]? = some (902, 2, .iload 5, 0, 0, 0, [], 0) := (lx_9 45).trans rfl
theorem lq_496 : ix_lo[496]? = some (904, 3, .if_icmp .eq 5, 499, 0, 0, [], 0) := (lx_9 46).trans rfl
theorem lq_497 : ix_lo[497]? = some (907, 1, .iconst 0, 0, 0, 0, [], 0) := (lx_9 47).trans rfl
theorem lq_498 : ix_lo[498]? = some (908, 1, .ireturn, 1, 0, 0, [], 0) := (lx_9 48).trans rfl
theorem lq_499 : ix_lo[499]? = some (909, 2, .iload 5, 0, 0, 0, [], 0) := (lx_9 49).trans rfl
theorem lq_500 : ix_lo[500]? = some (911, 3, .ifCond .ne 15, 510, 0, 0, [], 0) := (lx_10 0).trans rfl
theorem lq_501 : ix_lo[501]? = some (914, 1, .aload_n 3, 0, 0, 0, [], 0) := (lx_10 1).trans rfl
theorem lq_502 : ix_lo[502]? = some (915, 1, .iconst 0, 0, 0, 0, [], 0) := (lx_10 2).trans rfl
theorem lq_503 : ix_lo[503]? = some (916, 1, .laload, 0, 0, 0, [], 0) := (lx_10 3).trans rfl
theorem lq_504 : ix_lo[504]? = some (917, 2, .iload 6, 0, 0, 0, [], 0) := (lx_10 4).trans rfl
theorem lq_505 : ix_lo[505]? = some (919, 1, .i2l, 0, 0, 0, [], 0) := (lx_10 5).trans rfl
theorem lq_506 : ix_lo[506]? = some (920, 1, .lcmp, 0, 0, 0, [], 0) := (lx_10 6).trans rfl
theorem lq_507 : ix_lo[507]? = some (921, 3, .ifCond .eq 5, 510, 0, 0, [], 0) := (lx_10 7).trans rfl
theorem lq_508 : ix_lo[508]? = some (924, 1, .iconst 0, 0, 0, 0, [], 0) := (lx_10 8).trans rfl
theorem lq_509 : ix_lo[509]? = some (925, 1, .ireturn, 1, 0, 0, [], 0) := (lx_10 9).trans rfl
theorem lq_510 : ix_lo[510]? = some (926, 3, .goto 1338, 1395, 0, 0, [], 0) := (lx_10 10).trans rfl
theorem lq_511 : ix_lo[511]? = some (929, 1, .aload_n 1, 0, 0, 0, [], 0) := (lx_10 11).trans rfl
theorem lq_512 : ix_lo[512]? = some (930, 1, .aload_n 0, 0, 0, 0, [], 0) := (lx_10 12).trans rfl
theorem lq_513 : ix_lo[513]? = some (931, 2, .iload 4, 0, 0, 0, [], 0) := (lx_10 13).trans rfl
theorem lq_514 : ix_lo[514]? = some (933, 1, .iconst 1, 0, 0, 0, [], 0) := (lx_10 14).trans rfl
theorem lq_515 : ix_lo[515]? = some (934, 1, .iadd, 0, 0, 0, [], 0) := (lx_10 15).trans rfl
theorem lq_516 : ix_lo[516]? = some (935, 1, .iaload, 0, 0, 0, [], 0) := (lx_10 16).trans rfl
theorem lq_517 : ix_lo[517]? = some (936, 1, .aload_n 3, 0, 0, 0, [], 0) := (lx_10 17).trans rfl
theorem lq_518 : ix_lo[518]? = some (937, 3, .invokestatic 149, 269, 3, 3, [], 0) := (lx_10 18).trans rfl
theorem lq_519 : ix_lo[519]? = some (940, 2, .istore 5, 0, 0, 0, [], 0) := (lx_10 19).trans rfl
theorem lq_520 : ix_lo[520]? = some (942, 1, .aload_n 2, 0, 0, 0, [], 0) := (lx_10 20).trans rfl
theorem lq_521 : ix_lo[521]? = some (943, 1, .aload_n 0, 0, 0, 0, [], 0) := (lx_10 21).trans rfl
theorem lq_522 : ix_lo[522]? = some (944, 2, .iload 4, 0, 0, 0, [], 0) := (lx_10 22).trans rfl
theorem lq_523 : ix_lo[523]? = some (946, 1, .iconst 1, 0, 0, 0, [], 0) := (lx_10 23).trans rfl
theorem lq_524 : ix_lo[524]? = some (947, 1, .iadd, 0, 0, 0, [], 0) := (lx_10 24).trans rfl
theorem lq_525 : ix_lo[525]? = some (948, 1, .iaload, 0, 0, 0, [], 0) := (lx_10 25).trans rfl
theorem lq_526 : ix_lo[526]? = some (949, 3, .invokevirtual 151, 220, 0, 2, [12], 0) := (lx_10 26).trans rfl
theorem lq_527 : ix_lo[527]? = some (952, 2, .istore 6, 0, 0, 0, [], 0) := (lx_10 27).trans rfl
theorem lq_528 : ix_lo[528]? = some (954, 1, .aload_n 2, 0, 0, 0, [], 0) := (lx_10 28).trans rfl
theorem lq_529 : ix_lo[529]? = some (955, 3, .invokevirtual 111, 153, 0, 1, [12], 0) := (lx_10 29).trans rfl
theorem lq_530 : ix_lo[530]? = some (958, 2, .iload 5, 0, 0, 0, [], 0) := (lx_10 30).trans rfl
theorem lq_531 : ix_lo[531]? = some (960, 3, .if_icmp .eq 5, 534, 0, 0, [], 0) := (lx_10 31).trans rfl
theorem lq_532 : ix_lo[532]? = some (963, 1, .iconst 0, 0, 0, 0, [], 0) := (lx_10 32).trans rfl
theorem lq_533 : ix_lo[533]? = some (964, 1, .ireturn, 1, 0, 0, [], 0) := (lx_10 33).trans rfl
theorem lq_534 : ix_lo[534]? = some (965, 2, .iload 5, 0, 0, 0, [], 0) := (lx_10 34).trans rfl
theorem lq_535 : ix_lo[535]? = some (967, 3, .ifCond .ne 15, 545, 0, 0, [], 0) := (lx_10 35).trans rfl
theorem lq_536 : ix_lo[536]? = some (970, 1, .aload_n 3, 0, 0, 0, [], 0) := (lx_10 36).trans rfl
theorem lq_537 : ix_lo[537]? = some (971, 1, .iconst 0, 0, 0, 0, [], 0) := (lx_10 37).trans rfl
theorem lq_538 : ix_lo[538]? = some (972, 1, .laload, 0, 0, 0, [], 0) := (lx_10 38).trans rfl
theorem lq_539 : ix_lo[539]? = some (973, 2, .iload 6, 0, 0, 0, [], 0) := (lx_10 39).trans rfl
theorem lq_540 : ix_lo[540]? = some (975, 1, .i2l, 0, 0, 0, [], 0) := (lx_10 40).trans rfl
theorem lq_541 : ix_lo[541]? = some (976, 1, .lcmp, 0, 0, 0, [], 0) := (lx_10 41).trans rfl
theorem lq_542 : ix_lo[542]? = some (977, 3, .ifCond .eq 5, 545, 0, 0, [], 0) := (lx_10 42).trans rfl
theorem lq_543 : ix_lo[543]? = some (980, 1, .iconst 0, 0, 0, 0, [], 0) := (lx_10 43).trans rfl
theorem lq_544 : ix_lo[544]? = some (981, 1, .ireturn, 1, 0, 0, [], 0) := (lx_10 44).trans rfl
theorem lq_545 : ix_lo[545]? = some (982, 3, .goto 1282, 1395, 0, 0, [], 0) := (lx_10 45).trans rfl
theorem lq_546 : ix_lo[546]? = some (985, 1, .aload_n 1, 0, 0, 0, [], 0) := (lx_10 46).trans rfl
theorem lq_547 : ix_lo[547]? = some (986, 1, .aload_n 0, 0, 0, 0, [], 0) := (lx_10 47).trans rfl
theorem lq_548 : ix_lo[548]? = some (987, 2, .iload 4, 0, 0, 0, [], 0) := (lx_10 48).trans rfl
theorem lq_549 : ix_lo[549]? = some (989, 1, .iconst 1, 0, 0, 0, [], 0) := (lx_10 49).trans rfl
theorem lq_550 : ix_lo[550]? = some (990, 1, .iadd, 0, 0, 0, [], 0) := (lx_11 0).trans rfl
theorem lq_551 : ix_lo[551]? = some (991, 1, .iaload, 0, 0, 0, [], 0) := (lx_11 1).trans rfl
theorem lq_552 : ix_lo[552]? = some (992, 1, .aload_n 3, 0, 0, 0, [], 0) := (lx_11 2).trans rfl
theorem lq_553 : ix_lo[553]? = some (993, 3, .invokestatic 152, 270, 3, 3, [], 0) := (lx_11 3).trans rfl
theorem lq_554 : ix_lo[554]? = some (996, 2, .istore 5, 0, 0, 0, [], 0) := (lx_11 4).trans rfl
theorem lq_555 : ix_lo[555]? = some (998, 1, .aload_n 2, 0, 0, 0, [], 0) := (lx_11 5).trans rfl
theorem lq_556 : ix_lo[556]? = some (999, 1, .aload_n 0, 0, 0, 0, [], 0) := (lx_11 6).trans rfl
theorem lq_557 : ix_lo[557]? = some (1000, 2, .iload 4, 0, 0, 0, [], 0) := (lx_11 7).trans rfl
theorem lq_558 : ix_lo[558]? = some (1002, 1, .iconst 1, 0, 0, 0, [], 0) := (lx_11 8).trans rfl
theorem lq_559 : ix_lo[559]? = some (1003, 1, .iadd, 0, 0, 0, [], 0) := (lx_11 9).trans rfl
theorem lq_560 : ix_lo[560]? = some (1004, 1, .iaload, 0, 0, 0, [], 0) := (lx_11 10).trans rfl
theorem lq_561 : ix_lo[561]? = some (1005, 3, .invokevirtual 154, 221, 0, 2, [12], 0) := (lx_11 11).trans rfl
theorem lq_562 : ix_lo[562]? = some (1008, 2, .istore 6, 0, 0, 0, [], 0) := (lx_11 12).trans rfl
theorem lq_563 : ix_lo[563]? = some (1010, 1, .aload_n 2, 0, 0, 0, [], 0) := (lx_11 13).trans rfl
theorem lq_564 : ix_lo[564]? = some (1011, 3, .invokevirtual 111, 153, 0, 1, [12], 0) := (lx_11 14).trans rfl
theorem lq_565 : ix_lo[565]? = some (1014, 2, .iload 5, 0, 0, 0, [], 0) := (lx_11 15).trans rfl
theorem lq_566 : ix_lo[566]? = some (1016, 3, .if_icmp .eq 5, 569, 0, 0, [], 0) := (lx_11 16).trans rfl
theorem lq_567 : ix_lo[567]? = some (1019, 1, .iconst 0, 0, 0, 0, [], 0) := (lx_11 17).trans rfl
theorem lq_568 : ix_lo[568]? = some (1020, 1, .ireturn, 1, 0, 0, [], 0) := (lx_11 18).trans rfl
theorem lq_569 : ix_lo[569]? = some (1021, 2, .iload 5, 0, 0, 0, [], 0) := (lx_11 19).trans rfl
theorem lq_570 : ix_lo[570]? = some (1023, 3, .ifCond .ne 15, 580, 0, 0, [], 0) := (lx_11 20).trans rfl
theorem lq_571 : ix_lo[571]? = some (1026, 1, .aload_n 3, 0, 0, 0, [], 0) := (lx_11 21).trans rfl
theorem lq_572 : ix_lo[572]? = some (1027, 1, .iconst 0, 0, 0, 0, [], 0) := (lx_11 22).trans rfl
theorem lq_573 : ix_lo[573]? = some (1028, 1, .laload, 0, 0, 0, [], 0) := (lx_11 23).trans rfl
theorem lq_574 : ix_lo[574]? = some (1029, 2, .iload 6, 0, 0, 0, [], 0) := (lx_11 24).trans rfl
theorem lq_575 : ix_lo[575]? = some (1031, 1, .i2l, 0, 0, 0, [], 0) := (lx_11 25).trans rfl
theorem lq_576 : ix_lo[576]? = some (1032, 1, .lcmp, 0, 0, 0, [], 0) := (lx_11 26).trans rfl
theorem lq_577 : ix_lo[577]? = some (1033, 3, .ifCond .eq 5, 580, 0, 0, [], 0) := (lx_11 27).trans rfl
theorem lq_578 : ix_lo[578]? = some (1036, 1, .iconst 0, 0, 0, 0, [], 0) := (lx_11 28).trans rfl
theorem lq_579 : ix_lo[579]? = some (1037, 1, .ireturn, 1, 0, 0, [], 0) := (lx_11 29).trans rfl
theorem lq_580 : ix_lo[580]? = some (1038, 3, .goto 1226, 1395, 0, 0, [], 0) := (lx_11 30).trans rfl
theorem lq_581 : ix_lo[581]? = some (1041, 1, .aload_n 1, 0, 0, 0, [], 0) := (lx_11 31).trans rfl
theorem lq_582 : ix_lo[582]? = some (1042, 1, .aload_n 0, 0, 0, 0, [], 0) := (lx_11 32).trans rfl
theorem lq_583 : ix_lo[583]? = some (1043, 2, .iload 4, 0, 0, 0, [], 0) := (lx_11 33).trans rfl
theorem lq_584 : ix_lo[584]? = some (1045, 1, .iconst 1, 0, 0, 0, [], 0) := (lx_11 34).trans rfl
theorem lq_585 : ix_lo[585]? = some (1046, 1, .iadd, 0, 0, 0, [], 0) := (lx_11 35).trans rfl
theorem lq_586 : ix_lo[586]? = some (1047, 1, .iaload, 0, 0, 0, [], 0) := (lx_11 36).trans rfl
theorem lq_587 : ix_lo[587]? = some (1048, 1, .aload_n 3, 0, 0, 0, [], 0) := (lx_11 37).trans rfl
theorem lq_588 : ix_lo[588]? = some (1049, 3, .invokestatic 155, 271, 3, 3, [], 0) := (lx_11 38).trans rfl
theorem lq_589 : ix_lo[589]? = some (1052, 2, .istore 5, 0, 0, 0, [], 0) := (lx_11 39).trans rfl
theorem lq_590 : ix_lo[590]? = some (1054, 1, .aload_n 2, 0, 0, 0, [], 0) := (lx_11 40).trans rfl
theorem lq_591 : ix_lo[591]? = some (1055, 1, .aload_n 0, 0, 0, 0, [], 0) := (lx_11 41).trans rfl
theorem lq_592 : ix_lo[592]? = some (1056, 2, .iload 4, 0, 0, 0, [], 0) := (lx_11 42).trans rfl
theorem lq_593 : ix_lo[593]? = some (1058, 1, .iconst 1, 0, 0, 0, [], 0) := (lx_11 43).trans rfl
theorem lq_594 : ix_lo[594]? = some (1059, 1, .iadd, 0, 0, 0, [], 0) := (lx_11 44).trans rfl
theorem lq_595 : ix_lo[595]? = some (1060, 1, .iaload, 0, 0, 0, [], 0) := (lx_11 45).trans rfl
theorem lq_596 : ix_lo[596]? = some (1061, 3, .invokevirtual 157, 225, 0, 2, [12], 0) := (lx_11 46).trans rfl
theorem lq_597 : ix_lo[597]? = some (1064, 2, .istore 6, 0, 0, 0, [], 0) := (lx_11 47).trans rfl
theorem lq_598 : ix_lo[598]? = some (1066, 1, .aload_n 2, 0, 0, 0, [], 0) := (lx_11 48).trans rfl
theorem lq_599 : ix_lo[599]? = some (1067, 3, .invokevirtual 111, 153, 0, 1, [12], 0) := (lx_11 49).trans rfl
theorem lq_600 : ix_lo[600]? = some (1070, 2, .iload 5, 0, 0, 0, [], 0) := (lx_12 0).trans rfl
theorem lq_601 : ix_lo[601]? = some (1072, 3, .if_icmp .eq 5, 604, 0, 0, [], 0) := (lx_12 1).trans rfl
theorem lq_602 : ix_lo[602]? = some (1075, 1, .iconst 0, 0, 0, 0, [], 0) := (lx_12 2).trans rfl
theorem lq_603 : ix_lo[603]? = some (1076, 1, .ireturn, 1, 0, 0, [], 0) := (lx_12 3).trans rfl
theorem lq_604 : ix_lo[604]? = some (1077, 2, .iload 5, 0, 0, 0, [], 0) := (lx_12 4).trans rfl
theorem lq_605 : ix_lo[605]? = some (1079, 3, .ifCond .ne 15, 615, 0, 0, [], 0) := (lx_12 5).trans rfl
theorem lq_606 : ix_lo[606]? = some (1082, 1, .aload_n 3, 0, 0, 0, [], 0) := (lx_12 6).trans rfl
theorem lq_607 : ix_lo[607]? = some (1083, 1, .iconst 0, 0, 0, 0, [], 0) := (lx_12 7).trans rfl
theorem lq_608 : ix_lo[608]? = some (1084, 1, .laload, 0, 0, 0, [], 0) := (lx_12 8).trans rfl
theorem lq_609 : ix_lo[609]? = some (1085, 2, .iload 6, 0, 0, 0, [], 0) := (lx_12 9).trans rfl
theorem lq_610 : ix_lo[610]? = some (1087, 1, .i2l, 0, 0, 0, [], 0) := (lx_12 10).trans rfl
theorem lq_611 : ix_lo[611]? = some (1088, 1, .lcmp, 0, 0, 0, [], 0) := (lx_12 11).trans rfl
theorem lq_612 : ix_lo[612]? = some (1089, 3, .ifCond .eq 5, 615, 0, 0, [], 0) := (lx_12 12).trans rfl
theorem lq_613 : ix_lo[613]? = some (1092, 1, .iconst 0, 0, 0, 0, [], 0) := (lx_12 13).trans rfl
theorem lq_614 : ix_lo[614]? = some (1093, 1, .ireturn, 1, 0, 0, [], 0) := (lx_12 14).trans rfl
theorem lq_615 : ix_lo[615]? = some (1094, 3, .goto 1170, 1395, 0, 0, [], 0) := (lx_12 15).trans rfl
theorem lq_616 : ix_lo[616]? = some (1097, 1, .aload_n 1, 0, 0, 0, [], 0) := (lx_12 16).trans rfl
theorem lq_617 : ix_lo[617]? = some (1098, 1, .aload_n 0, 0, 0, 0, [], 0) := (lx_12 17).trans rfl
theorem lq_618 : ix_lo[618]? = some (1099, 2, .iload 4, 0, 0, 0, [], 0) := (lx_12 18).trans rfl
theorem lq_619 : ix_lo[619]? = some (1101, 1, .iconst 1, 0, 0, 0, [], 0) := (lx_12 19).trans rfl
theorem lq_620 : ix_lo[620]? = some (1102, 1, .iadd, 0, 0, 0, [], 0) := (lx_12 20).trans rfl
theorem lq_621 : ix_lo[621]? = some (1103, 1, .iaload, 0, 0, 0, [], 0) := (lx_12 21).trans rfl
theorem lq_622 : ix_lo[622]? = some (1104, 1, .aload_n 0, 0, 0, 0, [], 0) := (lx_12 22).trans rfl
theorem lq_623 : ix_lo[623]? = some (1105, 2, .iload 4, 0, 0, 0, [], 0) := (lx_12 23).trans rfl
theorem lq_624 : ix_lo[624]? = some (1107, 1, .iconst 2, 0, 0, 0, [], 0) := (lx_12 24).trans rfl
theorem lq_625 : ix_lo[625]? = some (1108, 1, .iadd, 0, 0, 0, [], 0) := (lx_12 25).trans rfl
theorem lq_626 : ix_lo[626]? = some (1109, 1, .iaload, 0, 0, 0, [], 0) := (lx_12 26).trans rfl
theorem lq_627 : ix_lo[627]? = some (1110, 1, .aload_n 3, 0, 0, 0, [], 0) := (lx_12 27).trans rfl
theorem lq_628 : ix_lo[628]? = some (1111, 3, .invokestatic 158, 272, 3, 4, [], 0) := (lx_12 28).trans rfl
theorem lq_629 : ix_lo[629]? = some (1114, 2, .istore 5, 0, 0, 0, [], 0) := (lx_12 29).trans rfl
theorem lq_630 : ix_lo[630]? = some (1116, 1, .aload_n 2, 0, 0, 0, [], 0) := (lx_12 30).trans rfl
theorem lq_631 : ix_lo[631]? = some (1117, 1, .aload_n 0, 0, 0, 0, [], 0) := (lx_12 31).trans rfl
theorem lq_632 : ix_lo[632]? = some (1118, 2, .iload 4, 0, 0, 0, [], 0) := (lx_12 32).trans rfl
theorem lq_633 : ix_lo[633]? = some (1120, 1, .iconst 1, 0, 0, 0, [], 0) := (lx_12 33).trans rfl
theorem lq_634 : ix_lo[634]? = some (1121, 1, .iadd, 0, 0, 0, [], 0) := (lx_12 34).trans rfl
theorem lq_635 : ix_lo[635]? = some (1122, 1, .iaload, 0, 0, 0, [], 0) := (lx_12 35).trans rfl
theorem lq_636 : ix_lo[636]? = some (1123, 1, .aload_n 0, 0, 0, 0, [], 0) := (lx_12 36).trans rfl
theorem lq_637 : ix_lo[637]? = some (1124, 2, .iload 4, 0, 0, 0, [], 0) := (lx_12 37).trans rfl
theorem lq_638 : ix_lo[638]? = some (1126, 1, .iconst 2, 0, 0, 0, [], 0) := (lx_12 38).trans rfl
theorem lq_639 : ix_lo[639]? = some (1127, 1, .iadd, 0, 0, 0, [], 0) := (lx_12 39).trans rfl
theorem lq_640 : ix_lo[640]? = some (1128, 1, .iaload, 0, 0, 0, [], 0) := (lx_12 40).trans rfl
theorem lq_641 : ix_lo[641]? = some (1129, 3, .invokevirtual 160, 226, 0, 3, [12], 0) := (lx_12 41).trans rfl
theorem lq_642 : ix_lo[642]? = some (1132, 2, .istore 6, 0, 0, 0, [], 0) := (lx_12 42).trans rfl
theorem lq_643 : ix_lo[643]? = some (1134, 1, .aload_n 2, 0, 0, 0, [], 0) := (lx_12 43).trans rfl
theorem lq_644 : ix_lo[644]? = some (1135, 3, .invokevirtual 111, 153, 0, 1, [12], 0) := (lx_12 44).trans rfl
theorem lq_645 : ix_lo[645]? = some (1138, 2, .iload 5, 0, 0, 0, [], 0) := (lx_12 45).trans rfl
theorem lq_646 : ix_lo[646]? = some (1140, 3, .if_icmp .eq 5, 649, 0, 0, [], 0) := (lx_12 46).trans rfl
theorem lq_647 : ix_lo[647]? = some (1143, 1, .iconst 0, 0, 0, 0, [], 0) := (lx_12 47).trans rfl
theorem lq_648 : ix_lo[648]? = some (1144, 1, .ireturn, 1, 0, 0, [], 0) := (lx_12 48).trans rfl
theorem lq_649 : ix_lo[649]? = some (1145, 2, .iload 5, 0, 0, 0, [], 0) := (lx_12 49).trans rfl
theorem lq_650 : ix_lo[650]? = some (1147, 3, .ifCond .ne 15, 660, 0, 0, [], 0) := (lx_13 0).trans rfl
theorem lq_651 : ix_lo[651]? = some (1150, 1, .aload_n 3, 0, 0, 0, [], 0) := (lx_13 1).trans rfl
theorem lq_652 : ix_lo[652]? = some (1151, 1, .iconst 0, 0, 0, 0, [], 0) := (lx_13 2).trans rfl
theorem lq_653 : ix_lo[653]? = some (1152, 1, .laload, 0, 0, 0, [], 0) := (lx_13 3).trans rfl
theorem lq_654 : ix_lo[654]? = some (1153, 2, .iload 6, 0, 0, 0, [], 0) := (lx_13 4).trans rfl
theorem lq_655 : ix_lo[655]? = some (1155, 1, .i2l, 0, 0, 0, [], 0) := (lx_13 5).trans rfl
theorem lq_656 : ix_lo[656]? = some (1156, 1, .lcmp, 0, 0, 0, [], 0) := (lx_13 6).trans rfl
theorem lq_657 : ix_lo[657]? = some (1157, 3, .ifCond .eq 5, 660, 0, 0, [], 0) := (lx_13 7).trans rfl
theorem lq_658 : ix_lo[658]? = some (1160, 1, .iconst 0, 0, 0, 0, [], 0) := (lx_13 8).trans rfl
theorem lq_659 : ix_lo[659]? = some (1161, 1, .ireturn, 1, 0, 0, [], 0) := (lx_13 9).trans rfl
theorem lq_660 : ix_lo[660]? = some (1162, 3, .goto 1102, 1395, 0, 0, [], 0) := (lx_13 10).trans rfl
theorem lq_661 : ix_lo[661]? = some (1165, 1, .aload_n 1, 0, 0, 0, [], 0) := (lx_13 11).trans rfl
theorem lq_662 : ix_lo[662]? = some (1166, 1, .aload_n 0, 0, 0, 0, [], 0) := (lx_13 12).trans rfl
theorem lq_663 : ix_lo[663]? = some (1167, 2, .iload 4, 0, 0, 0, [], 0) := (lx_13 13).trans rfl
theorem lq_664 : ix_lo[664]? = some (1169, 1, .iconst 1, 0, 0, 0, [], 0) := (lx_13 14).trans rfl
theorem lq_665 : ix_lo[665]? = some (1170, 1, .iadd, 0, 0, 0, [], 0) := (lx_13 15).trans rfl
theorem lq_666 : ix_lo[666]? = some (1171, 1, .iaload, 0, 0, 0, [], 0) := (lx_13 16).trans rfl
theorem lq_667 : ix_lo[667]? = some (1172, 1, .aload_n 3, 0, 0, 0, [], 0) := (lx_13 17).trans rfl
theorem lq_668 : ix_lo[668]? = some (1173, 3, .invokestatic 161, 273, 3, 3, [], 0) := (lx_13 18).trans rfl
theorem lq_669 : ix_lo[669]? = some (1176, 2, .istore 5, 0, 0, 0, [], 0) := (lx_13 19).trans rfl
theorem lq_670 : ix_lo[670]? = some (1178, 1, .aload_n 2, 0, 0, 0, [], 0) := (lx_13 20).trans rfl
theorem lq_671 : ix_lo[671]? = some (1179, 1, .aload_n 0, 0, 0, 0, [], 0) := (lx_13 21).trans rfl
theorem lq_672 : ix_lo[672]? = some (1180, 2, .iload 4, 0, 0, 0, [], 0) := (lx_13 22).trans rfl
theorem lq_673 : ix_lo[673]? = some (1182, 1, .iconst 1, 0, 0, 0, [], 0) := (lx_13 23).trans rfl
theorem lq_674 : ix_lo[674]? = some (1183, 1, .iadd, 0, 0, 0, [], 0) := (lx_13 24).trans rfl
theorem lq_675 : ix_lo[675]? = some (1184, 1, .iaload, 0, 0, 0, [], 0) := (lx_13 25).trans rfl
theorem lq_676 : ix_lo[676]? = some (1185, 3, .invokevirtual 163, 229, 0, 2, [12], 0) := (lx_13 26).trans rfl
theorem lq_677 : ix_lo[677]? = some (1188, 2, .istore 6, 0, 0, 0, [], 0) := (lx_13 27).trans rfl
theorem lq_678 : ix_lo[678]? = some (1190, 1, .aload_n 2, 0, 0, 0, [], 0) := (lx_13 28).trans rfl
theorem lq_679 : ix_lo[679]? = some (1191, 3, .invokevirtual 111, 153, 0, 1, [12], 0) := (lx_13 29).trans rfl
theorem lq_680 : ix_lo[680]? = some (1194, 2, .iload 5, 0, 0, 0, [], 0) := (lx_13 30).trans rfl
theorem lq_681 : ix_lo[681]? = some (1196, 3, .if_icmp .eq 5, 684, 0, 0, [], 0) := (lx_13 31).trans rfl
theorem lq_682 : ix_lo[682]? = some (1199, 1, .iconst 0, 0, 0, 0, [], 0) := (lx_13 32).trans rfl
theorem lq_683 : ix_lo[683]? = some (1200, 1, .ireturn, 1, 0, 0, [], 0) := (lx_13 33).trans rfl
theorem lq_684 : ix_lo[684]? = some (1201, 2, .iload 5, 0, 0, 0, [], 0) := (lx_13 34).trans rfl
theorem lq_685 : ix_lo[685]? = some (1203, 3, .ifCond .ne 15, 695, 0, 0, [], 0) := (lx_13 35).trans rfl
theorem lq_686 : ix_lo[686]? = some (1206, 1, .aload_n 3, 0, 0, 0, [], 0) := (lx_13 36).trans rfl
theorem lq_687 : ix_lo[687]? = some (1207, 1, .iconst 0, 0, 0, 0, [], 0) := (lx_13 37).trans rfl
theorem lq_688 : ix_lo[688]? = some (1208, 1, .laload, 0, 0, 0, [], 0) := (lx_13 38).trans rfl
theorem lq_689 : ix_lo[689]? = some (1209, 2, .iload 6, 0, 0, 0, [], 0) := (lx_13 39).trans rfl
theorem lq_690 : ix_lo[690]? = some (1211, 1, .i2l, 0, 0, 0, [], 0) := (lx_13 40).trans rfl
theorem lq_691 : ix_lo[691]? = some (1212, 1, .lcmp, 0, 0, 0, [], 0) := (lx_13 41).trans rfl
theorem lq_692 : ix_lo[692]? = some (1213, 3, .ifCond .eq 5, 695, 0, 0, [], 0) := (lx_13 42).trans rfl
theorem lq_693 : ix_lo[693]? = some (1216, 1, .iconst 0, 0, 0, 0, [], 0) := (lx_13 43).trans rfl
theorem lq_694 : ix_lo[694]? = some (1217, 1, .ireturn, 1, 0, 0, [], 0) := (lx_13 44).trans rfl
theorem lq_695 : ix_lo[695]? = some (1218, 3, .goto 1046, 1395, 0, 0, [], 0) := (lx_13 45).trans rfl
theorem lq_696 : ix_lo[696]? = some (1221, 1, .aload_n 1, 0, 0, 0, [], 0) := (lx_13 46).trans rfl
theorem lq_697 : ix_lo[697]? = some (1222, 1, .aload_n 0, 0, 0, 0, [], 0) := (lx_13 47).trans rfl
theorem lq_698 : ix_lo[698]? = some (1223, 2, .iload 4, 0, 0, 0, [], 0) := (lx_13 48).trans rfl
theorem lq_699 : ix_lo[699]? = some (1225, 1, .iconst 1, 0, 0, 0, [], 0) := (lx_13 49).trans rfl
theorem lq_700 : ix_lo[700]? = some (1226, 1, .iadd, 0, 0, 0, [], 0) := (lx_14 0).trans rfl
theorem lq_701 : ix_lo[701]? = some (1227, 1, .iaload, 0, 0, 0, [], 0) := (lx_14 1).trans rfl
theorem lq_702 : ix_lo[702]? = some (1228, 1, .aload_n 3, 0, 0, 0, [], 0) := (lx_14 2).trans rfl
theorem lq_703 : ix_lo[703]? = some (1229, 3, .invokestatic 164, 274, 3, 3, [], 0) := (lx_14 3).trans rfl
theorem lq_704 : ix_lo[704]? = some (1232, 2, .istore 5, 0, 0, 0, [], 0) := (lx_14 4).trans rfl
theorem lq_705 : ix_lo[705]? = some (1234, 1, .aload_n 2, 0, 0, 0, [], 0) := (lx_14 5).trans rfl
theorem lq_706 : ix_lo[706]? = some (1235, 1, .aload_n 0, 0, 0, 0, [], 0) := (lx_14 6).trans rfl
theorem lq_707 : ix_lo[707]? = some (1236, 2, .iload 4, 0, 0, 0, [], 0) := (lx_14 7).trans rfl
theorem lq_708 : ix_lo[708]? = some (1238, 1, .iconst 1, 0, 0, 0, [], 0) := (lx_14 8).trans rfl
theorem lq_709 : ix_lo[709]? = some (1239, 1, .iadd, 0, 0, 0, [], 0) := (lx_14 9).trans rfl
theorem lq_710 : ix_lo[710]? = some (1240, 1, .iaload, 0, 0, 0, [], 0) := (lx_14 10).trans rfl
theorem lq_711 : ix_lo[711]? = some (1241, 3, .invokevirtual 166, 231, 0, 2, [12], 0) := (lx_14 11).trans rfl
theorem lq_712 : ix_lo[712]? = some (1244, 2, .istore 6, 0, 0, 0, [], 0) := (lx_14 12).trans rfl
theorem lq_713 : ix_lo[713]? = some (1246, 1, .aload_n 2, 0, 0, 0, [], 0) := (lx_14 13).trans rfl
theorem lq_714 : ix_lo[714]? = some (1247, 3, .invokevirtual 111, 153, 0, 1, [12], 0) := (lx_14 14).trans rfl
theorem lq_715 : ix_lo[715]? = some (1250, 2, .iload 5, 0, 0, 0, [], 0) := (lx_14 15).trans rfl
theorem lq_716 : ix_lo[716]? = some (1252, 3, .if_icmp .eq 5, 719, 0, 0, [], 0) := (lx_14 16).trans rfl
theorem lq_717 : ix_lo[717]? = some (1255, 1, .iconst 0, 0, 0, 0, [], 0) := (lx_14 17).trans rfl
theorem lq_718 : ix_lo[718]? = some (1256, 1, .ireturn, 1, 0, 0, [], 0) := (lx_14 18).trans rfl
theorem lq_719 : ix_lo[719]? = some (1257, 2, .iload 5, 0, 0, 0, [], 0) := (lx_14 19).trans rfl
theorem lq_720 : ix_lo[720]? = some (1259, 3, .ifCond .ne 15, 730, 0, 0, [], 0) := (lx_14 20).trans rfl
theorem lq_721 : ix_lo[721]? = some (1262, 1, .aload_n 3, 0, 0, 0, [], 0) := (lx_14 21).trans rfl
theorem lq_722 : ix_lo[722]? = some (1263, 1, .iconst 0, 0, 0, 0, [], 0) := (lx_14 22).trans rfl
theorem lq_723 : ix_lo[723]? = some (1264, 1, .laload, 0, 0, 0, [], 0) := (lx_14 23).trans rfl
theorem lq_724 : ix_lo[724]? = some (1265, 2, .iload 6, 0, 0, 0, [], 0) := (lx_14 24).trans rfl
theorem lq_725 : ix_lo[725]? = some (1267, 1, .i2l, 0, 0, 0, [], 0) := (lx_14 25).trans rfl
theorem lq_726 : ix_lo[726]? = some (1268, 1, .lcmp, 0, 0, 0, [], 0) := (lx_14 26).trans rfl
theorem lq_727 : ix_lo[727]? = some (1269, 3, .ifCond .eq 5, 730, 0, 0, [], 0) := (lx_14 27).trans rfl
theorem lq_728 : ix_lo[728]? = some (1272, 1, .iconst 0, 0, 0, 0, [], 0) := (lx_14 28).trans rfl
theorem lq_729 : ix_lo[729]? = some (1273, 1, .ireturn, 1, 0, 0, [], 0) := (lx_14 29).trans rfl
theorem lq_730 : ix_lo[730]? = some (1274, 3, .goto 990, 1395, 0, 0, [], 0) := (lx_14 30).trans rfl
theorem lq_731 : ix_lo[731]? = some (1277, 1, .aload_n 1, 0, 0, 0, [], 0) := (lx_14 31).trans rfl
theorem lq_732 : ix_lo[732]? = some (1278, 1, .aload_n 0, 0, 0, 0, [], 0) := (lx_14 32).trans rfl
theorem lq_733 : ix_lo[733]? = some (1279, 2, .iload 4, 0, 0, 0, [], 0) := (lx_14 33).trans rfl
theorem lq_734 : ix_lo[734]? = some (1281, 1, .iconst 1, 0, 0, 0, [], 0) := (lx_14 34).trans rfl
theorem lq_735 : ix_lo[735]? = some (1282, 1, .iadd, 0, 0, 0, [], 0) := (lx_14 35).trans rfl
theorem lq_736 : ix_lo[736]? = some (1283, 1, .iaload, 0, 0, 0, [], 0) := (lx_14 36).trans rfl
theorem lq_737 : ix_lo[737]? = some (1284, 1, .aload_n 0, 0, 0, 0, [], 0) := (lx_14 37).trans rfl
theorem lq_738 : ix_lo[738]? = some (1285, 2, .iload 4, 0, 0, 0, [], 0) := (lx_14 38).trans rfl
theorem lq_739 : ix_lo[739]? = some (1287, 1, .iconst 2, 0, 0, 0, [], 0) := (lx_14 39).trans rfl
theorem lq_740 : ix_lo[740]? = some (1288, 1, .iadd, 0, 0, 0, [], 0) := (lx_14 40).trans rfl
theorem lq_741 : ix_lo[741]? = some (1289, 1, .iaload, 0, 0, 0, [], 0) := (lx_14 41).trans rfl
theorem lq_742 : ix_lo[742]? = some (1290, 1, .aload_n 3, 0, 0, 0, [], 0) := (lx_14 42).trans rfl
theorem lq_743 : ix_lo[743]? = some (1291, 3, .invokestatic 167, 275, 3, 4, [], 0) := (lx_14 43).trans rfl
theorem lq_744 : ix_lo[744]? = some (1294, 2, .istore 5, 0, 0, 0, [], 0) := (lx_14 44).trans rfl
theorem lq_745 : ix_lo[745]? = some (1296, 1, .aload_n 2, 0, 0, 0, [], 0) := (lx_14 45).trans rfl
theorem lq_746 : ix_lo[746]? = some (1297, 1, .aload_n 0, 0, 0, 0, [], 0) := (lx_14 46).trans rfl
theorem lq_747 : ix_lo[747]? = some (1298, 2, .iload 4, 0, 0, 0, [], 0) := (lx_14 47).trans rfl
theorem lq_748 : ix_lo[748]? = some (1300, 1, .iconst 1, 0, 0, 0, [], 0) := (lx_14 48).trans rfl
theorem lq_749 : ix_lo[749]? = some (1301, 1, .iadd, 0, 0, 0, [], 0) := (lx_14 49).trans rfl
theorem lq_750 : ix_lo[750]? = some (1302, 1, .iaload, 0, 0, 0, [], 0) := (lx_15 0).trans rfl
theorem lq_751 : ix_lo[751]? = some (1303, 1, .aload_n 0, 0, 0, 0, [], 0) := (lx_15 1).trans rfl
theorem lq_752 : ix_lo[752]? = some (1304, 2, .iload 4, 0, 0, 0, [], 0) := (lx_15 2).trans rfl
theorem lq_753 : ix_lo[753]? = some (1306, 1, .iconst 2, 0, 0, 0, [], 0) := (lx_15 3).trans rfl
theorem lq_754 : ix_lo[754]? = some (1307, 1, .iadd, 0, 0, 0, [], 0) := (lx_15 4).trans rfl
theorem lq_755 : ix_lo[755]? = some (1308, 1, .iaload, 0, 0, 0, [], 0) := (lx_15 5).trans rfl
theorem lq_756 : ix_lo[756]? = some (1309, 3, .invokevirtual 169, 233, 0, 3, [12], 0) := (lx_15 6).trans rfl
theorem lq_757 : ix_lo[757]? = some (1312, 2, .istore 6, 0, 0, 0, [], 0) := (lx_15 7).trans rfl
theorem lq_758 : ix_lo[758]? = some (1314, 1, .aload_n 2, 0, 0, 0, [], 0) := (lx_15 8).trans rfl
theorem lq_759 : ix_lo[759]? = some (1315, 3, .invokevirtual 111, 153, 0, 1, [12], 0) := (lx_15 9).trans rfl
theorem lq_760 : ix_lo[760]? = some (1318, 2, .iload 5, 0, 0, 0, [], 0) := (lx_15 10).trans rfl
theorem lq_761 : ix_lo[761]? = some (1320, 3, .if_icmp .eq 5, 764, 0, 0, [], 0) := (lx_15 11).trans rfl
theorem lq_762 : ix_lo[762]? = some (1323, 1, .iconst 0, 0, 0, 0, [], 0) := (lx_15 12).trans rfl
theorem lq_763 : ix_lo[763]? = some (1324, 1, .ireturn, 1, 0, 0, [], 0) := (lx_15 13).trans rfl
theorem lq_764 : ix_lo[764]? = some (1325, 2, .iload 5, 0, 0, 0, [], 0) := (lx_15 14).trans rfl
theorem lq_765 : ix_lo[765]? = some (1327, 3, .ifCond .ne 15, 775, 0, 0, [], 0) := (lx_15 15).trans rfl
theorem lq_766 : ix_lo[766]? = some (1330, 1, .aload_n 3, 0, 0, 0, [], 0) := (lx_15 16).trans rfl
theorem lq_767 : ix_lo[767]? = some (1331, 1, .iconst 0, 0, 0, 0, [], 0) := (lx_15 17).trans rfl
theorem lq_768 : ix_lo[768]? = some (1332, 1, .laload, 0, 0, 0, [], 0) := (lx_15 18).trans rfl
theorem lq_769 : ix_lo[769]? = some (1333, 2, .iload 6, 0, 0, 0, [], 0) := (lx_15 19).trans rfl
theorem lq_770 : ix_lo[770]? = some (1335, 1, .i2l, 0, 0, 0, [], 0) := (lx_15 20).trans rfl
theorem lq_771 : ix_lo[771]? = some (1336, 1, .lcmp, 0, 0, 0, [], 0) := (lx_15 21).trans rfl
theorem lq_772 : ix_lo[772]? = some (1337, 3, .ifCond .eq 5, 775, 0, 0, [], 0) := (lx_15 22).trans rfl
theorem lq_773 : ix_lo[773]? = some (1340, 1, .iconst 0, 0, 0, 0, [], 0) := (lx_15 23).trans rfl
theorem lq_774 : ix_lo[774]? = some (1341, 1, .ireturn, 1, 0, 0, [], 0) := (lx_15 24).trans rfl
theorem lq_775 : ix_lo[775]? = some (1342, 3, .goto 922, 1395, 0, 0, [], 0) := (lx_15 25).trans rfl
theorem lq_776 : ix_lo[776]? = some (1345, 1, .aload_n 1, 0, 0, 0, [], 0) := (lx_15 26).trans rfl
theorem lq_777 : ix_lo[777]? = some (1346, 1, .aload_n 0, 0, 0, 0, [], 0) := (lx_15 27).trans rfl
theorem lq_778 : ix_lo[778]? = some (1347, 2, .iload 4, 0, 0, 0, [], 0) := (lx_15 28).trans rfl
theorem lq_779 : ix_lo[779]? = some (1349, 1, .iconst 1, 0, 0, 0, [], 0) := (lx_15 29).trans rfl
theorem lq_780 : ix_lo[780]? = some (1350, 1, .iadd, 0, 0, 0, [], 0) := (lx_15 30).trans rfl
theorem lq_781 : ix_lo[781]? = some (1351, 1, .iaload, 0, 0, 0, [], 0) := (lx_15 31).trans rfl
theorem lq_782 : ix_lo[782]? = some (1352, 1, .aload_n 0, 0, 0, 0, [], 0) := (lx_15 32).trans rfl
theorem lq_783 : ix_lo[783]? = some (1353, 2, .iload 4, 0, 0, 0, [], 0) := (lx_15 33).trans rfl
theorem lq_784 : ix_lo[784]? = some (1355, 1, .iconst 2, 0, 0, 0, [], 0) := (lx_15 34).trans rfl
theorem lq_785 : ix_lo[785]? = some (1356, 1, .iadd, 0, 0, 0, [], 0) := (lx_15 35).trans rfl
theorem lq_786 : ix_lo[786]? = some (1357, 1, .iaload, 0, 0, 0, [], 0) := (lx_15 36).trans rfl
theorem lq_787 : ix_lo[787]? = some (1358, 1, .aload_n 3, 0, 0, 0, [], 0) := (lx_15 37).trans rfl
theorem lq_788 : ix_lo[788]? = some (1359, 3, .invokestatic 170, 276, 3, 4, [], 0) := (lx_15 38).trans rfl
theorem lq_789 : ix_lo[789]? = some (1362, 2, .istore 5, 0, 0, 0, [], 0) := (lx_15 39).trans rfl
theorem lq_790 : ix_lo[790]? = some (1364, 1, .aload_n 2, 0, 0, 0, [], 0) := (lx_15 40).trans rfl
theorem lq_791 : ix_lo[791]? = some (1365, 1, .aload_n 0, 0, 0, 0, [], 0) := (lx_15 41).trans rfl
theorem lq_792 : ix_lo[792]? = some (1366, 2, .iload 4, 0, 0, 0, [], 0) := (lx_15 42).trans rfl
theorem lq_793 : ix_lo[793]? = some (1368, 1, .iconst 1, 0, 0, 0, [], 0) := (lx_15 43).trans rfl
theorem lq_794 : ix_lo[794]? = some (1369, 1, .iadd, 0, 0, 0, [], 0) := (lx_15 44).trans rfl
theorem lq_795 : ix_lo[795]? = some (1370, 1, .iaload, 0, 0, 0, [], 0) := (lx_15 45).trans rfl
theorem lq_796 : ix_lo[796]? = some (1371, 1, .aload_n 0, 0, 0, 0, [], 0) := (lx_15 46).trans rfl
theorem lq_797 : ix_lo[797]? = some (1372, 2, .iload 4, 0, 0, 0, [], 0) := (lx_15 47).trans rfl
theorem lq_798 : ix_lo[798]? = some (1374, 1, .iconst 2, 0, 0, 0, [], 0) := (lx_15 48).trans rfl
theorem lq_799 : ix_lo[799]? = some (1375, 1, .iadd, 0, 0, 0, [], 0) := (lx_15 49).trans rfl
theorem lq_800 : ix_lo[800]? = some (1376, 1, .iaload, 0, 0, 0, [], 0) := (lx_16 0).trans rfl
theorem lq_801 : ix_lo[801]? = some (1377, 3, .invokevirtual 172, 234, 0, 3, [12], 0) := (lx_16 1).trans rfl
theorem lq_802 : ix_lo[802]? = some (1380, 2, .istore 6, 0, 0, 0, [], 0) := (lx_16 2).trans rfl
theorem lq_803 : ix_lo[803]? = some (1382, 1, .aload_n 2, 0, 0, 0, [], 0) := (lx_16 3).trans rfl
theorem lq_804 : ix_lo[804]? = some (1383, 3, .invokevirtual 111, 153, 0, 1, [12], 0) := (lx_16 4).trans rfl
theorem lq_805 : ix_lo[805]? = some (1386, 2, .iload 5, 0, 0, 0, [], 0) := (lx_16 5).trans rfl
theorem lq_806 : ix_lo[806]? = some (1388, 3, .if_icmp .eq 5, 809, 0, 0, [], 0) := (lx_16 6).trans rfl
theorem lq_807 : ix_lo[807]? = some (1391, 1, .iconst 0, 0, 0, 0, [], 0) := (lx_16 7).trans rfl
theorem lq_808 : ix_lo[808]? = some (1392, 1, .ireturn, 1, 0, 0, [], 0) := (lx_16 8).trans rfl
theorem lq_809 : ix_lo[809]? = some (1393, 2, .iload 5, 0, 0, 0, [], 0) := (lx_16 9).trans rfl
theorem lq_810 : ix_lo[810]? = some (1395, 3, .ifCond .ne 15, 820, 0, 0, [], 0) := (lx_16 10).trans rfl
theorem lq_811 : ix_lo[811]? = some (1398, 1, .aload_n 3, 0, 0, 0, [], 0) := (lx_16 11).trans rfl
theorem lq_812 : ix_lo[812]? = some (1399, 1, .iconst 0, 0, 0, 0, [], 0) := (lx_16 12).trans rfl
theorem lq_813 : ix_lo[813]? = some (1400, 1, .laload, 0, 0, 0, [], 0) := (lx_16 13).trans rfl
theorem lq_814 : ix_lo[814]? = some (1401, 2, .iload 6, 0, 0, 0, [], 0) := (lx_16 14).trans rfl
theorem lq_815 : ix_lo[815]? = some (1403, 1, .i2l, 0, 0, 0, [], 0) := (lx_16 15).trans rfl
theorem lq_816 : ix_lo[816]? = some (1404, 1, .lcmp, 0, 0, 0, [], 0) := (lx_16 16).trans rfl
theorem lq_817 : ix_lo[817]? = some (1405, 3, .ifCond .eq 5, 820, 0, 0, [], 0) := (lx_16 17).trans rfl
theorem lq_818 : ix_lo[818]? = some (1408, 1, .iconst 0, 0, 0, 0, [], 0) := (lx_16 18).trans rfl
theorem lq_819 : ix_lo[819]? = some (1409, 1, .ireturn, 1, 0, 0, [], 0) := (lx_16 19).trans rfl
theorem lq_820 : ix_lo[820]? = some (1410, 3, .goto 854, 1395, 0, 0, [], 0) := (lx_16 20).trans rfl
theorem lq_821 : ix_lo[821]? = some (1413, 1, .aload_n 1, 0, 0, 0, [], 0) := (lx_16 21).trans rfl
theorem lq_822 : ix_lo[822]? = some (1414, 1, .aload_n 0, 0, 0, 0, [], 0) := (lx_16 22).trans rfl
theorem lq_823 : ix_lo[823]? = some (1415, 2, .iload 4, 0, 0, 0, [], 0) := (lx_16 23).trans rfl
theorem lq_824 : ix_lo[824]? = some (1417, 1, .iconst 1, 0, 0, 0, [], 0) := (lx_16 24).trans rfl
theorem lq_825 : ix_lo[825]? = some (1418, 1, .iadd, 0, 0, 0, [], 0) := (lx_16 25).trans rfl
theorem lq_826 : ix_lo[826]? = some (1419, 1, .iaload, 0, 0, 0, [], 0) := (lx_16 26).trans rfl
theorem lq_827 : ix_lo[827]? = some (1420, 1, .aload_n 0, 0, 0, 0, [], 0) := (lx_16 27).trans rfl
theorem lq_828 : ix_lo[828]? = some (1421, 2, .iload 4, 0, 0, 0, [], 0) := (lx_16 28).trans rfl
theorem lq_829 : ix_lo[829]? = some (1423, 1, .iconst 2, 0, 0, 0, [], 0) := (lx_16 29).trans rfl
theorem lq_830 : ix_lo[830]? = some (1424, 1, .iadd, 0, 0, 0, [], 0) := (lx_16 30).trans rfl
theorem lq_831 : ix_lo[831]? = some (1425, 1, .iaload, 0, 0, 0, [], 0) := (lx_16 31).trans rfl
theorem lq_832 : ix_lo[832]? = some (1426, 1, .aload_n 3, 0, 0, 0, [], 0) := (lx_16 32).trans rfl
theorem lq_833 : ix_lo[833]? = some (1427, 3, .invokestatic 173, 277, 3, 4, [], 0) := (lx_16 33).trans rfl
theorem lq_834 : ix_lo[834]? = some (1430, 2, .istore 5, 0, 0, 0, [], 0) := (lx_16 34).trans rfl
theorem lq_835 : ix_lo[835]? = some (1432, 1, .aload_n 2, 0, 0, 0, [], 0) := (lx_16 35).trans rfl
theorem lq_836 : ix_lo[836]? = some (1433, 1, .aload_n 0, 0, 0, 0, [], 0) := (lx_16 36).trans rfl
theorem lq_837 : ix_lo[837]? = some (1434, 2, .iload 4, 0, 0, 0, [], 0) := (lx_16 37).trans rfl
theorem lq_838 : ix_lo[838]? = some (1436, 1, .iconst 1, 0, 0, 0, [], 0) := (lx_16 38).trans rfl
theorem lq_839 : ix_lo[839]? = some (1437, 1, .iadd, 0, 0, 0, [], 0) := (lx_16 39).trans rfl
theorem lq_840 : ix_lo[840]? = some (1438, 1, .iaload, 0, 0, 0, [], 0) := (lx_16 40).trans rfl
theorem lq_841 : ix_lo[841]? = some (1439, 1, .aload_n 0, 0, 0, 0, [], 0) := (lx_16 41).trans rfl
theorem lq_842 : ix_lo[842]? = some (1440, 2, .iload 4, 0, 0, 0, [], 0) := (lx_16 42).trans rfl
theorem lq_843 : ix_lo[843]? = some (1442, 1, .iconst 2, 0, 0, 0, [], 0) := (lx_16 43).trans rfl
theorem lq_844 : ix_lo[844]? = some (1443, 1, .iadd, 0, 0, 0, [], 0) := (lx_16 44).trans rfl
theorem lq_845 : ix_lo[845]? = some (1444, 1, .iaload, 0, 0, 0, [], 0) := (lx_16 45).trans rfl
theorem lq_846 : ix_lo[846]? = some (1445, 3, .invokevirtual 175, 235, 0, 3, [12], 0) := (lx_16 46).trans rfl
theorem lq_847 : ix_lo[847]? = some (1448, 2, .istore 6, 0, 0, 0, [], 0) := (lx_16 47).trans rfl
theorem lq_848 : ix_lo[848]? = some (1450, 1, .aload_n 2, 0, 0, 0, [], 0) := (lx_16 48).trans rfl
theorem lq_849 : ix_lo[849]? = some (1451, 3, .invokevirtual 111, 153, 0, 1, [12], 0) := (lx_16 49).trans rfl
theorem lq_850 : ix_lo[850]? = some (1454, 2, .iload 5, 0, 0, 0, [], 0) := (lx_17 0).trans rfl
theorem lq_851 : ix_lo[851]? = some (1456, 3, .if_icmp .eq 5, 854, 0, 0, [], 0) := (lx_17 1).trans rfl
theorem lq_852 : ix_lo[852]? = some (1459, 1, .iconst 0, 0, 0, 0, [], 0) := (lx_17 2).trans rfl
theorem lq_853 : ix_lo[853]? = some (1460, 1, .ireturn, 1, 0, 0, [], 0) := (lx_17 3).trans rfl
theorem lq_854 : ix_lo[854]? = some (1461, 2, .iload 5, 0, 0, 0, [], 0) := (lx_17 4).trans rfl
theorem lq_855 : ix_lo[855]? = some (1463, 3, .ifCond .ne 15, 865, 0, 0, [], 0) := (lx_17 5).trans rfl
theorem lq_856 : ix_lo[856]? = some (1466, 1, .aload_n 3, 0, 0, 0, [], 0) := (lx_17 6).trans rfl
theorem lq_857 : ix_lo[857]? = some (1467, 1, .iconst 0, 0, 0, 0, [], 0) := (lx_17 7).trans rfl
theorem lq_858 : ix_lo[858]? = some (1468, 1, .laload, 0, 0, 0, [], 0) := (lx_17 8).trans rfl
theorem lq_859 : ix_lo[859]? = some (1469, 2, .iload 6, 0, 0, 0, [], 0) := (lx_17 9).trans rfl
theorem lq_860 : ix_lo[860]? = some (1471, 1, .i2l, 0, 0, 0, [], 0) := (lx_17 10).trans rfl
theorem lq_861 : ix_lo[861]? = some (1472, 1, .lcmp, 0, 0, 0, [], 0) := (lx_17 11).trans rfl
theorem lq_862 : ix_lo[862]? = some (1473, 3, .ifCond .eq 5, 865, 0, 0, [], 0) := (lx_17 12).trans rfl
theorem lq_863 : ix_lo[863]? = some (1476, 1, .iconst 0, 0, 0, 0, [], 0) := (lx_17 13).trans rfl
theorem lq_864 : ix_lo[864]? = some (1477, 1, .ireturn, 1, 0, 0, [], 0) := (lx_17 14).trans rfl
theorem lq_865 : ix_lo[865]? = some (1478, 3, .goto 786, 1395, 0, 0, [], 0) := (lx_17 15).trans rfl
theorem lq_866 : ix_lo[866]? = some (1481, 1, .aload_n 1, 0, 0, 0, [], 0) := (lx_17 16).trans rfl
theorem lq_867 : ix_lo[867]? = some (1482, 1, .aload_n 0, 0, 0, 0, [], 0) := (lx_17 17).trans rfl
theorem lq_868 : ix_lo[868]? = some (1483, 2, .iload 4, 0, 0, 0, [], 0) := (lx_17 18).trans rfl
theorem lq_869 : ix_lo[869]? = some (1485, 1, .iconst 1, 0, 0, 0, [], 0) := (lx_17 19).trans rfl
theorem lq_870 : ix_lo[870]? = some (1486, 1, .iadd, 0, 0, 0, [], 0) := (lx_17 20).trans rfl
theorem lq_871 : ix_lo[871]? = some (1487, 1, .iaload, 0, 0, 0, [], 0) := (lx_17 21).trans rfl
theorem lq_872 : ix_lo[872]? = some (1488, 1, .aload_n 0, 0, 0, 0, [], 0) := (lx_17 22).trans rfl
theorem lq_873 : ix_lo[873]? = some (1489, 2, .iload 4, 0, 0, 0, [], 0) := (lx_17 23).trans rfl
theorem lq_874 : ix_lo[874]? = some (1491, 1, .iconst 2, 0, 0, 0, [], 0) := (lx_17 24).trans rfl
theorem lq_875 : ix_lo[875]? = some (1492, 1, .iadd, 0, 0, 0, [], 0) := (lx_17 25).trans rfl
theorem lq_876 : ix_lo[876]? = some (1493, 1, .iaload, 0, 0, 0, [], 0) := (lx_17 26).trans rfl
theorem lq_877 : ix_lo[877]? = some (1494, 1, .aload_n 0, 0, 0, 0, [], 0) := (lx_17 27).trans rfl
theorem lq_878 : ix_lo[878]? = some (1495, 2, .iload 4, 0, 0, 0, [], 0) := (lx_17 28).trans rfl
theorem lq_879 : ix_lo[879]? = some (1497, 1, .iconst 3, 0, 0, 0, [], 0) := (lx_17 29).trans rfl
theorem lq_880 : ix_lo[880]? = some (1498, 1, .iadd, 0, 0, 0, [], 0) := (lx_17 30).trans rfl
theorem lq_881 : ix_lo[881]? = some (1499, 1, .iaload, 0, 0, 0, [], 0) := (lx_17 31).trans rfl
theorem lq_882 : ix_lo[882]? = some (1500, 1, .aload_n 3, 0, 0, 0, [], 0) := (lx_17 32).trans rfl
theorem lq_883 : ix_lo[883]? = some (1501, 3, .invokestatic 176, 278, 3, 5, [], 0) := (lx_17 33).trans rfl
theorem lq_884 : ix_lo[884]? = some (1504, 2, .istore 5, 0, 0, 0, [], 0) := (lx_17 34).trans rfl
theorem lq_885 : ix_lo[885]? = some (1506, 1, .aload_n 2, 0, 0, 0, [], 0) := (lx_17 35).trans rfl
theorem lq_886 : ix_lo[886]? = some (1507, 1, .aload_n 0, 0, 0, 0, [], 0) := (lx_17 36).trans rfl
theorem lq_887 : ix_lo[887]? = some (1508, 2, .iload 4, 0, 0, 0, [], 0) := (lx_17 37).trans rfl
theorem lq_888 : ix_lo[888]? = some (1510, 1, .iconst 1, 0, 0, 0, [], 0) := (lx_17 38).trans rfl
theorem lq_889 : ix_lo[889]? = some (1511, 1, .iadd, 0, 0, 0, [], 0) := (lx_17 39).trans rfl
theorem lq_890 : ix_lo[890]? = some (1512, 1, .iaload, 0, 0, 0, [], 0) := (lx_17 40).trans rfl
theorem lq_891 : ix_lo[891]? = some (1513, 1, .aload_n 0, 0, 0, 0, [], 0) := (lx_17 41).trans rfl
theorem lq_892 : ix_lo[892]? = some (1514, 2, .iload 4, 0, 0, 0, [], 0) := (lx_17 42).trans rfl
theorem lq_893 : ix_lo[893]? = some (1516, 1, .iconst 2, 0, 0, 0, [], 0) := (lx_17 43).trans rfl
theorem lq_894 : ix_lo[894]? = some (1517, 1, .iadd, 0, 0, 0, [], 0) := (lx_17 44).trans rfl
theorem lq_895 : ix_lo[895]? = some (1518, 1, .iaload, 0, 0, 0, [], 0) := (lx_17 45).trans rfl
theorem lq_896 : ix_lo[896]? = some (1519, 1, .aload_n 0, 0, 0, 0, [], 0) := (lx_17 46).trans rfl
theorem lq_897 : ix_lo[897]? = some (1520, 2, .iload 4, 0, 0, 0, [], 0) := (lx_17 47).trans rfl
theorem lq_898 : ix_lo[898]? = some (1522, 1, .iconst 3, 0, 0, 0, [], 0) := (lx_17 48).trans rfl
theorem lq_899 : ix_lo[899]? = some (1523, 1, .iadd, 0, 0, 0, [], 0) := (lx_17 49).trans rfl
theorem lq_900 : ix_lo[900]? = some (1524, 1, .iaload, 0, 0, 0, [], 0) := (lx_18 0).trans rfl
theorem lq_901 : ix_lo[901]? = some (1525, 3, .invokevirtual 179, 236, 0, 4, [12], 0) := (lx_18 1).trans rfl
theorem lq_902 : ix_lo[902]? = some (1528, 2, .istore 6, 0, 0, 0, [], 0) := (lx_18 2).trans rfl
theorem lq_903 : ix_lo[903]? = some (1530, 1, .aload_n 2, 0, 0, 0, [], 0) := (lx_18 3).trans rfl
theorem lq_904 : ix_lo[904]? = some (1531, 3, .invokevirtual 111, 153, 0, 1, [12], 0) := (lx_18 4).trans rfl
theorem lq_905 : ix_lo[905]? = some (1534, 2, .iload 5, 0, 0, 0, [], 0) := (lx_18 5).trans rfl
theorem lq_906 : ix_lo[906]? = some (1536, 3, .if_icmp .eq 5, 909, 0, 0, [], 0) := (lx_18 6).trans rfl
theorem lq_907 : ix_lo[907]? = some (1539, 1, .iconst 0, 0, 0, 0, [], 0) := (lx_18 7).trans rfl
theorem lq_908 : ix_lo[908]? = some (1540, 1, .ireturn, 1, 0, 0, [], 0) := (lx_18 8).trans rfl
theorem lq_909 : ix_lo[909]? = some (1541, 2, .iload 5, 0, 0, 0, [], 0) := (lx_18 9).trans rfl
theorem lq_910 : ix_lo[910]? = some (1543, 3, .ifCond .ne 15, 920, 0, 0, [], 0) := (lx_18 10).trans rfl
theorem lq_911 : ix_lo[911]? = some (1546, 1, .aload_n 3, 0, 0, 0, [], 0) := (lx_18 11).trans rfl
theorem lq_912 : ix_lo[912]? = some (1547, 1, .iconst 0, 0, 0, 0, [], 0) := (lx_18 12).trans rfl
theorem lq_913 : ix_lo[913]? = some (1548, 1, .laload, 0, 0, 0, [], 0) := (lx_18 13).trans rfl
theorem lq_914 : ix_lo[914]? = some (1549, 2, .iload 6, 0, 0, 0, [], 0) := (lx_18 14).trans rfl
theorem lq_915 : ix_lo[915]? = some (1551, 1, .i2l, 0, 0, 0, [], 0) := (lx_18 15).trans rfl
theorem lq_916 : ix_lo[916]? = some (1552, 1, .lcmp, 0, 0, 0, [], 0) := (lx_18 16).trans rfl
theorem lq_917 : ix_lo[917]? = some (1553, 3, .ifCond .eq 5, 920, 0, 0, [], 0) := (lx_18 17).trans rfl
theorem lq_918 : ix_lo[918]? = some (1556, 1, .iconst 0, 0, 0, 0, [], 0) := (lx_18 18).trans rfl
theorem lq_919 : ix_lo[919]? = some (1557, 1, .ireturn, 1, 0, 0, [], 0) := (lx_18 19).trans rfl
theorem lq_920 : ix_lo[920]? = some (1558, 3, .goto 706, 1395, 0, 0, [], 0) := (lx_18 20).trans rfl
theorem lq_921 : ix_lo[921]? = some (1561, 1, .aload_n 1, 0, 0, 0, [], 0) := (lx_18 21).trans rfl
theorem lq_922 : ix_lo[922]? = some (1562, 1, .aload_n 0, 0, 0, 0, [], 0) := (lx_18 22).trans rfl
theorem lq_923 : ix_lo[923]? = some (1563, 2, .iload 4, 0, 0, 0, [], 0) := (lx_18 23).trans rfl
theorem lq_924 : ix_lo[924]? = some (1565, 1, .iconst 1, 0, 0, 0, [], 0) := (lx_18 24).trans rfl
theorem lq_925 : ix_lo[925]? = some (1566, 1, .iadd, 0, 0, 0, [], 0) := (lx_18 25).trans rfl
theorem lq_926 : ix_lo[926]? = some (1567, 1, .iaload, 0, 0, 0, [], 0) := (lx_18 26).trans rfl
theorem lq_927 : ix_lo[927]? = some (1568, 1, .aload_n 0, 0, 0, 0, [], 0) := (lx_18 27).trans rfl
theorem lq_928 : ix_lo[928]? = some (1569, 2, .iload 4, 0, 0, 0, [], 0) := (lx_18 28).trans rfl
theorem lq_929 : ix_lo[929]? = some (1571, 1, .iconst 2, 0, 0, 0, [], 0) := (lx_18 29).trans rfl
theorem lq_930 : ix_lo[930]? = some (1572, 1, .iadd, 0, 0, 0, [], 0) := (lx_18 30).trans rfl
theorem lq_931 : ix_lo[931]? = some (1573, 1, .iaload, 0, 0, 0, [], 0) := (lx_18 31).trans rfl
theorem lq_932 : ix_lo[932]? = some (1574, 1, .aload_n 3, 0, 0, 0, [], 0) := (lx_18 32).trans rfl
theorem lq_933 : ix_lo[933]? = some (1575, 3, .invokestatic 180, 279, 3, 4, [], 0) := (lx_18 33).trans rfl
theorem lq_934 : ix_lo[934]? = some (1578, 2, .istore 5, 0, 0, 0, [], 0) := (lx_18 34).trans rfl
theorem lq_935 : ix_lo[935]? = some (1580, 1, .aload_n 2, 0, 0, 0, [], 0) := (lx_18 35).trans rfl
theorem lq_936 : ix_lo[936]? = some (1581, 1, .aload_n 0, 0, 0, 0, [], 0) := (lx_18 36).trans rfl
theorem lq_937 : ix_lo[937]? = some (1582, 2, .iload 4, 0, 0, 0, [], 0) := (lx_18 37).trans rfl
theorem lq_938 : ix_lo[938]? = some (1584, 1, .iconst 1, 0, 0, 0, [], 0) := (lx_18 38).trans rfl
theorem lq_939 : ix_lo[939]? = some (1585, 1, .iadd, 0, 0, 0, [], 0) := (lx_18 39).trans rfl
theorem lq_940 : ix_lo[940]? = some (1586, 1, .iaload, 0, 0, 0, [], 0) := (lx_18 40).trans rfl
theorem lq_941 : ix_lo[941]? = some (1587, 1, .aload_n 0, 0, 0, 0, [], 0) := (lx_18 41).trans rfl
theorem lq_942 : ix_lo[942]? = some (1588, 2, .iload 4, 0, 0, 0, [], 0) := (lx_18 42).trans rfl
theorem lq_943 : ix_lo[943]? = some (1590, 1, .iconst 2, 0, 0, 0, [], 0) := (lx_18 43).trans rfl
theorem lq_944 : ix_lo[944]? = some (1591, 1, .iadd, 0, 0, 0, [], 0) := (lx_18 44).trans rfl
theorem lq_945 : ix_lo[945]? = some (1592, 1, .iaload, 0, 0, 0, [], 0) := (lx_18 45).trans rfl
theorem lq_946 : ix_lo[946]? = some (1593, 3, .invokevirtual 182, 237, 0, 3, [12], 0) := (lx_18 46).trans rfl
theorem lq_947 : ix_lo[947]? = some (1596, 2, .istore 6, 0, 0, 0, [], 0) := (lx_18 47).trans rfl
theorem lq_948 : ix_lo[948]? = some (1598, 1, .aload_n 2, 0, 0, 0, [], 0) := (lx_18 48).trans rfl
theorem lq_949 : ix_lo[949]? = some (1599, 3, .invokevirtual 111, 153, 0, 1, [12], 0) := (lx_18 49).trans rfl
theorem lq_950 : ix_lo[950]? = some (1602, 2, .iload 5, 0, 0, 0, [], 0) := (lx_19 0).trans rfl
theorem lq_951 : ix_lo[951]? = some (1604, 3, .if_icmp .eq 5, 954, 0, 0, [], 0) := (lx_19 1).trans rfl
theorem lq_952 : ix_lo[952]? = some (1607, 1, .iconst 0, 0, 0, 0, [], 0) := (lx_19 2).trans rfl
theorem lq_953 : ix_lo[953]? = some (1608, 1, .ireturn, 1, 0, 0, [], 0) := (lx_19 3).trans rfl
theorem lq_954 : ix_lo[954]? = some (1609, 2, .iload 5, 0, 0, 0, [], 0) := (lx_19 4).trans rfl
theorem lq_955 : ix_lo[955]? = some (1611, 3, .ifCond .ne 15, 965, 0, 0, [], 0) := (lx_19 5).trans rfl
theorem lq_956 : ix_lo[956]? = some (1614, 1, .aload_n 3, 0, 0, 0, [], 0) := (lx_19 6).trans rfl
theorem lq_957 : ix_lo[957]? = some (1615, 1, .iconst 0, 0, 0, 0, [], 0) := (lx_19 7).trans rfl
theorem lq_958 : ix_lo[958]? = some (1616, 1, .laload, 0, 0, 0, [], 0) := (lx_19 8).trans rfl
theorem lq_959 : ix_lo[959]? = some (1617, 2, .iload 6, 0, 0, 0, [], 0) := (lx_19 9).trans rfl
theorem lq_960 : ix_lo[960]? = some (1619, 1, .i2l, 0, 0, 0, [], 0) := (lx_19 10).trans rfl
theorem lq_961 : ix_lo[961]? = some (1620, 1, .lcmp, 0, 0, 0, [], 0) := (lx_19 11).trans rfl
theorem lq_962 : ix_lo[962]? = some (1621, 3, .ifCond .eq 5, 965, 0, 0, [], 0) := (lx_19 12).trans rfl
theorem lq_963 : ix_lo[963]? = some (1624, 1, .iconst 0, 0, 0, 0, [], 0) := (lx_19 13).trans rfl
theorem lq_964 : ix_lo[964]? = some (1625, 1, .ireturn, 1, 0, 0, [], 0) := (lx_19 14).trans rfl
theorem lq_965 : ix_lo[965]? = some (1626, 3, .goto 638, 1395, 0, 0, [], 0) := (lx_19 15).trans rfl
theorem lq_966 : ix_lo[966]? = some (1629, 1, .aload_n 1, 0, 0, 0, [], 0) := (lx_19 16).trans rfl
theorem lq_967 : ix_lo[967]? = some (1630, 3, .invokevirtual 183, 130, 0, 1, [11], 0) := (lx_19 17).trans rfl
theorem lq_968 : ix_lo[968]? = some (1633, 1, .aload_n 2, 0, 0, 0, [], 0) := (lx_19 18).trans rfl
theorem lq_969 : ix_lo[969]? = some (1634, 3, .invokevirtual 186, 238, 0, 1, [12], 0) := (lx_19 19).trans rfl
theorem lq_970 : ix_lo[970]? = some (1637, 3, .if_icmp .eq 627, 1395, 0, 0, [], 0) := (lx_19 20).trans rfl
theorem lq_971 : ix_lo[971]? = some (1640, 1, .iconst 0, 0, 0, 0, [], 0) := (lx_19 21).trans rfl
theorem lq_972 : ix_lo[972]? = some (1641, 1, .ireturn, 1, 0, 0, [], 0) := (lx_19 22).trans rfl
theorem lq_973 : ix_lo[973]? = some (1642, 1, .aload_n 1, 0, 0, 0, [], 0) := (lx_19 23).trans rfl
theorem lq_974 : ix_lo[974]? = some (1643, 1, .aload_n 0, 0, 0, 0, [], 0) := (lx_19 24).trans rfl
theorem lq_975 : ix_lo[975]? = some (1644, 2, .iload 4, 0, 0, 0, [], 0) := (lx_19 25).trans rfl
theorem lq_976 : ix_lo[976]? = some (1646, 1, .iconst 1, 0, 0, 0, [], 0) := (lx_19 26).trans rfl
theorem lq_977 : ix_lo[977]? = some (1647, 1, .iadd, 0, 0, 0, [], 0) := (lx_19 27).trans rfl
theorem lq_978 : ix_lo[978]? = some (1648, 1, .iaload, 0, 0, 0, [], 0) := (lx_19 28).trans rfl
theorem lq_979 : ix_lo[979]? = some (1649, 1, .aload_n 0, 0, 0, 0, [], 0) := (lx_19 29).trans rfl
theorem lq_980 : ix_lo[980]? = some (1650, 2, .iload 4, 0, 0, 0, [], 0) := (lx_19 30).trans rfl
theorem lq_981 : ix_lo[981]? = some (1652, 1, .iconst 2, 0, 0, 0, [], 0) := (lx_19 31).trans rfl
theorem lq_982 : ix_lo[982]? = some (1653, 1, .iadd, 0, 0, 0, [], 0) := (lx_19 32).trans rfl
theorem lq_983 : ix_lo[983]? = some (1654, 1, .iaload, 0, 0, 0, [], 0) := (lx_19 33).trans rfl
theorem lq_984 : ix_lo[984]? = some (1655, 1, .aload_n 0, 0, 0, 0, [], 0) := (lx_19 34).trans rfl
theorem lq_985 : ix_lo[985]? = some (1656, 2, .iload 4, 0, 0, 0, [], 0) := (lx_19 35).trans rfl
theorem lq_986 : ix_lo[986]? = some (1658, 1, .iconst 3, 0, 0, 0, [], 0) := (lx_19 36).trans rfl
theorem lq_987 : ix_lo[987]? = some (1659, 1, .iadd, 0, 0, 0, [], 0) := (lx_19 37).trans rfl
theorem lq_988 : ix_lo[988]? = some (1660, 1, .iaload, 0, 0, 0, [], 0) := (lx_19 38).trans rfl
theorem lq_989 : ix_lo[989]? = some (1661, 1, .aload_n 3, 0, 0, 0, [], 0) := (lx_19 39).trans rfl
theorem lq_990 : ix_lo[990]? = some (1662, 3, .invokestatic 187, 280, 3, 5, [], 0) := (lx_19 40).trans rfl
theorem lq_991 : ix_lo[991]? = some (1665, 2, .istore 5, 0, 0, 0, [], 0) := (lx_19 41).trans rfl
theorem lq_992 : ix_lo[992]? = some (1667, 1, .aload_n 2, 0, 0, 0, [], 0) := (lx_19 42).trans rfl
theorem lq_993 : ix_lo[993]? = some (1668, 1, .aload_n 0, 0, 0, 0, [], 0) := (lx_19 43).trans rfl
theorem lq_994 : ix_lo[994]? = some (1669, 2, .iload 4, 0, 0, 0, [], 0) := (lx_19 44).trans rfl
theorem lq_995 : ix_lo[995]? = some (1671, 1, .iconst 1, 0, 0, 0, [], 0) := (lx_19 45).trans rfl
theorem lq_996 : ix_lo[996]? = some (1672, 1, .iadd, 0, 0, 0, [], 0) := (lx_19 46).trans rfl
theorem lq_997 : ix_lo[997]? = some (1673, 1, .iaload, 0, 0, 0, [], 0) := (lx_19 47).trans rfl
theorem lq_998 : ix_lo[998]? = some (1674, 1, .aload_n 0, 0, 0, 0, [], 0) := (lx_19 48).trans rfl
theorem lq_999 : ix_lo[999]? = some (1675, 2, .iload 4, 0, 0, 0, [], 0) := (lx_19 49).trans rfl
theorem lq_1000 : ix_lo[1000]? = some (1677, 1, .iconst 2, 0, 0, 0, [], 0) := (lx_20 0).trans rfl
theorem lq_1001 : ix_lo[1001]? = some (1678, 1, .iadd, 0, 0, 0, [], 0) := (lx_20 1).trans rfl
theorem lq_1002 : ix_lo[1002]? = some (1679, 1, .iaload, 0, 0, 0, [], 0) := (lx_20 2).trans rfl
theorem lq_1003 : ix_lo[1003]? = some (1680, 1, .aload_n 0, 0, 0, 0, [], 0) := (lx_20 3).trans rfl
theorem lq_1004 : ix_lo[1004]? = some (1681, 2, .iload 4, 0, 0, 0, [], 0) := (lx_20 4).trans rfl
theorem lq_1005 : ix_lo[1005]? = some (1683, 1, .iconst 3, 0, 0, 0, [], 0) := (lx_20 5).trans rfl
theorem lq_1006 : ix_lo[1006]? = some (1684, 1, .iadd, 0, 0, 0, [], 0) := (lx_20 6).trans rfl
theorem lq_1007 : ix_lo[1007]? = some (1685, 1, .iaload, 0, 0, 0, [], 0) := (lx_20 7).trans rfl
theorem lq_1008 : ix_lo[1008]? = some (1686, 3, .invokevirtual 189, 241, 0, 4, [12], 0) := (lx_20 8).trans rfl
theorem lq_1009 : ix_lo[1009]? = some (1689, 2, .istore 6, 0, 0, 0, [], 0) := (lx_20 9).trans rfl
theorem lq_1010 : ix_lo[1010]? = some (1691, 1, .aload_n 2, 0, 0, 0, [], 0) := (lx_20 10).trans rfl
theorem lq_1011 : ix_lo[1011]? = some (1692, 3, .invokevirtual 111, 153, 0, 1, [12], 0) := (lx_20 11).trans rfl
theorem lq_1012 : ix_lo[1012]? = some (1695, 2, .iload 5, 0, 0, 0, [], 0) := (lx_20 12).trans rfl
theorem lq_1013 : ix_lo[1013]? = some (1697, 3, .if_icmp .eq 5, 1016, 0, 0, [], 0) := (lx_20 13).trans rfl
theorem lq_1014 : ix_lo[1014]? = some (1700, 1, .iconst 0, 0, 0, 0, [], 0) := (lx_20 14).trans rfl
theorem lq_1015 : ix_lo[1015]? = some (1701, 1, .ireturn, 1, 0, 0, [], 0) := (lx_20 15).trans rfl
theorem lq_1016 : ix_lo[1016]? = some (1702, 2, .iload 5, 0, 0, 0, [], 0) := (lx_20 16).trans rfl
theorem lq_1017 : ix_lo[1017]? = some (1704, 3, .ifCond .ne 15, 1027, 0, 0, [], 0) := (lx_20 17).trans rfl
theorem lq_1018 : ix_lo[1018]? = some (1707, 1, .aload_n 3, 0, 0, 0, [], 0) := (lx_20 18).trans rfl
theorem lq_1019 : ix_lo[1019]? = some (1708, 1, .iconst 0, 0, 0, 0, [], 0) := (lx_20 19).trans rfl
theorem lq_1020 : ix_lo[1020]? = some (1709, 1, .laload, 0, 0, 0, [], 0) := (lx_20 20).trans rfl
theorem lq_1021 : ix_lo[1021]? = some (1710, 2, .iload 6, 0, 0, 0, [], 0) := (lx_20 21).trans rfl
theorem lq_1022 : ix_lo[1022]? = some (1712, 1, .i2l, 0, 0, 0, [], 0) := (lx_20 22).trans rfl
theorem lq_1023 : ix_lo[1023]? = some (1713, 1, .lcmp, 0, 0, 0, [], 0) := (lx_20 23).trans rfl
theorem lq_1024 : ix_lo[1024]? = some (1714, 3, .ifCond .eq 5, 1027, 0, 0, [], 0) := (lx_20 24).trans rfl
theorem lq_1025 : ix_lo[1025]? = some (1717, 1, .iconst 0, 0, 0, 0, [], 0) := (lx_20 25).trans rfl
theorem lq_1026 : ix_lo[1026]? = some (1718, 1, .ireturn, 1, 0, 0, [], 0) := (lx_20 26).trans rfl
theorem lq_1027 : ix_lo[1027]? = some (1719, 3, .goto 545, 1395, 0, 0, [], 0) := (lx_20 27).trans rfl
theorem lq_1028 : ix_lo[1028]? = some (1722, 1, .aload_n 1, 0, 0, 0, [], 0) := (lx_20 28).trans rfl
theorem lq_1029 : ix_lo[1029]? = some (1723, 1, .aload_n 0, 0, 0, 0, [], 0) := (lx_20 29).trans rfl
theorem lq_1030 : ix_lo[1030]? = some (1724, 2, .iload 4, 0, 0, 0, [], 0) := (lx_20 30).trans rfl
theorem lq_1031 : ix_lo[1031]? = some (1726, 1, .iconst 1, 0, 0, 0, [], 0) := (lx_20 31).trans rfl
theorem lq_1032 : ix_lo[1032]? = some (1727, 1, .iadd, 0, 0, 0, [], 0) := (lx_20 32).trans rfl
theorem lq_1033 : ix_lo[1033]? = some (1728, 1, .iaload, 0, 0, 0, [], 0) := (lx_20 33).trans rfl
theorem lq_1034 : ix_lo[1034]? = some (1729, 1, .aload_n 0, 0, 0, 0, [], 0) := (lx_20 34).trans rfl
theorem lq_1035 : ix_lo[1035]? = some (1730, 2, .iload 4, 0, 0, 0, [], 0) := (lx_20 35).trans rfl
theorem lq_1036 : ix_lo[1036]? = some (1732, 1, .iconst 2, 0, 0, 0, [], 0) := (lx_20 36).trans rfl
theorem lq_1037 : ix_lo[1037]? = some (1733, 1, .iadd, 0, 0, 0, [], 0) := (lx_20 37).trans rfl
theorem lq_1038 : ix_lo[1038]? = some (1734, 1, .iaload, 0, 0, 0, [], 0) := (lx_20 38).trans rfl
theorem lq_1039 : ix_lo[1039]? = some (1735, 1, .aload_n 0, 0, 0, 0, [], 0) := (lx_20 39).trans rfl
theorem lq_1040 : ix_lo[1040]? = some (1736, 2, .iload 4, 0, 0, 0, [], 0) := (lx_20 40).trans rfl
theorem lq_1041 : ix_lo[1041]? = some (1738, 1, .iconst 3, 0, 0, 0, [], 0) := (lx_20 41).trans rfl
theorem lq_1042 : ix_lo[1042]? = some (1739, 1, .iadd, 0, 0, 0, [], 0) := (lx_20 42).trans rfl
theorem lq_1043 : ix_lo[1043]? = some (1740, 1, .iaload, 0, 0, 0, [], 0) := (lx_20 43).trans rfl
theorem lq_1044 : ix_lo[1044]? = some (1741, 1, .aload_n 3, 0, 0, 0, [], 0) := (lx_20 44).trans rfl
theorem lq_1045 : ix_lo[1045]? = some (1742, 3, .invokestatic 190, 281, 3, 5, [], 0) := (lx_20 45).trans rfl
theorem lq_1046 : ix_lo[1046]? = some (1745, 2, .istore 5, 0, 0, 0, [], 0) := (lx_20 46).trans rfl
theorem lq_1047 : ix_lo[1047]? = some (1747, 1, .aload_n 2, 0, 0, 0, [], 0) := (lx_20 47).trans rfl
theorem lq_1048 : ix_lo[1048]? = some (1748, 1, .aload_n 0, 0, 0, 0, [], 0) := (lx_20 48).trans rfl
theorem lq_1049 : ix_lo[1049]? = some (1749, 2, .iload 4, 0, 0, 0, [], 0) := (lx_20 49).trans rfl
theorem lq_1050 : ix_lo[1050]? = some (1751, 1, .iconst 1, 0, 0, 0, [], 0) := (lx_21 0).trans rfl
theorem lq_1051 : ix_lo[1051]? = some (1752, 1, .iadd, 0, 0, 0, [], 0) := (lx_21 1).trans rfl
theorem lq_1052 : ix_lo[1052]? = some (1753, 1, .iaload, 0, 0, 0, [], 0) := (lx_21 2).trans rfl
theorem lq_1053 : ix_lo[1053]? = some (1754, 1, .aload_n 0, 0, 0, 0, [], 0) := (lx_21 3).trans rfl
theorem lq_1054 : ix_lo[1054]? = some (1755, 2, .iload 4, 0, 0, 0, [], 0) := (lx_21 4).trans rfl
theorem lq_1055 : ix_lo[1055]? = some (1757, 1, .iconst 2, 0, 0, 0, [], 0) := (lx_21 5).trans rfl
theorem lq_1056 : ix_lo[1056]? = some (1758, 1, .iadd, 0, 0, 0, [], 0) := (lx_21 6).trans rfl
theorem lq_1057 : ix_lo[1057]? = some (1759, 1, .iaload, 0, 0, 0, [], 0) := (lx_21 7).trans rfl
theorem lq_1058 : ix_lo[1058]? = some (1760, 1, .aload_n 0, 0, 0, 0, [], 0) := (lx_21 8).trans rfl
theorem lq_1059 : ix_lo[1059]? = some (1761, 2, .iload 4, 0, 0, 0, [], 0) := (lx_21 9).trans rfl
theorem lq_1060 : ix_lo[1060]? = some (1763, 1, .iconst 3, 0, 0, 0, [], 0) := (lx_21 10).trans rfl
theorem lq_1061 : ix_lo[1061]? = some (1764, 1, .iadd, 0, 0, 0, [], 0) := (lx_21 11).trans rfl
theorem lq_1062 : ix_lo[1062]? = some (1765, 1, .iaload, 0, 0, 0, [], 0) := (lx_21 12).trans rfl
theorem lq_1063 : ix_lo[1063]? = some (1766, 3, .invokevirtual 192, 243, 0, 4, [12], 0) := (lx_21 13).trans rfl
theorem lq_1064 : ix_lo[1064]? = some (1769, 2, .istore 6, 0, 0, 0, [], 0) := (lx_21 14).trans rfl
theorem lq_1065 : ix_lo[1065]? = some (1771, 1, .aload_n 2, 0, 0, 0, [], 0) := (lx_21 15).trans rfl
theorem lq_1066 : ix_lo[1066]? = some (1772, 3, .invokevirtual 111, 153, 0, 1, [12], 0) := (lx_21 16).trans rfl
theorem lq_1067 : ix_lo[1067]? = some (1775, 2, .iload 5, 0, 0, 0, [], 0) := (lx_21 17).trans rfl
theorem lq_1068 : ix_lo[1068]? = some (1777, 3, .if_icmp .eq 5, 1071, 0, 0, [], 0) := (lx_21 18).trans rfl
theorem lq_1069 : ix_lo[1069]? = some (1780, 1, .iconst 0, 0, 0, 0, [], 0) := (lx_21 19).trans rfl
theorem lq_1070 : ix_lo[1070]? = some (1781, 1, .ireturn, 1, 0, 0, [], 0) := (lx_21 20).trans rfl
theorem lq_1071 : ix_lo[1071]? = some (1782, 2, .iload 5, 0, 0, 0, [], 0) := (lx_21 21).trans rfl
theorem lq_1072 : ix_lo[1072]? = some (1784, 3, .ifCond .ne 15, 1082, 0, 0, [], 0) := (lx_21 22).trans rfl
theorem lq_1073 : ix_lo[1073]? = some (1787, 1, .aload_n 3, 0, 0, 0, [], 0) := (lx_21 23).trans rfl
theorem lq_1074 : ix_lo[1074]? = some (1788, 1, .iconst 0, 0, 0, 0, [], 0) := (lx_21 24).trans rfl
theorem lq_1075 : ix_lo[1075]? = some (1789, 1, .laload, 0, 0, 0, [], 0) := (lx_21 25).trans rfl
theorem lq_1076 : ix_lo[1076]? = some (1790, 2, .iload 6, 0, 0, 0, [], 0) := (lx_21 26).trans rfl
theorem lq_1077 : ix_lo[1077]? = some (1792, 1, .i2l, 0, 0, 0, [], 0) := (lx_21 27).trans rfl
theorem lq_1078 : ix_lo[1078]? = some (1793, 1, .lcmp, 0, 0, 0, [], 0) := (lx_21 28).trans rfl
theorem lq_1079 : ix_lo[1079]? = some (1794, 3, .ifCond .eq 5, 1082, 0, 0, [], 0) := (lx_21 29).trans rfl
theorem lq_1080 : ix_lo[1080]? = some (1797, 1, .iconst 0, 0, 0, 0, [], 0) := (lx_21 30).trans rfl
theorem lq_1081 : ix_lo[1081]? = some (1798, 1, .ireturn, 1, 0, 0, [], 0) := (lx_21 31).trans rfl
theorem lq_1082 : ix_lo[1082]? = some (1799, 3, .goto 465, 1395, 0, 0, [], 0) := (lx_21 32).trans rfl
theorem lq_1083 : ix_lo[1083]? = some (1802, 1, .aload_n 1, 0, 0, 0, [], 0) := (lx_21 33).trans rfl
theorem lq_1084 : ix_lo[1084]? = some (1803, 1, .aload_n 0, 0, 0, 0, [], 0) := (lx_21 34).trans rfl
theorem lq_1085 : ix_lo[1085]? = some (1804, 2, .iload 4, 0, 0, 0, [], 0) := (lx_21 35).trans rfl
theorem lq_1086 : ix_lo[1086]? = some (1806, 1, .iconst 1, 0, 0, 0, [], 0) := (lx_21 36).trans rfl
theorem lq_1087 : ix_lo[1087]? = some (1807, 1, .iadd, 0, 0, 0, [], 0) := (lx_21 37).trans rfl
theorem lq_1088 : ix_lo[1088]? = some (1808, 1, .iaload, 0, 0, 0, [], 0) := (lx_21 38).trans rfl
theorem lq_1089 : ix_lo[1089]? = some (1809, 1, .aload_n 3, 0, 0, 0, [], 0) := (lx_21 39).trans rfl
theorem lq_1090 : ix_lo[1090]? = some (1810, 3, .invokestatic 193, 282, 3, 3, [], 0) := (lx_21 40).trans rfl
theorem lq_1091 : ix_lo[1091]? = some (1813, 2, .istore 5, 0, 0, 0, [], 0) := (lx_21 41).trans rfl
theorem lq_1092 : ix_lo[1092]? = some (1815, 1, .aload_n 2, 0, 0, 0, [], 0) := (lx_21 42).trans rfl
theorem lq_1093 : ix_lo[1093]? = some (1816, 1, .aload_n 0, 0, 0, 0, [], 0) := (lx_21 43).trans rfl
theorem lq_1094 : ix_lo[1094]? = some (1817, 2, .iload 4, 0, 0, 0, [], 0) := (lx_21 44).trans rfl
theorem lq_1095 : ix_lo[1095]? = some (1819, 1, .iconst 1, 0, 0, 0, [], 0) := (lx_21 45).trans rfl
theorem lq_1096 : ix_lo[1096]? = some (1820, 1, .iadd, 0, 0, 0, [], 0) := (lx_21 46).trans rfl
theorem lq_1097 : ix_lo[1097]? = some (1821, 1, .iaload, 0, 0, 0, [], 0) := (lx_21 47).trans rfl
theorem lq_1098 : ix_lo[1098]? = some (1822, 3, .invokevirtual 195, 244, 0, 2, [12], 0) := (lx_21 48).trans rfl
theorem lq_1099 : ix_lo[1099]? = some (1825, 2, .istore 6, 0, 0, 0, [], 0) := (lx_21 49).trans rfl
theorem lq_1100 : ix_lo[1100]? = some (1827, 1, .aload_n 2, 0, 0, 0, [], 0) := (lx_22 0).trans rfl
theorem lq_1101 : ix_lo[1101]? = some (1828, 3, .invokevirtual 111, 153, 0, 1, [12], 0) := (lx_22 1).trans rfl
theorem lq_1102 : ix_lo[1102]? = some (1831, 2, .iload 5, 0, 0, 0, [], 0) := (lx_22 2).trans rfl
theorem lq_1103 : ix_lo[1103]? = some (1833, 3, .if_icmp .eq 5, 1106, 0, 0, [], 0) := (lx_22 3).trans rfl
theorem lq_1104 : ix_lo[1104]? = some (1836, 1, .iconst 0, 0, 0, 0, [], 0) := (lx_22 4).trans rfl
theorem lq_1105 : ix_lo[1105]? = some (1837, 1, .ireturn, 1, 0, 0, [], 0) := (lx_22 5).trans rfl
theorem lq_1106 : ix_lo[1106]? = some (1838, 2, .iload 5, 0, 0, 0, [], 0) := (lx_22 6).trans rfl
theorem lq_1107 : ix_lo[1107]? = some (1840, 3, .ifCond .ne 15, 1117, 0, 0, [], 0) := (lx_22 7).trans rfl
theorem lq_1108 : ix_lo[1108]? = some (1843, 1, .aload_n 3, 0, 0, 0, [], 0) := (lx_22 8).trans rfl
theorem lq_1109 : ix_lo[1109]? = some (1844, 1, .iconst 0, 0, 0, 0, [], 0) := (lx_22 9).trans rfl
theorem lq_1110 : ix_lo[1110]? = some (1845, 1, .laload, 0, 0, 0, [], 0) := (lx_22 10).trans rfl
theorem lq_1111 : ix_lo[1111]? = some (1846, 2, .iload 6, 0, 0, 0, [], 0) := (lx_22 11).trans rfl
theorem lq_1112 : ix_lo[1112]? = some (1848, 1, .i2l, 0, 0, 0, [], 0) := (lx_22 12).trans rfl
theorem lq_1113 : ix_lo[1113]? = some (1849, 1, .lcmp, 0, 0, 0, [], 0) := (lx_22 13).trans rfl
theorem lq_1114 : ix_lo[1114]? = some (1850, 3, .ifCond .eq 5, 1117, 0, 0, [], 0) := (lx_22 14).trans rfl
theorem lq_1115 : ix_lo[1115]? = some (1853, 1, .iconst 0, 0, 0, 0, [], 0) := (lx_22 15).trans rfl
theorem lq_1116 : ix_lo[1116]? = some (1854, 1, .ireturn, 1, 0, 0, [], 0) := (lx_22 16).trans rfl
theorem lq_1117 : ix_lo[1117]? = some (1855, 3, .goto 409, 1395, 0, 0, [], 0) := (lx_22 17).trans rfl
theorem lq_1118 : ix_lo[1118]? = some (1858, 1, .aload_n 1, 0, 0, 0, [], 0) := (lx_22 18).trans rfl
theorem lq_1119 : ix_lo[1119]? = some (1859, 1, .aload_n 0, 0, 0, 0, [], 0) := (lx_22 19).trans rfl
theorem lq_1120 : ix_lo[1120]? = some (1860, 2, .iload 4, 0, 0, 0, [], 0) := (lx_22 20).trans rfl
theorem lq_1121 : ix_lo[1121]? = some (1862, 1, .iconst 1, 0, 0, 0, [], 0) := (lx_22 21).trans rfl
theorem lq_1122 : ix_lo[1122]? = some (1863, 1, .iadd, 0, 0, 0, [], 0) := (lx_22 22).trans rfl
theorem lq_1123 : ix_lo[1123]? = some (1864, 1, .iaload, 0, 0, 0, [], 0) := (lx_22 23).trans rfl
theorem lq_1124 : ix_lo[1124]? = some (1865, 1, .aload_n 0, 0, 0, 0, [], 0) := (lx_22 24).trans rfl
theorem lq_1125 : ix_lo[1125]? = some (1866, 2, .iload 4, 0, 0, 0, [], 0) := (lx_22 25).trans rfl
theorem lq_1126 : ix_lo[1126]? = some (1868, 1, .iconst 2, 0, 0, 0, [], 0) := (lx_22 26).trans rfl
theorem lq_1127 : ix_lo[1127]? = some (1869, 1, .iadd, 0, 0, 0, [], 0) := (lx_22 27).trans rfl
theorem lq_1128 : ix_lo[1128]? = some (1870, 1, .iaload, 0, 0, 0, [], 0) := (lx_22 28).trans rfl
theorem lq_1129 : ix_lo[1129]? = some (1871, 1, .aload_n 3, 0, 0, 0, [], 0) := (lx_22 29).trans rfl
theorem lq_1130 : ix_lo[1130]? = some (1872, 3, .invokestatic 196, 283, 3, 4, [], 0) := (lx_22 30).trans rfl
theorem lq_1131 : ix_lo[1131]? = some (1875, 2, .istore 5, 0, 0, 0, [], 0) := (lx_22 31).trans rfl
theorem lq_1132 : ix_lo[1132]? = some (1877, 1, .aload_n 2, 0, 0, 0, [], 0) := (lx_22 32).trans rfl
theorem lq_1133 : ix_lo[1133]? = some (1878, 1, .aload_n 0, 0, 0, 0, [], 0) := (lx_22 33).trans rfl
theorem lq_1134 : ix_lo[1134]? = some (1879, 2, .iload 4, 0, 0, 0, [], 0) := (lx_22 34).trans rfl
theorem lq_1135 : ix_lo[1135]? = some (1881, 1, .iconst 1, 0, 0, 0, [], 0) := (lx_22 35).trans rfl
theorem lq_1136 : ix_lo[1136]? = some (1882, 1, .iadd, 0, 0, 0, [], 0) := (lx_22 36).trans rfl
theorem lq_1137 : ix_lo[1137]? = some (1883, 1, .iaload, 0, 0, 0, [], 0) := (lx_22 37).trans rfl
theorem lq_1138 : ix_lo[1138]? = some (1884, 1, .aload_n 0, 0, 0, 0, [], 0) := (lx_22 38).trans rfl
theorem lq_1139 : ix_lo[1139]? = some (1885, 2, .iload 4, 0, 0, 0, [], 0) := (lx_22 39).trans rfl
theorem lq_1140 : ix_lo[1140]? = some (1887, 1, .iconst 2, 0, 0, 0, [], 0) := (lx_22 40).trans rfl
theorem lq_1141 : ix_lo[1141]? = some (1888, 1, .iadd, 0, 0, 0, [], 0) := (lx_22 41).trans rfl
theorem lq_1142 : ix_lo[1142]? = some (1889, 1, .iaload, 0, 0, 0, [], 0) := (lx_22 42).trans rfl
theorem lq_1143 : ix_lo[1143]? = some (1890, 3, .invokevirtual 198, 245, 0, 3, [12], 0) := (lx_22 43).trans rfl
theorem lq_1144 : ix_lo[1144]? = some (1893, 2, .istore 6, 0, 0, 0, [], 0) := (lx_22 44).trans rfl
theorem lq_1145 : ix_lo[1145]? = some (1895, 1, .aload_n 2, 0, 0, 0, [], 0) := (lx_22 45).trans rfl
theorem lq_1146 : ix_lo[1146]? = some (1896, 3, .invokevirtual 111, 153, 0, 1, [12], 0) := (lx_22 46).trans rfl
theorem lq_1147 : ix_lo[1147]? = some (1899, 2, .iload 5, 0, 0, 0, [], 0) := (lx_22 47).trans rfl
theorem lq_1148 : ix_lo[1148]? = some (1901, 3, .if_icmp .eq 5, 1151, 0, 0, [], 0) := (lx_22 48).trans rfl
theorem lq_1149 : ix_lo[1149]? = some (1904, 1, .iconst 0, 0, 0, 0, [], 0) := (lx_22 49).trans rfl
theorem lq_1150 : ix_lo[1150]? = some (1905, 1, .ireturn, 1, 0, 0, [], 0) := (lx_23 0).trans rfl
theorem lq_1151 : ix_lo[1151]? = some (1906, 2, .iload 5, 0, 0, 0, [], 0) := (lx_23 1).trans rfl
theorem lq_1152 : ix_lo[1152]? = some (1908, 3, .ifCond .ne 15, 1162, 0, 0, [], 0) := (lx_23 2).trans rfl
theorem lq_1153 : ix_lo[1153]? = some (1911, 1, .aload_n 3, 0, 0, 0, [], 0) := (lx_23 3).trans rfl
theorem lq_1154 : ix_lo[1154]? = some (1912, 1, .iconst 0, 0, 0, 0, [], 0) := (lx_23 4).trans rfl
theorem lq_1155 : ix_lo[1155]? = some (1913, 1, .laload, 0, 0, 0, [], 0) := (lx_23 5).trans rfl
theorem lq_1156 : ix_lo[1156]? = some (1914, 2, .iload 6, 0, 0, 0, [], 0) := (lx_23 6).trans rfl
theorem lq_1157 : ix_lo[1157]? = some (1916, 1, .i2l, 0, 0, 0, [], 0) := (lx_23 7).trans rfl
theorem lq_1158 : ix_lo[1158]? = some (1917, 1, .lcmp, 0, 0, 0, [], 0) := (lx_23 8).trans rfl
theorem lq_1159 : ix_lo[1159]? = some (1918, 3, .ifCond .eq 5, 1162, 0, 0, [], 0) := (lx_23 9).trans rfl
theorem lq_1160 : ix_lo[1160]? = some (1921, 1, .iconst 0, 0, 0, 0, [], 0) := (lx_23 10).trans rfl
theorem lq_1161 : ix_lo[1161]? = some (1922, 1, .ireturn, 1, 0, 0, [], 0) := (lx_23 11).trans rfl
theorem lq_1162 : ix_lo[1162]? = some (1923, 3, .goto 341, 1395, 0, 0, [], 0) := (lx_23 12).trans rfl
theorem lq_1163 : ix_lo[1163]? = some (1926, 1, .aload_n 1, 0, 0, 0, [], 0) := (lx_23 13).trans rfl
theorem lq_1164 : ix_lo[1164]? = some (1927, 3, .invokevirtual 199, 137, 0, 1, [11], 0) := (lx_23 14).trans rfl
theorem lq_1165 : ix_lo[1165]? = some (1930, 1, .aload_n 2, 0, 0, 0, [], 0) := (lx_23 15).trans rfl
theorem lq_1166 : ix_lo[1166]? = some (1931, 3, .invokevirtual 202, 246, 0, 1, [12], 0) := (lx_23 16).trans rfl
theorem lq_1167 : ix_lo[1167]? = some (1934, 3, .if_icmp .eq 330, 1395, 0, 0, [], 0) := (lx_23 17).trans rfl
theorem lq_1168 : ix_lo[1168]? = some (1937, 1, .iconst 0, 0, 0, 0, [], 0) := (lx_23 18).trans rfl
theorem lq_1169 : ix_lo[1169]? = some (1938, 1, .ireturn, 1, 0, 0, [], 0) := (lx_23 19).trans rfl
theorem lq_1170 : ix_lo[1170]? = some (1939, 1, .aload_n 1, 0, 0, 0, [], 0) := (lx_23 20).trans rfl
theorem lq_1171 : ix_lo[1171]? = some (1940, 3, .invokevirtual 203, 138, 0, 1, [11], 0) := (lx_23 21).trans rfl
theorem lq_1172 : ix_lo[1172]? = some (1943, 1, .aload_n 2, 0, 0, 0, [], 0) := (lx_23 22).trans rfl
theorem lq_1173 : ix_lo[1173]? = some (1944, 3, .invokevirtual 206, 247, 0, 1, [12], 0) := (lx_23 23).trans rfl
theorem lq_1174 : ix_lo[1174]? = some (1947, 3, .if_icmp .eq 317, 1395, 0, 0, [], 0) := (lx_23 24).trans rfl
theorem lq_1175 : ix_lo[1175]? = some (1950, 1, .iconst 0, 0, 0, 0, [], 0) := (lx_23 25).trans rfl
theorem lq_1176 : ix_lo[1176]? = some (1951, 1, .ireturn, 1, 0, 0, [], 0) := (lx_23 26).trans rfl
theorem lq_1177 : ix_lo[1177]? = some (1952, 1, .aload_n 1, 0, 0, 0, [], 0) := (lx_23 27).trans rfl
theorem lq_1178 : ix_lo[1178]? = some (1953, 1, .aload_n 0, 0, 0, 0, [], 0) := (lx_23 28).trans rfl
theorem lq_1179 : ix_lo[1179]? = some (1954, 2, .iload 4, 0, 0, 0, [], 0) := (lx_23 29).trans rfl
theorem lq_1180 : ix_lo[1180]? = some (1956, 1, .iconst 1, 0, 0, 0, [], 0) := (lx_23 30).trans rfl
theorem lq_1181 : ix_lo[1181]? = some (1957, 1, .iadd, 0, 0, 0, [], 0) := (lx_23 31).trans rfl
theorem lq_1182 : ix_lo[1182]? = some (1958, 1, .iaload, 0, 0, 0, [], 0) := (lx_23 32).trans rfl
theorem lq_1183 : ix_lo[1183]? = some (1959, 1, .aload_n 0, 0, 0, 0, [], 0) := (lx_23 33).trans rfl
theorem lq_1184 : ix_lo[1184]? = some (1960, 2, .iload 4, 0, 0, 0, [], 0) := (lx_23 34).trans rfl
theorem lq_1185 : ix_lo[1185]? = some (1962, 1, .iconst 2, 0, 0, 0, [], 0) := (lx_23 35).trans rfl
theorem lq_1186 : ix_lo[1186]? = some (1963, 1, .iadd, 0, 0, 0, [], 0) := (lx_23 36).trans rfl
theorem lq_1187 : ix_lo[1187]? = some (1964, 1, .iaload, 0, 0, 0, [], 0) := (lx_23 37).trans rfl
theorem lq_1188 : ix_lo[1188]? = some (1965, 1, .aload_n 0, 0, 0, 0, [], 0) := (lx_23 38).trans rfl
theorem lq_1189 : ix_lo[1189]? = some (1966, 2, .iload 4, 0, 0, 0, [], 0) := (lx_23 39).trans rfl
theorem lq_1190 : ix_lo[1190]? = some (1968, 1, .iconst 3, 0, 0, 0, [], 0) := (lx_23 40).trans rfl
theorem lq_1191 : ix_lo[1191]? = some (1969, 1, .iadd, 0, 0, 0, [], 0) := (lx_23 41).trans rfl
theorem lq_1192 : ix_lo[1192]? = some (1970, 1, .iaload, 0, 0, 0, [], 0) := (lx_23 42).trans rfl
theorem lq_1193 : ix_lo[1193]? = some (1971, 1, .aload_n 0, 0, 0, 0, [], 0) := (lx_23 43).trans rfl
theorem lq_1194 : ix_lo[1194]? = some (1972, 2, .iload 4, 0, 0, 0, [], 0) := (lx_23 44).trans rfl
theorem lq_1195 : ix_lo[1195]? = some (1974, 1, .iconst 4, 0, 0, 0, [], 0) := (lx_23 45).trans rfl
theorem lq_1196 : ix_lo[1196]? = some (1975, 1, .iadd, 0, 0, 0, [], 0) := (lx_23 46).trans rfl
theorem lq_1197 : ix_lo[1197]? = some (1976, 1, .iaload, 0, 0, 0, [], 0) := (lx_23 47).trans rfl
theorem lq_1198 : ix_lo[1198]? = some (1977, 1, .aload_n 0, 0, 0, 0, [], 0) := (lx_23 48).trans rfl
theorem lq_1199 : ix_lo[1199]? = some (1978, 2, .iload 4, 0, 0, 0, [], 0) := (lx_23 49).trans rfl
theorem lq_1200 : ix_lo[1200]? = some (1980, 1, .iconst 5, 0, 0, 0, [], 0) := (lx_24 0).trans rfl
theorem lq_1201 : ix_lo[1201]? = some (1981, 1, .iadd, 0, 0, 0, [], 0) := (lx_24 1).trans rfl
theorem lq_1202 : ix_lo[1202]? = some (1982, 1, .iaload, 0, 0, 0, [], 0) := (lx_24 2).trans rfl
theorem lq_1203 : ix_lo[1203]? = some (1983, 1, .aload_n 3, 0, 0, 0, [], 0) := (lx_24 3).trans rfl
theorem lq_1204 : ix_lo[1204]? = some (1984, 3, .invokestatic 207, 284, 3, 7, [], 0) := (lx_24 4).trans rfl
theorem lq_1205 : ix_lo[1205]? = some (1987, 2, .istore 5, 0, 0, 0, [], 0) := (lx_24 5).trans rfl
theorem lq_1206 : ix_lo[1206]? = some (1989, 1, .aload_n 2, 0, 0, 0, [], 0) := (lx_24 6).trans rfl
theorem lq_1207 : ix_lo[1207]? = some (1990, 1, .aload_n 0, 0, 0, 0, [], 0) := (lx_24 7).trans rfl
theorem lq_1208 : ix_lo[1208]? = some (1991, 2, .iload 4, 0, 0, 0, [], 0) := (lx_24 8).trans rfl
theorem lq_1209 : ix_lo[1209]? = some (1993, 1, .iconst 1, 0, 0, 0, [], 0) := (lx_24 9).trans rfl
theorem lq_1210 : ix_lo[1210]? = some (1994, 1, .iadd, 0, 0, 0, [], 0) := (lx_24 10).trans rfl
theorem lq_1211 : ix_lo[1211]? = some (1995, 1, .iaload, 0, 0, 0, [], 0) := (lx_24 11).trans rfl
theorem lq_1212 : ix_lo[1212]? = some (1996, 1, .aload_n 0, 0, 0, 0, [], 0) := (lx_24 12).trans rfl
theorem lq_1213 : ix_lo[1213]? = some (1997, 2, .iload 4, 0, 0, 0, [], 0) := (lx_24 13).trans rfl
theorem lq_1214 : ix_lo[1214]? = some (1999, 1, .iconst 2, 0, 0, 0, [], 0) := (lx_24 14).trans rfl
theorem lq_1215 : ix_lo[1215]? = some (2000, 1, .iadd, 0, 0, 0, [], 0) := (lx_24 15).trans rfl
theorem lq_1216 : ix_lo[1216]? = some (2001, 1, .iaload, 0, 0, 0, [], 0) := (lx_24 16).trans rfl
theorem lq_1217 : ix_lo[1217]? = some (2002, 1, .aload_n 0, 0, 0, 0, [], 0) := (lx_24 17).trans rfl
theorem lq_1218 : ix_lo[1218]? = some (2003, 2, .iload 4, 0, 0, 0, [], 0) := (lx_24 18).trans rfl
theorem lq_1219 : ix_lo[1219]? = some (2005, 1, .iconst 3, 0, 0, 0, [], 0) := (lx_24 19).trans rfl
theorem lq_1220 : ix_lo[1220]? = some (2006, 1, .iadd, 0, 0, 0, [], 0) := (lx_24 20).trans rfl
theorem lq_1221 : ix_lo[1221]? = some (2007, 1, .iaload, 0, 0, 0, [], 0) := (lx_24 21).trans rfl
theorem lq_1222 : ix_lo[1222]? = some (2008, 1, .aload_n 0, 0, 0, 0, [], 0) := (lx_24 22).trans rfl
theorem lq_1223 : ix_lo[1223]? = some (2009, 2, .iload 4, 0, 0, 0, [], 0) := (lx_24 23).trans rfl
theorem lq_1224 : ix_lo[1224]? = some (2011, 1, .iconst 4, 0, 0, 0, [], 0) := (lx_24 24).trans rfl
theorem lq_1225 : ix_lo[1225]? = some (2012, 1, .iadd, 0, 0, 0, [], 0) := (lx_24 25).trans rfl
theorem lq_1226 : ix_lo[1226]? = some (2013, 1, .iaload, 0, 0, 0, [], 0) := (lx_24 26).trans rfl
theorem lq_1227 : ix_lo[1227]? = some (2014, 1, .aload_n 0, 0, 0, 0, [], 0) := (lx_24 27).trans rfl
theorem lq_1228 : ix_lo[1228]? = some (2015, 2, .iload 4, 0, 0, 0, [], 0) := (lx_24 28).trans rfl
theorem lq_1229 : ix_lo[1229]? = some (2017, 1, .iconst 5, 0, 0, 0, [], 0) := (lx_24 29).trans rfl
theorem lq_1230 : ix_lo[1230]? = some (2018, 1, .iadd, 0, 0, 0, [], 0) := (lx_24 30).trans rfl
theorem lq_1231 : ix_lo[1231]? = some (2019, 1, .iaload, 0, 0, 0, [], 0) := (lx_24 31).trans rfl
theorem lq_1232 : ix_lo[1232]? = some (2020, 3, .invokevirtual 210, 251, 0, 6, [12], 0) := (lx_24 32).trans rfl
theorem lq_1233 : ix_lo[1233]? = some (2023, 2, .istore 6, 0, 0, 0, [], 0) := (lx_24 33).trans rfl
theorem lq_1234 : ix_lo[1234]? = some (2025, 1, .aload_n 2, 0, 0, 0, [], 0) := (lx_24 34).trans rfl
theorem lq_1235 : ix_lo[1235]? = some (2026, 3, .invokevirtual 111, 153, 0, 1, [12], 0) := (lx_24 35).trans rfl
theorem lq_1236 : ix_lo[1236]? = some (2029, 2, .iload 5, 0, 0, 0, [], 0) := (lx_24 36).trans rfl
theorem lq_1237 : ix_lo[1237]? = some (2031, 3, .if_icmp .eq 5, 1240, 0, 0, [], 0) := (lx_24 37).trans rfl
theorem lq_1238 : ix_lo[1238]? = some (2034, 1, .iconst 0, 0, 0, 0, [], 0) := (lx_24 38).trans rfl
theorem lq_1239 : ix_lo[1239]? = some (2035, 1, .ireturn, 1, 0, 0, [], 0) := (lx_24 39).trans rfl
theorem lq_1240 : ix_lo[1240]? = some (2036, 2, .iload 5, 0, 0, 0, [], 0) := (lx_24 40).trans rfl
theorem lq_1241 : ix_lo[1241]? = some (2038, 3, .ifCond .ne 15, 1251, 0, 0, [], 0) := (lx_24 41).trans rfl
theorem lq_1242 : ix_lo[1242]? = some (2041, 1, .aload_n 3, 0, 0, 0, [], 0) := (lx_24 42).trans rfl
theorem lq_1243 : ix_lo[1243]? = some (2042, 1, .iconst 0, 0, 0, 0, [], 0) := (lx_24 43).trans rfl
theorem lq_1244 : ix_lo[1244]? = some (2043, 1, .laload, 0, 0, 0, [], 0) := (lx_24 44).trans rfl
theorem lq_1245 : ix_lo[1245]? = some (2044, 2, .iload 6, 0, 0, 0, [], 0) := (lx_24 45).trans rfl
theorem lq_1246 : ix_lo[1246]? = some (2046, 1, .i2l, 0, 0, 0, [], 0) := (lx_24 46).trans rfl
theorem lq_1247 : ix_lo[1247]? = some (2047, 1, .lcmp, 0, 0, 0, [], 0) := (lx_24 47).trans rfl
theorem lq_1248 : ix_lo[1248]? = some (2048, 3, .ifCond .eq 5, 1251, 0, 0, [], 0) := (lx_24 48).trans rfl
theorem lq_1249 : ix_lo[1249]? = some (2051, 1, .iconst 0, 0, 0, 0, [], 0) := (lx_24 49).trans rfl
theorem lq_1250 : ix_lo[1250]? = some (2052, 1, .ireturn, 1, 0, 0, [], 0) := (lx_25 0).trans rfl
theorem lq_1251 : ix_lo[1251]? = some (2053, 3, .goto 211, 1395, 0, 0, [], 0) := (lx_25 1).trans rfl
theorem lq_1252 : ix_lo[1252]? = some (2056, 1, .aload_n 1, 0, 0, 0, [], 0) := (lx_25 2).trans rfl
theorem lq_1253 : ix_lo[1253]? = some (2057, 1, .aload_n 0, 0, 0, 0, [], 0) := (lx_25 3).trans rfl
theorem lq_1254 : ix_lo[1254]? = some (2058, 2, .iload 4, 0, 0, 0, [], 0) := (lx_25 4).trans rfl
theorem lq_1255 : ix_lo[1255]? = some (2060, 1, .iconst 1, 0, 0, 0, [], 0) := (lx_25 5).trans rfl
theorem lq_1256 : ix_lo[1256]? = some (2061, 1, .iadd, 0, 0, 0, [], 0) := (lx_25 6).trans rfl
theorem lq_1257 : ix_lo[1257]? = some (2062, 1, .iaload, 0, 0, 0, [], 0) := (lx_25 7).trans rfl
theorem lq_1258 : ix_lo[1258]? = some (2063, 1, .aload_n 0, 0, 0, 0, [], 0) := (lx_25 8).trans rfl
theorem lq_1259 : ix_lo[1259]? = some (2064, 2, .iload 4, 0, 0, 0, [], 0) := (lx_25 9).trans rfl
theorem lq_1260 : ix_lo[1260]? = some (2066, 1, .iconst 2, 0, 0, 0, [], 0) := (lx_25 10).trans rfl
theorem lq_1261 : ix_lo[1261]? = some (2067, 1, .iadd, 0, 0, 0, [], 0) := (lx_25 11).trans rfl
theorem lq_1262 : ix_lo[1262]? = some (2068, 1, .iaload, 0, 0, 0, [], 0) := (lx_25 12).trans rfl
theorem lq_1263 : ix_lo[1263]? = some (2069, 1, .aload_n 0, 0, 0, 0, [], 0) := (lx_25 13).trans rfl
theorem lq_1264 : ix_lo[1264]? = some (2070, 2, .iload 4, 0, 0, 0, [], 0) := (lx_25 14).trans rfl
theorem lq_1265 : ix_lo[1265]? = some (2072, 1, .iconst 3, 0, 0, 0, [], 0) := (lx_25 15).trans rfl
theorem lq_1266 : ix_lo[1266]? = some (2073, 1, .iadd, 0, 0, 0, [], 0) := (lx_25 16).trans rfl
theorem lq_1267 : ix_lo[1267]? = some (2074, 1, .iaload, 0, 0, 0, [], 0) := (lx_25 17).trans rfl
theorem lq_1268 : ix_lo[1268]? = some (2075, 1, .aload_n 0, 0, 0, 0, [], 0) := (lx_25 18).trans rfl
theorem lq_1269 : ix_lo[1269]? = some (2076, 2, .iload 4, 0, 0, 0, [], 0) := (lx_25 19).trans rfl
theorem lq_1270 : ix_lo[1270]? = some (2078, 1, .iconst 4, 0, 0, 0, [], 0) := (lx_25 20).trans rfl
theorem lq_1271 : ix_lo[1271]? = some (2079, 1, .iadd, 0, 0, 0, [], 0) := (lx_25 21).trans rfl
theorem lq_1272 : ix_lo[1272]? = some (2080, 1, .iaload, 0, 0, 0, [], 0) := (lx_25 22).trans rfl
theorem lq_1273 : ix_lo[1273]? = some (2081, 1, .aload_n 0, 0, 0, 0, [], 0) := (lx_25 23).trans rfl
theorem lq_1274 : ix_lo[1274]? = some (2082, 2, .iload 4, 0, 0, 0, [], 0) := (lx_25 24).trans rfl
theorem lq_1275 : ix_lo[1275]? = some (2084, 1, .iconst 5, 0, 0, 0, [], 0) := (lx_25 25).trans rfl
theorem lq_1276 : ix_lo[1276]? = some (2085, 1, .iadd, 0, 0, 0, [], 0) := (lx_25 26).trans rfl
theorem lq_1277 : ix_lo[1277]? = some (2086, 1, .iaload, 0, 0, 0, [], 0) := (lx_25 27).trans rfl
theorem lq_1278 : ix_lo[1278]? = some (2087, 1, .aload_n 0, 0, 0, 0, [], 0) := (lx_25 28).trans rfl
theorem lq_1279 : ix_lo[1279]? = some (2088, 2, .iload 4, 0, 0, 0, [], 0) := (lx_25 29).trans rfl
theorem lq_1280 : ix_lo[1280]? = some (2090, 2, .bipush 6, 0, 0, 0, [], 0) := (lx_25 30).trans rfl
theorem lq_1281 : ix_lo[1281]? = some (2092, 1, .iadd, 0, 0, 0, [], 0) := (lx_25 31).trans rfl
theorem lq_1282 : ix_lo[1282]? = some (2093, 1, .iaload, 0, 0, 0, [], 0) := (lx_25 32).trans rfl
theorem lq_1283 : ix_lo[1283]? = some (2094, 1, .aload_n 0, 0, 0, 0, [], 0) := (lx_25 33).trans rfl
theorem lq_1284 : ix_lo[1284]? = some (2095, 2, .iload 4, 0, 0, 0, [], 0) := (lx_25 34).trans rfl
theorem lq_1285 : ix_lo[1285]? = some (2097, 2, .bipush 7, 0, 0, 0, [], 0) := (lx_25 35).trans rfl
theorem lq_1286 : ix_lo[1286]? = some (2099, 1, .iadd, 0, 0, 0, [], 0) := (lx_25 36).trans rfl
theorem lq_1287 : ix_lo[1287]? = some (2100, 1, .iaload, 0, 0, 0, [], 0) := (lx_25 37).trans rfl
theorem lq_1288 : ix_lo[1288]? = some (2101, 1, .aload_n 3, 0, 0, 0, [], 0) := (lx_25 38).trans rfl
theorem lq_1289 : ix_lo[1289]? = some (2102, 3, .invokestatic 211, 285, 3, 9, [], 0) := (lx_25 39).trans rfl
theorem lq_1290 : ix_lo[1290]? = some (2105, 2, .istore 5, 0, 0, 0, [], 0) := (lx_25 40).trans rfl
theorem lq_1291 : ix_lo[1291]? = some (2107, 1, .aload_n 2, 0, 0, 0, [], 0) := (lx_25 41).trans rfl
theorem lq_1292 : ix_lo[1292]? = some (2108, 1, .aload_n 0, 0, 0, 0, [], 0) := (lx_25 42).trans rfl
theorem lq_1293 : ix_lo[1293]? = some (2109, 2, .iload 4, 0, 0, 0, [], 0) := (lx_25 43).trans rfl
theorem lq_1294 : ix_lo[1294]? = some (2111, 1, .iconst 1, 0, 0, 0, [], 0) := (lx_25 44).trans rfl
theorem lq_1295 : ix_lo[1295]? = some (2112, 1, .iadd, 0, 0, 0, [], 0) := (lx_25 45).trans rfl
theorem lq_1296 : ix_lo[1296]? = some (2113, 1, .iaload, 0, 0, 0, [], 0) := (lx_25 46).trans rfl
theorem lq_1297 : ix_lo[1297]? = some (2114, 1, .aload_n 0, 0, 0, 0, [], 0) := (lx_25 47).trans rfl
theorem lq_1298 : ix_lo[1298]? = some (2115, 2, .iload 4, 0, 0, 0, [], 0) := (lx_25 48).trans rfl
theorem lq_1299 : ix_lo[1299]? = some (2117, 1, .iconst 2, 0, 0, 0, [], 0) := (lx_25 49).trans rfl
theorem lq_1300 : ix_lo[1300]? = some (2118, 1, .iadd, 0, 0, 0, [], 0) := (lx_26 0).trans rfl
theorem lq_1301 : ix_lo[1301]? = some (2119, 1, .iaload, 0, 0, 0, [], 0) := (lx_26 1).trans rfl
theorem lq_1302 : ix_lo[1302]? = some (2120, 1, .aload_n 0, 0, 0, 0, [], 0) := (lx_26 2).trans rfl
theorem lq_1303 : ix_lo[1303]? = some (2121, 2, .iload 4, 0, 0, 0, [], 0) := (lx_26 3).trans rfl
theorem lq_1304 : ix_lo[1304]? = some (2123, 1, .iconst 3, 0, 0, 0, [], 0) := (lx_26 4).trans rfl
theorem lq_1305 : ix_lo[1305]? = some (2124, 1, .iadd, 0, 0, 0, [], 0) := (lx_26 5).trans rfl
theorem lq_1306 : ix_lo[1306]? = some (2125, 1, .iaload, 0, 0, 0, [], 0) := (lx_26 6).trans rfl
theorem lq_1307 : ix_lo[1307]? = some (2126, 1, .aload_n 0, 0, 0, 0, [], 0) := (lx_26 7).trans rfl
theorem lq_1308 : ix_lo[1308]? = some (2127, 2, .iload 4, 0, 0, 0, [], 0) := (lx_26 8).trans rfl
theorem lq_1309 : ix_lo[1309]? = some (2129, 1, .iconst 4, 0, 0, 0, [], 0) := (lx_26 9).trans rfl
theorem lq_1310 : ix_lo[1310]? = some (2130, 1, .iadd, 0, 0, 0, [], 0) := (lx_26 10).trans rfl
theorem lq_1311 : ix_lo[1311]? = some (2131, 1, .iaload, 0, 0, 0, [], 0) := (lx_26 11).trans rfl
theorem lq_1312 : ix_lo[1312]? = some (2132, 1, .aload_n 0, 0, 0, 0, [], 0) := (lx_26 12).trans rfl
theorem lq_1313 : ix_lo[1313]? = some (2133, 2, .iload 4, 0, 0, 0, [], 0) := (lx_26 13).trans rfl
theorem lq_1314 : ix_lo[1314]? = some (2135, 1, .iconst 5, 0, 0, 0, [], 0) := (lx_26 14).trans rfl
theorem lq_1315 : ix_lo[1315]? = some (2136, 1, .iadd, 0, 0, 0, [], 0) := (lx_26 15).trans rfl
theorem lq_1316 : ix_lo[1316]? = some (2137, 1, .iaload, 0, 0, 0, [], 0) := (lx_26 16).trans rfl
theorem lq_1317 : ix_lo[1317]? = some (2138, 1, .aload_n 0, 0, 0, 0, [], 0) := (lx_26 17).trans rfl
theorem lq_1318 : ix_lo[1318]? = some (2139, 2, .iload 4, 0, 0, 0, [], 0) := (lx_26 18).trans rfl
theorem lq_1319 : ix_lo[1319]? = some (2141, 2, .bipush 6, 0, 0, 0, [], 0) := (lx_26 19).trans rfl
theorem lq_1320 : ix_lo[1320]? = some (2143, 1, .iadd, 0, 0, 0, [], 0) := (lx_26 20).trans rfl
theorem lq_1321 : ix_lo[1321]? = some (2144, 1, .iaload, 0, 0, 0, [], 0) := (lx_26 21).trans rfl
theorem lq_1322 : ix_lo[1322]? = some (2145, 1, .aload_n 0, 0, 0, 0, [], 0) := (lx_26 22).trans rfl
theorem lq_1323 : ix_lo[1323]? = some (2146, 2, .iload 4, 0, 0, 0, [], 0) := (lx_26 23).trans rfl
theorem lq_1324 : ix_lo[1324]? = some (2148, 2, .bipush 7, 0, 0, 0, [], 0) := (lx_26 24).trans rfl
theorem lq_1325 : ix_lo[1325]? = some (2150, 1, .iadd, 0, 0, 0, [], 0) := (lx_26 25).trans rfl
theorem lq_1326 : ix_lo[1326]? = some (2151, 1, .iaload, 0, 0, 0, [], 0) := (lx_26 26).trans rfl
theorem lq_1327 : ix_lo[1327]? = some (2152, 3, .invokevirtual 214, 252, 0, 8, [12], 0) := (lx_26 27).trans rfl
theorem lq_1328 : ix_lo[1328]? = some (2155, 2, .istore 6, 0, 0, 0, [], 0) := (lx_26 28).trans rfl
theorem lq_1329 : ix_lo[1329]? = some (2157, 1, .aload_n 2, 0, 0, 0, [], 0) := (lx_26 29).trans rfl
theorem lq_1330 : ix_lo[1330]? = some (2158, 3, .invokevirtual 111, 153, 0, 1, [12], 0) := (lx_26 30).trans rfl
theorem lq_1331 : ix_lo[1331]? = some (2161, 2, .iload 5, 0, 0, 0, [], 0) := (lx_26 31).trans rfl
theorem lq_1332 : ix_lo[1332]? = some (2163, 3, .if_icmp .eq 5, 1335, 0, 0, [], 0) := (lx_26 32).trans rfl
theorem lq_1333 : ix_lo[1333]? = some (2166, 1, .iconst 0, 0, 0, 0, [], 0) := (lx_26 33).trans rfl
theorem lq_1334 : ix_lo[1334]? = some (2167, 1, .ireturn, 1, 0, 0, [], 0) := (lx_26 34).trans rfl
theorem lq_1335 : ix_lo[1335]? = some (2168, 2, .iload 5, 0, 0, 0, [], 0) := (lx_26 35).trans rfl
theorem lq_1336 : ix_lo[1336]? = some (2170, 3, .ifCond .ne 15, 1346, 0, 0, [], 0) := (lx_26 36).trans rfl
theorem lq_1337 : ix_lo[1337]? = some (2173, 1, .aload_n 3, 0, 0, 0, [], 0) := (lx_26 37).trans rfl
theorem lq_1338 : ix_lo[1338]? = some (2174, 1, .iconst 0, 0, 0, 0, [], 0) := (lx_26 38).trans rfl
theorem lq_1339 : ix_lo[1339]? = some (2175, 1, .laload, 0, 0, 0, [], 0) := (lx_26 39).trans rfl
theorem lq_1340 : ix_lo[1340]? = some (2176, 2, .iload 6, 0, 0, 0, [], 0) := (lx_26 40).trans rfl
theorem lq_1341 : ix_lo[1341]? = some (2178, 1, .i2l, 0, 0, 0, [], 0) := (lx_26 41).trans rfl
theorem lq_1342 : ix_lo[1342]? = some (2179, 1, .lcmp, 0, 0, 0, [], 0) := (lx_26 42).trans rfl
theorem lq_1343 : ix_lo[1343]? = some (2180, 3, .ifCond .eq 5, 1346, 0, 0, [], 0) := (lx_26 43).trans rfl
theorem lq_1344 : ix_lo[1344]? = some (2183, 1, .iconst 0, 0, 0, 0, [], 0) := (lx_26 44).trans rfl
theorem lq_1345 : ix_lo[1345]? = some (2184, 1, .ireturn, 1, 0, 0, [], 0) := (lx_26 45).trans rfl
theorem lq_1346 : ix_lo[1346]? = some (2185, 3, .goto 79, 1395, 0, 0, [], 0) := (lx_26 46).trans rfl
theorem lq_1347 : ix_lo[1347]? = some (2188, 1, .aload_n 1, 0, 0, 0, [], 0) := (lx_26 47).trans rfl
theorem lq_1348 : ix_lo[1348]? = some (2189, 3, .invokevirtual 215, 142, 0, 1, [11], 0) := (lx_26 48).trans rfl
theorem lq_1349 : ix_lo[1349]? = some (2192, 1, .aload_n 2, 0, 0, 0, [], 0) := (lx_26 49).trans rfl
theorem lq_1350 : ix_lo[1350]? = some (2193, 3, .invokevirtual 218, 255, 0, 1, [12], 0) := (lx_27 0).trans rfl
theorem lq_1351 : ix_lo[1351]? = some (2196, 3, .if_icmp .eq 68, 1395, 0, 0, [], 0) := (lx_27 1).trans rfl
theorem lq_1352 : ix_lo[1352]? = some (2199, 1, .iconst 0, 0, 0, 0, [], 0) := (lx_27 2).trans rfl
theorem lq_1353 : ix_lo[1353]? = some (2200, 1, .ireturn, 1, 0, 0, [], 0) := (lx_27 3).trans rfl
theorem lq_1354 : ix_lo[1354]? = some (2201, 1, .aload_n 1, 0, 0, 0, [], 0) := (lx_27 4).trans rfl
theorem lq_1355 : ix_lo[1355]? = some (2202, 3, .invokevirtual 219, 143, 0, 1, [11], 0) := (lx_27 5).trans rfl
theorem lq_1356 : ix_lo[1356]? = some (2205, 1, .aload_n 2, 0, 0, 0, [], 0) := (lx_27 6).trans rfl
theorem lq_1357 : ix_lo[1357]? = some (2206, 3, .invokevirtual 222, 256, 0, 1, [12], 0) := (lx_27 7).trans rfl
theorem lq_1358 : ix_lo[1358]? = some (2209, 3, .if_icmp .eq 55, 1395, 0, 0, [], 0) := (lx_27 8).trans rfl
theorem lq_1359 : ix_lo[1359]? = some (2212, 1, .iconst 0, 0, 0, 0, [], 0) := (lx_27 9).trans rfl
theorem lq_1360 : ix_lo[1360]? = some (2213, 1, .ireturn, 1, 0, 0, [], 0) := (lx_27 10).trans rfl
theorem lq_1361 : ix_lo[1361]? = some (2214, 1, .aload_n 1, 0, 0, 0, [], 0) := (lx_27 11).trans rfl
theorem lq_1362 : ix_lo[1362]? = some (2215, 1, .aload_n 0, 0, 0, 0, [], 0) := (lx_27 12).trans rfl
theorem lq_1363 : ix_lo[1363]? = some (2216, 2, .iload 4, 0, 0, 0, [], 0) := (lx_27 13).trans rfl
theorem lq_1364 : ix_lo[1364]? = some (2218, 1, .iconst 1, 0, 0, 0, [], 0) := (lx_27 14).trans rfl
theorem lq_1365 : ix_lo[1365]? = some (2219, 1, .iadd, 0, 0, 0, [], 0) := (lx_27 15).trans rfl
theorem lq_1366 : ix_lo[1366]? = some (2220, 1, .iaload, 0, 0, 0, [], 0) := (lx_27 16).trans rfl
theorem lq_1367 : ix_lo[1367]? = some (2221, 3, .invokevirtual 223, 144, 0, 2, [11], 0) := (lx_27 17).trans rfl
theorem lq_1368 : ix_lo[1368]? = some (2224, 1, .aload_n 2, 0, 0, 0, [], 0) := (lx_27 18).trans rfl
theorem lq_1369 : ix_lo[1369]? = some (2225, 1, .aload_n 0, 0, 0, 0, [], 0) := (lx_27 19).trans rfl
theorem lq_1370 : ix_lo[1370]? = some (2226, 2, .iload 4, 0, 0, 0, [], 0) := (lx_27 20).trans rfl
theorem lq_1371 : ix_lo[1371]? = some (2228, 1, .iconst 1, 0, 0, 0, [], 0) := (lx_27 21).trans rfl
theorem lq_1372 : ix_lo[1372]? = some (2229, 1, .iadd, 0, 0, 0, [], 0) := (lx_27 22).trans rfl
theorem lq_1373 : ix_lo[1373]? = some (2230, 1, .iaload, 0, 0, 0, [], 0) := (lx_27 23).trans rfl
theorem lq_1374 : ix_lo[1374]? = some (2231, 3, .invokevirtual 226, 257, 0, 2, [12], 0) := (lx_27 24).trans rfl
theorem lq_1375 : ix_lo[1375]? = some (2234, 3, .if_icmp .eq 30, 1395, 0, 0, [], 0) := (lx_27 25).trans rfl
theorem lq_1376 : ix_lo[1376]? = some (2237, 1, .iconst 0, 0, 0, 0, [], 0) := (lx_27 26).trans rfl
theorem lq_1377 : ix_lo[1377]? = some (2238, 1, .ireturn, 1, 0, 0, [], 0) := (lx_27 27).trans rfl
theorem lq_1378 : ix_lo[1378]? = some (2239, 1, .aload_n 1, 0, 0, 0, [], 0) := (lx_27 28).trans rfl
theorem lq_1379 : ix_lo[1379]? = some (2240, 1, .aload_n 0, 0, 0, 0, [], 0) := (lx_27 29).trans rfl
theorem lq_1380 : ix_lo[1380]? = some (2241, 2, .iload 4, 0, 0, 0, [], 0) := (lx_27 30).trans rfl
theorem lq_1381 : ix_lo[1381]? = some (2243, 1, .iconst 1, 0, 0, 0, [], 0) := (lx_27 31).trans rfl
theorem lq_1382 : ix_lo[1382]? = some (2244, 1, .iadd, 0, 0, 0, [], 0) := (lx_27 32).trans rfl
theorem lq_1383 : ix_lo[1383]? = some (2245, 1, .iaload, 0, 0, 0, [], 0) := (lx_27 33).trans rfl
theorem lq_1384 : ix_lo[1384]? = some (2246, 3, .invokevirtual 227, 145, 0, 2, [11], 0) := (lx_27 34).trans rfl
theorem lq_1385 : ix_lo[1385]? = some (2249, 1, .aload_n 2, 0, 0, 0, [], 0) := (lx_27 35).trans rfl
theorem lq_1386 : ix_lo[1386]? = some (2250, 1, .aload_n 0, 0, 0, 0, [], 0) := (lx_27 36).trans rfl
theorem lq_1387 : ix_lo[1387]? = some (2251, 2, .iload 4, 0, 0, 0, [], 0) := (lx_27 37).trans rfl
theorem lq_1388 : ix_lo[1388]? = some (2253, 1, .iconst 1, 0, 0, 0, [], 0) := (lx_27 38).trans rfl
theorem lq_1389 : ix_lo[1389]? = some (2254, 1, .iadd, 0, 0, 0, [], 0) := (lx_27 39).trans rfl
theorem lq_1390 : ix_lo[1390]? = some (2255, 1, .iaload, 0, 0, 0, [], 0) := (lx_27 40).trans rfl
theorem lq_1391 : ix_lo[1391]? = some (2256, 3, .invokevirtual 230, 258, 0, 2, [12], 0) := (lx_27 41).trans rfl
theorem lq_1392 : ix_lo[1392]? = some (2259, 3, .if_icmp .eq 5, 1395, 0, 0, [], 0) := (lx_27 42).trans rfl
theorem lq_1393 : ix_lo[1393]? = some (2262, 1, .iconst 0, 0, 0, 0, [], 0) := (lx_27 43).trans rfl
theorem lq_1394 : ix_lo[1394]? = some (2263, 1, .ireturn, 1, 0, 0, [], 0) := (lx_27 44).trans rfl
theorem lq_1395 : ix_lo[1395]? = some (2264, 3, .iinc 4 9, 0, 0, 0, [], 0) := (lx_27 45).trans rfl
theorem lq_1396 : ix_lo[1396]? = some (2267, 3, .goto (-2244), 13, 0, 0, [], 0) := (lx_27 46).trans rfl
theorem lq_1397 : ix_lo[1397]? = some (2270, 1, .iconst 1, 0, 0, 0, [], 0) := (lx_27 47).trans rfl
theorem lq_1398 : ix_lo[1398]? = some (2271, 1, .ireturn, 1, 0, 0, [], 0) := (lx_27 48).trans rfl
