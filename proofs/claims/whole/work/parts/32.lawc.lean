theorem lk_19 : (lo_19).all (ix_ok1 13 code ix_lo) = true := by decide +kernel
theorem lk_20 : (lo_20).all (ix_ok1 13 code ix_lo) = true := by decide +kernel
theorem lk_21 : (lo_21).all (ix_ok1 13 code ix_lo) = true := by decide +kernel
theorem lk_22 : (lo_22).all (ix_ok1 13 code ix_lo) = true := by decide +kernel
theorem lk_23 : (lo_23).all (ix_ok1 13 code ix_lo) = true := by decide +kernel
theorem lk_24 : (lo_24).all (ix_ok1 13 code ix_lo) = true := by decide +kernel
theorem lk_25 : (lo_25).all (ix_ok1 13 code ix_lo) = true := by decide +kernel
theorem lk_26 : (lo_26).all (ix_ok1 13 code ix_lo) = true := by decide +kernel
theorem lk_27 : (lo_27).all (ix_ok1 13 code ix_lo) = true := by decide +kernel
theorem lc_0 : ix_chain lo_0 = true := by decide +kernel
theorem lc_1 : ix_chain lo_1 = true := by decide +kernel
theorem lc_2 : ix_chain lo_2 = true := by decide +kernel
theorem lc_3 : ix_chain lo_3 = true := by decide +kernel
theorem lc_4 : ix_chain lo_4 = true := by decide +kernel
theorem lc_5 : ix_chain lo_5 = true := by decide +kernel
theorem lc_6 : ix_chain lo_6 = true := by decide +kernel
theorem lc_7 : ix_chain lo_7 = true := by decide +kernel
theorem lc_8 : ix_chain lo_8 = true := by decide +kernel
theorem lc_9 : ix_chain lo_9 = true := by decide +kernel
theorem lc_10 : ix_chain lo_10 = true := by decide +kernel
theorem lc_11 : ix_chain lo_11 = true := by decide +kernel
theorem lc_12 : ix_chain lo_12 = true := by decide +kernel
theorem lc_13 : ix_chain lo_13 = true := by decide +kernel
theorem lc_14 : ix_chain lo_14 = true := by decide +kernel
theorem lc_15 : ix_chain lo_15 = true := by decide +kernel
theorem lc_16 : ix_chain lo_16 = true := by decide +kernel
theorem lc_17 : ix_chain lo_17 = true := by decide +kernel
theorem lc_18 : ix_chain lo_18 = true := by decide +kernel
theorem lc_19 : ix_chain lo_19 = true := by decide +kernel
theorem lc_20 : ix_chain lo_20 = true := by decide +kernel
theorem lc_21 : ix_chain lo_21 = true := by decide +kernel
theorem lc_22 : ix_chain lo_22 = true := by decide +kernel
theorem lc_23 : ix_chain lo_23 = true := by decide +kernel
theorem lc_24 : ix_chain lo_24 = true := by decide +kernel
theorem lc_25 : ix_chain lo_25 = true := by decide +kernel
theorem lc_26 : ix_chain lo_26 = true := by decide +kernel
theorem lc_27 : ix_chain lo_27 = true := by decide +kernel
theorem ls_27 : ix_chain (lo_27) = true := lc_27
theorem ls_26 : ix_chain (lo_26 ++ (lo_27)) = true := ix_chain_app _ _ lc_26 ls_27 (ix_bdo (by decide +kernel))
theorem ls_25 : ix_chain (lo_25 ++ (lo_26 ++ (lo_27))) = true := ix_chain_app _ _ lc_25 ls_26 (ix_bdo (by decide +kernel))
theorem ls_24 : ix_chain (lo_24 ++ (lo_25 ++ (lo_26 ++ (lo_27)))) = true := ix_chain_app _ _ lc_24 ls_25 (ix_bdo (by decide +kernel))
theorem ls_23 : ix_chain (lo_23 ++ (lo_24 ++ (lo_25 ++ (lo_26 ++ (lo_27))))) = true := ix_chain_app _ _ lc_23 ls_24 (ix_bdo (by decide +kernel))
theorem ls_22 : ix_chain (lo_22 ++ (lo_23 ++ (lo_24 ++ (lo_25 ++ (lo_26 ++ (lo_27)))))) = true := ix_chain_app _ _ lc_22 ls_23 (ix_bdo (by decide +kernel))
theorem ls_21 : ix_chain (lo_21 ++ (lo_22 ++ (lo_23 ++ (lo_24 ++ (lo_25 ++ (lo_26 ++ (lo_27))))))) = true := ix_chain_app _ _ lc_21 ls_22 (ix_bdo (by decide +kernel))
theorem ls_20 : ix_chain (lo_20 ++ (lo_21 ++ (lo_22 ++ (lo_23 ++ (lo_24 ++ (lo_25 ++ (lo_26 ++ (lo_27)))))))) = true := ix_chain_app _ _ lc_20 ls_21 (ix_bdo (by decide +kernel))
theorem ls_19 : ix_chain (lo_19 ++ (lo_20 ++ (lo_21 ++ (lo_22 ++ (lo_23 ++ (lo_24 ++ (lo_25 ++ (lo_26 ++ (lo_27))))))))) = true := ix_chain_app _ _ lc_19 ls_20 (ix_bdo (by decide +kernel))
theorem ls_18 : ix_chain (lo_18 ++ (lo_19 ++ (lo_20 ++ (lo_21 ++ (lo_22 ++ (lo_23 ++ (lo_24 ++ (lo_25 ++ (lo_26 ++ (lo_27)))))))))) = true := ix_chain_app _ _ lc_18 ls_19 (ix_bdo (by decide +kernel))
theorem ls_17 : ix_chain (lo_17 ++ (lo_18 ++ (lo_19 ++ (lo_20 ++ (lo_21 ++ (lo_22 ++ (lo_23 ++ (lo_24 ++ (lo_25 ++ (lo_26 ++ (lo_27))))))))))) = true := ix_chain_app _ _ lc_17 ls_18 (ix_bdo (by decide +kernel))
theorem ls_16 : ix_chain (lo_16 ++ (lo_17 ++ (lo_18 ++ (lo_19 ++ (lo_20 ++ (lo_21 ++ (lo_22 ++ (lo_23 ++ (lo_24 ++ (lo_25 ++ (lo_26 ++ (lo_27)))))))))))) = true := ix_chain_app _ _ lc_16 ls_17 (ix_bdo (by decide +kernel))
theorem ls_15 : ix_chain (lo_15 ++ (lo_16 ++ (lo_17 ++ (lo_18 ++ (lo_19 ++ (lo_20 ++ (lo_21 ++ (lo_22 ++ (lo_23 ++ (lo_24 ++ (lo_25 ++ (lo_26 ++ (lo_27))))))))))))) = true := ix_chain_app _ _ lc_15 ls_16 (ix_bdo (by decide +kernel))
theorem ls_14 : ix_chain (lo_14 ++ (lo_15 ++ (lo_16 ++ (lo_17 ++ (lo_18 ++ (lo_19 ++ (lo_20 ++ (lo_21 ++ (lo_22 ++ (lo_23 ++ (lo_24 ++ (lo_25 ++ (lo_26 ++ (lo_27)))))))))))))) = true := ix_chain_app _ _ lc_14 ls_15 (ix_bdo (by decide +kernel))
theorem ls_13 : ix_chain (lo_13 ++ (lo_14 ++ (lo_15 ++ (lo_16 ++ (lo_17 ++ (lo_18 ++ (lo_19 ++ (lo_20 ++ (lo_21 ++ (lo_22 ++ (lo_23 ++ (lo_24 ++ (lo_25 ++ (lo_26 ++ (lo_27))))))))))))))) = true := ix_chain_app _ _ lc_13 ls_14 (ix_bdo (by decide +kernel))
theorem ls_12 : ix_chain (lo_12 ++ (lo_13 ++ (lo_14 ++ (lo_15 ++ (lo_16 ++ (lo_17 ++ (lo_18 ++ (lo_19 ++ (lo_20 ++ (lo_21 ++ (lo_22 ++ (lo_23 ++ (lo_24 ++ (lo_25 ++ (lo_26 ++ (lo_27)))))))))))))))) = true := ix_chain_app _ _ lc_12 ls_13 (ix_bdo (by decide +kernel))
theorem ls_11 : ix_chain (lo_11 ++ (lo_12 ++ (lo_13 ++ (lo_14 ++ (lo_15 ++ (lo_16 ++ (lo_17 ++ (lo_18 ++ (lo_19 ++ (lo_20 ++ (lo_21 ++ (lo_22 ++ (lo_23 ++ (lo_24 ++ (lo_25 ++ (lo_26 ++ (lo_27))))))))))))))))) = true := ix_chain_app _ _ lc_11 ls_12 (ix_bdo (by decide +kernel))
theorem ls_10 : ix_chain (lo_10 ++ (lo_11 ++ (lo_12 ++ (lo_13 ++ (lo_14 ++ (lo_15 ++ (lo_16 ++ (lo_17 ++ (lo_18 ++ (lo_19 ++ (lo_20 ++ (lo_21 ++ (lo_22 ++ (lo_23 ++ (lo_24 ++ (lo_25 ++ (lo_26 ++ (lo_27)))))))))))))))))) = true := ix_chain_app _ _ lc_10 ls_11 (ix_bdo (by decide +kernel))
theorem ls_9 : ix_chain (lo_9 ++ (lo_10 ++ (lo_11 ++ (lo_12 ++ (lo_13 ++ (lo_14 ++ (lo_15 ++ (lo_16 ++ (lo_17 ++ (lo_18 ++ (lo_19 ++ (lo_20 ++ (lo_21 ++ (lo_22 ++ (lo_23 ++ (lo_24 ++ (lo_25 ++ (lo_26 ++ (lo_27))))))))))))))))))) = true := ix_chain_app _ _ lc_9 ls_10 (ix_bdo (by decide +kernel))
theorem ls_8 : ix_chain (lo_8 ++ (lo_9 ++ (lo_10 ++ (lo_11 ++ (lo_12 ++ (lo_13 ++ (lo_14 ++ (lo_15 ++ (lo_16 ++ (lo_17 ++ (lo_18 ++ (lo_19 ++ (lo_20 ++ (lo_21 ++ (lo_22 ++ (lo_23 ++ (lo_24 ++ (lo_25 ++ (lo_26 ++ (lo_27)))))))))))))))))))) = true := ix_chain_app _ _ lc_8 ls_9 (ix_bdo (by decide +kernel))
theorem ls_7 : ix_chain (lo_7 ++ (lo_8 ++ (lo_9 ++ (lo_10 ++ (lo_11 ++ (lo_12 ++ (lo_13 ++ (lo_14 ++ (lo_15 ++ (lo_16 ++ (lo_17 ++ (lo_18 ++ (lo_19 ++ (lo_20 ++ (lo_21 ++ (lo_22 ++ (lo_23 ++ (lo_24 ++ (lo_25 ++ (lo_26 ++ (lo_27))))))))))))))))))))) = true := ix_chain_app _ _ lc_7 ls_8 (ix_bdo (by decide +kernel))
theorem ls_6 : ix_chain (lo_6 ++ (lo_7 ++ (lo_8 ++ (lo_9 ++ (lo_10 ++ (lo_11 ++ (lo_12 ++ (lo_13 ++ (lo_14 ++ (lo_15 ++ (lo_16 ++ (lo_17 ++ (lo_18 ++ (lo_19 ++ (lo_20 ++ (lo_21 ++ (lo_22 ++ (lo_23 ++ (lo_24 ++ (lo_25 ++ (lo_26 ++ (lo_27)))))))))))))))))))))) = true := ix_chain_app _ _ lc_6 ls_7 (ix_bdo (by decide +kernel))
theorem ls_5 : ix_chain (lo_5 ++ (lo_6 ++ (lo_7 ++ (lo_8 ++ (lo_9 ++ (lo_10 ++ (lo_11 ++ (lo_12 ++ (lo_13 ++ (lo_14 ++ (lo_15 ++ (lo_16 ++ (lo_17 ++ (lo_18 ++ (lo_19 ++ (lo_20 ++ (lo_21 ++ (lo_22 ++ (lo_23 ++ (lo_24 ++ (lo_25 ++ (lo_26 ++ (lo_27))))))))))))))))))))))) = true := ix_chain_app _ _ lc_5 ls_6 (ix_bdo (by decide +kernel))
theorem ls_4 : ix_chain (lo_4 ++ (lo_5 ++ (lo_6 ++ (lo_7 ++ (lo_8 ++ (lo_9 ++ (lo_10 ++ (lo_11 ++ (lo_12 ++ (lo_13 ++ (lo_14 ++ (lo_15 ++ (lo_16 ++ (lo_17 ++ (lo_18 ++ (lo_19 ++ (lo_20 ++ (lo_21 ++ (lo_22 ++ (lo_23 ++ (lo_24 ++ (lo_25 ++ (lo_26 ++ (lo_27)))))))))))))))))))))))) = true := ix_chain_app _ _ lc_4 ls_5 (ix_bdo (by decide +kernel))
theorem ls_3 : ix_chain (lo_3 ++ (lo_4 ++ (lo_5 ++ (lo_6 ++ (lo_7 ++ (lo_8 ++ (lo_9 ++ (lo_10 ++ (lo_11 ++ (lo_12 ++ (lo_13 ++ (lo_14 ++ (lo_15 ++ (lo_16 ++ (lo_17 ++ (lo_18 ++ (lo_19 ++ (lo_20 ++ (lo_21 ++ (lo_22 ++ (lo_23 ++ (lo_24 ++ (lo_25 ++ (lo_26 ++ (lo_27))))))))))))))))))))))))) = true := ix_chain_app _ _ lc_3 ls_4 (ix_bdo (by decide +kernel))
theorem ls_2 : ix_chain (lo_2 ++ (lo_3 ++ (lo_4 ++ (lo_5 ++ (lo_6 ++ (lo_7 ++ (lo_8 ++ (lo_9 ++ (lo_10 ++ (lo_11 ++ (lo_12 ++ (lo_13 ++ (lo_14 ++ (lo_15 ++ (lo_16 ++ (lo_17 ++ (lo_18 ++ (lo_19 ++ (lo_20 ++ (lo_21 ++ (lo_22 ++ (lo_23 ++ (lo_24 ++ (lo_25 ++ (lo_26 ++ (lo_27)))))))))))))))))))))))))) = true := ix_chain_app _ _ lc_2 ls_3 (ix_bdo (by decide +kernel))
theorem ls_1 : ix_chain (lo_1 ++ (lo_2 ++ (lo_3 ++ (lo_4 ++ (lo_5 ++ (lo_6 ++ (lo_7 ++ (lo_8 ++ (lo_9 ++ (lo_10 ++ (lo_11 ++ (lo_12 ++ (lo_13 ++ (lo_14 ++ (lo_15 ++ (lo_16 ++ (lo_17 ++ (lo_18 ++ (lo_19 ++ (lo_20 ++ (lo_21 ++ (lo_22 ++ (lo_23 ++ (lo_24 ++ (lo_25 ++ (lo_26 ++ (lo_27))))))))))))))))))))))))))) = true := ix_chain_app _ _ lc_1 ls_2 (ix_bdo (by decide +kernel))
theorem ls_0 : ix_chain (lo_0 ++ (lo_1 ++ (lo_2 ++ (lo_3 ++ (lo_4 ++ (lo_5 ++ (lo_6 ++ (lo_7 ++ (lo_8 ++ (lo_9 ++ (lo_10 ++ (lo_11 ++ (lo_12 ++ (lo_13 ++ (lo_14 ++ (lo_15 ++ (lo_16 ++ (lo_17 ++ (lo_18 ++ (lo_19 ++ (lo_20 ++ (lo_21 ++ (lo_22 ++ (lo_23 ++ (lo_24 ++ (lo_25 ++ (lo_26 ++ (lo_27)))))))))))))))))))))))))))) = true := ix_chain_app _ _ lc_0 ls_1 (ix_bdo (by decide +kernel))
theorem lr_0 : (lo_0).all (fun o => decide (ix_ins o ≠ .return_)) = true ∧ (lo_0).all (fun o => decide (ix_ins o ≠ .ireturn) || decide (ix_x o = 1)) = true := by decide +kernel
theorem lr_1 : (lo_1).all (fun o => decide (ix_ins o ≠ .return_)) = true ∧ (lo_1).all (fun o => decide (ix_ins o ≠ .ireturn) || decide (ix_x o = 1)) = true := by decide +kernel
theorem lr_2 : (lo_2).all (fun o => decide (ix_ins o ≠ .return_)) = true ∧ (lo_2).all (fun o => decide (ix_ins o ≠ .ireturn) || decide (ix_x o = 1)) = true := by decide +kernel
theorem lr_3 : (lo_3).all (fun o => decide (ix_ins o ≠ .return_)) = true ∧ (lo_3).all (fun o => decide (ix_ins o ≠ .ireturn) || decide (ix_x o = 1)) = true := by decide +kernel
theorem lr_4 : (lo_4).all (fun o => decide (ix_ins o ≠ .return_)) = true ∧ (lo_4).all (fun o => decide (ix_ins o ≠ .ireturn) || decide (ix_x o = 1)) = true := by decide +kernel
theorem lr_5 : (lo_5).all (fun o => decide (ix_ins o ≠ .return_)) = true ∧ (lo_5).all (fun o => decide (ix_ins o ≠ .ireturn) || decide (ix_x o = 1)) = true := by decide +kernel
theorem lr_6 : (lo_6).all (fun o => decide (ix_ins o ≠ .return_)) = true ∧ (lo_6).all (fun o => decide (ix_ins o ≠ .ireturn) || decide (ix_x o = 1)) = true := by decide +kernel
theorem lr_7 : (lo_7).all (fun o => decide (ix_ins o ≠ .return_)) = true ∧ (lo_7).all (fun o => decide (ix_ins o ≠ .ireturn) || decide (ix_x o = 1)) = true := by decide +kernel
theorem lr_8 : (lo_8).all (fun o => decide (ix_ins o ≠ .return_)) = true ∧ (lo_8).all (fun o => decide (ix_ins o ≠ .ireturn) || decide (ix_x o = 1)) = true := by decide +kernel
theorem lr_9 : (lo_9).all (fun o => decide (ix_ins o ≠ .return_)) = true ∧ (lo_9).all (fun o => decide (ix_ins o ≠ .ireturn) || decide (ix_x o = 1)) = true := by decide +kernel
theorem lr_10 : (lo_10).all (fun o => decide (ix_ins o ≠ .return_)) = true ∧ (lo_10).all (fun o => decide (ix_ins o ≠ .ireturn) || decide (ix_x o = 1)) = true := by decide +kernel
theorem lr_11 : (lo_11).all (fun o => decide (ix_ins o ≠ .return_)) = true ∧ (lo_11).all (fun o => decide (ix_ins o ≠ .ireturn) || decide (ix_x o = 1)) = true := by decide +kernel
theorem lr_12 : (lo_12).all (fun o => decide (ix_ins o ≠ .return_)) = true ∧ (lo_12).all (fun o => decide (ix_ins o ≠ .ireturn) || decide (ix_x o = 1)) = true := by decide +kernel
theorem lr_13 : (lo_13).all (fun o => decide (ix_ins o ≠ .return_)) = true ∧ (lo_13).all (fun o => decide (ix_ins o ≠ .ireturn) || decide (ix_x o = 1)) = true := by decide +kernel
theorem lr_14 : (lo_14).all (fun o => decide (ix_ins o ≠ .return_)) = true ∧ (lo_14).all (fun o => decide (ix_ins o ≠ .ireturn) || decide (ix_x o = 1)) = true := by decide +kernel
theorem lr_15 : (lo_15).all (fun o => decide (ix_ins o ≠ .return_)) = true ∧ (lo_15).all (fun o => decide (ix_ins o ≠ .ireturn) || decide (ix_x o = 1)) = true := by decide +kernel
theorem lr_16 : (lo_16).all (fun o => decide (ix_ins o ≠ .return_)) = true ∧ (lo_16).all (fun o => decide (ix_ins o ≠ .ireturn) || decide (ix_x o = 1)) = true := by decide +kernel
theorem lr_17 : (lo_17).all (fun o => decide (ix_ins o ≠ .return_)) = true ∧ (lo_17).all (fun o => decide (ix_ins o ≠ .ireturn) || decide (ix_x o = 1)) = true := by decide +kernel
theorem lr_18 : (lo_18).all (fun o => decide (ix_ins o ≠ .return_)) = true ∧ (lo_18).all (fun o => decide (ix_ins o ≠ .ireturn) || decide (ix_x o = 1)) = true := by decide +kernel
theorem lr_19 : (lo_19).all (fun o => decide (ix_ins o ≠ .return_)) = true ∧ (lo_19).all (fun o => decide (ix_ins o ≠ .ireturn) || decide (ix_x o = 1)) = true := by decide +kernel
theorem lr_20 : (lo_20).all (fun o => decide (ix_ins o ≠ .return_)) = true ∧ (lo_20).all (fun o => decide (ix_ins o ≠ .ireturn) || decide (ix_x o = 1)) = true := by decide +kernel
theorem lr_21 : (lo_21).all (fun o => decide (ix_ins o ≠ .return_)) = true ∧ (lo_21).all (fun o => decide (ix_ins o ≠ .ireturn) || decide (ix_x o = 1)) = true := by decide +kernel
theorem lr_22 : (lo_22).all (fun o => decide (ix_ins o ≠ .return_)) = true ∧ (lo_22).all (fun o => decide (ix_ins o ≠ .ireturn) || decide (ix_x o = 1)) = true := by decide +kernel
theorem lr_23 : (lo_23).all (fun o => decide (ix_ins o ≠ .return_)) = true ∧ (lo_23).all (fun o => decide (ix_ins o ≠ .ireturn) || decide (ix_x o = 1)) = true := by decide +kernel
theorem lr_24 : (lo_24).all (fun o => decide (ix_ins o ≠ .return_)) = true ∧ (lo_24).all (fun o => decide (ix_ins o ≠ .ireturn) || decide (ix_x o = 1)) = true := by decide +kernel
theorem lr_25 : (lo_25).all (fun o => decide (ix_ins o ≠ .return_)) = true ∧ (lo_25).all (fun o => decide (ix_ins o ≠ .ireturn) || decide (ix_x o = 1)) = true := by decide +kernel
theorem lr_26 : (lo_26).all (fun o => decide (ix_ins o ≠ .return_)) = true ∧ (lo_26).all (fun o => decide (ix_ins o ≠ .ireturn) || decide (ix_x o = 1)) = true := by decide +kernel
theorem lr_27 : (lo_27).all (fun o => decide (ix_ins o ≠ .return_)) = true ∧ (lo_27).all (fun o => decide (ix_ins o ≠ .ireturn) || decide (ix_x o = 1)) = true := by decide +kernel
theorem ix_allA {p : ix_Op → Bool} {a b : List ix_Op} (h1 : a.all p = true) (h2 : b.all p = true) : (a ++ b).all p = true := by rw [List.all_append, h1, h2]; rfl
theorem ix_law_all : ix_lo.all (ix_ok1 13 code ix_lo) = true := ix_allA lk_0 (ix_allA lk_1 (ix_allA lk_2 (ix_allA lk_3 (ix_allA lk_4 (ix_allA lk_5 (ix_allA lk_6 (ix_allA lk_7 (ix_allA lk_8 (ix_allA lk_9 (ix_allA lk_10 (ix_allA lk_11 (ix_allA lk_12 (ix_allA lk_13 (ix_allA lk_14 (ix_allA lk_15 (ix_allA lk_16 (ix_allA lk_17 (ix_allA lk_18 (ix_allA lk_19 (ix_allA lk_20 (ix_allA lk_21 (ix_allA lk_22 (ix_allA lk_23 (ix_allA lk_24 (ix_allA lk_25 (ix_allA lk_26 (lk_27)))))))))))))))))))))))))))
theorem ix_law_r1 : ix_lo.all (fun o => decide (ix_ins o ≠ .return_)) = true := ix_allA lr_0.1 (ix_allA lr_1.1 (ix_allA lr_2.1 (ix_allA lr_3.1 (ix_allA lr_4.1 (ix_allA lr_5.1 (ix_allA lr_6.1 (ix_allA lr_7.1 (ix_allA lr_8.1 (ix_allA lr_9.1 (ix_allA lr_10.1 (ix_allA lr_11.1 (ix_allA lr_12.1 (ix_allA lr_13.1 (ix_allA lr_14.1 (ix_allA lr_15.1 (ix_allA lr_16.1 (ix_allA lr_17.1 (ix_allA lr_18.1 (ix_allA lr_19.1 (ix_allA lr_20.1 (ix_allA lr_21.1 (ix_allA lr_22.1 (ix_allA lr_23.1 (ix_allA lr_24.1 (ix_allA lr_25.1 (ix_allA lr_26.1 (lr_27.1)))))))))))))))))))))))))))
theorem ix_law_r2 : ix_lo.all (fun o => decide (ix_ins o ≠ .ireturn) || decide (ix_x o = 1)) = true := ix_allA lr_0.2 (ix_allA lr_1.2 (ix_allA lr_2.2 (ix_allA lr_3.2 (ix_allA lr_4.2 (ix_allA lr_5.2 (ix_allA lr_6.2 (ix_allA lr_7.2 (ix_allA lr_8.2 (ix_allA lr_9.2 (ix_allA lr_10.2 (ix_allA lr_11.2 (ix_allA lr_12.2 (ix_allA lr_13.2 (ix_allA lr_14.2 (ix_allA lr_15.2 (ix_allA lr_16.2 (ix_allA lr_17.2 (ix_allA lr_18.2 (ix_allA lr_19.2 (ix_allA lr_20.2 (ix_allA lr_21.2 (ix_allA lr_22.2 (ix_allA lr_23.2 (ix_allA lr_24.2 (ix_allA lr_25.2 (ix_allA lr_26.2 (lr_27.2)))))))))))))))))))))))))))
theorem ix_law_ok : ix_okm ix_lawM = true := by
  unfold ix_okm
  have h1 : (ix_mo ix_lawM).all (ix_ok1 (ix_mc ix_lawM) (ix_mb ix_lawM) (ix_mo ix_lawM)) = true := ix_law_all
  have h2 : ix_chain (ix_mo ix_lawM) = true := ls_0
  rw [h1, h2]
  decide +kernel
theorem ix_law_okr : ix_okr ix_lawM = true := by
  show ((ix_lo.all (fun o => decide (ix_ins o ≠ .return_))) && (decide (FieldType.boolean = FieldType.int) || (decide (FieldType.boolean = FieldType.boolean) && ix_lo.all (fun o => decide (ix_ins o ≠ .ireturn) || decide (ix_x o = 1))))) = true
  rw [ix_law_r1, ix_law_r2]
  decide
