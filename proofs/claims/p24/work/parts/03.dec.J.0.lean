section
theorem dc_of {C : ByteArray} {l : List (Nat × (Instr × Nat))} (h : l.all (fun x => decide (decode C x.1 = .ok x.2)) = true) {p : Nat} {r : Instr × Nat} (hm : (p, r) ∈ l) : decode C p = .ok r := of_decide_eq_true (List.all_eq_true.mp h (p, r) hm)
theorem bd03_dec_J_0_0 : ([(0, [26]), (1, [26]), (2, [4]), (3, [124]), (4, [19, 1, 9]), (7, [126]), (8, [100]), (9, [59]), (10, [26]), (11, [19, 1, 10]), (14, [126]), (15, [26]), (16, [5]), (17, [124]), (18, [19, 1, 10]), (21, [126]), (22, [96]), (23, [59]), (24, [26]), (25, [26]), (26, [7]), (27, [124]), (28, [96]), (29, [19, 1, 11]), (32, [126]), (33, [59]), (34, [26]), (35, [26]), (36, [16, 8]), (38, [124]), (39, [96]), (40, [59]), (41, [26]), (42, [26]), (43, [16, 16]), (45, [124]), (46, [96]), (47, [59]), (48, [26]), (49, [16, 63]), (51, [126]), (52, [172])] : List (Nat × List UInt8)).all (fun x => prB x.2 ((cJ6_bitCount_0f7a4.data.toList.drop 0).drop x.1)) = true := by decide +kernel
theorem dJ6_bitCount_0f7a4_0 : decode cJ6_bitCount_0f7a4 0 = .ok (.iload_n 0, 1) := op26 (bA_at bd03_dec_J_0_0 0 rfl rfl)
theorem dJ6_bitCount_0f7a4_1 : decode cJ6_bitCount_0f7a4 1 = .ok (.iload_n 0, 1) := op26 (bA_at bd03_dec_J_0_0 1 rfl rfl)
theorem dJ6_bitCount_0f7a4_2 : decode cJ6_bitCount_0f7a4 2 = .ok (.iconst 1, 1) := op4 (bA_at bd03_dec_J_0_0 2 rfl rfl)
theorem dJ6_bitCount_0f7a4_3 : decode cJ6_bitCount_0f7a4 3 = .ok (.iushr, 1) := op124 (bA_at bd03_dec_J_0_0 3 rfl rfl)
theorem dJ6_bitCount_0f7a4_4 : decode cJ6_bitCount_0f7a4 4 = .ok (.ldc_w 265, 3) := op19 (bA_at bd03_dec_J_0_0 4 rfl rfl) rfl
theorem dJ6_bitCount_0f7a4_7 : decode cJ6_bitCount_0f7a4 7 = .ok (.iand, 1) := op126 (bA_at bd03_dec_J_0_0 5 rfl rfl)
theorem dJ6_bitCount_0f7a4_8 : decode cJ6_bitCount_0f7a4 8 = .ok (.isub, 1) := op100 (bA_at bd03_dec_J_0_0 6 rfl rfl)
theorem dJ6_bitCount_0f7a4_9 : decode cJ6_bitCount_0f7a4 9 = .ok (.istore_n 0, 1) := op59 (bA_at bd03_dec_J_0_0 7 rfl rfl)
theorem dJ6_bitCount_0f7a4_10 : decode cJ6_bitCount_0f7a4 10 = .ok (.iload_n 0, 1) := op26 (bA_at bd03_dec_J_0_0 8 rfl rfl)
theorem dJ6_bitCount_0f7a4_11 : decode cJ6_bitCount_0f7a4 11 = .ok (.ldc_w 266, 3) := op19 (bA_at bd03_dec_J_0_0 9 rfl rfl) rfl
theorem dJ6_bitCount_0f7a4_14 : decode cJ6_bitCount_0f7a4 14 = .ok (.iand, 1) := op126 (bA_at bd03_dec_J_0_0 10 rfl rfl)
theorem dJ6_bitCount_0f7a4_15 : decode cJ6_bitCount_0f7a4 15 = .ok (.iload_n 0, 1) := op26 (bA_at bd03_dec_J_0_0 11 rfl rfl)
theorem dJ6_bitCount_0f7a4_16 : decode cJ6_bitCount_0f7a4 16 = .ok (.iconst 2, 1) := op5 (bA_at bd03_dec_J_0_0 12 rfl rfl)
theorem dJ6_bitCount_0f7a4_17 : decode cJ6_bitCount_0f7a4 17 = .ok (.iushr, 1) := op124 (bA_at bd03_dec_J_0_0 13 rfl rfl)
theorem dJ6_bitCount_0f7a4_18 : decode cJ6_bitCount_0f7a4 18 = .ok (.ldc_w 266, 3) := op19 (bA_at bd03_dec_J_0_0 14 rfl rfl) rfl
theorem dJ6_bitCount_0f7a4_21 : decode cJ6_bitCount_0f7a4 21 = .ok (.iand, 1) := op126 (bA_at bd03_dec_J_0_0 15 rfl rfl)
theorem dJ6_bitCount_0f7a4_22 : decode cJ6_bitCount_0f7a4 22 = .ok (.iadd, 1) := op96 (bA_at bd03_dec_J_0_0 16 rfl rfl)
theorem dJ6_bitCount_0f7a4_23 : decode cJ6_bitCount_0f7a4 23 = .ok (.istore_n 0, 1) := op59 (bA_at bd03_dec_J_0_0 17 rfl rfl)
theorem dJ6_bitCount_0f7a4_24 : decode cJ6_bitCount_0f7a4 24 = .ok (.iload_n 0, 1) := op26 (bA_at bd03_dec_J_0_0 18 rfl rfl)
theorem dJ6_bitCount_0f7a4_25 : decode cJ6_bitCount_0f7a4 25 = .ok (.iload_n 0, 1) := op26 (bA_at bd03_dec_J_0_0 19 rfl rfl)
theorem dJ6_bitCount_0f7a4_26 : decode cJ6_bitCount_0f7a4 26 = .ok (.iconst 4, 1) := op7 (bA_at bd03_dec_J_0_0 20 rfl rfl)
theorem dJ6_bitCount_0f7a4_27 : decode cJ6_bitCount_0f7a4 27 = .ok (.iushr, 1) := op124 (bA_at bd03_dec_J_0_0 21 rfl rfl)
theorem dJ6_bitCount_0f7a4_28 : decode cJ6_bitCount_0f7a4 28 = .ok (.iadd, 1) := op96 (bA_at bd03_dec_J_0_0 22 rfl rfl)
theorem dJ6_bitCount_0f7a4_29 : decode cJ6_bitCount_0f7a4 29 = .ok (.ldc_w 267, 3) := op19 (bA_at bd03_dec_J_0_0 23 rfl rfl) rfl
theorem dJ6_bitCount_0f7a4_32 : decode cJ6_bitCount_0f7a4 32 = .ok (.iand, 1) := op126 (bA_at bd03_dec_J_0_0 24 rfl rfl)
theorem dJ6_bitCount_0f7a4_33 : decode cJ6_bitCount_0f7a4 33 = .ok (.istore_n 0, 1) := op59 (bA_at bd03_dec_J_0_0 25 rfl rfl)
theorem dJ6_bitCount_0f7a4_34 : decode cJ6_bitCount_0f7a4 34 = .ok (.iload_n 0, 1) := op26 (bA_at bd03_dec_J_0_0 26 rfl rfl)
theorem dJ6_bitCount_0f7a4_35 : decode cJ6_bitCount_0f7a4 35 = .ok (.iload_n 0, 1) := op26 (bA_at bd03_dec_J_0_0 27 rfl rfl)
theorem dJ6_bitCount_0f7a4_36 : decode cJ6_bitCount_0f7a4 36 = .ok (.bipush 8, 2) := op16 (bA_at bd03_dec_J_0_0 28 rfl rfl) (by decide +kernel)
theorem dJ6_bitCount_0f7a4_38 : decode cJ6_bitCount_0f7a4 38 = .ok (.iushr, 1) := op124 (bA_at bd03_dec_J_0_0 29 rfl rfl)
theorem dJ6_bitCount_0f7a4_39 : decode cJ6_bitCount_0f7a4 39 = .ok (.iadd, 1) := op96 (bA_at bd03_dec_J_0_0 30 rfl rfl)
theorem dJ6_bitCount_0f7a4_40 : decode cJ6_bitCount_0f7a4 40 = .ok (.istore_n 0, 1) := op59 (bA_at bd03_dec_J_0_0 31 rfl rfl)
theorem dJ6_bitCount_0f7a4_41 : decode cJ6_bitCount_0f7a4 41 = .ok (.iload_n 0, 1) := op26 (bA_at bd03_dec_J_0_0 32 rfl rfl)
theorem dJ6_bitCount_0f7a4_42 : decode cJ6_bitCount_0f7a4 42 = .ok (.iload_n 0, 1) := op26 (bA_at bd03_dec_J_0_0 33 rfl rfl)
theorem dJ6_bitCount_0f7a4_43 : decode cJ6_bitCount_0f7a4 43 = .ok (.bipush 16, 2) := op16 (bA_at bd03_dec_J_0_0 34 rfl rfl) (by decide +kernel)
theorem dJ6_bitCount_0f7a4_45 : decode cJ6_bitCount_0f7a4 45 = .ok (.iushr, 1) := op124 (bA_at bd03_dec_J_0_0 35 rfl rfl)
theorem dJ6_bitCount_0f7a4_46 : decode cJ6_bitCount_0f7a4 46 = .ok (.iadd, 1) := op96 (bA_at bd03_dec_J_0_0 36 rfl rfl)
theorem dJ6_bitCount_0f7a4_47 : decode cJ6_bitCount_0f7a4 47 = .ok (.istore_n 0, 1) := op59 (bA_at bd03_dec_J_0_0 37 rfl rfl)
theorem dJ6_bitCount_0f7a4_48 : decode cJ6_bitCount_0f7a4 48 = .ok (.iload_n 0, 1) := op26 (bA_at bd03_dec_J_0_0 38 rfl rfl)
theorem dJ6_bitCount_0f7a4_49 : decode cJ6_bitCount_0f7a4 49 = .ok (.bipush 63, 2) := op16 (bA_at bd03_dec_J_0_0 39 rfl rfl) (by decide +kernel)
theorem dJ6_bitCount_0f7a4_51 : decode cJ6_bitCount_0f7a4 51 = .ok (.iand, 1) := op126 (bA_at bd03_dec_J_0_0 40 rfl rfl)
theorem dJ6_bitCount_0f7a4_52 : decode cJ6_bitCount_0f7a4 52 = .ok (.ireturn, 1) := op172 (bA_at bd03_dec_J_0_0 41 rfl rfl)
theorem bd03_dec_J_0_1 : ([(0, [3]), (1, [61]), (2, [42]), (3, [190]), (4, [62]), (5, [28]), (6, [29]), (7, [162, 0, 13]), (10, [42]), (11, [28]), (12, [27]), (13, [79]), (14, [132, 2, 1]), (17, [167, 255, 244]), (20, [177])] : List (Nat × List UInt8)).all (fun x => prB x.2 ((cJ7_fill_53178.data.toList.drop 0).drop x.1)) = true := by decide +kernel
theorem dJ7_fill_53178_0 : decode cJ7_fill_53178 0 = .ok (.iconst 0, 1) := op3 (bA_at bd03_dec_J_0_1 0 rfl rfl)
theorem dJ7_fill_53178_1 : decode cJ7_fill_53178 1 = .ok (.istore_n 2, 1) := op61 (bA_at bd03_dec_J_0_1 1 rfl rfl)
theorem dJ7_fill_53178_2 : decode cJ7_fill_53178 2 = .ok (.aload_n 0, 1) := op42 (bA_at bd03_dec_J_0_1 2 rfl rfl)
theorem dJ7_fill_53178_3 : decode cJ7_fill_53178 3 = .ok (.arraylength, 1) := op190 (bA_at bd03_dec_J_0_1 3 rfl rfl)
theorem dJ7_fill_53178_4 : decode cJ7_fill_53178 4 = .ok (.istore_n 3, 1) := op62 (bA_at bd03_dec_J_0_1 4 rfl rfl)
theorem dJ7_fill_53178_5 : decode cJ7_fill_53178 5 = .ok (.iload_n 2, 1) := op28 (bA_at bd03_dec_J_0_1 5 rfl rfl)
theorem dJ7_fill_53178_6 : decode cJ7_fill_53178 6 = .ok (.iload_n 3, 1) := op29 (bA_at bd03_dec_J_0_1 6 rfl rfl)
theorem dJ7_fill_53178_7 : decode cJ7_fill_53178 7 = .ok (.if_icmp .ge 13, 3) := op162 (bA_at bd03_dec_J_0_1 7 rfl rfl) (by decide +kernel)
theorem dJ7_fill_53178_10 : decode cJ7_fill_53178 10 = .ok (.aload_n 0, 1) := op42 (bA_at bd03_dec_J_0_1 8 rfl rfl)
theorem dJ7_fill_53178_11 : decode cJ7_fill_53178 11 = .ok (.iload_n 2, 1) := op28 (bA_at bd03_dec_J_0_1 9 rfl rfl)
theorem dJ7_fill_53178_12 : decode cJ7_fill_53178 12 = .ok (.iload_n 1, 1) := op27 (bA_at bd03_dec_J_0_1 10 rfl rfl)
theorem dJ7_fill_53178_13 : decode cJ7_fill_53178 13 = .ok (.iastore, 1) := op79 (bA_at bd03_dec_J_0_1 11 rfl rfl)
theorem dJ7_fill_53178_14 : decode cJ7_fill_53178 14 = .ok (.iinc 2 1, 3) := op132 (bA_at bd03_dec_J_0_1 12 rfl rfl) rfl (by decide +kernel)
theorem dJ7_fill_53178_17 : decode cJ7_fill_53178 17 = .ok (.goto (-12), 3) := op167 (bA_at bd03_dec_J_0_1 13 rfl rfl) (by decide +kernel)
theorem dJ7_fill_53178_20 : decode cJ7_fill_53178 20 = .ok (.return_, 1) := op177 (bA_at bd03_dec_J_0_1 14 rfl rfl)
end
section
theorem bd03_dec_X0_0_0 : ([(0, [42]), (1, [43]), (2, [180, 0, 18]), (5, [181, 0, 18]), (8, [42]), (9, [43]), (10, [180, 0, 22]), (13, [181, 0, 22]), (16, [43]), (17, [180, 0, 9]), (20, [3]), (21, [42]), (22, [180, 0, 9]), (25, [3]), (26, [42]), (27, [180, 0, 18]), (30, [184, 0, 25]), (33, [43]), (34, [180, 0, 15]), (37, [3]), (38, [42]), (39, [180, 0, 15]), (42, [3]), (43, [42]), (44, [180, 0, 18]), (47, [184, 0, 25]), (50, [177])] : List (Nat × List UInt8)).all (fun x => prB x.2 ((cX0_copyFrom.data.toList.drop 0).drop x.1)) = true := by decide +kernel
theorem dX0_copyFrom_0 : decode cX0_copyFrom 0 = .ok (.aload_n 0, 1) := op42 (bA_at bd03_dec_X0_0_0 0 rfl rfl)
theorem dX0_copyFrom_1 : decode cX0_copyFrom 1 = .ok (.aload_n 1, 1) := op43 (bA_at bd03_dec_X0_0_0 1 rfl rfl)
theorem dX0_copyFrom_2 : decode cX0_copyFrom 2 = .ok (.getfield 18, 3) := op180 (bA_at bd03_dec_X0_0_0 2 rfl rfl) rfl
theorem dX0_copyFrom_5 : decode cX0_copyFrom 5 = .ok (.putfield 18, 3) := op181 (bA_at bd03_dec_X0_0_0 3 rfl rfl) rfl
theorem dX0_copyFrom_8 : decode cX0_copyFrom 8 = .ok (.aload_n 0, 1) := op42 (bA_at bd03_dec_X0_0_0 4 rfl rfl)
theorem dX0_copyFrom_9 : decode cX0_copyFrom 9 = .ok (.aload_n 1, 1) := op43 (bA_at bd03_dec_X0_0_0 5 rfl rfl)
theorem dX0_copyFrom_10 : decode cX0_copyFrom 10 = .ok (.getfield 22, 3) := op180 (bA_at bd03_dec_X0_0_0 6 rfl rfl) rfl
theorem dX0_copyFrom_13 : decode cX0_copyFrom 13 = .ok (.putfield 22, 3) := op181 (bA_at bd03_dec_X0_0_0 7 rfl rfl) rfl
theorem dX0_copyFrom_16 : decode cX0_copyFrom 16 = .ok (.aload_n 1, 1) := op43 (bA_at bd03_dec_X0_0_0 8 rfl rfl)
theorem dX0_copyFrom_17 : decode cX0_copyFrom 17 = .ok (.getfield 9, 3) := op180 (bA_at bd03_dec_X0_0_0 9 rfl rfl) rfl
theorem dX0_copyFrom_20 : decode cX0_copyFrom 20 = .ok (.iconst 0, 1) := op3 (bA_at bd03_dec_X0_0_0 10 rfl rfl)
theorem dX0_copyFrom_21 : decode cX0_copyFrom 21 = .ok (.aload_n 0, 1) := op42 (bA_at bd03_dec_X0_0_0 11 rfl rfl)
theorem dX0_copyFrom_22 : decode cX0_copyFrom 22 = .ok (.getfield 9, 3) := op180 (bA_at bd03_dec_X0_0_0 12 rfl rfl) rfl
theorem dX0_copyFrom_25 : decode cX0_copyFrom 25 = .ok (.iconst 0, 1) := op3 (bA_at bd03_dec_X0_0_0 13 rfl rfl)
theorem dX0_copyFrom_26 : decode cX0_copyFrom 26 = .ok (.aload_n 0, 1) := op42 (bA_at bd03_dec_X0_0_0 14 rfl rfl)
theorem dX0_copyFrom_27 : decode cX0_copyFrom 27 = .ok (.getfield 18, 3) := op180 (bA_at bd03_dec_X0_0_0 15 rfl rfl) rfl
theorem dX0_copyFrom_30 : decode cX0_copyFrom 30 = .ok (.invokestatic 25, 3) := op184 (bA_at bd03_dec_X0_0_0 16 rfl rfl) rfl
theorem dX0_copyFrom_33 : decode cX0_copyFrom 33 = .ok (.aload_n 1, 1) := op43 (bA_at bd03_dec_X0_0_0 17 rfl rfl)
theorem dX0_copyFrom_34 : decode cX0_copyFrom 34 = .ok (.getfield 15, 3) := op180 (bA_at bd03_dec_X0_0_0 18 rfl rfl) rfl
theorem dX0_copyFrom_37 : decode cX0_copyFrom 37 = .ok (.iconst 0, 1) := op3 (bA_at bd03_dec_X0_0_0 19 rfl rfl)
theorem dX0_copyFrom_38 : decode cX0_copyFrom 38 = .ok (.aload_n 0, 1) := op42 (bA_at bd03_dec_X0_0_0 20 rfl rfl)
theorem dX0_copyFrom_39 : decode cX0_copyFrom 39 = .ok (.getfield 15, 3) := op180 (bA_at bd03_dec_X0_0_0 21 rfl rfl) rfl
theorem dX0_copyFrom_42 : decode cX0_copyFrom 42 = .ok (.iconst 0, 1) := op3 (bA_at bd03_dec_X0_0_0 22 rfl rfl)
theorem dX0_copyFrom_43 : decode cX0_copyFrom 43 = .ok (.aload_n 0, 1) := op42 (bA_at bd03_dec_X0_0_0 23 rfl rfl)
theorem dX0_copyFrom_44 : decode cX0_copyFrom 44 = .ok (.getfield 18, 3) := op180 (bA_at bd03_dec_X0_0_0 24 rfl rfl) rfl
theorem dX0_copyFrom_47 : decode cX0_copyFrom 47 = .ok (.invokestatic 25, 3) := op184 (bA_at bd03_dec_X0_0_0 25 rfl rfl) rfl
theorem dX0_copyFrom_50 : decode cX0_copyFrom 50 = .ok (.return_, 1) := op177 (bA_at bd03_dec_X0_0_0 26 rfl rfl)
theorem bd03_dec_X0_0_1 : ([(0, [3]), (1, [60]), (2, [3]), (3, [61]), (4, [3]), (5, [62]), (6, [29]), (7, [42]), (8, [180, 0, 18]), (11, [162, 0, 44]), (14, [29]), (15, [158, 0, 26]), (18, [42]), (19, [180, 0, 15]), (22, [29]), (23, [46]), (24, [42]), (25, [180, 0, 15]), (28, [29]), (29, [4]), (30, [100]), (31, [46]), (32, [162, 0, 9]), (35, [28]), (36, [4]), (37, [96]), (38, [167, 0, 4]), (41, [4]), (42, [61]), (43, [27]), (44, [28]), (45, [184, 0, 31]), (48, [60]), (49, [132, 3, 1]), (52, [167, 255, 210]), (55, [27]), (56, [172])] : List (Nat × List UInt8)).all (fun x => prB x.2 ((cX0_longestFall.data.toList.drop 0).drop x.1)) = true := by decide +kernel
theorem dX0_longestFall_0 : decode cX0_longestFall 0 = .ok (.iconst 0, 1) := op3 (bA_at bd03_dec_X0_0_1 0 rfl rfl)
theorem dX0_longestFall_1 : decode cX0_longestFall 1 = .ok (.istore_n 1, 1) := op60 (bA_at bd03_dec_X0_0_1 1 rfl rfl)
theorem dX0_longestFall_2 : decode cX0_longestFall 2 = .ok (.iconst 0, 1) := op3 (bA_at bd03_dec_X0_0_1 2 rfl rfl)
theorem dX0_longestFall_3 : decode cX0_longestFall 3 = .ok (.istore_n 2, 1) := op61 (bA_at bd03_dec_X0_0_1 3 rfl rfl)
theorem dX0_longestFall_4 : decode cX0_longestFall 4 = .ok (.iconst 0, 1) := op3 (bA_at bd03_dec_X0_0_1 4 rfl rfl)
theorem dX0_longestFall_5 : decode cX0_longestFall 5 = .ok (.istore_n 3, 1) := op62 (bA_at bd03_dec_X0_0_1 5 rfl rfl)
theorem dX0_longestFall_6 : decode cX0_longestFall 6 = .ok (.iload_n 3, 1) := op29 (bA_at bd03_dec_X0_0_1 6 rfl rfl)
theorem dX0_longestFall_7 : decode cX0_longestFall 7 = .ok (.aload_n 0, 1) := op42 (bA_at bd03_dec_X0_0_1 7 rfl rfl)
theorem dX0_longestFall_8 : decode cX0_longestFall 8 = .ok (.getfield 18, 3) := op180 (bA_at bd03_dec_X0_0_1 8 rfl rfl) rfl
theorem dX0_longestFall_11 : decode cX0_longestFall 11 = .ok (.if_icmp .ge 44, 3) := op162 (bA_at bd03_dec_X0_0_1 9 rfl rfl) (by decide +kernel)
theorem dX0_longestFall_14 : decode cX0_longestFall 14 = .ok (.iload_n 3, 1) := op29 (bA_at bd03_dec_X0_0_1 10 rfl rfl)
theorem dX0_longestFall_15 : decode cX0_longestFall 15 = .ok (.ifCond .le 26, 3) := op158 (bA_at bd03_dec_X0_0_1 11 rfl rfl) (by decide +kernel)
theorem dX0_longestFall_18 : decode cX0_longestFall 18 = .ok (.aload_n 0, 1) := op42 (bA_at bd03_dec_X0_0_1 12 rfl rfl)
theorem dX0_longestFall_19 : decode cX0_longestFall 19 = .ok (.getfield 15, 3) := op180 (bA_at bd03_dec_X0_0_1 13 rfl rfl) rfl
theorem dX0_longestFall_22 : decode cX0_longestFall 22 = .ok (.iload_n 3, 1) := op29 (bA_at bd03_dec_X0_0_1 14 rfl rfl)
theorem dX0_longestFall_23 : decode cX0_longestFall 23 = .ok (.iaload, 1) := op46 (bA_at bd03_dec_X0_0_1 15 rfl rfl)
theorem dX0_longestFall_24 : decode cX0_longestFall 24 = .ok (.aload_n 0, 1) := op42 (bA_at bd03_dec_X0_0_1 16 rfl rfl)
theorem dX0_longestFall_25 : decode cX0_longestFall 25 = .ok (.getfield 15, 3) := op180 (bA_at bd03_dec_X0_0_1 17 rfl rfl) rfl
theorem dX0_longestFall_28 : decode cX0_longestFall 28 = .ok (.iload_n 3, 1) := op29 (bA_at bd03_dec_X0_0_1 18 rfl rfl)
theorem dX0_longestFall_29 : decode cX0_longestFall 29 = .ok (.iconst 1, 1) := op4 (bA_at bd03_dec_X0_0_1 19 rfl rfl)
theorem dX0_longestFall_30 : decode cX0_longestFall 30 = .ok (.isub, 1) := op100 (bA_at bd03_dec_X0_0_1 20 rfl rfl)
theorem dX0_longestFall_31 : decode cX0_longestFall 31 = .ok (.iaload, 1) := op46 (bA_at bd03_dec_X0_0_1 21 rfl rfl)
theorem dX0_longestFall_32 : decode cX0_longestFall 32 = .ok (.if_icmp .ge 9, 3) := op162 (bA_at bd03_dec_X0_0_1 22 rfl rfl) (by decide +kernel)
theorem dX0_longestFall_35 : decode cX0_longestFall 35 = .ok (.iload_n 2, 1) := op28 (bA_at bd03_dec_X0_0_1 23 rfl rfl)
theorem dX0_longestFall_36 : decode cX0_longestFall 36 = .ok (.iconst 1, 1) := op4 (bA_at bd03_dec_X0_0_1 24 rfl rfl)
theorem dX0_longestFall_37 : decode cX0_longestFall 37 = .ok (.iadd, 1) := op96 (bA_at bd03_dec_X0_0_1 25 rfl rfl)
theorem dX0_longestFall_38 : decode cX0_longestFall 38 = .ok (.goto 4, 3) := op167 (bA_at bd03_dec_X0_0_1 26 rfl rfl) (by decide +kernel)
theorem dX0_longestFall_41 : decode cX0_longestFall 41 = .ok (.iconst 1, 1) := op4 (bA_at bd03_dec_X0_0_1 27 rfl rfl)
theorem dX0_longestFall_42 : decode cX0_longestFall 42 = .ok (.istore_n 2, 1) := op61 (bA_at bd03_dec_X0_0_1 28 rfl rfl)
theorem dX0_longestFall_43 : decode cX0_longestFall 43 = .ok (.iload_n 1, 1) := op27 (bA_at bd03_dec_X0_0_1 29 rfl rfl)
theorem dX0_longestFall_44 : decode cX0_longestFall 44 = .ok (.iload_n 2, 1) := op28 (bA_at bd03_dec_X0_0_1 30 rfl rfl)
theorem dX0_longestFall_45 : decode cX0_longestFall 45 = .ok (.invokestatic 31, 3) := op184 (bA_at bd03_dec_X0_0_1 31 rfl rfl) rfl
theorem dX0_longestFall_48 : decode cX0_longestFall 48 = .ok (.istore_n 1, 1) := op60 (bA_at bd03_dec_X0_0_1 32 rfl rfl)
theorem dX0_longestFall_49 : decode cX0_longestFall 49 = .ok (.iinc 3 1, 3) := op132 (bA_at bd03_dec_X0_0_1 33 rfl rfl) rfl (by decide +kernel)
theorem dX0_longestFall_52 : decode cX0_longestFall 52 = .ok (.goto (-46), 3) := op167 (bA_at bd03_dec_X0_0_1 34 rfl rfl) (by decide +kernel)
theorem dX0_longestFall_55 : decode cX0_longestFall 55 = .ok (.iload_n 1, 1) := op27 (bA_at bd03_dec_X0_0_1 35 rfl rfl)
theorem dX0_longestFall_56 : decode cX0_longestFall 56 = .ok (.ireturn, 1) := op172 (bA_at bd03_dec_X0_0_1 36 rfl rfl)
theorem bd03_dec_X0_0_2 : ([(0, [27]), (1, [154, 0, 8]), (4, [42]), (5, [180, 0, 18]), (8, [172]), (9, [27]), (10, [4]), (11, [160, 0, 8]), (14, [42]), (15, [180, 0, 22]), (18, [172]), (19, [27]), (20, [6]), (21, [160, 0, 8]), (24, [42]), (25, [182, 0, 37]), (28, [172]), (29, [27]), (30, [16, 10]), (32, [161, 0, 24]), (35, [27]), (36, [16, 10]), (38, [42]), (39, [180, 0, 18]), (42, [96]), (43, [162, 0, 13]), (46, [42]), (47, [180, 0, 9]), (50, [27]), (51, [16, 10]), (53, [100]), (54, [46]), (55, [172]), (56, [27]), (57, [16, 20]), (59, [161, 0, 26]), (62, [27]), (63, [16, 20]), (65, [42]), (66, [180, 0, 18]), (69, [96]), (70, [162, 0, 15]), (73, [42]), (74, [180, 0, 15]), (77, [27]), (78, [16, 20]), (80, [100]), (81, [46]), (82, [167, 0, 4]), (85, [2])] : List (Nat × List UInt8)).all (fun x => prB x.2 ((cX0_look.data.toList.drop 0).drop x.1)) = true := by decide +kernel
theorem dX0_look_0 : decode cX0_look 0 = .ok (.iload_n 1, 1) := op27 (bA_at bd03_dec_X0_0_2 0 rfl rfl)
theorem dX0_look_1 : decode cX0_look 1 = .ok (.ifCond .ne 8, 3) := op154 (bA_at bd03_dec_X0_0_2 1 rfl rfl) (by decide +kernel)
theorem dX0_look_4 : decode cX0_look 4 = .ok (.aload_n 0, 1) := op42 (bA_at bd03_dec_X0_0_2 2 rfl rfl)
theorem dX0_look_5 : decode cX0_look 5 = .ok (.getfield 18, 3) := op180 (bA_at bd03_dec_X0_0_2 3 rfl rfl) rfl
theorem dX0_look_8 : decode cX0_look 8 = .ok (.ireturn, 1) := op172 (bA_at bd03_dec_X0_0_2 4 rfl rfl)
theorem dX0_look_9 : decode cX0_look 9 = .ok (.iload_n 1, 1) := op27 (bA_at bd03_dec_X0_0_2 5 rfl rfl)
theorem dX0_look_10 : decode cX0_look 10 = .ok (.iconst 1, 1) := op4 (bA_at bd03_dec_X0_0_2 6 rfl rfl)
theorem dX0_look_11 : decode cX0_look 11 = .ok (.if_icmp .ne 8, 3) := op160 (bA_at bd03_dec_X0_0_2 7 rfl rfl) (by decide +kernel)
theorem dX0_look_14 : decode cX0_look 14 = .ok (.aload_n 0, 1) := op42 (bA_at bd03_dec_X0_0_2 8 rfl rfl)
theorem dX0_look_15 : decode cX0_look 15 = .ok (.getfield 22, 3) := op180 (bA_at bd03_dec_X0_0_2 9 rfl rfl) rfl
theorem dX0_look_18 : decode cX0_look 18 = .ok (.ireturn, 1) := op172 (bA_at bd03_dec_X0_0_2 10 rfl rfl)
theorem dX0_look_19 : decode cX0_look 19 = .ok (.iload_n 1, 1) := op27 (bA_at bd03_dec_X0_0_2 11 rfl rfl)
theorem dX0_look_20 : decode cX0_look 20 = .ok (.iconst 3, 1) := op6 (bA_at bd03_dec_X0_0_2 12 rfl rfl)
theorem dX0_look_21 : decode cX0_look 21 = .ok (.if_icmp .ne 8, 3) := op160 (bA_at bd03_dec_X0_0_2 13 rfl rfl) (by decide +kernel)
theorem dX0_look_24 : decode cX0_look 24 = .ok (.aload_n 0, 1) := op42 (bA_at bd03_dec_X0_0_2 14 rfl rfl)
theorem dX0_look_25 : decode cX0_look 25 = .ok (.invokevirtual 37, 3) := op182 (bA_at bd03_dec_X0_0_2 15 rfl rfl) rfl
theorem dX0_look_28 : decode cX0_look 28 = .ok (.ireturn, 1) := op172 (bA_at bd03_dec_X0_0_2 16 rfl rfl)
theorem dX0_look_29 : decode cX0_look 29 = .ok (.iload_n 1, 1) := op27 (bA_at bd03_dec_X0_0_2 17 rfl rfl)
theorem dX0_look_30 : decode cX0_look 30 = .ok (.bipush 10, 2) := op16 (bA_at bd03_dec_X0_0_2 18 rfl rfl) (by decide +kernel)
theorem dX0_look_32 : decode cX0_look 32 = .ok (.if_icmp .lt 24, 3) := op161 (bA_at bd03_dec_X0_0_2 19 rfl rfl) (by decide +kernel)
theorem dX0_look_35 : decode cX0_look 35 = .ok (.iload_n 1, 1) := op27 (bA_at bd03_dec_X0_0_2 20 rfl rfl)
theorem dX0_look_36 : decode cX0_look 36 = .ok (.bipush 10, 2) := op16 (bA_at bd03_dec_X0_0_2 21 rfl rfl) (by decide +kernel)
theorem dX0_look_38 : decode cX0_look 38 = .ok (.aload_n 0, 1) := op42 (bA_at bd03_dec_X0_0_2 22 rfl rfl)
theorem dX0_look_39 : decode cX0_look 39 = .ok (.getfield 18, 3) := op180 (bA_at bd03_dec_X0_0_2 23 rfl rfl) rfl
theorem dX0_look_42 : decode cX0_look 42 = .ok (.iadd, 1) := op96 (bA_at bd03_dec_X0_0_2 24 rfl rfl)
theorem dX0_look_43 : decode cX0_look 43 = .ok (.if_icmp .ge 13, 3) := op162 (bA_at bd03_dec_X0_0_2 25 rfl rfl) (by decide +kernel)
theorem dX0_look_46 : decode cX0_look 46 = .ok (.aload_n 0, 1) := op42 (bA_at bd03_dec_X0_0_2 26 rfl rfl)
theorem dX0_look_47 : decode cX0_look 47 = .ok (.getfield 9, 3) := op180 (bA_at bd03_dec_X0_0_2 27 rfl rfl) rfl
theorem dX0_look_50 : decode cX0_look 50 = .ok (.iload_n 1, 1) := op27 (bA_at bd03_dec_X0_0_2 28 rfl rfl)
theorem dX0_look_51 : decode cX0_look 51 = .ok (.bipush 10, 2) := op16 (bA_at bd03_dec_X0_0_2 29 rfl rfl) (by decide +kernel)
theorem dX0_look_53 : decode cX0_look 53 = .ok (.isub, 1) := op100 (bA_at bd03_dec_X0_0_2 30 rfl rfl)
theorem dX0_look_54 : decode cX0_look 54 = .ok (.iaload, 1) := op46 (bA_at bd03_dec_X0_0_2 31 rfl rfl)
theorem dX0_look_55 : decode cX0_look 55 = .ok (.ireturn, 1) := op172 (bA_at bd03_dec_X0_0_2 32 rfl rfl)
theorem dX0_look_56 : decode cX0_look 56 = .ok (.iload_n 1, 1) := op27 (bA_at bd03_dec_X0_0_2 33 rfl rfl)
theorem dX0_look_57 : decode cX0_look 57 = .ok (.bipush 20, 2) := op16 (bA_at bd03_dec_X0_0_2 34 rfl rfl) (by decide +kernel)
theorem dX0_look_59 : decode cX0_look 59 = .ok (.if_icmp .lt 26, 3) := op161 (bA_at bd03_dec_X0_0_2 35 rfl rfl) (by decide +kernel)
theorem dX0_look_62 : decode cX0_look 62 = .ok (.iload_n 1, 1) := op27 (bA_at bd03_dec_X0_0_2 36 rfl rfl)
theorem dX0_look_63 : decode cX0_look 63 = .ok (.bipush 20, 2) := op16 (bA_at bd03_dec_X0_0_2 37 rfl rfl) (by decide +kernel)
theorem dX0_look_65 : decode cX0_look 65 = .ok (.aload_n 0, 1) := op42 (bA_at bd03_dec_X0_0_2 38 rfl rfl)
theorem dX0_look_66 : decode cX0_look 66 = .ok (.getfield 18, 3) := op180 (bA_at bd03_dec_X0_0_2 39 rfl rfl) rfl
theorem dX0_look_69 : decode cX0_look 69 = .ok (.iadd, 1) := op96 (bA_at bd03_dec_X0_0_2 40 rfl rfl)
theorem dX0_look_70 : decode cX0_look 70 = .ok (.if_icmp .ge 15, 3) := op162 (bA_at bd03_dec_X0_0_2 41 rfl rfl) (by decide +kernel)
theorem dX0_look_73 : decode cX0_look 73 = .ok (.aload_n 0, 1) := op42 (bA_at bd03_dec_X0_0_2 42 rfl rfl)
theorem dX0_look_74 : decode cX0_look 74 = .ok (.getfield 15, 3) := op180 (bA_at bd03_dec_X0_0_2 43 rfl rfl) rfl
theorem dX0_look_77 : decode cX0_look 77 = .ok (.iload_n 1, 1) := op27 (bA_at bd03_dec_X0_0_2 44 rfl rfl)
theorem dX0_look_78 : decode cX0_look 78 = .ok (.bipush 20, 2) := op16 (bA_at bd03_dec_X0_0_2 45 rfl rfl) (by decide +kernel)
theorem dX0_look_80 : decode cX0_look 80 = .ok (.isub, 1) := op100 (bA_at bd03_dec_X0_0_2 46 rfl rfl)
theorem dX0_look_81 : decode cX0_look 81 = .ok (.iaload, 1) := op46 (bA_at bd03_dec_X0_0_2 47 rfl rfl)
theorem dX0_look_82 : decode cX0_look 82 = .ok (.goto 4, 3) := op167 (bA_at bd03_dec_X0_0_2 48 rfl rfl) (by decide +kernel)
theorem dX0_look_85 : decode cX0_look 85 = .ok (.iconst (-1), 1) := op2 (bA_at bd03_dec_X0_0_2 49 rfl rfl)
theorem bd03_dec_X0_0_3 : ([(0, [172])] : List (Nat × List UInt8)).all (fun x => prB x.2 ((cX0_look.data.toList.drop 86).drop x.1)) = true := by decide +kernel
theorem dX0_look_86 : decode cX0_look 86 = .ok (.ireturn, 1) := op172 (bA_at bd03_dec_X0_0_3 0 rfl rfl)
end
section
theorem bd03_dec_X1_0_0 : ([(0, [42]), (1, [43]), (2, [180, 0, 21]), (5, [181, 0, 21]), (8, [43]), (9, [180, 0, 9]), (12, [3]), (13, [42]), (14, [180, 0, 9]), (17, [3]), (18, [42]), (19, [180, 0, 21]), (22, [184, 0, 25]), (25, [43]), (26, [180, 0, 15]), (29, [3]), (30, [42]), (31, [180, 0, 15]), (34, [3]), (35, [42]), (36, [180, 0, 21]), (39, [184, 0, 25]), (42, [43]), (43, [180, 0, 18]), (46, [3]), (47, [42]), (48, [180, 0, 18]), (51, [3]), (52, [42]), (53, [180, 0, 21]), (56, [184, 0, 25]), (59, [177])] : List (Nat × List UInt8)).all (fun x => prB x.2 ((cX1_copyFrom.data.toList.drop 0).drop x.1)) = true := by decide +kernel
theorem dX1_copyFrom_0 : decode cX1_copyFrom 0 = .ok (.aload_n 0, 1) := op42 (bA_at bd03_dec_X1_0_0 0 rfl rfl)
theorem dX1_copyFrom_1 : decode cX1_copyFrom 1 = .ok (.aload_n 1, 1) := op43 (bA_at bd03_dec_X1_0_0 1 rfl rfl)
theorem dX1_copyFrom_2 : decode cX1_copyFrom 2 = .ok (.getfield 21, 3) := op180 (bA_at bd03_dec_X1_0_0 2 rfl rfl) rfl
theorem dX1_copyFrom_5 : decode cX1_copyFrom 5 = .ok (.putfield 21, 3) := op181 (bA_at bd03_dec_X1_0_0 3 rfl rfl) rfl
theorem dX1_copyFrom_8 : decode cX1_copyFrom 8 = .ok (.aload_n 1, 1) := op43 (bA_at bd03_dec_X1_0_0 4 rfl rfl)
theorem dX1_copyFrom_9 : decode cX1_copyFrom 9 = .ok (.getfield 9, 3) := op180 (bA_at bd03_dec_X1_0_0 5 rfl rfl) rfl
theorem dX1_copyFrom_12 : decode cX1_copyFrom 12 = .ok (.iconst 0, 1) := op3 (bA_at bd03_dec_X1_0_0 6 rfl rfl)
theorem dX1_copyFrom_13 : decode cX1_copyFrom 13 = .ok (.aload_n 0, 1) := op42 (bA_at bd03_dec_X1_0_0 7 rfl rfl)
theorem dX1_copyFrom_14 : decode cX1_copyFrom 14 = .ok (.getfield 9, 3) := op180 (bA_at bd03_dec_X1_0_0 8 rfl rfl) rfl
theorem dX1_copyFrom_17 : decode cX1_copyFrom 17 = .ok (.iconst 0, 1) := op3 (bA_at bd03_dec_X1_0_0 9 rfl rfl)
theorem dX1_copyFrom_18 : decode cX1_copyFrom 18 = .ok (.aload_n 0, 1) := op42 (bA_at bd03_dec_X1_0_0 10 rfl rfl)
theorem dX1_copyFrom_19 : decode cX1_copyFrom 19 = .ok (.getfield 21, 3) := op180 (bA_at bd03_dec_X1_0_0 11 rfl rfl) rfl
theorem dX1_copyFrom_22 : decode cX1_copyFrom 22 = .ok (.invokestatic 25, 3) := op184 (bA_at bd03_dec_X1_0_0 12 rfl rfl) rfl
theorem dX1_copyFrom_25 : decode cX1_copyFrom 25 = .ok (.aload_n 1, 1) := op43 (bA_at bd03_dec_X1_0_0 13 rfl rfl)
theorem dX1_copyFrom_26 : decode cX1_copyFrom 26 = .ok (.getfield 15, 3) := op180 (bA_at bd03_dec_X1_0_0 14 rfl rfl) rfl
theorem dX1_copyFrom_29 : decode cX1_copyFrom 29 = .ok (.iconst 0, 1) := op3 (bA_at bd03_dec_X1_0_0 15 rfl rfl)
theorem dX1_copyFrom_30 : decode cX1_copyFrom 30 = .ok (.aload_n 0, 1) := op42 (bA_at bd03_dec_X1_0_0 16 rfl rfl)
theorem dX1_copyFrom_31 : decode cX1_copyFrom 31 = .ok (.getfield 15, 3) := op180 (bA_at bd03_dec_X1_0_0 17 rfl rfl) rfl
theorem dX1_copyFrom_34 : decode cX1_copyFrom 34 = .ok (.iconst 0, 1) := op3 (bA_at bd03_dec_X1_0_0 18 rfl rfl)
theorem dX1_copyFrom_35 : decode cX1_copyFrom 35 = .ok (.aload_n 0, 1) := op42 (bA_at bd03_dec_X1_0_0 19 rfl rfl)
theorem dX1_copyFrom_36 : decode cX1_copyFrom 36 = .ok (.getfield 21, 3) := op180 (bA_at bd03_dec_X1_0_0 20 rfl rfl) rfl
theorem dX1_copyFrom_39 : decode cX1_copyFrom 39 = .ok (.invokestatic 25, 3) := op184 (bA_at bd03_dec_X1_0_0 21 rfl rfl) rfl
theorem dX1_copyFrom_42 : decode cX1_copyFrom 42 = .ok (.aload_n 1, 1) := op43 (bA_at bd03_dec_X1_0_0 22 rfl rfl)
theorem dX1_copyFrom_43 : decode cX1_copyFrom 43 = .ok (.getfield 18, 3) := op180 (bA_at bd03_dec_X1_0_0 23 rfl rfl) rfl
theorem dX1_copyFrom_46 : decode cX1_copyFrom 46 = .ok (.iconst 0, 1) := op3 (bA_at bd03_dec_X1_0_0 24 rfl rfl)
theorem dX1_copyFrom_47 : decode cX1_copyFrom 47 = .ok (.aload_n 0, 1) := op42 (bA_at bd03_dec_X1_0_0 25 rfl rfl)
theorem dX1_copyFrom_48 : decode cX1_copyFrom 48 = .ok (.getfield 18, 3) := op180 (bA_at bd03_dec_X1_0_0 26 rfl rfl) rfl
theorem dX1_copyFrom_51 : decode cX1_copyFrom 51 = .ok (.iconst 0, 1) := op3 (bA_at bd03_dec_X1_0_0 27 rfl rfl)
theorem dX1_copyFrom_52 : decode cX1_copyFrom 52 = .ok (.aload_n 0, 1) := op42 (bA_at bd03_dec_X1_0_0 28 rfl rfl)
theorem dX1_copyFrom_53 : decode cX1_copyFrom 53 = .ok (.getfield 21, 3) := op180 (bA_at bd03_dec_X1_0_0 29 rfl rfl) rfl
theorem dX1_copyFrom_56 : decode cX1_copyFrom 56 = .ok (.invokestatic 25, 3) := op184 (bA_at bd03_dec_X1_0_0 30 rfl rfl) rfl
theorem dX1_copyFrom_59 : decode cX1_copyFrom 59 = .ok (.return_, 1) := op177 (bA_at bd03_dec_X1_0_0 31 rfl rfl)
theorem dX1_look_1 : decode cX1_look 1 = .ok (.tableswitch 48 0 2 #[27, 34, 41], 27) := by decide +kernel
theorem bd03_dec_X1_0_1 : ([(0, [28]), (28, [42]), (29, [180, 0, 9]), (32, [27]), (33, [46]), (34, [172]), (35, [42]), (36, [180, 0, 15]), (39, [27]), (40, [46]), (41, [172]), (42, [42]), (43, [180, 0, 18]), (46, [27]), (47, [46]), (48, [172]), (49, [16, 254]), (51, [172])] : List (Nat × List UInt8)).all (fun x => prB x.2 ((cX1_look.data.toList.drop 0).drop x.1)) = true := by decide +kernel
theorem dX1_look_0 : decode cX1_look 0 = .ok (.iload_n 2, 1) := op28 (bA_at bd03_dec_X1_0_1 0 rfl rfl)
theorem dX1_look_28 : decode cX1_look 28 = .ok (.aload_n 0, 1) := op42 (bA_at bd03_dec_X1_0_1 1 rfl rfl)
theorem dX1_look_29 : decode cX1_look 29 = .ok (.getfield 9, 3) := op180 (bA_at bd03_dec_X1_0_1 2 rfl rfl) rfl
theorem dX1_look_32 : decode cX1_look 32 = .ok (.iload_n 1, 1) := op27 (bA_at bd03_dec_X1_0_1 3 rfl rfl)
theorem dX1_look_33 : decode cX1_look 33 = .ok (.iaload, 1) := op46 (bA_at bd03_dec_X1_0_1 4 rfl rfl)
theorem dX1_look_34 : decode cX1_look 34 = .ok (.ireturn, 1) := op172 (bA_at bd03_dec_X1_0_1 5 rfl rfl)
theorem dX1_look_35 : decode cX1_look 35 = .ok (.aload_n 0, 1) := op42 (bA_at bd03_dec_X1_0_1 6 rfl rfl)
theorem dX1_look_36 : decode cX1_look 36 = .ok (.getfield 15, 3) := op180 (bA_at bd03_dec_X1_0_1 7 rfl rfl) rfl
theorem dX1_look_39 : decode cX1_look 39 = .ok (.iload_n 1, 1) := op27 (bA_at bd03_dec_X1_0_1 8 rfl rfl)
theorem dX1_look_40 : decode cX1_look 40 = .ok (.iaload, 1) := op46 (bA_at bd03_dec_X1_0_1 9 rfl rfl)
theorem dX1_look_41 : decode cX1_look 41 = .ok (.ireturn, 1) := op172 (bA_at bd03_dec_X1_0_1 10 rfl rfl)
theorem dX1_look_42 : decode cX1_look 42 = .ok (.aload_n 0, 1) := op42 (bA_at bd03_dec_X1_0_1 11 rfl rfl)
theorem dX1_look_43 : decode cX1_look 43 = .ok (.getfield 18, 3) := op180 (bA_at bd03_dec_X1_0_1 12 rfl rfl) rfl
theorem dX1_look_46 : decode cX1_look 46 = .ok (.iload_n 1, 1) := op27 (bA_at bd03_dec_X1_0_1 13 rfl rfl)
theorem dX1_look_47 : decode cX1_look 47 = .ok (.iaload, 1) := op46 (bA_at bd03_dec_X1_0_1 14 rfl rfl)
theorem dX1_look_48 : decode cX1_look 48 = .ok (.ireturn, 1) := op172 (bA_at bd03_dec_X1_0_1 15 rfl rfl)
theorem dX1_look_49 : decode cX1_look 49 = .ok (.bipush (-2), 2) := op16 (bA_at bd03_dec_X1_0_1 16 rfl rfl) (by decide +kernel)
theorem dX1_look_51 : decode cX1_look 51 = .ok (.ireturn, 1) := op172 (bA_at bd03_dec_X1_0_1 17 rfl rfl)
end
section
theorem bd03_dec_X10_0_0 : ([(0, [27]), (1, [155, 0, 8]), (4, [27]), (5, [6]), (6, [161, 0, 5]), (9, [3]), (10, [172]), (11, [42]), (12, [180, 0, 16]), (15, [27]), (16, [50]), (17, [199, 0, 16]), (20, [42]), (21, [180, 0, 16]), (24, [27]), (25, [187, 0, 7]), (28, [89]), (29, [183, 0, 9]), (32, [83]), (33, [42]), (34, [180, 0, 16]), (37, [27]), (38, [50]), (39, [42]), (40, [180, 0, 10]), (43, [182, 1, 67]), (46, [4]), (47, [172])] : List (Nat × List UInt8)).all (fun x => prB x.2 ((cX10_image.data.toList.drop 0).drop x.1)) = true := by decide +kernel
theorem dX10_image_0 : decode cX10_image 0 = .ok (.iload_n 1, 1) := op27 (bA_at bd03_dec_X10_0_0 0 rfl rfl)
theorem dX10_image_1 : decode cX10_image 1 = .ok (.ifCond .lt 8, 3) := op155 (bA_at bd03_dec_X10_0_0 1 rfl rfl) (by decide +kernel)
theorem dX10_image_4 : decode cX10_image 4 = .ok (.iload_n 1, 1) := op27 (bA_at bd03_dec_X10_0_0 2 rfl rfl)
theorem dX10_image_5 : decode cX10_image 5 = .ok (.iconst 3, 1) := op6 (bA_at bd03_dec_X10_0_0 3 rfl rfl)
theorem dX10_image_6 : decode cX10_image 6 = .ok (.if_icmp .lt 5, 3) := op161 (bA_at bd03_dec_X10_0_0 4 rfl rfl) (by decide +kernel)
theorem dX10_image_9 : decode cX10_image 9 = .ok (.iconst 0, 1) := op3 (bA_at bd03_dec_X10_0_0 5 rfl rfl)
theorem dX10_image_10 : decode cX10_image 10 = .ok (.ireturn, 1) := op172 (bA_at bd03_dec_X10_0_0 6 rfl rfl)
theorem dX10_image_11 : decode cX10_image 11 = .ok (.aload_n 0, 1) := op42 (bA_at bd03_dec_X10_0_0 7 rfl rfl)
theorem dX10_image_12 : decode cX10_image 12 = .ok (.getfield 16, 3) := op180 (bA_at bd03_dec_X10_0_0 8 rfl rfl) rfl
theorem dX10_image_15 : decode cX10_image 15 = .ok (.iload_n 1, 1) := op27 (bA_at bd03_dec_X10_0_0 9 rfl rfl)
theorem dX10_image_16 : decode cX10_image 16 = .ok (.aaload, 1) := op50 (bA_at bd03_dec_X10_0_0 10 rfl rfl)
theorem dX10_image_17 : decode cX10_image 17 = .ok (.ifnonnull 16, 3) := op199 (bA_at bd03_dec_X10_0_0 11 rfl rfl) (by decide +kernel)
theorem dX10_image_20 : decode cX10_image 20 = .ok (.aload_n 0, 1) := op42 (bA_at bd03_dec_X10_0_0 12 rfl rfl)
theorem dX10_image_21 : decode cX10_image 21 = .ok (.getfield 16, 3) := op180 (bA_at bd03_dec_X10_0_0 13 rfl rfl) rfl
theorem dX10_image_24 : decode cX10_image 24 = .ok (.iload_n 1, 1) := op27 (bA_at bd03_dec_X10_0_0 14 rfl rfl)
theorem dX10_image_25 : decode cX10_image 25 = .ok (.new 7, 3) := op187 (bA_at bd03_dec_X10_0_0 15 rfl rfl) rfl
theorem dX10_image_28 : decode cX10_image 28 = .ok (.dup, 1) := op89 (bA_at bd03_dec_X10_0_0 16 rfl rfl)
theorem dX10_image_29 : decode cX10_image 29 = .ok (.invokespecial 9, 3) := op183 (bA_at bd03_dec_X10_0_0 17 rfl rfl) rfl
theorem dX10_image_32 : decode cX10_image 32 = .ok (.aastore, 1) := op83 (bA_at bd03_dec_X10_0_0 18 rfl rfl)
theorem dX10_image_33 : decode cX10_image 33 = .ok (.aload_n 0, 1) := op42 (bA_at bd03_dec_X10_0_0 19 rfl rfl)
theorem dX10_image_34 : decode cX10_image 34 = .ok (.getfield 16, 3) := op180 (bA_at bd03_dec_X10_0_0 20 rfl rfl) rfl
theorem dX10_image_37 : decode cX10_image 37 = .ok (.iload_n 1, 1) := op27 (bA_at bd03_dec_X10_0_0 21 rfl rfl)
theorem dX10_image_38 : decode cX10_image 38 = .ok (.aaload, 1) := op50 (bA_at bd03_dec_X10_0_0 22 rfl rfl)
theorem dX10_image_39 : decode cX10_image 39 = .ok (.aload_n 0, 1) := op42 (bA_at bd03_dec_X10_0_0 23 rfl rfl)
theorem dX10_image_40 : decode cX10_image 40 = .ok (.getfield 10, 3) := op180 (bA_at bd03_dec_X10_0_0 24 rfl rfl) rfl
theorem dX10_image_43 : decode cX10_image 43 = .ok (.invokevirtual 323, 3) := op182 (bA_at bd03_dec_X10_0_0 25 rfl rfl) rfl
theorem dX10_image_46 : decode cX10_image 46 = .ok (.iconst 1, 1) := op4 (bA_at bd03_dec_X10_0_0 26 rfl rfl)
theorem dX10_image_47 : decode cX10_image 47 = .ok (.ireturn, 1) := op172 (bA_at bd03_dec_X10_0_0 27 rfl rfl)
theorem bd03_dec_X10_0_1 : ([(0, [26]), (1, [27]), (2, [122]), (3, [4]), (4, [126]), (5, [153, 0, 7]), (8, [4]), (9, [167, 0, 4]), (12, [3]), (13, [172])] : List (Nat × List UInt8)).all (fun x => prB x.2 ((cX10_has.data.toList.drop 0).drop x.1)) = true := by decide +kernel
theorem dX10_has_0 : decode cX10_has 0 = .ok (.iload_n 0, 1) := op26 (bA_at bd03_dec_X10_0_1 0 rfl rfl)
theorem dX10_has_1 : decode cX10_has 1 = .ok (.iload_n 1, 1) := op27 (bA_at bd03_dec_X10_0_1 1 rfl rfl)
theorem dX10_has_2 : decode cX10_has 2 = .ok (.ishr, 1) := op122 (bA_at bd03_dec_X10_0_1 2 rfl rfl)
theorem dX10_has_3 : decode cX10_has 3 = .ok (.iconst 1, 1) := op4 (bA_at bd03_dec_X10_0_1 3 rfl rfl)
theorem dX10_has_4 : decode cX10_has 4 = .ok (.iand, 1) := op126 (bA_at bd03_dec_X10_0_1 4 rfl rfl)
theorem dX10_has_5 : decode cX10_has 5 = .ok (.ifCond .eq 7, 3) := op153 (bA_at bd03_dec_X10_0_1 5 rfl rfl) (by decide +kernel)
theorem dX10_has_8 : decode cX10_has 8 = .ok (.iconst 1, 1) := op4 (bA_at bd03_dec_X10_0_1 6 rfl rfl)
theorem dX10_has_9 : decode cX10_has 9 = .ok (.goto 4, 3) := op167 (bA_at bd03_dec_X10_0_1 7 rfl rfl) (by decide +kernel)
theorem dX10_has_12 : decode cX10_has 12 = .ok (.iconst 0, 1) := op3 (bA_at bd03_dec_X10_0_1 8 rfl rfl)
theorem dX10_has_13 : decode cX10_has 13 = .ok (.ireturn, 1) := op172 (bA_at bd03_dec_X10_0_1 9 rfl rfl)
end
section
theorem bd03_dec_X11_0_0 : ([(0, [26]), (1, [27]), (2, [161, 0, 12]), (5, [26]), (6, [28]), (7, [163, 0, 7]), (10, [4]), (11, [167, 0, 4]), (14, [3]), (15, [172])] : List (Nat × List UInt8)).all (fun x => prB x.2 ((cX11_in.data.toList.drop 0).drop x.1)) = true := by decide +kernel
theorem dX11_in_0 : decode cX11_in 0 = .ok (.iload_n 0, 1) := op26 (bA_at bd03_dec_X11_0_0 0 rfl rfl)
theorem dX11_in_1 : decode cX11_in 1 = .ok (.iload_n 1, 1) := op27 (bA_at bd03_dec_X11_0_0 1 rfl rfl)
theorem dX11_in_2 : decode cX11_in 2 = .ok (.if_icmp .lt 12, 3) := op161 (bA_at bd03_dec_X11_0_0 2 rfl rfl) (by decide +kernel)
theorem dX11_in_5 : decode cX11_in 5 = .ok (.iload_n 0, 1) := op26 (bA_at bd03_dec_X11_0_0 3 rfl rfl)
theorem dX11_in_6 : decode cX11_in 6 = .ok (.iload_n 2, 1) := op28 (bA_at bd03_dec_X11_0_0 4 rfl rfl)
theorem dX11_in_7 : decode cX11_in 7 = .ok (.if_icmp .gt 7, 3) := op163 (bA_at bd03_dec_X11_0_0 5 rfl rfl) (by decide +kernel)
theorem dX11_in_10 : decode cX11_in 10 = .ok (.iconst 1, 1) := op4 (bA_at bd03_dec_X11_0_0 6 rfl rfl)
theorem dX11_in_11 : decode cX11_in 11 = .ok (.goto 4, 3) := op167 (bA_at bd03_dec_X11_0_0 7 rfl rfl) (by decide +kernel)
theorem dX11_in_14 : decode cX11_in 14 = .ok (.iconst 0, 1) := op3 (bA_at bd03_dec_X11_0_0 8 rfl rfl)
theorem dX11_in_15 : decode cX11_in 15 = .ok (.ireturn, 1) := op172 (bA_at bd03_dec_X11_0_0 9 rfl rfl)
theorem bd03_dec_X11_0_1 : ([(0, [26]), (1, [27]), (2, [122]), (3, [4]), (4, [126]), (5, [4]), (6, [160, 0, 7]), (9, [4]), (10, [167, 0, 4]), (13, [3]), (14, [172])] : List (Nat × List UInt8)).all (fun x => prB x.2 ((cX11_has.data.toList.drop 0).drop x.1)) = true := by decide +kernel
theorem dX11_has_0 : decode cX11_has 0 = .ok (.iload_n 0, 1) := op26 (bA_at bd03_dec_X11_0_1 0 rfl rfl)
theorem dX11_has_1 : decode cX11_has 1 = .ok (.iload_n 1, 1) := op27 (bA_at bd03_dec_X11_0_1 1 rfl rfl)
theorem dX11_has_2 : decode cX11_has 2 = .ok (.ishr, 1) := op122 (bA_at bd03_dec_X11_0_1 2 rfl rfl)
theorem dX11_has_3 : decode cX11_has 3 = .ok (.iconst 1, 1) := op4 (bA_at bd03_dec_X11_0_1 3 rfl rfl)
theorem dX11_has_4 : decode cX11_has 4 = .ok (.iand, 1) := op126 (bA_at bd03_dec_X11_0_1 4 rfl rfl)
theorem dX11_has_5 : decode cX11_has 5 = .ok (.iconst 1, 1) := op4 (bA_at bd03_dec_X11_0_1 5 rfl rfl)
theorem dX11_has_6 : decode cX11_has 6 = .ok (.if_icmp .ne 7, 3) := op160 (bA_at bd03_dec_X11_0_1 6 rfl rfl) (by decide +kernel)
theorem dX11_has_9 : decode cX11_has 9 = .ok (.iconst 1, 1) := op4 (bA_at bd03_dec_X11_0_1 7 rfl rfl)
theorem dX11_has_10 : decode cX11_has 10 = .ok (.goto 4, 3) := op167 (bA_at bd03_dec_X11_0_1 8 rfl rfl) (by decide +kernel)
theorem dX11_has_13 : decode cX11_has 13 = .ok (.iconst 0, 1) := op3 (bA_at bd03_dec_X11_0_1 9 rfl rfl)
theorem dX11_has_14 : decode cX11_has 14 = .ok (.ireturn, 1) := op172 (bA_at bd03_dec_X11_0_1 10 rfl rfl)
theorem bd03_dec_X11_0_2 : ([(0, [26]), (1, [27]), (2, [164, 0, 7]), (5, [26]), (6, [167, 0, 4]), (9, [27]), (10, [172])] : List (Nat × List UInt8)).all (fun x => prB x.2 ((cX11_greater.data.toList.drop 0).drop x.1)) = true := by decide +kernel
theorem dX11_greater_0 : decode cX11_greater 0 = .ok (.iload_n 0, 1) := op26 (bA_at bd03_dec_X11_0_2 0 rfl rfl)
theorem dX11_greater_1 : decode cX11_greater 1 = .ok (.iload_n 1, 1) := op27 (bA_at bd03_dec_X11_0_2 1 rfl rfl)
theorem dX11_greater_2 : decode cX11_greater 2 = .ok (.if_icmp .le 7, 3) := op164 (bA_at bd03_dec_X11_0_2 2 rfl rfl) (by decide +kernel)
theorem dX11_greater_5 : decode cX11_greater 5 = .ok (.iload_n 0, 1) := op26 (bA_at bd03_dec_X11_0_2 3 rfl rfl)
theorem dX11_greater_6 : decode cX11_greater 6 = .ok (.goto 4, 3) := op167 (bA_at bd03_dec_X11_0_2 4 rfl rfl) (by decide +kernel)
theorem dX11_greater_9 : decode cX11_greater 9 = .ok (.iload_n 1, 1) := op27 (bA_at bd03_dec_X11_0_2 5 rfl rfl)
theorem dX11_greater_10 : decode cX11_greater 10 = .ok (.ireturn, 1) := op172 (bA_at bd03_dec_X11_0_2 6 rfl rfl)
theorem bd03_dec_X11_0_3 : ([(0, [26]), (1, [27]), (2, [162, 0, 7]), (5, [26]), (6, [167, 0, 4]), (9, [27]), (10, [172])] : List (Nat × List UInt8)).all (fun x => prB x.2 ((cX11_lesser.data.toList.drop 0).drop x.1)) = true := by decide +kernel
theorem dX11_lesser_0 : decode cX11_lesser 0 = .ok (.iload_n 0, 1) := op26 (bA_at bd03_dec_X11_0_3 0 rfl rfl)
theorem dX11_lesser_1 : decode cX11_lesser 1 = .ok (.iload_n 1, 1) := op27 (bA_at bd03_dec_X11_0_3 1 rfl rfl)
theorem dX11_lesser_2 : decode cX11_lesser 2 = .ok (.if_icmp .ge 7, 3) := op162 (bA_at bd03_dec_X11_0_3 2 rfl rfl) (by decide +kernel)
theorem dX11_lesser_5 : decode cX11_lesser 5 = .ok (.iload_n 0, 1) := op26 (bA_at bd03_dec_X11_0_3 3 rfl rfl)
theorem dX11_lesser_6 : decode cX11_lesser 6 = .ok (.goto 4, 3) := op167 (bA_at bd03_dec_X11_0_3 4 rfl rfl) (by decide +kernel)
theorem dX11_lesser_9 : decode cX11_lesser 9 = .ok (.iload_n 1, 1) := op27 (bA_at bd03_dec_X11_0_3 5 rfl rfl)
theorem dX11_lesser_10 : decode cX11_lesser 10 = .ok (.ireturn, 1) := op172 (bA_at bd03_dec_X11_0_3 6 rfl rfl)
theorem bd03_dec_X11_0_4 : ([(0, [3]), (1, [60]), (2, [3]), (3, [61]), (4, [28]), (5, [16, 9]), (7, [162, 0, 25]), (10, [27]), (11, [26]), (12, [28]), (13, [184, 0, 101]), (16, [153, 0, 7]), (19, [4]), (20, [167, 0, 4]), (23, [3]), (24, [96]), (25, [60]), (26, [132, 2, 1]), (29, [167, 255, 231]), (32, [27]), (33, [172])] : List (Nat × List UInt8)).all (fun x => prB x.2 ((cX11_ones.data.toList.drop 0).drop x.1)) = true := by decide +kernel
theorem dX11_ones_0 : decode cX11_ones 0 = .ok (.iconst 0, 1) := op3 (bA_at bd03_dec_X11_0_4 0 rfl rfl)
theorem dX11_ones_1 : decode cX11_ones 1 = .ok (.istore_n 1, 1) := op60 (bA_at bd03_dec_X11_0_4 1 rfl rfl)
theorem dX11_ones_2 : decode cX11_ones 2 = .ok (.iconst 0, 1) := op3 (bA_at bd03_dec_X11_0_4 2 rfl rfl)
theorem dX11_ones_3 : decode cX11_ones 3 = .ok (.istore_n 2, 1) := op61 (bA_at bd03_dec_X11_0_4 3 rfl rfl)
theorem dX11_ones_4 : decode cX11_ones 4 = .ok (.iload_n 2, 1) := op28 (bA_at bd03_dec_X11_0_4 4 rfl rfl)
theorem dX11_ones_5 : decode cX11_ones 5 = .ok (.bipush 9, 2) := op16 (bA_at bd03_dec_X11_0_4 5 rfl rfl) (by decide +kernel)
theorem dX11_ones_7 : decode cX11_ones 7 = .ok (.if_icmp .ge 25, 3) := op162 (bA_at bd03_dec_X11_0_4 6 rfl rfl) (by decide +kernel)
theorem dX11_ones_10 : decode cX11_ones 10 = .ok (.iload_n 1, 1) := op27 (bA_at bd03_dec_X11_0_4 7 rfl rfl)
theorem dX11_ones_11 : decode cX11_ones 11 = .ok (.iload_n 0, 1) := op26 (bA_at bd03_dec_X11_0_4 8 rfl rfl)
theorem dX11_ones_12 : decode cX11_ones 12 = .ok (.iload_n 2, 1) := op28 (bA_at bd03_dec_X11_0_4 9 rfl rfl)
theorem dX11_ones_13 : decode cX11_ones 13 = .ok (.invokestatic 101, 3) := op184 (bA_at bd03_dec_X11_0_4 10 rfl rfl) rfl
theorem dX11_ones_16 : decode cX11_ones 16 = .ok (.ifCond .eq 7, 3) := op153 (bA_at bd03_dec_X11_0_4 11 rfl rfl) (by decide +kernel)
theorem dX11_ones_19 : decode cX11_ones 19 = .ok (.iconst 1, 1) := op4 (bA_at bd03_dec_X11_0_4 12 rfl rfl)
theorem dX11_ones_20 : decode cX11_ones 20 = .ok (.goto 4, 3) := op167 (bA_at bd03_dec_X11_0_4 13 rfl rfl) (by decide +kernel)
theorem dX11_ones_23 : decode cX11_ones 23 = .ok (.iconst 0, 1) := op3 (bA_at bd03_dec_X11_0_4 14 rfl rfl)
theorem dX11_ones_24 : decode cX11_ones 24 = .ok (.iadd, 1) := op96 (bA_at bd03_dec_X11_0_4 15 rfl rfl)
theorem dX11_ones_25 : decode cX11_ones 25 = .ok (.istore_n 1, 1) := op60 (bA_at bd03_dec_X11_0_4 16 rfl rfl)
theorem dX11_ones_26 : decode cX11_ones 26 = .ok (.iinc 2 1, 3) := op132 (bA_at bd03_dec_X11_0_4 17 rfl rfl) rfl (by decide +kernel)
theorem dX11_ones_29 : decode cX11_ones 29 = .ok (.goto (-25), 3) := op167 (bA_at bd03_dec_X11_0_4 18 rfl rfl) (by decide +kernel)
theorem dX11_ones_32 : decode cX11_ones 32 = .ok (.iload_n 1, 1) := op27 (bA_at bd03_dec_X11_0_4 19 rfl rfl)
theorem dX11_ones_33 : decode cX11_ones 33 = .ok (.ireturn, 1) := op172 (bA_at bd03_dec_X11_0_4 20 rfl rfl)
theorem bd03_dec_X11_0_5 : ([(0, [3]), (1, [54, 4]), (3, [21, 4]), (5, [27]), (6, [162, 0, 25]), (9, [42]), (10, [27]), (11, [29]), (12, [104]), (13, [21, 4]), (15, [96]), (16, [42]), (17, [27]), (18, [28]), (19, [104]), (20, [21, 4]), (22, [96]), (23, [46]), (24, [79]), (25, [132, 4, 1]), (28, [167, 255, 231]), (31, [177])] : List (Nat × List UInt8)).all (fun x => prB x.2 ((cX11_copyRow.data.toList.drop 0).drop x.1)) = true := by decide +kernel
theorem dX11_copyRow_0 : decode cX11_copyRow 0 = .ok (.iconst 0, 1) := op3 (bA_at bd03_dec_X11_0_5 0 rfl rfl)
theorem dX11_copyRow_1 : decode cX11_copyRow 1 = .ok (.istore 4, 2) := op54 (bA_at bd03_dec_X11_0_5 1 rfl rfl) rfl
theorem dX11_copyRow_3 : decode cX11_copyRow 3 = .ok (.iload 4, 2) := op21 (bA_at bd03_dec_X11_0_5 2 rfl rfl) rfl
theorem dX11_copyRow_5 : decode cX11_copyRow 5 = .ok (.iload_n 1, 1) := op27 (bA_at bd03_dec_X11_0_5 3 rfl rfl)
theorem dX11_copyRow_6 : decode cX11_copyRow 6 = .ok (.if_icmp .ge 25, 3) := op162 (bA_at bd03_dec_X11_0_5 4 rfl rfl) (by decide +kernel)
theorem dX11_copyRow_9 : decode cX11_copyRow 9 = .ok (.aload_n 0, 1) := op42 (bA_at bd03_dec_X11_0_5 5 rfl rfl)
theorem dX11_copyRow_10 : decode cX11_copyRow 10 = .ok (.iload_n 1, 1) := op27 (bA_at bd03_dec_X11_0_5 6 rfl rfl)
theorem dX11_copyRow_11 : decode cX11_copyRow 11 = .ok (.iload_n 3, 1) := op29 (bA_at bd03_dec_X11_0_5 7 rfl rfl)
theorem dX11_copyRow_12 : decode cX11_copyRow 12 = .ok (.imul, 1) := op104 (bA_at bd03_dec_X11_0_5 8 rfl rfl)
theorem dX11_copyRow_13 : decode cX11_copyRow 13 = .ok (.iload 4, 2) := op21 (bA_at bd03_dec_X11_0_5 9 rfl rfl) rfl
theorem dX11_copyRow_15 : decode cX11_copyRow 15 = .ok (.iadd, 1) := op96 (bA_at bd03_dec_X11_0_5 10 rfl rfl)
theorem dX11_copyRow_16 : decode cX11_copyRow 16 = .ok (.aload_n 0, 1) := op42 (bA_at bd03_dec_X11_0_5 11 rfl rfl)
theorem dX11_copyRow_17 : decode cX11_copyRow 17 = .ok (.iload_n 1, 1) := op27 (bA_at bd03_dec_X11_0_5 12 rfl rfl)
theorem dX11_copyRow_18 : decode cX11_copyRow 18 = .ok (.iload_n 2, 1) := op28 (bA_at bd03_dec_X11_0_5 13 rfl rfl)
theorem dX11_copyRow_19 : decode cX11_copyRow 19 = .ok (.imul, 1) := op104 (bA_at bd03_dec_X11_0_5 14 rfl rfl)
theorem dX11_copyRow_20 : decode cX11_copyRow 20 = .ok (.iload 4, 2) := op21 (bA_at bd03_dec_X11_0_5 15 rfl rfl) rfl
theorem dX11_copyRow_22 : decode cX11_copyRow 22 = .ok (.iadd, 1) := op96 (bA_at bd03_dec_X11_0_5 16 rfl rfl)
theorem dX11_copyRow_23 : decode cX11_copyRow 23 = .ok (.iaload, 1) := op46 (bA_at bd03_dec_X11_0_5 17 rfl rfl)
theorem dX11_copyRow_24 : decode cX11_copyRow 24 = .ok (.iastore, 1) := op79 (bA_at bd03_dec_X11_0_5 18 rfl rfl)
theorem dX11_copyRow_25 : decode cX11_copyRow 25 = .ok (.iinc 4 1, 3) := op132 (bA_at bd03_dec_X11_0_5 19 rfl rfl) rfl (by decide +kernel)
theorem dX11_copyRow_28 : decode cX11_copyRow 28 = .ok (.goto (-25), 3) := op167 (bA_at bd03_dec_X11_0_5 20 rfl rfl) (by decide +kernel)
theorem dX11_copyRow_31 : decode cX11_copyRow 31 = .ok (.return_, 1) := op177 (bA_at bd03_dec_X11_0_5 21 rfl rfl)
theorem bd03_dec_X11_0_6 : ([(0, [3]), (1, [62]), (2, [29]), (3, [17, 2, 88]), (6, [162, 0, 33]), (9, [42]), (10, [180, 0, 7]), (13, [17, 2, 88]), (16, [28]), (17, [104]), (18, [29]), (19, [96]), (20, [42]), (21, [180, 0, 7]), (24, [17, 2, 88]), (27, [27]), (28, [104]), (29, [29]), (30, [96]), (31, [51]), (32, [84]), (33, [132, 3, 1]), (36, [167, 255, 222]), (39, [42]), (40, [180, 0, 13]), (43, [4]), (44, [27]), (45, [28]), (46, [184, 0, 105]), (49, [42]), (50, [180, 0, 17]), (53, [4]), (54, [27]), (55, [28]), (56, [184, 0, 105]), (59, [42]), (60, [180, 0, 20]), (63, [4]), (64, [27]), (65, [28]), (66, [184, 0, 105]), (69, [42]), (70, [180, 0, 23]), (73, [7]), (74, [27]), (75, [28]), (76, [184, 0, 105]), (79, [42]), (80, [180, 0, 26]), (83, [17, 1, 8])] : List (Nat × List UInt8)).all (fun x => prB x.2 ((cX11_copyAll.data.toList.drop 0).drop x.1)) = true := by decide +kernel
theorem dX11_copyAll_0 : decode cX11_copyAll 0 = .ok (.iconst 0, 1) := op3 (bA_at bd03_dec_X11_0_6 0 rfl rfl)
theorem dX11_copyAll_1 : decode cX11_copyAll 1 = .ok (.istore_n 3, 1) := op62 (bA_at bd03_dec_X11_0_6 1 rfl rfl)
theorem dX11_copyAll_2 : decode cX11_copyAll 2 = .ok (.iload_n 3, 1) := op29 (bA_at bd03_dec_X11_0_6 2 rfl rfl)
theorem dX11_copyAll_3 : decode cX11_copyAll 3 = .ok (.sipush 600, 3) := op17 (bA_at bd03_dec_X11_0_6 3 rfl rfl) (by decide +kernel)
theorem dX11_copyAll_6 : decode cX11_copyAll 6 = .ok (.if_icmp .ge 33, 3) := op162 (bA_at bd03_dec_X11_0_6 4 rfl rfl) (by decide +kernel)
theorem dX11_copyAll_9 : decode cX11_copyAll 9 = .ok (.aload_n 0, 1) := op42 (bA_at bd03_dec_X11_0_6 5 rfl rfl)
theorem dX11_copyAll_10 : decode cX11_copyAll 10 = .ok (.getfield 7, 3) := op180 (bA_at bd03_dec_X11_0_6 6 rfl rfl) rfl
theorem dX11_copyAll_13 : decode cX11_copyAll 13 = .ok (.sipush 600, 3) := op17 (bA_at bd03_dec_X11_0_6 7 rfl rfl) (by decide +kernel)
theorem dX11_copyAll_16 : decode cX11_copyAll 16 = .ok (.iload_n 2, 1) := op28 (bA_at bd03_dec_X11_0_6 8 rfl rfl)
theorem dX11_copyAll_17 : decode cX11_copyAll 17 = .ok (.imul, 1) := op104 (bA_at bd03_dec_X11_0_6 9 rfl rfl)
theorem dX11_copyAll_18 : decode cX11_copyAll 18 = .ok (.iload_n 3, 1) := op29 (bA_at bd03_dec_X11_0_6 10 rfl rfl)
theorem dX11_copyAll_19 : decode cX11_copyAll 19 = .ok (.iadd, 1) := op96 (bA_at bd03_dec_X11_0_6 11 rfl rfl)
theorem dX11_copyAll_20 : decode cX11_copyAll 20 = .ok (.aload_n 0, 1) := op42 (bA_at bd03_dec_X11_0_6 12 rfl rfl)
theorem dX11_copyAll_21 : decode cX11_copyAll 21 = .ok (.getfield 7, 3) := op180 (bA_at bd03_dec_X11_0_6 13 rfl rfl) rfl
theorem dX11_copyAll_24 : decode cX11_copyAll 24 = .ok (.sipush 600, 3) := op17 (bA_at bd03_dec_X11_0_6 14 rfl rfl) (by decide +kernel)
theorem dX11_copyAll_27 : decode cX11_copyAll 27 = .ok (.iload_n 1, 1) := op27 (bA_at bd03_dec_X11_0_6 15 rfl rfl)
theorem dX11_copyAll_28 : decode cX11_copyAll 28 = .ok (.imul, 1) := op104 (bA_at bd03_dec_X11_0_6 16 rfl rfl)
theorem dX11_copyAll_29 : decode cX11_copyAll 29 = .ok (.iload_n 3, 1) := op29 (bA_at bd03_dec_X11_0_6 17 rfl rfl)
theorem dX11_copyAll_30 : decode cX11_copyAll 30 = .ok (.iadd, 1) := op96 (bA_at bd03_dec_X11_0_6 18 rfl rfl)
theorem dX11_copyAll_31 : decode cX11_copyAll 31 = .ok (.baload, 1) := op51 (bA_at bd03_dec_X11_0_6 19 rfl rfl)
theorem dX11_copyAll_32 : decode cX11_copyAll 32 = .ok (.bastore, 1) := op84 (bA_at bd03_dec_X11_0_6 20 rfl rfl)
theorem dX11_copyAll_33 : decode cX11_copyAll 33 = .ok (.iinc 3 1, 3) := op132 (bA_at bd03_dec_X11_0_6 21 rfl rfl) rfl (by decide +kernel)
theorem dX11_copyAll_36 : decode cX11_copyAll 36 = .ok (.goto (-34), 3) := op167 (bA_at bd03_dec_X11_0_6 22 rfl rfl) (by decide +kernel)
theorem dX11_copyAll_39 : decode cX11_copyAll 39 = .ok (.aload_n 0, 1) := op42 (bA_at bd03_dec_X11_0_6 23 rfl rfl)
theorem dX11_copyAll_40 : decode cX11_copyAll 40 = .ok (.getfield 13, 3) := op180 (bA_at bd03_dec_X11_0_6 24 rfl rfl) rfl
theorem dX11_copyAll_43 : decode cX11_copyAll 43 = .ok (.iconst 1, 1) := op4 (bA_at bd03_dec_X11_0_6 25 rfl rfl)
theorem dX11_copyAll_44 : decode cX11_copyAll 44 = .ok (.iload_n 1, 1) := op27 (bA_at bd03_dec_X11_0_6 26 rfl rfl)
theorem dX11_copyAll_45 : decode cX11_copyAll 45 = .ok (.iload_n 2, 1) := op28 (bA_at bd03_dec_X11_0_6 27 rfl rfl)
theorem dX11_copyAll_46 : decode cX11_copyAll 46 = .ok (.invokestatic 105, 3) := op184 (bA_at bd03_dec_X11_0_6 28 rfl rfl) rfl
theorem dX11_copyAll_49 : decode cX11_copyAll 49 = .ok (.aload_n 0, 1) := op42 (bA_at bd03_dec_X11_0_6 29 rfl rfl)
theorem dX11_copyAll_50 : decode cX11_copyAll 50 = .ok (.getfield 17, 3) := op180 (bA_at bd03_dec_X11_0_6 30 rfl rfl) rfl
theorem dX11_copyAll_53 : decode cX11_copyAll 53 = .ok (.iconst 1, 1) := op4 (bA_at bd03_dec_X11_0_6 31 rfl rfl)
theorem dX11_copyAll_54 : decode cX11_copyAll 54 = .ok (.iload_n 1, 1) := op27 (bA_at bd03_dec_X11_0_6 32 rfl rfl)
theorem dX11_copyAll_55 : decode cX11_copyAll 55 = .ok (.iload_n 2, 1) := op28 (bA_at bd03_dec_X11_0_6 33 rfl rfl)
theorem dX11_copyAll_56 : decode cX11_copyAll 56 = .ok (.invokestatic 105, 3) := op184 (bA_at bd03_dec_X11_0_6 34 rfl rfl) rfl
theorem dX11_copyAll_59 : decode cX11_copyAll 59 = .ok (.aload_n 0, 1) := op42 (bA_at bd03_dec_X11_0_6 35 rfl rfl)
theorem dX11_copyAll_60 : decode cX11_copyAll 60 = .ok (.getfield 20, 3) := op180 (bA_at bd03_dec_X11_0_6 36 rfl rfl) rfl
theorem dX11_copyAll_63 : decode cX11_copyAll 63 = .ok (.iconst 1, 1) := op4 (bA_at bd03_dec_X11_0_6 37 rfl rfl)
theorem dX11_copyAll_64 : decode cX11_copyAll 64 = .ok (.iload_n 1, 1) := op27 (bA_at bd03_dec_X11_0_6 38 rfl rfl)
theorem dX11_copyAll_65 : decode cX11_copyAll 65 = .ok (.iload_n 2, 1) := op28 (bA_at bd03_dec_X11_0_6 39 rfl rfl)
theorem dX11_copyAll_66 : decode cX11_copyAll 66 = .ok (.invokestatic 105, 3) := op184 (bA_at bd03_dec_X11_0_6 40 rfl rfl) rfl
theorem dX11_copyAll_69 : decode cX11_copyAll 69 = .ok (.aload_n 0, 1) := op42 (bA_at bd03_dec_X11_0_6 41 rfl rfl)
theorem dX11_copyAll_70 : decode cX11_copyAll 70 = .ok (.getfield 23, 3) := op180 (bA_at bd03_dec_X11_0_6 42 rfl rfl) rfl
theorem dX11_copyAll_73 : decode cX11_copyAll 73 = .ok (.iconst 4, 1) := op7 (bA_at bd03_dec_X11_0_6 43 rfl rfl)
theorem dX11_copyAll_74 : decode cX11_copyAll 74 = .ok (.iload_n 1, 1) := op27 (bA_at bd03_dec_X11_0_6 44 rfl rfl)
theorem dX11_copyAll_75 : decode cX11_copyAll 75 = .ok (.iload_n 2, 1) := op28 (bA_at bd03_dec_X11_0_6 45 rfl rfl)
theorem dX11_copyAll_76 : decode cX11_copyAll 76 = .ok (.invokestatic 105, 3) := op184 (bA_at bd03_dec_X11_0_6 46 rfl rfl) rfl
theorem dX11_copyAll_79 : decode cX11_copyAll 79 = .ok (.aload_n 0, 1) := op42 (bA_at bd03_dec_X11_0_6 47 rfl rfl)
theorem dX11_copyAll_80 : decode cX11_copyAll 80 = .ok (.getfield 26, 3) := op180 (bA_at bd03_dec_X11_0_6 48 rfl rfl) rfl
theorem dX11_copyAll_83 : decode cX11_copyAll 83 = .ok (.sipush 264, 3) := op17 (bA_at bd03_dec_X11_0_6 49 rfl rfl) (by decide +kernel)
theorem bd03_dec_X11_0_7 : ([(0, [27]), (1, [28]), (2, [184, 0, 105]), (5, [42]), (6, [180, 0, 29]), (9, [17, 0, 242]), (12, [27]), (13, [28]), (14, [184, 0, 105]), (17, [42]), (18, [180, 0, 32]), (21, [16, 62]), (23, [27]), (24, [28]), (25, [184, 0, 105]), (28, [42]), (29, [180, 0, 35]), (32, [16, 40]), (34, [27]), (35, [28]), (36, [184, 0, 105]), (39, [177])] : List (Nat × List UInt8)).all (fun x => prB x.2 ((cX11_copyAll.data.toList.drop 86).drop x.1)) = true := by decide +kernel
theorem dX11_copyAll_86 : decode cX11_copyAll 86 = .ok (.iload_n 1, 1) := op27 (bA_at bd03_dec_X11_0_7 0 rfl rfl)
theorem dX11_copyAll_87 : decode cX11_copyAll 87 = .ok (.iload_n 2, 1) := op28 (bA_at bd03_dec_X11_0_7 1 rfl rfl)
theorem dX11_copyAll_88 : decode cX11_copyAll 88 = .ok (.invokestatic 105, 3) := op184 (bA_at bd03_dec_X11_0_7 2 rfl rfl) rfl
theorem dX11_copyAll_91 : decode cX11_copyAll 91 = .ok (.aload_n 0, 1) := op42 (bA_at bd03_dec_X11_0_7 3 rfl rfl)
theorem dX11_copyAll_92 : decode cX11_copyAll 92 = .ok (.getfield 29, 3) := op180 (bA_at bd03_dec_X11_0_7 4 rfl rfl) rfl
theorem dX11_copyAll_95 : decode cX11_copyAll 95 = .ok (.sipush 242, 3) := op17 (bA_at bd03_dec_X11_0_7 5 rfl rfl) (by decide +kernel)
theorem dX11_copyAll_98 : decode cX11_copyAll 98 = .ok (.iload_n 1, 1) := op27 (bA_at bd03_dec_X11_0_7 6 rfl rfl)
theorem dX11_copyAll_99 : decode cX11_copyAll 99 = .ok (.iload_n 2, 1) := op28 (bA_at bd03_dec_X11_0_7 7 rfl rfl)
theorem dX11_copyAll_100 : decode cX11_copyAll 100 = .ok (.invokestatic 105, 3) := op184 (bA_at bd03_dec_X11_0_7 8 rfl rfl) rfl
theorem dX11_copyAll_103 : decode cX11_copyAll 103 = .ok (.aload_n 0, 1) := op42 (bA_at bd03_dec_X11_0_7 9 rfl rfl)
theorem dX11_copyAll_104 : decode cX11_copyAll 104 = .ok (.getfield 32, 3) := op180 (bA_at bd03_dec_X11_0_7 10 rfl rfl) rfl
theorem dX11_copyAll_107 : decode cX11_copyAll 107 = .ok (.bipush 62, 2) := op16 (bA_at bd03_dec_X11_0_7 11 rfl rfl) (by decide +kernel)
theorem dX11_copyAll_109 : decode cX11_copyAll 109 = .ok (.iload_n 1, 1) := op27 (bA_at bd03_dec_X11_0_7 12 rfl rfl)
theorem dX11_copyAll_110 : decode cX11_copyAll 110 = .ok (.iload_n 2, 1) := op28 (bA_at bd03_dec_X11_0_7 13 rfl rfl)
theorem dX11_copyAll_111 : decode cX11_copyAll 111 = .ok (.invokestatic 105, 3) := op184 (bA_at bd03_dec_X11_0_7 14 rfl rfl) rfl
theorem dX11_copyAll_114 : decode cX11_copyAll 114 = .ok (.aload_n 0, 1) := op42 (bA_at bd03_dec_X11_0_7 15 rfl rfl)
theorem dX11_copyAll_115 : decode cX11_copyAll 115 = .ok (.getfield 35, 3) := op180 (bA_at bd03_dec_X11_0_7 16 rfl rfl) rfl
theorem dX11_copyAll_118 : decode cX11_copyAll 118 = .ok (.bipush 40, 2) := op16 (bA_at bd03_dec_X11_0_7 17 rfl rfl) (by decide +kernel)
theorem dX11_copyAll_120 : decode cX11_copyAll 120 = .ok (.iload_n 1, 1) := op27 (bA_at bd03_dec_X11_0_7 18 rfl rfl)
theorem dX11_copyAll_121 : decode cX11_copyAll 121 = .ok (.iload_n 2, 1) := op28 (bA_at bd03_dec_X11_0_7 19 rfl rfl)
theorem dX11_copyAll_122 : decode cX11_copyAll 122 = .ok (.invokestatic 105, 3) := op184 (bA_at bd03_dec_X11_0_7 20 rfl rfl) rfl
theorem dX11_copyAll_125 : decode cX11_copyAll 125 = .ok (.return_, 1) := op177 (bA_at bd03_dec_X11_0_7 21 rfl rfl)
theorem bd03_dec_X11_0_8 : ([(0, [28]), (1, [3]), (2, [42]), (3, [180, 0, 23]), (6, [27]), (7, [46]), (8, [4]), (9, [100]), (10, [184, 0, 109]), (13, [172])] : List (Nat × List UInt8)).all (fun x => prB x.2 ((cX11_is.data.toList.drop 0).drop x.1)) = true := by decide +kernel
theorem dX11_is_0 : decode cX11_is 0 = .ok (.iload_n 2, 1) := op28 (bA_at bd03_dec_X11_0_8 0 rfl rfl)
theorem dX11_is_1 : decode cX11_is 1 = .ok (.iconst 0, 1) := op3 (bA_at bd03_dec_X11_0_8 1 rfl rfl)
theorem dX11_is_2 : decode cX11_is 2 = .ok (.aload_n 0, 1) := op42 (bA_at bd03_dec_X11_0_8 2 rfl rfl)
theorem dX11_is_3 : decode cX11_is 3 = .ok (.getfield 23, 3) := op180 (bA_at bd03_dec_X11_0_8 3 rfl rfl) rfl
theorem dX11_is_6 : decode cX11_is 6 = .ok (.iload_n 1, 1) := op27 (bA_at bd03_dec_X11_0_8 4 rfl rfl)
theorem dX11_is_7 : decode cX11_is 7 = .ok (.iaload, 1) := op46 (bA_at bd03_dec_X11_0_8 5 rfl rfl)
theorem dX11_is_8 : decode cX11_is 8 = .ok (.iconst 1, 1) := op4 (bA_at bd03_dec_X11_0_8 6 rfl rfl)
theorem dX11_is_9 : decode cX11_is 9 = .ok (.isub, 1) := op100 (bA_at bd03_dec_X11_0_8 7 rfl rfl)
theorem dX11_is_10 : decode cX11_is 10 = .ok (.invokestatic 109, 3) := op184 (bA_at bd03_dec_X11_0_8 8 rfl rfl) rfl
theorem dX11_is_13 : decode cX11_is 13 = .ok (.ireturn, 1) := op172 (bA_at bd03_dec_X11_0_8 9 rfl rfl)
theorem bd03_dec_X11_0_9 : ([(0, [42]), (1, [3]), (2, [181, 0, 97]), (5, [42]), (6, [180, 0, 13]), (9, [3]), (10, [46]), (11, [16, 20]), (13, [96]), (14, [17, 2, 88]), (17, [164, 0, 5]), (20, [2]), (21, [172]), (22, [42]), (23, [27]), (24, [182, 0, 113]), (27, [42]), (28, [28]), (29, [182, 0, 113]), (32, [42]), (33, [29]), (34, [182, 0, 113]), (37, [42]), (38, [21, 4]), (40, [182, 0, 113]), (43, [42]), (44, [21, 5]), (46, [182, 0, 113]), (49, [42]), (50, [180, 0, 13]), (53, [3]), (54, [46]), (55, [172])] : List (Nat × List UInt8)).all (fun x => prB x.2 ((cX11_feed.data.toList.drop 0).drop x.1)) = true := by decide +kernel
theorem dX11_feed_0 : decode cX11_feed 0 = .ok (.aload_n 0, 1) := op42 (bA_at bd03_dec_X11_0_9 0 rfl rfl)
theorem dX11_feed_1 : decode cX11_feed 1 = .ok (.iconst 0, 1) := op3 (bA_at bd03_dec_X11_0_9 1 rfl rfl)
theorem dX11_feed_2 : decode cX11_feed 2 = .ok (.putfield 97, 3) := op181 (bA_at bd03_dec_X11_0_9 2 rfl rfl) rfl
theorem dX11_feed_5 : decode cX11_feed 5 = .ok (.aload_n 0, 1) := op42 (bA_at bd03_dec_X11_0_9 3 rfl rfl)
theorem dX11_feed_6 : decode cX11_feed 6 = .ok (.getfield 13, 3) := op180 (bA_at bd03_dec_X11_0_9 4 rfl rfl) rfl
theorem dX11_feed_9 : decode cX11_feed 9 = .ok (.iconst 0, 1) := op3 (bA_at bd03_dec_X11_0_9 5 rfl rfl)
theorem dX11_feed_10 : decode cX11_feed 10 = .ok (.iaload, 1) := op46 (bA_at bd03_dec_X11_0_9 6 rfl rfl)
theorem dX11_feed_11 : decode cX11_feed 11 = .ok (.bipush 20, 2) := op16 (bA_at bd03_dec_X11_0_9 7 rfl rfl) (by decide +kernel)
theorem dX11_feed_13 : decode cX11_feed 13 = .ok (.iadd, 1) := op96 (bA_at bd03_dec_X11_0_9 8 rfl rfl)
theorem dX11_feed_14 : decode cX11_feed 14 = .ok (.sipush 600, 3) := op17 (bA_at bd03_dec_X11_0_9 9 rfl rfl) (by decide +kernel)
theorem dX11_feed_17 : decode cX11_feed 17 = .ok (.if_icmp .le 5, 3) := op164 (bA_at bd03_dec_X11_0_9 10 rfl rfl) (by decide +kernel)
theorem dX11_feed_20 : decode cX11_feed 20 = .ok (.iconst (-1), 1) := op2 (bA_at bd03_dec_X11_0_9 11 rfl rfl)
theorem dX11_feed_21 : decode cX11_feed 21 = .ok (.ireturn, 1) := op172 (bA_at bd03_dec_X11_0_9 12 rfl rfl)
theorem dX11_feed_22 : decode cX11_feed 22 = .ok (.aload_n 0, 1) := op42 (bA_at bd03_dec_X11_0_9 13 rfl rfl)
theorem dX11_feed_23 : decode cX11_feed 23 = .ok (.iload_n 1, 1) := op27 (bA_at bd03_dec_X11_0_9 14 rfl rfl)
theorem dX11_feed_24 : decode cX11_feed 24 = .ok (.invokevirtual 113, 3) := op182 (bA_at bd03_dec_X11_0_9 15 rfl rfl) rfl
theorem dX11_feed_27 : decode cX11_feed 27 = .ok (.aload_n 0, 1) := op42 (bA_at bd03_dec_X11_0_9 16 rfl rfl)
theorem dX11_feed_28 : decode cX11_feed 28 = .ok (.iload_n 2, 1) := op28 (bA_at bd03_dec_X11_0_9 17 rfl rfl)
theorem dX11_feed_29 : decode cX11_feed 29 = .ok (.invokevirtual 113, 3) := op182 (bA_at bd03_dec_X11_0_9 18 rfl rfl) rfl
theorem dX11_feed_32 : decode cX11_feed 32 = .ok (.aload_n 0, 1) := op42 (bA_at bd03_dec_X11_0_9 19 rfl rfl)
theorem dX11_feed_33 : decode cX11_feed 33 = .ok (.iload_n 3, 1) := op29 (bA_at bd03_dec_X11_0_9 20 rfl rfl)
theorem dX11_feed_34 : decode cX11_feed 34 = .ok (.invokevirtual 113, 3) := op182 (bA_at bd03_dec_X11_0_9 21 rfl rfl) rfl
theorem dX11_feed_37 : decode cX11_feed 37 = .ok (.aload_n 0, 1) := op42 (bA_at bd03_dec_X11_0_9 22 rfl rfl)
theorem dX11_feed_38 : decode cX11_feed 38 = .ok (.iload 4, 2) := op21 (bA_at bd03_dec_X11_0_9 23 rfl rfl) rfl
theorem dX11_feed_40 : decode cX11_feed 40 = .ok (.invokevirtual 113, 3) := op182 (bA_at bd03_dec_X11_0_9 24 rfl rfl) rfl
theorem dX11_feed_43 : decode cX11_feed 43 = .ok (.aload_n 0, 1) := op42 (bA_at bd03_dec_X11_0_9 25 rfl rfl)
theorem dX11_feed_44 : decode cX11_feed 44 = .ok (.iload 5, 2) := op21 (bA_at bd03_dec_X11_0_9 26 rfl rfl) rfl
theorem dX11_feed_46 : decode cX11_feed 46 = .ok (.invokevirtual 113, 3) := op182 (bA_at bd03_dec_X11_0_9 27 rfl rfl) rfl
theorem dX11_feed_49 : decode cX11_feed 49 = .ok (.aload_n 0, 1) := op42 (bA_at bd03_dec_X11_0_9 28 rfl rfl)
theorem dX11_feed_50 : decode cX11_feed 50 = .ok (.getfield 13, 3) := op180 (bA_at bd03_dec_X11_0_9 29 rfl rfl) rfl
theorem dX11_feed_53 : decode cX11_feed 53 = .ok (.iconst 0, 1) := op3 (bA_at bd03_dec_X11_0_9 30 rfl rfl)
theorem dX11_feed_54 : decode cX11_feed 54 = .ok (.iaload, 1) := op46 (bA_at bd03_dec_X11_0_9 31 rfl rfl)
theorem dX11_feed_55 : decode cX11_feed 55 = .ok (.ireturn, 1) := op172 (bA_at bd03_dec_X11_0_9 32 rfl rfl)
theorem bd03_dec_X11_0_10 : ([(0, [16, 24]), (2, [61]), (3, [28]), (4, [155, 0, 34]), (7, [42]), (8, [180, 0, 7]), (11, [42]), (12, [180, 0, 13]), (15, [3]), (16, [46]), (17, [27]), (18, [28]), (19, [122]), (20, [145]), (21, [84]), (22, [42]), (23, [180, 0, 13]), (26, [3]), (27, [92]), (28, [46]), (29, [4]), (30, [96]), (31, [79]), (32, [132, 2, 248]), (35, [167, 255, 224]), (38, [177])] : List (Nat × List UInt8)).all (fun x => prB x.2 ((cX11_four.data.toList.drop 0).drop x.1)) = true := by decide +kernel
theorem dX11_four_0 : decode cX11_four 0 = .ok (.bipush 24, 2) := op16 (bA_at bd03_dec_X11_0_10 0 rfl rfl) (by decide +kernel)
theorem dX11_four_2 : decode cX11_four 2 = .ok (.istore_n 2, 1) := op61 (bA_at bd03_dec_X11_0_10 1 rfl rfl)
theorem dX11_four_3 : decode cX11_four 3 = .ok (.iload_n 2, 1) := op28 (bA_at bd03_dec_X11_0_10 2 rfl rfl)
theorem dX11_four_4 : decode cX11_four 4 = .ok (.ifCond .lt 34, 3) := op155 (bA_at bd03_dec_X11_0_10 3 rfl rfl) (by decide +kernel)
theorem dX11_four_7 : decode cX11_four 7 = .ok (.aload_n 0, 1) := op42 (bA_at bd03_dec_X11_0_10 4 rfl rfl)
theorem dX11_four_8 : decode cX11_four 8 = .ok (.getfield 7, 3) := op180 (bA_at bd03_dec_X11_0_10 5 rfl rfl) rfl
theorem dX11_four_11 : decode cX11_four 11 = .ok (.aload_n 0, 1) := op42 (bA_at bd03_dec_X11_0_10 6 rfl rfl)
theorem dX11_four_12 : decode cX11_four 12 = .ok (.getfield 13, 3) := op180 (bA_at bd03_dec_X11_0_10 7 rfl rfl) rfl
theorem dX11_four_15 : decode cX11_four 15 = .ok (.iconst 0, 1) := op3 (bA_at bd03_dec_X11_0_10 8 rfl rfl)
theorem dX11_four_16 : decode cX11_four 16 = .ok (.iaload, 1) := op46 (bA_at bd03_dec_X11_0_10 9 rfl rfl)
theorem dX11_four_17 : decode cX11_four 17 = .ok (.iload_n 1, 1) := op27 (bA_at bd03_dec_X11_0_10 10 rfl rfl)
theorem dX11_four_18 : decode cX11_four 18 = .ok (.iload_n 2, 1) := op28 (bA_at bd03_dec_X11_0_10 11 rfl rfl)
theorem dX11_four_19 : decode cX11_four 19 = .ok (.ishr, 1) := op122 (bA_at bd03_dec_X11_0_10 12 rfl rfl)
theorem dX11_four_20 : decode cX11_four 20 = .ok (.i2b, 1) := op145 (bA_at bd03_dec_X11_0_10 13 rfl rfl)
theorem dX11_four_21 : decode cX11_four 21 = .ok (.bastore, 1) := op84 (bA_at bd03_dec_X11_0_10 14 rfl rfl)
theorem dX11_four_22 : decode cX11_four 22 = .ok (.aload_n 0, 1) := op42 (bA_at bd03_dec_X11_0_10 15 rfl rfl)
theorem dX11_four_23 : decode cX11_four 23 = .ok (.getfield 13, 3) := op180 (bA_at bd03_dec_X11_0_10 16 rfl rfl) rfl
theorem dX11_four_26 : decode cX11_four 26 = .ok (.iconst 0, 1) := op3 (bA_at bd03_dec_X11_0_10 17 rfl rfl)
theorem dX11_four_27 : decode cX11_four 27 = .ok (.dup2, 1) := op92 (bA_at bd03_dec_X11_0_10 18 rfl rfl)
theorem dX11_four_28 : decode cX11_four 28 = .ok (.iaload, 1) := op46 (bA_at bd03_dec_X11_0_10 19 rfl rfl)
theorem dX11_four_29 : decode cX11_four 29 = .ok (.iconst 1, 1) := op4 (bA_at bd03_dec_X11_0_10 20 rfl rfl)
theorem dX11_four_30 : decode cX11_four 30 = .ok (.iadd, 1) := op96 (bA_at bd03_dec_X11_0_10 21 rfl rfl)
theorem dX11_four_31 : decode cX11_four 31 = .ok (.iastore, 1) := op79 (bA_at bd03_dec_X11_0_10 22 rfl rfl)
theorem dX11_four_32 : decode cX11_four 32 = .ok (.iinc 2 (-8), 3) := op132 (bA_at bd03_dec_X11_0_10 23 rfl rfl) rfl (by decide +kernel)
theorem dX11_four_35 : decode cX11_four 35 = .ok (.goto (-32), 3) := op167 (bA_at bd03_dec_X11_0_10 24 rfl rfl) (by decide +kernel)
theorem dX11_four_38 : decode cX11_four 38 = .ok (.return_, 1) := op177 (bA_at bd03_dec_X11_0_10 25 rfl rfl)
theorem bd03_dec_X11_0_11 : ([(0, [42]), (1, [3]), (2, [181, 0, 97]), (5, [27]), (6, [3]), (7, [42]), (8, [180, 0, 13]), (11, [3]), (12, [46]), (13, [184, 0, 109]), (16, [154, 0, 5]), (19, [2]), (20, [172]), (21, [42]), (22, [180, 0, 13]), (25, [3]), (26, [27]), (27, [79]), (28, [27]), (29, [172])] : List (Nat × List UInt8)).all (fun x => prB x.2 ((cX11_end.data.toList.drop 0).drop x.1)) = true := by decide +kernel
theorem dX11_end_0 : decode cX11_end 0 = .ok (.aload_n 0, 1) := op42 (bA_at bd03_dec_X11_0_11 0 rfl rfl)
theorem dX11_end_1 : decode cX11_end 1 = .ok (.iconst 0, 1) := op3 (bA_at bd03_dec_X11_0_11 1 rfl rfl)
theorem dX11_end_2 : decode cX11_end 2 = .ok (.putfield 97, 3) := op181 (bA_at bd03_dec_X11_0_11 2 rfl rfl) rfl
theorem dX11_end_5 : decode cX11_end 5 = .ok (.iload_n 1, 1) := op27 (bA_at bd03_dec_X11_0_11 3 rfl rfl)
theorem dX11_end_6 : decode cX11_end 6 = .ok (.iconst 0, 1) := op3 (bA_at bd03_dec_X11_0_11 4 rfl rfl)
theorem dX11_end_7 : decode cX11_end 7 = .ok (.aload_n 0, 1) := op42 (bA_at bd03_dec_X11_0_11 5 rfl rfl)
theorem dX11_end_8 : decode cX11_end 8 = .ok (.getfield 13, 3) := op180 (bA_at bd03_dec_X11_0_11 6 rfl rfl) rfl
theorem dX11_end_11 : decode cX11_end 11 = .ok (.iconst 0, 1) := op3 (bA_at bd03_dec_X11_0_11 7 rfl rfl)
theorem dX11_end_12 : decode cX11_end 12 = .ok (.iaload, 1) := op46 (bA_at bd03_dec_X11_0_11 8 rfl rfl)
theorem dX11_end_13 : decode cX11_end 13 = .ok (.invokestatic 109, 3) := op184 (bA_at bd03_dec_X11_0_11 9 rfl rfl) rfl
theorem dX11_end_16 : decode cX11_end 16 = .ok (.ifCond .ne 5, 3) := op154 (bA_at bd03_dec_X11_0_11 10 rfl rfl) (by decide +kernel)
theorem dX11_end_19 : decode cX11_end 19 = .ok (.iconst (-1), 1) := op2 (bA_at bd03_dec_X11_0_11 11 rfl rfl)
theorem dX11_end_20 : decode cX11_end 20 = .ok (.ireturn, 1) := op172 (bA_at bd03_dec_X11_0_11 12 rfl rfl)
theorem dX11_end_21 : decode cX11_end 21 = .ok (.aload_n 0, 1) := op42 (bA_at bd03_dec_X11_0_11 13 rfl rfl)
theorem dX11_end_22 : decode cX11_end 22 = .ok (.getfield 13, 3) := op180 (bA_at bd03_dec_X11_0_11 14 rfl rfl) rfl
theorem dX11_end_25 : decode cX11_end 25 = .ok (.iconst 0, 1) := op3 (bA_at bd03_dec_X11_0_11 15 rfl rfl)
theorem dX11_end_26 : decode cX11_end 26 = .ok (.iload_n 1, 1) := op27 (bA_at bd03_dec_X11_0_11 16 rfl rfl)
theorem dX11_end_27 : decode cX11_end 27 = .ok (.iastore, 1) := op79 (bA_at bd03_dec_X11_0_11 17 rfl rfl)
theorem dX11_end_28 : decode cX11_end 28 = .ok (.iload_n 1, 1) := op27 (bA_at bd03_dec_X11_0_11 18 rfl rfl)
theorem dX11_end_29 : decode cX11_end 29 = .ok (.ireturn, 1) := op172 (bA_at bd03_dec_X11_0_11 19 rfl rfl)
theorem bd03_dec_X11_0_12 : ([(0, [42]), (1, [180, 0, 117]), (4, [42]), (5, [180, 0, 120]), (8, [162, 0, 19]), (11, [42]), (12, [180, 0, 7]), (15, [42]), (16, [180, 0, 117]), (19, [51]), (20, [17, 0, 255]), (23, [126]), (24, [167, 0, 4]), (27, [2]), (28, [172])] : List (Nat × List UInt8)).all (fun x => prB x.2 ((cX11_see.data.toList.drop 0).drop x.1)) = true := by decide +kernel
theorem dX11_see_0 : decode cX11_see 0 = .ok (.aload_n 0, 1) := op42 (bA_at bd03_dec_X11_0_12 0 rfl rfl)
theorem dX11_see_1 : decode cX11_see 1 = .ok (.getfield 117, 3) := op180 (bA_at bd03_dec_X11_0_12 1 rfl rfl) rfl
theorem dX11_see_4 : decode cX11_see 4 = .ok (.aload_n 0, 1) := op42 (bA_at bd03_dec_X11_0_12 2 rfl rfl)
theorem dX11_see_5 : decode cX11_see 5 = .ok (.getfield 120, 3) := op180 (bA_at bd03_dec_X11_0_12 3 rfl rfl) rfl
theorem dX11_see_8 : decode cX11_see 8 = .ok (.if_icmp .ge 19, 3) := op162 (bA_at bd03_dec_X11_0_12 4 rfl rfl) (by decide +kernel)
theorem dX11_see_11 : decode cX11_see 11 = .ok (.aload_n 0, 1) := op42 (bA_at bd03_dec_X11_0_12 5 rfl rfl)
theorem dX11_see_12 : decode cX11_see 12 = .ok (.getfield 7, 3) := op180 (bA_at bd03_dec_X11_0_12 6 rfl rfl) rfl
theorem dX11_see_15 : decode cX11_see 15 = .ok (.aload_n 0, 1) := op42 (bA_at bd03_dec_X11_0_12 7 rfl rfl)
theorem dX11_see_16 : decode cX11_see 16 = .ok (.getfield 117, 3) := op180 (bA_at bd03_dec_X11_0_12 8 rfl rfl) rfl
theorem dX11_see_19 : decode cX11_see 19 = .ok (.baload, 1) := op51 (bA_at bd03_dec_X11_0_12 9 rfl rfl)
theorem dX11_see_20 : decode cX11_see 20 = .ok (.sipush 255, 3) := op17 (bA_at bd03_dec_X11_0_12 10 rfl rfl) (by decide +kernel)
theorem dX11_see_23 : decode cX11_see 23 = .ok (.iand, 1) := op126 (bA_at bd03_dec_X11_0_12 11 rfl rfl)
theorem dX11_see_24 : decode cX11_see 24 = .ok (.goto 4, 3) := op167 (bA_at bd03_dec_X11_0_12 12 rfl rfl) (by decide +kernel)
theorem dX11_see_27 : decode cX11_see 27 = .ok (.iconst (-1), 1) := op2 (bA_at bd03_dec_X11_0_12 13 rfl rfl)
theorem dX11_see_28 : decode cX11_see 28 = .ok (.ireturn, 1) := op172 (bA_at bd03_dec_X11_0_12 14 rfl rfl)
theorem bd03_dec_X11_0_13 : ([(0, [42]), (1, [182, 0, 123]), (4, [16, 10]), (6, [159, 0, 12]), (9, [42]), (10, [182, 0, 123]), (13, [16, 32]), (15, [160, 0, 16]), (18, [42]), (19, [89]), (20, [180, 0, 117]), (23, [4]), (24, [96]), (25, [181, 0, 117]), (28, [167, 255, 228]), (31, [42]), (32, [42]), (33, [180, 0, 117]), (36, [181, 0, 127]), (39, [42]), (40, [182, 0, 123]), (43, [60]), (44, [42]), (45, [9]), (46, [181, 0, 130]), (49, [3]), (50, [61]), (51, [27]), (52, [156, 0, 11]), (55, [42]), (56, [3]), (57, [181, 0, 134]), (60, [167, 0, 206]), (63, [27]), (64, [16, 97]), (66, [16, 122]), (68, [184, 0, 109]), (71, [153, 0, 76]), (74, [42]), (75, [182, 0, 123]), (78, [16, 97]), (80, [16, 122]), (82, [184, 0, 109]), (85, [153, 0, 36]), (88, [42]), (89, [42]), (90, [180, 0, 130]), (93, [16, 8]), (95, [121]), (96, [42])] : List (Nat × List UInt8)).all (fun x => prB x.2 ((cX11_token.data.toList.drop 0).drop x.1)) = true := by decide +kernel
theorem dX11_token_0 : decode cX11_token 0 = .ok (.aload_n 0, 1) := op42 (bA_at bd03_dec_X11_0_13 0 rfl rfl)
theorem dX11_token_1 : decode cX11_token 1 = .ok (.invokevirtual 123, 3) := op182 (bA_at bd03_dec_X11_0_13 1 rfl rfl) rfl
theorem dX11_token_4 : decode cX11_token 4 = .ok (.bipush 10, 2) := op16 (bA_at bd03_dec_X11_0_13 2 rfl rfl) (by decide +kernel)
theorem dX11_token_6 : decode cX11_token 6 = .ok (.if_icmp .eq 12, 3) := op159 (bA_at bd03_dec_X11_0_13 3 rfl rfl) (by decide +kernel)
theorem dX11_token_9 : decode cX11_token 9 = .ok (.aload_n 0, 1) := op42 (bA_at bd03_dec_X11_0_13 4 rfl rfl)
theorem dX11_token_10 : decode cX11_token 10 = .ok (.invokevirtual 123, 3) := op182 (bA_at bd03_dec_X11_0_13 5 rfl rfl) rfl
theorem dX11_token_13 : decode cX11_token 13 = .ok (.bipush 32, 2) := op16 (bA_at bd03_dec_X11_0_13 6 rfl rfl) (by decide +kernel)
theorem dX11_token_15 : decode cX11_token 15 = .ok (.if_icmp .ne 16, 3) := op160 (bA_at bd03_dec_X11_0_13 7 rfl rfl) (by decide +kernel)
theorem dX11_token_18 : decode cX11_token 18 = .ok (.aload_n 0, 1) := op42 (bA_at bd03_dec_X11_0_13 8 rfl rfl)
theorem dX11_token_19 : decode cX11_token 19 = .ok (.dup, 1) := op89 (bA_at bd03_dec_X11_0_13 9 rfl rfl)
theorem dX11_token_20 : decode cX11_token 20 = .ok (.getfield 117, 3) := op180 (bA_at bd03_dec_X11_0_13 10 rfl rfl) rfl
theorem dX11_token_23 : decode cX11_token 23 = .ok (.iconst 1, 1) := op4 (bA_at bd03_dec_X11_0_13 11 rfl rfl)
theorem dX11_token_24 : decode cX11_token 24 = .ok (.iadd, 1) := op96 (bA_at bd03_dec_X11_0_13 12 rfl rfl)
theorem dX11_token_25 : decode cX11_token 25 = .ok (.putfield 117, 3) := op181 (bA_at bd03_dec_X11_0_13 13 rfl rfl) rfl
theorem dX11_token_28 : decode cX11_token 28 = .ok (.goto (-28), 3) := op167 (bA_at bd03_dec_X11_0_13 14 rfl rfl) (by decide +kernel)
theorem dX11_token_31 : decode cX11_token 31 = .ok (.aload_n 0, 1) := op42 (bA_at bd03_dec_X11_0_13 15 rfl rfl)
theorem dX11_token_32 : decode cX11_token 32 = .ok (.aload_n 0, 1) := op42 (bA_at bd03_dec_X11_0_13 16 rfl rfl)
theorem dX11_token_33 : decode cX11_token 33 = .ok (.getfield 117, 3) := op180 (bA_at bd03_dec_X11_0_13 17 rfl rfl) rfl
theorem dX11_token_36 : decode cX11_token 36 = .ok (.putfield 127, 3) := op181 (bA_at bd03_dec_X11_0_13 18 rfl rfl) rfl
theorem dX11_token_39 : decode cX11_token 39 = .ok (.aload_n 0, 1) := op42 (bA_at bd03_dec_X11_0_13 19 rfl rfl)
theorem dX11_token_40 : decode cX11_token 40 = .ok (.invokevirtual 123, 3) := op182 (bA_at bd03_dec_X11_0_13 20 rfl rfl) rfl
theorem dX11_token_43 : decode cX11_token 43 = .ok (.istore_n 1, 1) := op60 (bA_at bd03_dec_X11_0_13 21 rfl rfl)
theorem dX11_token_44 : decode cX11_token 44 = .ok (.aload_n 0, 1) := op42 (bA_at bd03_dec_X11_0_13 22 rfl rfl)
theorem dX11_token_45 : decode cX11_token 45 = .ok (.lconst 0, 1) := op9 (bA_at bd03_dec_X11_0_13 23 rfl rfl)
theorem dX11_token_46 : decode cX11_token 46 = .ok (.putfield 130, 3) := op181 (bA_at bd03_dec_X11_0_13 24 rfl rfl) rfl
theorem dX11_token_49 : decode cX11_token 49 = .ok (.iconst 0, 1) := op3 (bA_at bd03_dec_X11_0_13 25 rfl rfl)
theorem dX11_token_50 : decode cX11_token 50 = .ok (.istore_n 2, 1) := op61 (bA_at bd03_dec_X11_0_13 26 rfl rfl)
theorem dX11_token_51 : decode cX11_token 51 = .ok (.iload_n 1, 1) := op27 (bA_at bd03_dec_X11_0_13 27 rfl rfl)
theorem dX11_token_52 : decode cX11_token 52 = .ok (.ifCond .ge 11, 3) := op156 (bA_at bd03_dec_X11_0_13 28 rfl rfl) (by decide +kernel)
theorem dX11_token_55 : decode cX11_token 55 = .ok (.aload_n 0, 1) := op42 (bA_at bd03_dec_X11_0_13 29 rfl rfl)
theorem dX11_token_56 : decode cX11_token 56 = .ok (.iconst 0, 1) := op3 (bA_at bd03_dec_X11_0_13 30 rfl rfl)
theorem dX11_token_57 : decode cX11_token 57 = .ok (.putfield 134, 3) := op181 (bA_at bd03_dec_X11_0_13 31 rfl rfl) rfl
theorem dX11_token_60 : decode cX11_token 60 = .ok (.goto 206, 3) := op167 (bA_at bd03_dec_X11_0_13 32 rfl rfl) (by decide +kernel)
theorem dX11_token_63 : decode cX11_token 63 = .ok (.iload_n 1, 1) := op27 (bA_at bd03_dec_X11_0_13 33 rfl rfl)
theorem dX11_token_64 : decode cX11_token 64 = .ok (.bipush 97, 2) := op16 (bA_at bd03_dec_X11_0_13 34 rfl rfl) (by decide +kernel)
theorem dX11_token_66 : decode cX11_token 66 = .ok (.bipush 122, 2) := op16 (bA_at bd03_dec_X11_0_13 35 rfl rfl) (by decide +kernel)
theorem dX11_token_68 : decode cX11_token 68 = .ok (.invokestatic 109, 3) := op184 (bA_at bd03_dec_X11_0_13 36 rfl rfl) rfl
theorem dX11_token_71 : decode cX11_token 71 = .ok (.ifCond .eq 76, 3) := op153 (bA_at bd03_dec_X11_0_13 37 rfl rfl) (by decide +kernel)
theorem dX11_token_74 : decode cX11_token 74 = .ok (.aload_n 0, 1) := op42 (bA_at bd03_dec_X11_0_13 38 rfl rfl)
theorem dX11_token_75 : decode cX11_token 75 = .ok (.invokevirtual 123, 3) := op182 (bA_at bd03_dec_X11_0_13 39 rfl rfl) rfl
theorem dX11_token_78 : decode cX11_token 78 = .ok (.bipush 97, 2) := op16 (bA_at bd03_dec_X11_0_13 40 rfl rfl) (by decide +kernel)
theorem dX11_token_80 : decode cX11_token 80 = .ok (.bipush 122, 2) := op16 (bA_at bd03_dec_X11_0_13 41 rfl rfl) (by decide +kernel)
theorem dX11_token_82 : decode cX11_token 82 = .ok (.invokestatic 109, 3) := op184 (bA_at bd03_dec_X11_0_13 42 rfl rfl) rfl
theorem dX11_token_85 : decode cX11_token 85 = .ok (.ifCond .eq 36, 3) := op153 (bA_at bd03_dec_X11_0_13 43 rfl rfl) (by decide +kernel)
theorem dX11_token_88 : decode cX11_token 88 = .ok (.aload_n 0, 1) := op42 (bA_at bd03_dec_X11_0_13 44 rfl rfl)
theorem dX11_token_89 : decode cX11_token 89 = .ok (.aload_n 0, 1) := op42 (bA_at bd03_dec_X11_0_13 45 rfl rfl)
theorem dX11_token_90 : decode cX11_token 90 = .ok (.getfield 130, 3) := op180 (bA_at bd03_dec_X11_0_13 46 rfl rfl) rfl
theorem dX11_token_93 : decode cX11_token 93 = .ok (.bipush 8, 2) := op16 (bA_at bd03_dec_X11_0_13 47 rfl rfl) (by decide +kernel)
theorem dX11_token_95 : decode cX11_token 95 = .ok (.lshl, 1) := op121 (bA_at bd03_dec_X11_0_13 48 rfl rfl)
theorem dX11_token_96 : decode cX11_token 96 = .ok (.aload_n 0, 1) := op42 (bA_at bd03_dec_X11_0_13 49 rfl rfl)
theorem bd03_dec_X11_0_14 : ([(0, [182, 0, 123]), (3, [133]), (4, [129]), (5, [181, 0, 130]), (8, [42]), (9, [89]), (10, [180, 0, 117]), (13, [4]), (14, [96]), (15, [181, 0, 117]), (18, [132, 2, 1]), (21, [167, 255, 212]), (24, [42]), (25, [28]), (26, [16, 8]), (28, [164, 0, 7]), (31, [9]), (32, [167, 0, 7]), (35, [42]), (36, [180, 0, 130]), (39, [181, 0, 130]), (42, [42]), (43, [5]), (44, [181, 0, 134]), (47, [167, 0, 122]), (50, [27]), (51, [16, 48]), (53, [16, 57]), (55, [184, 0, 109]), (58, [153, 0, 86]), (61, [42]), (62, [3]), (63, [181, 0, 137]), (66, [42]), (67, [182, 0, 123]), (70, [16, 48]), (72, [16, 57]), (74, [184, 0, 109]), (77, [153, 0, 50]), (80, [42]), (81, [28]), (82, [5]), (83, [162, 0, 21]), (86, [16, 10]), (88, [42]), (89, [180, 0, 137]), (92, [104]), (93, [42]), (94, [182, 0, 123]), (97, [96])] : List (Nat × List UInt8)).all (fun x => prB x.2 ((cX11_token.data.toList.drop 97).drop x.1)) = true := by decide +kernel
theorem dX11_token_97 : decode cX11_token 97 = .ok (.invokevirtual 123, 3) := op182 (bA_at bd03_dec_X11_0_14 0 rfl rfl) rfl
theorem dX11_token_100 : decode cX11_token 100 = .ok (.i2l, 1) := op133 (bA_at bd03_dec_X11_0_14 1 rfl rfl)
theorem dX11_token_101 : decode cX11_token 101 = .ok (.lor, 1) := op129 (bA_at bd03_dec_X11_0_14 2 rfl rfl)
theorem dX11_token_102 : decode cX11_token 102 = .ok (.putfield 130, 3) := op181 (bA_at bd03_dec_X11_0_14 3 rfl rfl) rfl
theorem dX11_token_105 : decode cX11_token 105 = .ok (.aload_n 0, 1) := op42 (bA_at bd03_dec_X11_0_14 4 rfl rfl)
theorem dX11_token_106 : decode cX11_token 106 = .ok (.dup, 1) := op89 (bA_at bd03_dec_X11_0_14 5 rfl rfl)
theorem dX11_token_107 : decode cX11_token 107 = .ok (.getfield 117, 3) := op180 (bA_at bd03_dec_X11_0_14 6 rfl rfl) rfl
theorem dX11_token_110 : decode cX11_token 110 = .ok (.iconst 1, 1) := op4 (bA_at bd03_dec_X11_0_14 7 rfl rfl)
theorem dX11_token_111 : decode cX11_token 111 = .ok (.iadd, 1) := op96 (bA_at bd03_dec_X11_0_14 8 rfl rfl)
theorem dX11_token_112 : decode cX11_token 112 = .ok (.putfield 117, 3) := op181 (bA_at bd03_dec_X11_0_14 9 rfl rfl) rfl
theorem dX11_token_115 : decode cX11_token 115 = .ok (.iinc 2 1, 3) := op132 (bA_at bd03_dec_X11_0_14 10 rfl rfl) rfl (by decide +kernel)
theorem dX11_token_118 : decode cX11_token 118 = .ok (.goto (-44), 3) := op167 (bA_at bd03_dec_X11_0_14 11 rfl rfl) (by decide +kernel)
theorem dX11_token_121 : decode cX11_token 121 = .ok (.aload_n 0, 1) := op42 (bA_at bd03_dec_X11_0_14 12 rfl rfl)
theorem dX11_token_122 : decode cX11_token 122 = .ok (.iload_n 2, 1) := op28 (bA_at bd03_dec_X11_0_14 13 rfl rfl)
theorem dX11_token_123 : decode cX11_token 123 = .ok (.bipush 8, 2) := op16 (bA_at bd03_dec_X11_0_14 14 rfl rfl) (by decide +kernel)
theorem dX11_token_125 : decode cX11_token 125 = .ok (.if_icmp .le 7, 3) := op164 (bA_at bd03_dec_X11_0_14 15 rfl rfl) (by decide +kernel)
theorem dX11_token_128 : decode cX11_token 128 = .ok (.lconst 0, 1) := op9 (bA_at bd03_dec_X11_0_14 16 rfl rfl)
theorem dX11_token_129 : decode cX11_token 129 = .ok (.goto 7, 3) := op167 (bA_at bd03_dec_X11_0_14 17 rfl rfl) (by decide +kernel)
theorem dX11_token_132 : decode cX11_token 132 = .ok (.aload_n 0, 1) := op42 (bA_at bd03_dec_X11_0_14 18 rfl rfl)
theorem dX11_token_133 : decode cX11_token 133 = .ok (.getfield 130, 3) := op180 (bA_at bd03_dec_X11_0_14 19 rfl rfl) rfl
theorem dX11_token_136 : decode cX11_token 136 = .ok (.putfield 130, 3) := op181 (bA_at bd03_dec_X11_0_14 20 rfl rfl) rfl
theorem dX11_token_139 : decode cX11_token 139 = .ok (.aload_n 0, 1) := op42 (bA_at bd03_dec_X11_0_14 21 rfl rfl)
theorem dX11_token_140 : decode cX11_token 140 = .ok (.iconst 2, 1) := op5 (bA_at bd03_dec_X11_0_14 22 rfl rfl)
theorem dX11_token_141 : decode cX11_token 141 = .ok (.putfield 134, 3) := op181 (bA_at bd03_dec_X11_0_14 23 rfl rfl) rfl
theorem dX11_token_144 : decode cX11_token 144 = .ok (.goto 122, 3) := op167 (bA_at bd03_dec_X11_0_14 24 rfl rfl) (by decide +kernel)
theorem dX11_token_147 : decode cX11_token 147 = .ok (.iload_n 1, 1) := op27 (bA_at bd03_dec_X11_0_14 25 rfl rfl)
theorem dX11_token_148 : decode cX11_token 148 = .ok (.bipush 48, 2) := op16 (bA_at bd03_dec_X11_0_14 26 rfl rfl) (by decide +kernel)
theorem dX11_token_150 : decode cX11_token 150 = .ok (.bipush 57, 2) := op16 (bA_at bd03_dec_X11_0_14 27 rfl rfl) (by decide +kernel)
theorem dX11_token_152 : decode cX11_token 152 = .ok (.invokestatic 109, 3) := op184 (bA_at bd03_dec_X11_0_14 28 rfl rfl) rfl
theorem dX11_token_155 : decode cX11_token 155 = .ok (.ifCond .eq 86, 3) := op153 (bA_at bd03_dec_X11_0_14 29 rfl rfl) (by decide +kernel)
theorem dX11_token_158 : decode cX11_token 158 = .ok (.aload_n 0, 1) := op42 (bA_at bd03_dec_X11_0_14 30 rfl rfl)
theorem dX11_token_159 : decode cX11_token 159 = .ok (.iconst 0, 1) := op3 (bA_at bd03_dec_X11_0_14 31 rfl rfl)
theorem dX11_token_160 : decode cX11_token 160 = .ok (.putfield 137, 3) := op181 (bA_at bd03_dec_X11_0_14 32 rfl rfl) rfl
theorem dX11_token_163 : decode cX11_token 163 = .ok (.aload_n 0, 1) := op42 (bA_at bd03_dec_X11_0_14 33 rfl rfl)
theorem dX11_token_164 : decode cX11_token 164 = .ok (.invokevirtual 123, 3) := op182 (bA_at bd03_dec_X11_0_14 34 rfl rfl) rfl
theorem dX11_token_167 : decode cX11_token 167 = .ok (.bipush 48, 2) := op16 (bA_at bd03_dec_X11_0_14 35 rfl rfl) (by decide +kernel)
theorem dX11_token_169 : decode cX11_token 169 = .ok (.bipush 57, 2) := op16 (bA_at bd03_dec_X11_0_14 36 rfl rfl) (by decide +kernel)
theorem dX11_token_171 : decode cX11_token 171 = .ok (.invokestatic 109, 3) := op184 (bA_at bd03_dec_X11_0_14 37 rfl rfl) rfl
theorem dX11_token_174 : decode cX11_token 174 = .ok (.ifCond .eq 50, 3) := op153 (bA_at bd03_dec_X11_0_14 38 rfl rfl) (by decide +kernel)
theorem dX11_token_177 : decode cX11_token 177 = .ok (.aload_n 0, 1) := op42 (bA_at bd03_dec_X11_0_14 39 rfl rfl)
theorem dX11_token_178 : decode cX11_token 178 = .ok (.iload_n 2, 1) := op28 (bA_at bd03_dec_X11_0_14 40 rfl rfl)
theorem dX11_token_179 : decode cX11_token 179 = .ok (.iconst 2, 1) := op5 (bA_at bd03_dec_X11_0_14 41 rfl rfl)
theorem dX11_token_180 : decode cX11_token 180 = .ok (.if_icmp .ge 21, 3) := op162 (bA_at bd03_dec_X11_0_14 42 rfl rfl) (by decide +kernel)
theorem dX11_token_183 : decode cX11_token 183 = .ok (.bipush 10, 2) := op16 (bA_at bd03_dec_X11_0_14 43 rfl rfl) (by decide +kernel)
theorem dX11_token_185 : decode cX11_token 185 = .ok (.aload_n 0, 1) := op42 (bA_at bd03_dec_X11_0_14 44 rfl rfl)
theorem dX11_token_186 : decode cX11_token 186 = .ok (.getfield 137, 3) := op180 (bA_at bd03_dec_X11_0_14 45 rfl rfl) rfl
theorem dX11_token_189 : decode cX11_token 189 = .ok (.imul, 1) := op104 (bA_at bd03_dec_X11_0_14 46 rfl rfl)
theorem dX11_token_190 : decode cX11_token 190 = .ok (.aload_n 0, 1) := op42 (bA_at bd03_dec_X11_0_14 47 rfl rfl)
theorem dX11_token_191 : decode cX11_token 191 = .ok (.invokevirtual 123, 3) := op182 (bA_at bd03_dec_X11_0_14 48 rfl rfl) rfl
theorem dX11_token_194 : decode cX11_token 194 = .ok (.iadd, 1) := op96 (bA_at bd03_dec_X11_0_14 49 rfl rfl)
theorem bd03_dec_X11_0_15 : ([(0, [16, 48]), (2, [100]), (3, [167, 0, 7]), (6, [42]), (7, [180, 0, 137]), (10, [181, 0, 137]), (13, [42]), (14, [89]), (15, [180, 0, 117]), (18, [4]), (19, [96]), (20, [181, 0, 117]), (23, [132, 2, 1]), (26, [167, 255, 198]), (29, [42]), (30, [28]), (31, [5]), (32, [164, 0, 7]), (35, [4]), (36, [167, 0, 4]), (39, [6]), (40, [181, 0, 134]), (43, [167, 0, 28]), (46, [42]), (47, [89]), (48, [180, 0, 117]), (51, [4]), (52, [96]), (53, [181, 0, 117]), (56, [42]), (57, [27]), (58, [16, 59]), (60, [160, 0, 7]), (63, [7]), (64, [167, 0, 4]), (67, [4]), (68, [181, 0, 134]), (71, [177])] : List (Nat × List UInt8)).all (fun x => prB x.2 ((cX11_token.data.toList.drop 195).drop x.1)) = true := by decide +kernel
theorem dX11_token_195 : decode cX11_token 195 = .ok (.bipush 48, 2) := op16 (bA_at bd03_dec_X11_0_15 0 rfl rfl) (by decide +kernel)
theorem dX11_token_197 : decode cX11_token 197 = .ok (.isub, 1) := op100 (bA_at bd03_dec_X11_0_15 1 rfl rfl)
theorem dX11_token_198 : decode cX11_token 198 = .ok (.goto 7, 3) := op167 (bA_at bd03_dec_X11_0_15 2 rfl rfl) (by decide +kernel)
theorem dX11_token_201 : decode cX11_token 201 = .ok (.aload_n 0, 1) := op42 (bA_at bd03_dec_X11_0_15 3 rfl rfl)
theorem dX11_token_202 : decode cX11_token 202 = .ok (.getfield 137, 3) := op180 (bA_at bd03_dec_X11_0_15 4 rfl rfl) rfl
theorem dX11_token_205 : decode cX11_token 205 = .ok (.putfield 137, 3) := op181 (bA_at bd03_dec_X11_0_15 5 rfl rfl) rfl
theorem dX11_token_208 : decode cX11_token 208 = .ok (.aload_n 0, 1) := op42 (bA_at bd03_dec_X11_0_15 6 rfl rfl)
theorem dX11_token_209 : decode cX11_token 209 = .ok (.dup, 1) := op89 (bA_at bd03_dec_X11_0_15 7 rfl rfl)
theorem dX11_token_210 : decode cX11_token 210 = .ok (.getfield 117, 3) := op180 (bA_at bd03_dec_X11_0_15 8 rfl rfl) rfl
theorem dX11_token_213 : decode cX11_token 213 = .ok (.iconst 1, 1) := op4 (bA_at bd03_dec_X11_0_15 9 rfl rfl)
theorem dX11_token_214 : decode cX11_token 214 = .ok (.iadd, 1) := op96 (bA_at bd03_dec_X11_0_15 10 rfl rfl)
theorem dX11_token_215 : decode cX11_token 215 = .ok (.putfield 117, 3) := op181 (bA_at bd03_dec_X11_0_15 11 rfl rfl) rfl
theorem dX11_token_218 : decode cX11_token 218 = .ok (.iinc 2 1, 3) := op132 (bA_at bd03_dec_X11_0_15 12 rfl rfl) rfl (by decide +kernel)
theorem dX11_token_221 : decode cX11_token 221 = .ok (.goto (-58), 3) := op167 (bA_at bd03_dec_X11_0_15 13 rfl rfl) (by decide +kernel)
theorem dX11_token_224 : decode cX11_token 224 = .ok (.aload_n 0, 1) := op42 (bA_at bd03_dec_X11_0_15 14 rfl rfl)
theorem dX11_token_225 : decode cX11_token 225 = .ok (.iload_n 2, 1) := op28 (bA_at bd03_dec_X11_0_15 15 rfl rfl)
theorem dX11_token_226 : decode cX11_token 226 = .ok (.iconst 2, 1) := op5 (bA_at bd03_dec_X11_0_15 16 rfl rfl)
theorem dX11_token_227 : decode cX11_token 227 = .ok (.if_icmp .le 7, 3) := op164 (bA_at bd03_dec_X11_0_15 17 rfl rfl) (by decide +kernel)
theorem dX11_token_230 : decode cX11_token 230 = .ok (.iconst 1, 1) := op4 (bA_at bd03_dec_X11_0_15 18 rfl rfl)
theorem dX11_token_231 : decode cX11_token 231 = .ok (.goto 4, 3) := op167 (bA_at bd03_dec_X11_0_15 19 rfl rfl) (by decide +kernel)
theorem dX11_token_234 : decode cX11_token 234 = .ok (.iconst 3, 1) := op6 (bA_at bd03_dec_X11_0_15 20 rfl rfl)
theorem dX11_token_235 : decode cX11_token 235 = .ok (.putfield 134, 3) := op181 (bA_at bd03_dec_X11_0_15 21 rfl rfl) rfl
theorem dX11_token_238 : decode cX11_token 238 = .ok (.goto 28, 3) := op167 (bA_at bd03_dec_X11_0_15 22 rfl rfl) (by decide +kernel)
theorem dX11_token_241 : decode cX11_token 241 = .ok (.aload_n 0, 1) := op42 (bA_at bd03_dec_X11_0_15 23 rfl rfl)
theorem dX11_token_242 : decode cX11_token 242 = .ok (.dup, 1) := op89 (bA_at bd03_dec_X11_0_15 24 rfl rfl)
theorem dX11_token_243 : decode cX11_token 243 = .ok (.getfield 117, 3) := op180 (bA_at bd03_dec_X11_0_15 25 rfl rfl) rfl
theorem dX11_token_246 : decode cX11_token 246 = .ok (.iconst 1, 1) := op4 (bA_at bd03_dec_X11_0_15 26 rfl rfl)
theorem dX11_token_247 : decode cX11_token 247 = .ok (.iadd, 1) := op96 (bA_at bd03_dec_X11_0_15 27 rfl rfl)
theorem dX11_token_248 : decode cX11_token 248 = .ok (.putfield 117, 3) := op181 (bA_at bd03_dec_X11_0_15 28 rfl rfl) rfl
theorem dX11_token_251 : decode cX11_token 251 = .ok (.aload_n 0, 1) := op42 (bA_at bd03_dec_X11_0_15 29 rfl rfl)
theorem dX11_token_252 : decode cX11_token 252 = .ok (.iload_n 1, 1) := op27 (bA_at bd03_dec_X11_0_15 30 rfl rfl)
theorem dX11_token_253 : decode cX11_token 253 = .ok (.bipush 59, 2) := op16 (bA_at bd03_dec_X11_0_15 31 rfl rfl) (by decide +kernel)
theorem dX11_token_255 : decode cX11_token 255 = .ok (.if_icmp .ne 7, 3) := op160 (bA_at bd03_dec_X11_0_15 32 rfl rfl) (by decide +kernel)
theorem dX11_token_258 : decode cX11_token 258 = .ok (.iconst 4, 1) := op7 (bA_at bd03_dec_X11_0_15 33 rfl rfl)
theorem dX11_token_259 : decode cX11_token 259 = .ok (.goto 4, 3) := op167 (bA_at bd03_dec_X11_0_15 34 rfl rfl) (by decide +kernel)
theorem dX11_token_262 : decode cX11_token 262 = .ok (.iconst 1, 1) := op4 (bA_at bd03_dec_X11_0_15 35 rfl rfl)
theorem dX11_token_263 : decode cX11_token 263 = .ok (.putfield 134, 3) := op181 (bA_at bd03_dec_X11_0_15 36 rfl rfl) rfl
theorem dX11_token_266 : decode cX11_token 266 = .ok (.return_, 1) := op177 (bA_at bd03_dec_X11_0_15 37 rfl rfl)
theorem bd03_dec_X11_0_16 : ([(0, [42]), (1, [42]), (2, [180, 0, 127]), (5, [181, 0, 140]), (8, [3]), (9, [172])] : List (Nat × List UInt8)).all (fun x => prB x.2 ((cX11_fails.data.toList.drop 0).drop x.1)) = true := by decide +kernel
theorem dX11_fails_0 : decode cX11_fails 0 = .ok (.aload_n 0, 1) := op42 (bA_at bd03_dec_X11_0_16 0 rfl rfl)
theorem dX11_fails_1 : decode cX11_fails 1 = .ok (.aload_n 0, 1) := op42 (bA_at bd03_dec_X11_0_16 1 rfl rfl)
theorem dX11_fails_2 : decode cX11_fails 2 = .ok (.getfield 127, 3) := op180 (bA_at bd03_dec_X11_0_16 2 rfl rfl) rfl
theorem dX11_fails_5 : decode cX11_fails 5 = .ok (.putfield 140, 3) := op181 (bA_at bd03_dec_X11_0_16 3 rfl rfl) rfl
theorem dX11_fails_8 : decode cX11_fails 8 = .ok (.iconst 0, 1) := op3 (bA_at bd03_dec_X11_0_16 4 rfl rfl)
theorem dX11_fails_9 : decode cX11_fails 9 = .ok (.ireturn, 1) := op172 (bA_at bd03_dec_X11_0_16 5 rfl rfl)
theorem bd03_dec_X11_0_17 : ([(0, [42]), (1, [180, 0, 143]), (4, [153, 0, 27]), (7, [28]), (8, [42]), (9, [180, 0, 146]), (12, [161, 0, 19]), (15, [28]), (16, [42]), (17, [180, 0, 146]), (20, [160, 0, 21]), (23, [27]), (24, [42]), (25, [180, 0, 143]), (28, [162, 0, 13]), (31, [42]), (32, [27]), (33, [181, 0, 143]), (36, [42]), (37, [28]), (38, [181, 0, 146]), (41, [177])] : List (Nat × List UInt8)).all (fun x => prB x.2 ((cX11_later.data.toList.drop 0).drop x.1)) = true := by decide +kernel
theorem dX11_later_0 : decode cX11_later 0 = .ok (.aload_n 0, 1) := op42 (bA_at bd03_dec_X11_0_17 0 rfl rfl)
theorem dX11_later_1 : decode cX11_later 1 = .ok (.getfield 143, 3) := op180 (bA_at bd03_dec_X11_0_17 1 rfl rfl) rfl
theorem dX11_later_4 : decode cX11_later 4 = .ok (.ifCond .eq 27, 3) := op153 (bA_at bd03_dec_X11_0_17 2 rfl rfl) (by decide +kernel)
theorem dX11_later_7 : decode cX11_later 7 = .ok (.iload_n 2, 1) := op28 (bA_at bd03_dec_X11_0_17 3 rfl rfl)
theorem dX11_later_8 : decode cX11_later 8 = .ok (.aload_n 0, 1) := op42 (bA_at bd03_dec_X11_0_17 4 rfl rfl)
theorem dX11_later_9 : decode cX11_later 9 = .ok (.getfield 146, 3) := op180 (bA_at bd03_dec_X11_0_17 5 rfl rfl) rfl
theorem dX11_later_12 : decode cX11_later 12 = .ok (.if_icmp .lt 19, 3) := op161 (bA_at bd03_dec_X11_0_17 6 rfl rfl) (by decide +kernel)
theorem dX11_later_15 : decode cX11_later 15 = .ok (.iload_n 2, 1) := op28 (bA_at bd03_dec_X11_0_17 7 rfl rfl)
theorem dX11_later_16 : decode cX11_later 16 = .ok (.aload_n 0, 1) := op42 (bA_at bd03_dec_X11_0_17 8 rfl rfl)
theorem dX11_later_17 : decode cX11_later 17 = .ok (.getfield 146, 3) := op180 (bA_at bd03_dec_X11_0_17 9 rfl rfl) rfl
theorem dX11_later_20 : decode cX11_later 20 = .ok (.if_icmp .ne 21, 3) := op160 (bA_at bd03_dec_X11_0_17 10 rfl rfl) (by decide +kernel)
theorem dX11_later_23 : decode cX11_later 23 = .ok (.iload_n 1, 1) := op27 (bA_at bd03_dec_X11_0_17 11 rfl rfl)
theorem dX11_later_24 : decode cX11_later 24 = .ok (.aload_n 0, 1) := op42 (bA_at bd03_dec_X11_0_17 12 rfl rfl)
theorem dX11_later_25 : decode cX11_later 25 = .ok (.getfield 143, 3) := op180 (bA_at bd03_dec_X11_0_17 13 rfl rfl) rfl
theorem dX11_later_28 : decode cX11_later 28 = .ok (.if_icmp .ge 13, 3) := op162 (bA_at bd03_dec_X11_0_17 14 rfl rfl) (by decide +kernel)
theorem dX11_later_31 : decode cX11_later 31 = .ok (.aload_n 0, 1) := op42 (bA_at bd03_dec_X11_0_17 15 rfl rfl)
theorem dX11_later_32 : decode cX11_later 32 = .ok (.iload_n 1, 1) := op27 (bA_at bd03_dec_X11_0_17 16 rfl rfl)
theorem dX11_later_33 : decode cX11_later 33 = .ok (.putfield 143, 3) := op181 (bA_at bd03_dec_X11_0_17 17 rfl rfl) rfl
theorem dX11_later_36 : decode cX11_later 36 = .ok (.aload_n 0, 1) := op42 (bA_at bd03_dec_X11_0_17 18 rfl rfl)
theorem dX11_later_37 : decode cX11_later 37 = .ok (.iload_n 2, 1) := op28 (bA_at bd03_dec_X11_0_17 19 rfl rfl)
theorem dX11_later_38 : decode cX11_later 38 = .ok (.putfield 146, 3) := op181 (bA_at bd03_dec_X11_0_17 20 rfl rfl) rfl
theorem dX11_later_41 : decode cX11_later 41 = .ok (.return_, 1) := op177 (bA_at bd03_dec_X11_0_17 21 rfl rfl)
theorem bd03_dec_X11_0_18 : ([(0, [42]), (1, [180, 0, 134]), (4, [6]), (5, [159, 0, 8]), (8, [42]), (9, [182, 0, 149]), (12, [172]), (13, [42]), (14, [180, 0, 41]), (17, [27]), (18, [42]), (19, [180, 0, 137]), (22, [79]), (23, [42]), (24, [180, 0, 137]), (27, [28]), (28, [29]), (29, [184, 0, 109]), (32, [153, 0, 12]), (35, [42]), (36, [180, 0, 137]), (39, [21, 4]), (41, [160, 0, 17]), (44, [42]), (45, [5]), (46, [42]), (47, [180, 0, 127]), (50, [182, 0, 153]), (53, [42]), (54, [3]), (55, [181, 0, 157]), (58, [42]), (59, [182, 0, 161]), (62, [4]), (63, [172])] : List (Nat × List UInt8)).all (fun x => prB x.2 ((cX11_takeBut.data.toList.drop 0).drop x.1)) = true := by decide +kernel
theorem dX11_takeBut_0 : decode cX11_takeBut 0 = .ok (.aload_n 0, 1) := op42 (bA_at bd03_dec_X11_0_18 0 rfl rfl)
theorem dX11_takeBut_1 : decode cX11_takeBut 1 = .ok (.getfield 134, 3) := op180 (bA_at bd03_dec_X11_0_18 1 rfl rfl) rfl
theorem dX11_takeBut_4 : decode cX11_takeBut 4 = .ok (.iconst 3, 1) := op6 (bA_at bd03_dec_X11_0_18 2 rfl rfl)
theorem dX11_takeBut_5 : decode cX11_takeBut 5 = .ok (.if_icmp .eq 8, 3) := op159 (bA_at bd03_dec_X11_0_18 3 rfl rfl) (by decide +kernel)
theorem dX11_takeBut_8 : decode cX11_takeBut 8 = .ok (.aload_n 0, 1) := op42 (bA_at bd03_dec_X11_0_18 4 rfl rfl)
theorem dX11_takeBut_9 : decode cX11_takeBut 9 = .ok (.invokevirtual 149, 3) := op182 (bA_at bd03_dec_X11_0_18 5 rfl rfl) rfl
theorem dX11_takeBut_12 : decode cX11_takeBut 12 = .ok (.ireturn, 1) := op172 (bA_at bd03_dec_X11_0_18 6 rfl rfl)
theorem dX11_takeBut_13 : decode cX11_takeBut 13 = .ok (.aload_n 0, 1) := op42 (bA_at bd03_dec_X11_0_18 7 rfl rfl)
theorem dX11_takeBut_14 : decode cX11_takeBut 14 = .ok (.getfield 41, 3) := op180 (bA_at bd03_dec_X11_0_18 8 rfl rfl) rfl
theorem dX11_takeBut_17 : decode cX11_takeBut 17 = .ok (.iload_n 1, 1) := op27 (bA_at bd03_dec_X11_0_18 9 rfl rfl)
theorem dX11_takeBut_18 : decode cX11_takeBut 18 = .ok (.aload_n 0, 1) := op42 (bA_at bd03_dec_X11_0_18 10 rfl rfl)
theorem dX11_takeBut_19 : decode cX11_takeBut 19 = .ok (.getfield 137, 3) := op180 (bA_at bd03_dec_X11_0_18 11 rfl rfl) rfl
theorem dX11_takeBut_22 : decode cX11_takeBut 22 = .ok (.iastore, 1) := op79 (bA_at bd03_dec_X11_0_18 12 rfl rfl)
theorem dX11_takeBut_23 : decode cX11_takeBut 23 = .ok (.aload_n 0, 1) := op42 (bA_at bd03_dec_X11_0_18 13 rfl rfl)
theorem dX11_takeBut_24 : decode cX11_takeBut 24 = .ok (.getfield 137, 3) := op180 (bA_at bd03_dec_X11_0_18 14 rfl rfl) rfl
theorem dX11_takeBut_27 : decode cX11_takeBut 27 = .ok (.iload_n 2, 1) := op28 (bA_at bd03_dec_X11_0_18 15 rfl rfl)
theorem dX11_takeBut_28 : decode cX11_takeBut 28 = .ok (.iload_n 3, 1) := op29 (bA_at bd03_dec_X11_0_18 16 rfl rfl)
theorem dX11_takeBut_29 : decode cX11_takeBut 29 = .ok (.invokestatic 109, 3) := op184 (bA_at bd03_dec_X11_0_18 17 rfl rfl) rfl
theorem dX11_takeBut_32 : decode cX11_takeBut 32 = .ok (.ifCond .eq 12, 3) := op153 (bA_at bd03_dec_X11_0_18 18 rfl rfl) (by decide +kernel)
theorem dX11_takeBut_35 : decode cX11_takeBut 35 = .ok (.aload_n 0, 1) := op42 (bA_at bd03_dec_X11_0_18 19 rfl rfl)
theorem dX11_takeBut_36 : decode cX11_takeBut 36 = .ok (.getfield 137, 3) := op180 (bA_at bd03_dec_X11_0_18 20 rfl rfl) rfl
theorem dX11_takeBut_39 : decode cX11_takeBut 39 = .ok (.iload 4, 2) := op21 (bA_at bd03_dec_X11_0_18 21 rfl rfl) rfl
theorem dX11_takeBut_41 : decode cX11_takeBut 41 = .ok (.if_icmp .ne 17, 3) := op160 (bA_at bd03_dec_X11_0_18 22 rfl rfl) (by decide +kernel)
theorem dX11_takeBut_44 : decode cX11_takeBut 44 = .ok (.aload_n 0, 1) := op42 (bA_at bd03_dec_X11_0_18 23 rfl rfl)
theorem dX11_takeBut_45 : decode cX11_takeBut 45 = .ok (.iconst 2, 1) := op5 (bA_at bd03_dec_X11_0_18 24 rfl rfl)
theorem dX11_takeBut_46 : decode cX11_takeBut 46 = .ok (.aload_n 0, 1) := op42 (bA_at bd03_dec_X11_0_18 25 rfl rfl)
theorem dX11_takeBut_47 : decode cX11_takeBut 47 = .ok (.getfield 127, 3) := op180 (bA_at bd03_dec_X11_0_18 26 rfl rfl) rfl
theorem dX11_takeBut_50 : decode cX11_takeBut 50 = .ok (.invokevirtual 153, 3) := op182 (bA_at bd03_dec_X11_0_18 27 rfl rfl) rfl
theorem dX11_takeBut_53 : decode cX11_takeBut 53 = .ok (.aload_n 0, 1) := op42 (bA_at bd03_dec_X11_0_18 28 rfl rfl)
theorem dX11_takeBut_54 : decode cX11_takeBut 54 = .ok (.iconst 0, 1) := op3 (bA_at bd03_dec_X11_0_18 29 rfl rfl)
theorem dX11_takeBut_55 : decode cX11_takeBut 55 = .ok (.putfield 157, 3) := op181 (bA_at bd03_dec_X11_0_18 30 rfl rfl) rfl
theorem dX11_takeBut_58 : decode cX11_takeBut 58 = .ok (.aload_n 0, 1) := op42 (bA_at bd03_dec_X11_0_18 31 rfl rfl)
theorem dX11_takeBut_59 : decode cX11_takeBut 59 = .ok (.invokevirtual 161, 3) := op182 (bA_at bd03_dec_X11_0_18 32 rfl rfl) rfl
theorem dX11_takeBut_62 : decode cX11_takeBut 62 = .ok (.iconst 1, 1) := op4 (bA_at bd03_dec_X11_0_18 33 rfl rfl)
theorem dX11_takeBut_63 : decode cX11_takeBut 63 = .ok (.ireturn, 1) := op172 (bA_at bd03_dec_X11_0_18 34 rfl rfl)
theorem bd03_dec_X11_0_19 : ([(0, [42]), (1, [27]), (2, [28]), (3, [29]), (4, [2]), (5, [182, 0, 164]), (8, [172])] : List (Nat × List UInt8)).all (fun x => prB x.2 ((cX11_take.data.toList.drop 0).drop x.1)) = true := by decide +kernel
theorem dX11_take_0 : decode cX11_take 0 = .ok (.aload_n 0, 1) := op42 (bA_at bd03_dec_X11_0_19 0 rfl rfl)
theorem dX11_take_1 : decode cX11_take 1 = .ok (.iload_n 1, 1) := op27 (bA_at bd03_dec_X11_0_19 1 rfl rfl)
theorem dX11_take_2 : decode cX11_take 2 = .ok (.iload_n 2, 1) := op28 (bA_at bd03_dec_X11_0_19 2 rfl rfl)
theorem dX11_take_3 : decode cX11_take 3 = .ok (.iload_n 3, 1) := op29 (bA_at bd03_dec_X11_0_19 3 rfl rfl)
theorem dX11_take_4 : decode cX11_take 4 = .ok (.iconst (-1), 1) := op2 (bA_at bd03_dec_X11_0_19 4 rfl rfl)
theorem dX11_take_5 : decode cX11_take 5 = .ok (.invokevirtual 164, 3) := op182 (bA_at bd03_dec_X11_0_19 5 rfl rfl) rfl
theorem dX11_take_8 : decode cX11_take 8 = .ok (.ireturn, 1) := op172 (bA_at bd03_dec_X11_0_19 6 rfl rfl)
theorem bd03_dec_X11_0_20 : ([(0, [42]), (1, [27]), (2, [3]), (3, [16, 8]), (5, [28]), (6, [182, 0, 164]), (9, [154, 0, 5]), (12, [3]), (13, [172]), (14, [42]), (15, [42]), (16, [180, 0, 168]), (19, [42]), (20, [180, 0, 41]), (23, [27]), (24, [46]), (25, [184, 0, 171]), (28, [181, 0, 168]), (31, [4]), (32, [172])] : List (Nat × List UInt8)).all (fun x => prB x.2 ((cX11_takeHut.data.toList.drop 0).drop x.1)) = true := by decide +kernel
theorem dX11_takeHut_0 : decode cX11_takeHut 0 = .ok (.aload_n 0, 1) := op42 (bA_at bd03_dec_X11_0_20 0 rfl rfl)
theorem dX11_takeHut_1 : decode cX11_takeHut 1 = .ok (.iload_n 1, 1) := op27 (bA_at bd03_dec_X11_0_20 1 rfl rfl)
theorem dX11_takeHut_2 : decode cX11_takeHut 2 = .ok (.iconst 0, 1) := op3 (bA_at bd03_dec_X11_0_20 2 rfl rfl)
theorem dX11_takeHut_3 : decode cX11_takeHut 3 = .ok (.bipush 8, 2) := op16 (bA_at bd03_dec_X11_0_20 3 rfl rfl) (by decide +kernel)
theorem dX11_takeHut_5 : decode cX11_takeHut 5 = .ok (.iload_n 2, 1) := op28 (bA_at bd03_dec_X11_0_20 4 rfl rfl)
theorem dX11_takeHut_6 : decode cX11_takeHut 6 = .ok (.invokevirtual 164, 3) := op182 (bA_at bd03_dec_X11_0_20 5 rfl rfl) rfl
theorem dX11_takeHut_9 : decode cX11_takeHut 9 = .ok (.ifCond .ne 5, 3) := op154 (bA_at bd03_dec_X11_0_20 6 rfl rfl) (by decide +kernel)
theorem dX11_takeHut_12 : decode cX11_takeHut 12 = .ok (.iconst 0, 1) := op3 (bA_at bd03_dec_X11_0_20 7 rfl rfl)
theorem dX11_takeHut_13 : decode cX11_takeHut 13 = .ok (.ireturn, 1) := op172 (bA_at bd03_dec_X11_0_20 8 rfl rfl)
theorem dX11_takeHut_14 : decode cX11_takeHut 14 = .ok (.aload_n 0, 1) := op42 (bA_at bd03_dec_X11_0_20 9 rfl rfl)
theorem dX11_takeHut_15 : decode cX11_takeHut 15 = .ok (.aload_n 0, 1) := op42 (bA_at bd03_dec_X11_0_20 10 rfl rfl)
theorem dX11_takeHut_16 : decode cX11_takeHut 16 = .ok (.getfield 168, 3) := op180 (bA_at bd03_dec_X11_0_20 11 rfl rfl) rfl
theorem dX11_takeHut_19 : decode cX11_takeHut 19 = .ok (.aload_n 0, 1) := op42 (bA_at bd03_dec_X11_0_20 12 rfl rfl)
theorem dX11_takeHut_20 : decode cX11_takeHut 20 = .ok (.getfield 41, 3) := op180 (bA_at bd03_dec_X11_0_20 13 rfl rfl) rfl
theorem dX11_takeHut_23 : decode cX11_takeHut 23 = .ok (.iload_n 1, 1) := op27 (bA_at bd03_dec_X11_0_20 14 rfl rfl)
theorem dX11_takeHut_24 : decode cX11_takeHut 24 = .ok (.iaload, 1) := op46 (bA_at bd03_dec_X11_0_20 15 rfl rfl)
theorem dX11_takeHut_25 : decode cX11_takeHut 25 = .ok (.invokestatic 171, 3) := op184 (bA_at bd03_dec_X11_0_20 16 rfl rfl) rfl
theorem dX11_takeHut_28 : decode cX11_takeHut 28 = .ok (.putfield 168, 3) := op181 (bA_at bd03_dec_X11_0_20 17 rfl rfl) rfl
theorem dX11_takeHut_31 : decode cX11_takeHut 31 = .ok (.iconst 1, 1) := op4 (bA_at bd03_dec_X11_0_20 18 rfl rfl)
theorem dX11_takeHut_32 : decode cX11_takeHut 32 = .ok (.ireturn, 1) := op172 (bA_at bd03_dec_X11_0_20 19 rfl rfl)
theorem bd03_dec_X11_0_21 : ([(0, [42]), (1, [180, 0, 38]), (4, [27]), (5, [46]), (6, [28]), (7, [160, 0, 9]), (10, [42]), (11, [6]), (12, [29]), (13, [182, 0, 153]), (16, [177])] : List (Nat × List UInt8)).all (fun x => prB x.2 ((cX11_full.data.toList.drop 0).drop x.1)) = true := by decide +kernel
theorem dX11_full_0 : decode cX11_full 0 = .ok (.aload_n 0, 1) := op42 (bA_at bd03_dec_X11_0_21 0 rfl rfl)
theorem dX11_full_1 : decode cX11_full 1 = .ok (.getfield 38, 3) := op180 (bA_at bd03_dec_X11_0_21 1 rfl rfl) rfl
theorem dX11_full_4 : decode cX11_full 4 = .ok (.iload_n 1, 1) := op27 (bA_at bd03_dec_X11_0_21 2 rfl rfl)
theorem dX11_full_5 : decode cX11_full 5 = .ok (.iaload, 1) := op46 (bA_at bd03_dec_X11_0_21 3 rfl rfl)
theorem dX11_full_6 : decode cX11_full 6 = .ok (.iload_n 2, 1) := op28 (bA_at bd03_dec_X11_0_21 4 rfl rfl)
theorem dX11_full_7 : decode cX11_full 7 = .ok (.if_icmp .ne 9, 3) := op160 (bA_at bd03_dec_X11_0_21 5 rfl rfl) (by decide +kernel)
theorem dX11_full_10 : decode cX11_full 10 = .ok (.aload_n 0, 1) := op42 (bA_at bd03_dec_X11_0_21 6 rfl rfl)
theorem dX11_full_11 : decode cX11_full 11 = .ok (.iconst 3, 1) := op6 (bA_at bd03_dec_X11_0_21 7 rfl rfl)
theorem dX11_full_12 : decode cX11_full 12 = .ok (.iload_n 3, 1) := op29 (bA_at bd03_dec_X11_0_21 8 rfl rfl)
theorem dX11_full_13 : decode cX11_full 13 = .ok (.invokevirtual 153, 3) := op182 (bA_at bd03_dec_X11_0_21 9 rfl rfl) rfl
theorem dX11_full_16 : decode cX11_full 16 = .ok (.return_, 1) := op177 (bA_at bd03_dec_X11_0_21 10 rfl rfl)
theorem bd03_dec_X11_0_22 : ([(0, [42]), (1, [180, 0, 38]), (4, [27]), (5, [46]), (6, [62]), (7, [29]), (8, [28]), (9, [160, 0, 5]), (12, [2]), (13, [172]), (14, [42]), (15, [180, 0, 38]), (18, [27]), (19, [92]), (20, [46]), (21, [4]), (22, [96]), (23, [79]), (24, [29]), (25, [172])] : List (Nat × List UInt8)).all (fun x => prB x.2 ((cX11_further.data.toList.drop 0).drop x.1)) = true := by decide +kernel
theorem dX11_further_0 : decode cX11_further 0 = .ok (.aload_n 0, 1) := op42 (bA_at bd03_dec_X11_0_22 0 rfl rfl)
theorem dX11_further_1 : decode cX11_further 1 = .ok (.getfield 38, 3) := op180 (bA_at bd03_dec_X11_0_22 1 rfl rfl) rfl
theorem dX11_further_4 : decode cX11_further 4 = .ok (.iload_n 1, 1) := op27 (bA_at bd03_dec_X11_0_22 2 rfl rfl)
theorem dX11_further_5 : decode cX11_further 5 = .ok (.iaload, 1) := op46 (bA_at bd03_dec_X11_0_22 3 rfl rfl)
theorem dX11_further_6 : decode cX11_further 6 = .ok (.istore_n 3, 1) := op62 (bA_at bd03_dec_X11_0_22 4 rfl rfl)
theorem dX11_further_7 : decode cX11_further 7 = .ok (.iload_n 3, 1) := op29 (bA_at bd03_dec_X11_0_22 5 rfl rfl)
theorem dX11_further_8 : decode cX11_further 8 = .ok (.iload_n 2, 1) := op28 (bA_at bd03_dec_X11_0_22 6 rfl rfl)
theorem dX11_further_9 : decode cX11_further 9 = .ok (.if_icmp .ne 5, 3) := op160 (bA_at bd03_dec_X11_0_22 7 rfl rfl) (by decide +kernel)
theorem dX11_further_12 : decode cX11_further 12 = .ok (.iconst (-1), 1) := op2 (bA_at bd03_dec_X11_0_22 8 rfl rfl)
theorem dX11_further_13 : decode cX11_further 13 = .ok (.ireturn, 1) := op172 (bA_at bd03_dec_X11_0_22 9 rfl rfl)
theorem dX11_further_14 : decode cX11_further 14 = .ok (.aload_n 0, 1) := op42 (bA_at bd03_dec_X11_0_22 10 rfl rfl)
theorem dX11_further_15 : decode cX11_further 15 = .ok (.getfield 38, 3) := op180 (bA_at bd03_dec_X11_0_22 11 rfl rfl) rfl
theorem dX11_further_18 : decode cX11_further 18 = .ok (.iload_n 1, 1) := op27 (bA_at bd03_dec_X11_0_22 12 rfl rfl)
theorem dX11_further_19 : decode cX11_further 19 = .ok (.dup2, 1) := op92 (bA_at bd03_dec_X11_0_22 13 rfl rfl)
theorem dX11_further_20 : decode cX11_further 20 = .ok (.iaload, 1) := op46 (bA_at bd03_dec_X11_0_22 14 rfl rfl)
theorem dX11_further_21 : decode cX11_further 21 = .ok (.iconst 1, 1) := op4 (bA_at bd03_dec_X11_0_22 15 rfl rfl)
theorem dX11_further_22 : decode cX11_further 22 = .ok (.iadd, 1) := op96 (bA_at bd03_dec_X11_0_22 16 rfl rfl)
theorem dX11_further_23 : decode cX11_further 23 = .ok (.iastore, 1) := op79 (bA_at bd03_dec_X11_0_22 17 rfl rfl)
theorem dX11_further_24 : decode cX11_further 24 = .ok (.iload_n 3, 1) := op29 (bA_at bd03_dec_X11_0_22 18 rfl rfl)
theorem dX11_further_25 : decode cX11_further 25 = .ok (.ireturn, 1) := op172 (bA_at bd03_dec_X11_0_22 19 rfl rfl)
theorem bd03_dec_X11_0_23 : ([(0, [42]), (1, [3]), (2, [2]), (3, [182, 0, 175]), (6, [154, 0, 5]), (9, [3]), (10, [172]), (11, [42]), (12, [180, 0, 38]), (15, [27]), (16, [92]), (17, [46]), (18, [42]), (19, [180, 0, 157]), (22, [153, 0, 14]), (25, [4]), (26, [42]), (27, [180, 0, 41]), (30, [3]), (31, [46]), (32, [120]), (33, [167, 0, 4]), (36, [3]), (37, [128]), (38, [79]), (39, [4]), (40, [172])] : List (Nat × List UInt8)).all (fun x => prB x.2 ((cX11_bitLine.data.toList.drop 0).drop x.1)) = true := by decide +kernel
theorem dX11_bitLine_0 : decode cX11_bitLine 0 = .ok (.aload_n 0, 1) := op42 (bA_at bd03_dec_X11_0_23 0 rfl rfl)
theorem dX11_bitLine_1 : decode cX11_bitLine 1 = .ok (.iconst 0, 1) := op3 (bA_at bd03_dec_X11_0_23 1 rfl rfl)
theorem dX11_bitLine_2 : decode cX11_bitLine 2 = .ok (.iconst (-1), 1) := op2 (bA_at bd03_dec_X11_0_23 2 rfl rfl)
theorem dX11_bitLine_3 : decode cX11_bitLine 3 = .ok (.invokevirtual 175, 3) := op182 (bA_at bd03_dec_X11_0_23 3 rfl rfl) rfl
theorem dX11_bitLine_6 : decode cX11_bitLine 6 = .ok (.ifCond .ne 5, 3) := op154 (bA_at bd03_dec_X11_0_23 4 rfl rfl) (by decide +kernel)
theorem dX11_bitLine_9 : decode cX11_bitLine 9 = .ok (.iconst 0, 1) := op3 (bA_at bd03_dec_X11_0_23 5 rfl rfl)
theorem dX11_bitLine_10 : decode cX11_bitLine 10 = .ok (.ireturn, 1) := op172 (bA_at bd03_dec_X11_0_23 6 rfl rfl)
theorem dX11_bitLine_11 : decode cX11_bitLine 11 = .ok (.aload_n 0, 1) := op42 (bA_at bd03_dec_X11_0_23 7 rfl rfl)
theorem dX11_bitLine_12 : decode cX11_bitLine 12 = .ok (.getfield 38, 3) := op180 (bA_at bd03_dec_X11_0_23 8 rfl rfl) rfl
theorem dX11_bitLine_15 : decode cX11_bitLine 15 = .ok (.iload_n 1, 1) := op27 (bA_at bd03_dec_X11_0_23 9 rfl rfl)
theorem dX11_bitLine_16 : decode cX11_bitLine 16 = .ok (.dup2, 1) := op92 (bA_at bd03_dec_X11_0_23 10 rfl rfl)
theorem dX11_bitLine_17 : decode cX11_bitLine 17 = .ok (.iaload, 1) := op46 (bA_at bd03_dec_X11_0_23 11 rfl rfl)
theorem dX11_bitLine_18 : decode cX11_bitLine 18 = .ok (.aload_n 0, 1) := op42 (bA_at bd03_dec_X11_0_23 12 rfl rfl)
theorem dX11_bitLine_19 : decode cX11_bitLine 19 = .ok (.getfield 157, 3) := op180 (bA_at bd03_dec_X11_0_23 13 rfl rfl) rfl
theorem dX11_bitLine_22 : decode cX11_bitLine 22 = .ok (.ifCond .eq 14, 3) := op153 (bA_at bd03_dec_X11_0_23 14 rfl rfl) (by decide +kernel)
theorem dX11_bitLine_25 : decode cX11_bitLine 25 = .ok (.iconst 1, 1) := op4 (bA_at bd03_dec_X11_0_23 15 rfl rfl)
theorem dX11_bitLine_26 : decode cX11_bitLine 26 = .ok (.aload_n 0, 1) := op42 (bA_at bd03_dec_X11_0_23 16 rfl rfl)
theorem dX11_bitLine_27 : decode cX11_bitLine 27 = .ok (.getfield 41, 3) := op180 (bA_at bd03_dec_X11_0_23 17 rfl rfl) rfl
theorem dX11_bitLine_30 : decode cX11_bitLine 30 = .ok (.iconst 0, 1) := op3 (bA_at bd03_dec_X11_0_23 18 rfl rfl)
theorem dX11_bitLine_31 : decode cX11_bitLine 31 = .ok (.iaload, 1) := op46 (bA_at bd03_dec_X11_0_23 19 rfl rfl)
theorem dX11_bitLine_32 : decode cX11_bitLine 32 = .ok (.ishl, 1) := op120 (bA_at bd03_dec_X11_0_23 20 rfl rfl)
theorem dX11_bitLine_33 : decode cX11_bitLine 33 = .ok (.goto 4, 3) := op167 (bA_at bd03_dec_X11_0_23 21 rfl rfl) (by decide +kernel)
theorem dX11_bitLine_36 : decode cX11_bitLine 36 = .ok (.iconst 0, 1) := op3 (bA_at bd03_dec_X11_0_23 22 rfl rfl)
theorem dX11_bitLine_37 : decode cX11_bitLine 37 = .ok (.ior, 1) := op128 (bA_at bd03_dec_X11_0_23 23 rfl rfl)
theorem dX11_bitLine_38 : decode cX11_bitLine 38 = .ok (.iastore, 1) := op79 (bA_at bd03_dec_X11_0_23 24 rfl rfl)
theorem dX11_bitLine_39 : decode cX11_bitLine 39 = .ok (.iconst 1, 1) := op4 (bA_at bd03_dec_X11_0_23 25 rfl rfl)
theorem dX11_bitLine_40 : decode cX11_bitLine 40 = .ok (.ireturn, 1) := op172 (bA_at bd03_dec_X11_0_23 26 rfl rfl)
theorem bd03_dec_X11_0_24 : ([(0, [42]), (1, [3]), (2, [28]), (3, [29]), (4, [182, 0, 178]), (7, [154, 0, 5]), (10, [3]), (11, [172]), (12, [42]), (13, [180, 0, 38]), (16, [27]), (17, [42]), (18, [180, 0, 41]), (21, [3]), (22, [46]), (23, [79]), (24, [4]), (25, [172])] : List (Nat × List UInt8)).all (fun x => prB x.2 ((cX11_plainLine.data.toList.drop 0).drop x.1)) = true := by decide +kernel
theorem dX11_plainLine_0 : decode cX11_plainLine 0 = .ok (.aload_n 0, 1) := op42 (bA_at bd03_dec_X11_0_24 0 rfl rfl)
theorem dX11_plainLine_1 : decode cX11_plainLine 1 = .ok (.iconst 0, 1) := op3 (bA_at bd03_dec_X11_0_24 1 rfl rfl)
theorem dX11_plainLine_2 : decode cX11_plainLine 2 = .ok (.iload_n 2, 1) := op28 (bA_at bd03_dec_X11_0_24 2 rfl rfl)
theorem dX11_plainLine_3 : decode cX11_plainLine 3 = .ok (.iload_n 3, 1) := op29 (bA_at bd03_dec_X11_0_24 3 rfl rfl)
theorem dX11_plainLine_4 : decode cX11_plainLine 4 = .ok (.invokevirtual 178, 3) := op182 (bA_at bd03_dec_X11_0_24 4 rfl rfl) rfl
theorem dX11_plainLine_7 : decode cX11_plainLine 7 = .ok (.ifCond .ne 5, 3) := op154 (bA_at bd03_dec_X11_0_24 5 rfl rfl) (by decide +kernel)
theorem dX11_plainLine_10 : decode cX11_plainLine 10 = .ok (.iconst 0, 1) := op3 (bA_at bd03_dec_X11_0_24 6 rfl rfl)
theorem dX11_plainLine_11 : decode cX11_plainLine 11 = .ok (.ireturn, 1) := op172 (bA_at bd03_dec_X11_0_24 7 rfl rfl)
theorem dX11_plainLine_12 : decode cX11_plainLine 12 = .ok (.aload_n 0, 1) := op42 (bA_at bd03_dec_X11_0_24 8 rfl rfl)
theorem dX11_plainLine_13 : decode cX11_plainLine 13 = .ok (.getfield 38, 3) := op180 (bA_at bd03_dec_X11_0_24 9 rfl rfl) rfl
theorem dX11_plainLine_16 : decode cX11_plainLine 16 = .ok (.iload_n 1, 1) := op27 (bA_at bd03_dec_X11_0_24 10 rfl rfl)
theorem dX11_plainLine_17 : decode cX11_plainLine 17 = .ok (.aload_n 0, 1) := op42 (bA_at bd03_dec_X11_0_24 11 rfl rfl)
theorem dX11_plainLine_18 : decode cX11_plainLine 18 = .ok (.getfield 41, 3) := op180 (bA_at bd03_dec_X11_0_24 12 rfl rfl) rfl
theorem dX11_plainLine_21 : decode cX11_plainLine 21 = .ok (.iconst 0, 1) := op3 (bA_at bd03_dec_X11_0_24 13 rfl rfl)
theorem dX11_plainLine_22 : decode cX11_plainLine 22 = .ok (.iaload, 1) := op46 (bA_at bd03_dec_X11_0_24 14 rfl rfl)
theorem dX11_plainLine_23 : decode cX11_plainLine 23 = .ok (.iastore, 1) := op79 (bA_at bd03_dec_X11_0_24 15 rfl rfl)
theorem dX11_plainLine_24 : decode cX11_plainLine 24 = .ok (.iconst 1, 1) := op4 (bA_at bd03_dec_X11_0_24 16 rfl rfl)
theorem dX11_plainLine_25 : decode cX11_plainLine 25 = .ok (.ireturn, 1) := op172 (bA_at bd03_dec_X11_0_24 17 rfl rfl)
theorem bd03_dec_X11_0_25 : ([(0, [42]), (1, [3]), (2, [3]), (3, [16, 99]), (5, [182, 0, 178]), (8, [154, 0, 5]), (11, [3]), (12, [172]), (13, [42]), (14, [3]), (15, [16, 9]), (17, [182, 0, 181]), (20, [60]), (21, [27]), (22, [2]), (23, [159, 0, 18]), (26, [42]), (27, [180, 0, 38]), (30, [16, 7]), (32, [27]), (33, [96]), (34, [42]), (35, [180, 0, 41]), (38, [3]), (39, [46]), (40, [79]), (41, [4]), (42, [172])] : List (Nat × List UInt8)).all (fun x => prB x.2 ((cX11_hutLine.data.toList.drop 0).drop x.1)) = true := by decide +kernel
theorem dX11_hutLine_0 : decode cX11_hutLine 0 = .ok (.aload_n 0, 1) := op42 (bA_at bd03_dec_X11_0_25 0 rfl rfl)
theorem dX11_hutLine_1 : decode cX11_hutLine 1 = .ok (.iconst 0, 1) := op3 (bA_at bd03_dec_X11_0_25 1 rfl rfl)
theorem dX11_hutLine_2 : decode cX11_hutLine 2 = .ok (.iconst 0, 1) := op3 (bA_at bd03_dec_X11_0_25 2 rfl rfl)
theorem dX11_hutLine_3 : decode cX11_hutLine 3 = .ok (.bipush 99, 2) := op16 (bA_at bd03_dec_X11_0_25 3 rfl rfl) (by decide +kernel)
theorem dX11_hutLine_5 : decode cX11_hutLine 5 = .ok (.invokevirtual 178, 3) := op182 (bA_at bd03_dec_X11_0_25 4 rfl rfl) rfl
theorem dX11_hutLine_8 : decode cX11_hutLine 8 = .ok (.ifCond .ne 5, 3) := op154 (bA_at bd03_dec_X11_0_25 5 rfl rfl) (by decide +kernel)
theorem dX11_hutLine_11 : decode cX11_hutLine 11 = .ok (.iconst 0, 1) := op3 (bA_at bd03_dec_X11_0_25 6 rfl rfl)
theorem dX11_hutLine_12 : decode cX11_hutLine 12 = .ok (.ireturn, 1) := op172 (bA_at bd03_dec_X11_0_25 7 rfl rfl)
theorem dX11_hutLine_13 : decode cX11_hutLine 13 = .ok (.aload_n 0, 1) := op42 (bA_at bd03_dec_X11_0_25 8 rfl rfl)
theorem dX11_hutLine_14 : decode cX11_hutLine 14 = .ok (.iconst 0, 1) := op3 (bA_at bd03_dec_X11_0_25 9 rfl rfl)
theorem dX11_hutLine_15 : decode cX11_hutLine 15 = .ok (.bipush 9, 2) := op16 (bA_at bd03_dec_X11_0_25 10 rfl rfl) (by decide +kernel)
theorem dX11_hutLine_17 : decode cX11_hutLine 17 = .ok (.invokevirtual 181, 3) := op182 (bA_at bd03_dec_X11_0_25 11 rfl rfl) rfl
theorem dX11_hutLine_20 : decode cX11_hutLine 20 = .ok (.istore_n 1, 1) := op60 (bA_at bd03_dec_X11_0_25 12 rfl rfl)
theorem dX11_hutLine_21 : decode cX11_hutLine 21 = .ok (.iload_n 1, 1) := op27 (bA_at bd03_dec_X11_0_25 13 rfl rfl)
theorem dX11_hutLine_22 : decode cX11_hutLine 22 = .ok (.iconst (-1), 1) := op2 (bA_at bd03_dec_X11_0_25 14 rfl rfl)
theorem dX11_hutLine_23 : decode cX11_hutLine 23 = .ok (.if_icmp .eq 18, 3) := op159 (bA_at bd03_dec_X11_0_25 15 rfl rfl) (by decide +kernel)
theorem dX11_hutLine_26 : decode cX11_hutLine 26 = .ok (.aload_n 0, 1) := op42 (bA_at bd03_dec_X11_0_25 16 rfl rfl)
theorem dX11_hutLine_27 : decode cX11_hutLine 27 = .ok (.getfield 38, 3) := op180 (bA_at bd03_dec_X11_0_25 17 rfl rfl) rfl
theorem dX11_hutLine_30 : decode cX11_hutLine 30 = .ok (.bipush 7, 2) := op16 (bA_at bd03_dec_X11_0_25 18 rfl rfl) (by decide +kernel)
theorem dX11_hutLine_32 : decode cX11_hutLine 32 = .ok (.iload_n 1, 1) := op27 (bA_at bd03_dec_X11_0_25 19 rfl rfl)
theorem dX11_hutLine_33 : decode cX11_hutLine 33 = .ok (.iadd, 1) := op96 (bA_at bd03_dec_X11_0_25 20 rfl rfl)
theorem dX11_hutLine_34 : decode cX11_hutLine 34 = .ok (.aload_n 0, 1) := op42 (bA_at bd03_dec_X11_0_25 21 rfl rfl)
theorem dX11_hutLine_35 : decode cX11_hutLine 35 = .ok (.getfield 41, 3) := op180 (bA_at bd03_dec_X11_0_25 22 rfl rfl) rfl
theorem dX11_hutLine_38 : decode cX11_hutLine 38 = .ok (.iconst 0, 1) := op3 (bA_at bd03_dec_X11_0_25 23 rfl rfl)
theorem dX11_hutLine_39 : decode cX11_hutLine 39 = .ok (.iaload, 1) := op46 (bA_at bd03_dec_X11_0_25 24 rfl rfl)
theorem dX11_hutLine_40 : decode cX11_hutLine 40 = .ok (.iastore, 1) := op79 (bA_at bd03_dec_X11_0_25 25 rfl rfl)
theorem dX11_hutLine_41 : decode cX11_hutLine 41 = .ok (.iconst 1, 1) := op4 (bA_at bd03_dec_X11_0_25 26 rfl rfl)
theorem dX11_hutLine_42 : decode cX11_hutLine 42 = .ok (.ireturn, 1) := op172 (bA_at bd03_dec_X11_0_25 27 rfl rfl)
theorem bd03_dec_X11_0_26 : ([(0, [42]), (1, [3]), (2, [2]), (3, [182, 0, 175]), (6, [153, 0, 28]), (9, [42]), (10, [4]), (11, [42]), (12, [180, 0, 41]), (15, [3]), (16, [46]), (17, [182, 0, 175]), (20, [153, 0, 14]), (23, [42]), (24, [5]), (25, [4]), (26, [16, 9]), (28, [182, 0, 178]), (31, [154, 0, 5]), (34, [3]), (35, [172]), (36, [42]), (37, [180, 0, 157]), (40, [153, 0, 63]), (43, [42]), (44, [180, 0, 38]), (47, [16, 51]), (49, [16, 9]), (51, [42]), (52, [180, 0, 41]), (55, [3]), (56, [46]), (57, [104]), (58, [96]), (59, [42]), (60, [180, 0, 41]), (63, [4]), (64, [46]), (65, [96]), (66, [42]), (67, [180, 0, 41]), (70, [5]), (71, [46]), (72, [79]), (73, [42]), (74, [180, 0, 38]), (77, [16, 51]), (79, [16, 9]), (81, [42]), (82, [180, 0, 41])] : List (Nat × List UInt8)).all (fun x => prB x.2 ((cX11_wayLine.data.toList.drop 0).drop x.1)) = true := by decide +kernel
theorem dX11_wayLine_0 : decode cX11_wayLine 0 = .ok (.aload_n 0, 1) := op42 (bA_at bd03_dec_X11_0_26 0 rfl rfl)
theorem dX11_wayLine_1 : decode cX11_wayLine 1 = .ok (.iconst 0, 1) := op3 (bA_at bd03_dec_X11_0_26 1 rfl rfl)
theorem dX11_wayLine_2 : decode cX11_wayLine 2 = .ok (.iconst (-1), 1) := op2 (bA_at bd03_dec_X11_0_26 2 rfl rfl)
theorem dX11_wayLine_3 : decode cX11_wayLine 3 = .ok (.invokevirtual 175, 3) := op182 (bA_at bd03_dec_X11_0_26 3 rfl rfl) rfl
theorem dX11_wayLine_6 : decode cX11_wayLine 6 = .ok (.ifCond .eq 28, 3) := op153 (bA_at bd03_dec_X11_0_26 4 rfl rfl) (by decide +kernel)
theorem dX11_wayLine_9 : decode cX11_wayLine 9 = .ok (.aload_n 0, 1) := op42 (bA_at bd03_dec_X11_0_26 5 rfl rfl)
theorem dX11_wayLine_10 : decode cX11_wayLine 10 = .ok (.iconst 1, 1) := op4 (bA_at bd03_dec_X11_0_26 6 rfl rfl)
theorem dX11_wayLine_11 : decode cX11_wayLine 11 = .ok (.aload_n 0, 1) := op42 (bA_at bd03_dec_X11_0_26 7 rfl rfl)
theorem dX11_wayLine_12 : decode cX11_wayLine 12 = .ok (.getfield 41, 3) := op180 (bA_at bd03_dec_X11_0_26 8 rfl rfl) rfl
theorem dX11_wayLine_15 : decode cX11_wayLine 15 = .ok (.iconst 0, 1) := op3 (bA_at bd03_dec_X11_0_26 9 rfl rfl)
theorem dX11_wayLine_16 : decode cX11_wayLine 16 = .ok (.iaload, 1) := op46 (bA_at bd03_dec_X11_0_26 10 rfl rfl)
theorem dX11_wayLine_17 : decode cX11_wayLine 17 = .ok (.invokevirtual 175, 3) := op182 (bA_at bd03_dec_X11_0_26 11 rfl rfl) rfl
theorem dX11_wayLine_20 : decode cX11_wayLine 20 = .ok (.ifCond .eq 14, 3) := op153 (bA_at bd03_dec_X11_0_26 12 rfl rfl) (by decide +kernel)
theorem dX11_wayLine_23 : decode cX11_wayLine 23 = .ok (.aload_n 0, 1) := op42 (bA_at bd03_dec_X11_0_26 13 rfl rfl)
theorem dX11_wayLine_24 : decode cX11_wayLine 24 = .ok (.iconst 2, 1) := op5 (bA_at bd03_dec_X11_0_26 14 rfl rfl)
theorem dX11_wayLine_25 : decode cX11_wayLine 25 = .ok (.iconst 1, 1) := op4 (bA_at bd03_dec_X11_0_26 15 rfl rfl)
theorem dX11_wayLine_26 : decode cX11_wayLine 26 = .ok (.bipush 9, 2) := op16 (bA_at bd03_dec_X11_0_26 16 rfl rfl) (by decide +kernel)
theorem dX11_wayLine_28 : decode cX11_wayLine 28 = .ok (.invokevirtual 178, 3) := op182 (bA_at bd03_dec_X11_0_26 17 rfl rfl) rfl
theorem dX11_wayLine_31 : decode cX11_wayLine 31 = .ok (.ifCond .ne 5, 3) := op154 (bA_at bd03_dec_X11_0_26 18 rfl rfl) (by decide +kernel)
theorem dX11_wayLine_34 : decode cX11_wayLine 34 = .ok (.iconst 0, 1) := op3 (bA_at bd03_dec_X11_0_26 19 rfl rfl)
theorem dX11_wayLine_35 : decode cX11_wayLine 35 = .ok (.ireturn, 1) := op172 (bA_at bd03_dec_X11_0_26 20 rfl rfl)
theorem dX11_wayLine_36 : decode cX11_wayLine 36 = .ok (.aload_n 0, 1) := op42 (bA_at bd03_dec_X11_0_26 21 rfl rfl)
theorem dX11_wayLine_37 : decode cX11_wayLine 37 = .ok (.getfield 157, 3) := op180 (bA_at bd03_dec_X11_0_26 22 rfl rfl) rfl
theorem dX11_wayLine_40 : decode cX11_wayLine 40 = .ok (.ifCond .eq 63, 3) := op153 (bA_at bd03_dec_X11_0_26 23 rfl rfl) (by decide +kernel)
theorem dX11_wayLine_43 : decode cX11_wayLine 43 = .ok (.aload_n 0, 1) := op42 (bA_at bd03_dec_X11_0_26 24 rfl rfl)
theorem dX11_wayLine_44 : decode cX11_wayLine 44 = .ok (.getfield 38, 3) := op180 (bA_at bd03_dec_X11_0_26 25 rfl rfl) rfl
theorem dX11_wayLine_47 : decode cX11_wayLine 47 = .ok (.bipush 51, 2) := op16 (bA_at bd03_dec_X11_0_26 26 rfl rfl) (by decide +kernel)
theorem dX11_wayLine_49 : decode cX11_wayLine 49 = .ok (.bipush 9, 2) := op16 (bA_at bd03_dec_X11_0_26 27 rfl rfl) (by decide +kernel)
theorem dX11_wayLine_51 : decode cX11_wayLine 51 = .ok (.aload_n 0, 1) := op42 (bA_at bd03_dec_X11_0_26 28 rfl rfl)
theorem dX11_wayLine_52 : decode cX11_wayLine 52 = .ok (.getfield 41, 3) := op180 (bA_at bd03_dec_X11_0_26 29 rfl rfl) rfl
theorem dX11_wayLine_55 : decode cX11_wayLine 55 = .ok (.iconst 0, 1) := op3 (bA_at bd03_dec_X11_0_26 30 rfl rfl)
theorem dX11_wayLine_56 : decode cX11_wayLine 56 = .ok (.iaload, 1) := op46 (bA_at bd03_dec_X11_0_26 31 rfl rfl)
theorem dX11_wayLine_57 : decode cX11_wayLine 57 = .ok (.imul, 1) := op104 (bA_at bd03_dec_X11_0_26 32 rfl rfl)
theorem dX11_wayLine_58 : decode cX11_wayLine 58 = .ok (.iadd, 1) := op96 (bA_at bd03_dec_X11_0_26 33 rfl rfl)
theorem dX11_wayLine_59 : decode cX11_wayLine 59 = .ok (.aload_n 0, 1) := op42 (bA_at bd03_dec_X11_0_26 34 rfl rfl)
theorem dX11_wayLine_60 : decode cX11_wayLine 60 = .ok (.getfield 41, 3) := op180 (bA_at bd03_dec_X11_0_26 35 rfl rfl) rfl
theorem dX11_wayLine_63 : decode cX11_wayLine 63 = .ok (.iconst 1, 1) := op4 (bA_at bd03_dec_X11_0_26 36 rfl rfl)
theorem dX11_wayLine_64 : decode cX11_wayLine 64 = .ok (.iaload, 1) := op46 (bA_at bd03_dec_X11_0_26 37 rfl rfl)
theorem dX11_wayLine_65 : decode cX11_wayLine 65 = .ok (.iadd, 1) := op96 (bA_at bd03_dec_X11_0_26 38 rfl rfl)
theorem dX11_wayLine_66 : decode cX11_wayLine 66 = .ok (.aload_n 0, 1) := op42 (bA_at bd03_dec_X11_0_26 39 rfl rfl)
theorem dX11_wayLine_67 : decode cX11_wayLine 67 = .ok (.getfield 41, 3) := op180 (bA_at bd03_dec_X11_0_26 40 rfl rfl) rfl
theorem dX11_wayLine_70 : decode cX11_wayLine 70 = .ok (.iconst 2, 1) := op5 (bA_at bd03_dec_X11_0_26 41 rfl rfl)
theorem dX11_wayLine_71 : decode cX11_wayLine 71 = .ok (.iaload, 1) := op46 (bA_at bd03_dec_X11_0_26 42 rfl rfl)
theorem dX11_wayLine_72 : decode cX11_wayLine 72 = .ok (.iastore, 1) := op79 (bA_at bd03_dec_X11_0_26 43 rfl rfl)
theorem dX11_wayLine_73 : decode cX11_wayLine 73 = .ok (.aload_n 0, 1) := op42 (bA_at bd03_dec_X11_0_26 44 rfl rfl)
theorem dX11_wayLine_74 : decode cX11_wayLine 74 = .ok (.getfield 38, 3) := op180 (bA_at bd03_dec_X11_0_26 45 rfl rfl) rfl
theorem dX11_wayLine_77 : decode cX11_wayLine 77 = .ok (.bipush 51, 2) := op16 (bA_at bd03_dec_X11_0_26 46 rfl rfl) (by decide +kernel)
theorem dX11_wayLine_79 : decode cX11_wayLine 79 = .ok (.bipush 9, 2) := op16 (bA_at bd03_dec_X11_0_26 47 rfl rfl) (by decide +kernel)
theorem dX11_wayLine_81 : decode cX11_wayLine 81 = .ok (.aload_n 0, 1) := op42 (bA_at bd03_dec_X11_0_26 48 rfl rfl)
theorem dX11_wayLine_82 : decode cX11_wayLine 82 = .ok (.getfield 41, 3) := op180 (bA_at bd03_dec_X11_0_26 49 rfl rfl) rfl
theorem bd03_dec_X11_0_27 : ([(0, [4]), (1, [46]), (2, [104]), (3, [96]), (4, [42]), (5, [180, 0, 41]), (8, [3]), (9, [46]), (10, [96]), (11, [42]), (12, [180, 0, 41]), (15, [5]), (16, [46]), (17, [79]), (18, [4]), (19, [172])] : List (Nat × List UInt8)).all (fun x => prB x.2 ((cX11_wayLine.data.toList.drop 85).drop x.1)) = true := by decide +kernel
theorem dX11_wayLine_85 : decode cX11_wayLine 85 = .ok (.iconst 1, 1) := op4 (bA_at bd03_dec_X11_0_27 0 rfl rfl)
theorem dX11_wayLine_86 : decode cX11_wayLine 86 = .ok (.iaload, 1) := op46 (bA_at bd03_dec_X11_0_27 1 rfl rfl)
theorem dX11_wayLine_87 : decode cX11_wayLine 87 = .ok (.imul, 1) := op104 (bA_at bd03_dec_X11_0_27 2 rfl rfl)
theorem dX11_wayLine_88 : decode cX11_wayLine 88 = .ok (.iadd, 1) := op96 (bA_at bd03_dec_X11_0_27 3 rfl rfl)
theorem dX11_wayLine_89 : decode cX11_wayLine 89 = .ok (.aload_n 0, 1) := op42 (bA_at bd03_dec_X11_0_27 4 rfl rfl)
theorem dX11_wayLine_90 : decode cX11_wayLine 90 = .ok (.getfield 41, 3) := op180 (bA_at bd03_dec_X11_0_27 5 rfl rfl) rfl
theorem dX11_wayLine_93 : decode cX11_wayLine 93 = .ok (.iconst 0, 1) := op3 (bA_at bd03_dec_X11_0_27 6 rfl rfl)
theorem dX11_wayLine_94 : decode cX11_wayLine 94 = .ok (.iaload, 1) := op46 (bA_at bd03_dec_X11_0_27 7 rfl rfl)
theorem dX11_wayLine_95 : decode cX11_wayLine 95 = .ok (.iadd, 1) := op96 (bA_at bd03_dec_X11_0_27 8 rfl rfl)
theorem dX11_wayLine_96 : decode cX11_wayLine 96 = .ok (.aload_n 0, 1) := op42 (bA_at bd03_dec_X11_0_27 9 rfl rfl)
theorem dX11_wayLine_97 : decode cX11_wayLine 97 = .ok (.getfield 41, 3) := op180 (bA_at bd03_dec_X11_0_27 10 rfl rfl) rfl
theorem dX11_wayLine_100 : decode cX11_wayLine 100 = .ok (.iconst 2, 1) := op5 (bA_at bd03_dec_X11_0_27 11 rfl rfl)
theorem dX11_wayLine_101 : decode cX11_wayLine 101 = .ok (.iaload, 1) := op46 (bA_at bd03_dec_X11_0_27 12 rfl rfl)
theorem dX11_wayLine_102 : decode cX11_wayLine 102 = .ok (.iastore, 1) := op79 (bA_at bd03_dec_X11_0_27 13 rfl rfl)
theorem dX11_wayLine_103 : decode cX11_wayLine 103 = .ok (.iconst 1, 1) := op4 (bA_at bd03_dec_X11_0_27 14 rfl rfl)
theorem dX11_wayLine_104 : decode cX11_wayLine 104 = .ok (.ireturn, 1) := op172 (bA_at bd03_dec_X11_0_27 15 rfl rfl)
theorem bd03_dec_X11_0_28 : ([(0, [42]), (1, [3]), (2, [2]), (3, [182, 0, 175]), (6, [153, 0, 17]), (9, [42]), (10, [4]), (11, [42]), (12, [180, 0, 41]), (15, [3]), (16, [46]), (17, [182, 0, 175]), (20, [154, 0, 5]), (23, [3]), (24, [172]), (25, [42]), (26, [7]), (27, [7]), (28, [182, 0, 181]), (31, [60]), (32, [27]), (33, [2]), (34, [159, 0, 39]), (37, [42]), (38, [180, 0, 38]), (41, [16, 43]), (43, [5]), (44, [27]), (45, [104]), (46, [96]), (47, [42]), (48, [180, 0, 41]), (51, [3]), (52, [46]), (53, [79]), (54, [42]), (55, [180, 0, 38]), (58, [16, 43]), (60, [5]), (61, [27]), (62, [104]), (63, [96]), (64, [4]), (65, [96]), (66, [42]), (67, [180, 0, 41]), (70, [4]), (71, [46]), (72, [79]), (73, [4])] : List (Nat × List UInt8)).all (fun x => prB x.2 ((cX11_echoLine.data.toList.drop 0).drop x.1)) = true := by decide +kernel
theorem dX11_echoLine_0 : decode cX11_echoLine 0 = .ok (.aload_n 0, 1) := op42 (bA_at bd03_dec_X11_0_28 0 rfl rfl)
theorem dX11_echoLine_1 : decode cX11_echoLine 1 = .ok (.iconst 0, 1) := op3 (bA_at bd03_dec_X11_0_28 1 rfl rfl)
theorem dX11_echoLine_2 : decode cX11_echoLine 2 = .ok (.iconst (-1), 1) := op2 (bA_at bd03_dec_X11_0_28 2 rfl rfl)
theorem dX11_echoLine_3 : decode cX11_echoLine 3 = .ok (.invokevirtual 175, 3) := op182 (bA_at bd03_dec_X11_0_28 3 rfl rfl) rfl
theorem dX11_echoLine_6 : decode cX11_echoLine 6 = .ok (.ifCond .eq 17, 3) := op153 (bA_at bd03_dec_X11_0_28 4 rfl rfl) (by decide +kernel)
theorem dX11_echoLine_9 : decode cX11_echoLine 9 = .ok (.aload_n 0, 1) := op42 (bA_at bd03_dec_X11_0_28 5 rfl rfl)
theorem dX11_echoLine_10 : decode cX11_echoLine 10 = .ok (.iconst 1, 1) := op4 (bA_at bd03_dec_X11_0_28 6 rfl rfl)
theorem dX11_echoLine_11 : decode cX11_echoLine 11 = .ok (.aload_n 0, 1) := op42 (bA_at bd03_dec_X11_0_28 7 rfl rfl)
theorem dX11_echoLine_12 : decode cX11_echoLine 12 = .ok (.getfield 41, 3) := op180 (bA_at bd03_dec_X11_0_28 8 rfl rfl) rfl
theorem dX11_echoLine_15 : decode cX11_echoLine 15 = .ok (.iconst 0, 1) := op3 (bA_at bd03_dec_X11_0_28 9 rfl rfl)
theorem dX11_echoLine_16 : decode cX11_echoLine 16 = .ok (.iaload, 1) := op46 (bA_at bd03_dec_X11_0_28 10 rfl rfl)
theorem dX11_echoLine_17 : decode cX11_echoLine 17 = .ok (.invokevirtual 175, 3) := op182 (bA_at bd03_dec_X11_0_28 11 rfl rfl) rfl
theorem dX11_echoLine_20 : decode cX11_echoLine 20 = .ok (.ifCond .ne 5, 3) := op154 (bA_at bd03_dec_X11_0_28 12 rfl rfl) (by decide +kernel)
theorem dX11_echoLine_23 : decode cX11_echoLine 23 = .ok (.iconst 0, 1) := op3 (bA_at bd03_dec_X11_0_28 13 rfl rfl)
theorem dX11_echoLine_24 : decode cX11_echoLine 24 = .ok (.ireturn, 1) := op172 (bA_at bd03_dec_X11_0_28 14 rfl rfl)
theorem dX11_echoLine_25 : decode cX11_echoLine 25 = .ok (.aload_n 0, 1) := op42 (bA_at bd03_dec_X11_0_28 15 rfl rfl)
theorem dX11_echoLine_26 : decode cX11_echoLine 26 = .ok (.iconst 4, 1) := op7 (bA_at bd03_dec_X11_0_28 16 rfl rfl)
theorem dX11_echoLine_27 : decode cX11_echoLine 27 = .ok (.iconst 4, 1) := op7 (bA_at bd03_dec_X11_0_28 17 rfl rfl)
theorem dX11_echoLine_28 : decode cX11_echoLine 28 = .ok (.invokevirtual 181, 3) := op182 (bA_at bd03_dec_X11_0_28 18 rfl rfl) rfl
theorem dX11_echoLine_31 : decode cX11_echoLine 31 = .ok (.istore_n 1, 1) := op60 (bA_at bd03_dec_X11_0_28 19 rfl rfl)
theorem dX11_echoLine_32 : decode cX11_echoLine 32 = .ok (.iload_n 1, 1) := op27 (bA_at bd03_dec_X11_0_28 20 rfl rfl)
theorem dX11_echoLine_33 : decode cX11_echoLine 33 = .ok (.iconst (-1), 1) := op2 (bA_at bd03_dec_X11_0_28 21 rfl rfl)
theorem dX11_echoLine_34 : decode cX11_echoLine 34 = .ok (.if_icmp .eq 39, 3) := op159 (bA_at bd03_dec_X11_0_28 22 rfl rfl) (by decide +kernel)
theorem dX11_echoLine_37 : decode cX11_echoLine 37 = .ok (.aload_n 0, 1) := op42 (bA_at bd03_dec_X11_0_28 23 rfl rfl)
theorem dX11_echoLine_38 : decode cX11_echoLine 38 = .ok (.getfield 38, 3) := op180 (bA_at bd03_dec_X11_0_28 24 rfl rfl) rfl
theorem dX11_echoLine_41 : decode cX11_echoLine 41 = .ok (.bipush 43, 2) := op16 (bA_at bd03_dec_X11_0_28 25 rfl rfl) (by decide +kernel)
theorem dX11_echoLine_43 : decode cX11_echoLine 43 = .ok (.iconst 2, 1) := op5 (bA_at bd03_dec_X11_0_28 26 rfl rfl)
theorem dX11_echoLine_44 : decode cX11_echoLine 44 = .ok (.iload_n 1, 1) := op27 (bA_at bd03_dec_X11_0_28 27 rfl rfl)
theorem dX11_echoLine_45 : decode cX11_echoLine 45 = .ok (.imul, 1) := op104 (bA_at bd03_dec_X11_0_28 28 rfl rfl)
theorem dX11_echoLine_46 : decode cX11_echoLine 46 = .ok (.iadd, 1) := op96 (bA_at bd03_dec_X11_0_28 29 rfl rfl)
theorem dX11_echoLine_47 : decode cX11_echoLine 47 = .ok (.aload_n 0, 1) := op42 (bA_at bd03_dec_X11_0_28 30 rfl rfl)
theorem dX11_echoLine_48 : decode cX11_echoLine 48 = .ok (.getfield 41, 3) := op180 (bA_at bd03_dec_X11_0_28 31 rfl rfl) rfl
theorem dX11_echoLine_51 : decode cX11_echoLine 51 = .ok (.iconst 0, 1) := op3 (bA_at bd03_dec_X11_0_28 32 rfl rfl)
theorem dX11_echoLine_52 : decode cX11_echoLine 52 = .ok (.iaload, 1) := op46 (bA_at bd03_dec_X11_0_28 33 rfl rfl)
theorem dX11_echoLine_53 : decode cX11_echoLine 53 = .ok (.iastore, 1) := op79 (bA_at bd03_dec_X11_0_28 34 rfl rfl)
theorem dX11_echoLine_54 : decode cX11_echoLine 54 = .ok (.aload_n 0, 1) := op42 (bA_at bd03_dec_X11_0_28 35 rfl rfl)
theorem dX11_echoLine_55 : decode cX11_echoLine 55 = .ok (.getfield 38, 3) := op180 (bA_at bd03_dec_X11_0_28 36 rfl rfl) rfl
theorem dX11_echoLine_58 : decode cX11_echoLine 58 = .ok (.bipush 43, 2) := op16 (bA_at bd03_dec_X11_0_28 37 rfl rfl) (by decide +kernel)
theorem dX11_echoLine_60 : decode cX11_echoLine 60 = .ok (.iconst 2, 1) := op5 (bA_at bd03_dec_X11_0_28 38 rfl rfl)
theorem dX11_echoLine_61 : decode cX11_echoLine 61 = .ok (.iload_n 1, 1) := op27 (bA_at bd03_dec_X11_0_28 39 rfl rfl)
theorem dX11_echoLine_62 : decode cX11_echoLine 62 = .ok (.imul, 1) := op104 (bA_at bd03_dec_X11_0_28 40 rfl rfl)
theorem dX11_echoLine_63 : decode cX11_echoLine 63 = .ok (.iadd, 1) := op96 (bA_at bd03_dec_X11_0_28 41 rfl rfl)
theorem dX11_echoLine_64 : decode cX11_echoLine 64 = .ok (.iconst 1, 1) := op4 (bA_at bd03_dec_X11_0_28 42 rfl rfl)
theorem dX11_echoLine_65 : decode cX11_echoLine 65 = .ok (.iadd, 1) := op96 (bA_at bd03_dec_X11_0_28 43 rfl rfl)
theorem dX11_echoLine_66 : decode cX11_echoLine 66 = .ok (.aload_n 0, 1) := op42 (bA_at bd03_dec_X11_0_28 44 rfl rfl)
theorem dX11_echoLine_67 : decode cX11_echoLine 67 = .ok (.getfield 41, 3) := op180 (bA_at bd03_dec_X11_0_28 45 rfl rfl) rfl
theorem dX11_echoLine_70 : decode cX11_echoLine 70 = .ok (.iconst 1, 1) := op4 (bA_at bd03_dec_X11_0_28 46 rfl rfl)
theorem dX11_echoLine_71 : decode cX11_echoLine 71 = .ok (.iaload, 1) := op46 (bA_at bd03_dec_X11_0_28 47 rfl rfl)
theorem dX11_echoLine_72 : decode cX11_echoLine 72 = .ok (.iastore, 1) := op79 (bA_at bd03_dec_X11_0_28 48 rfl rfl)
theorem dX11_echoLine_73 : decode cX11_echoLine 73 = .ok (.iconst 1, 1) := op4 (bA_at bd03_dec_X11_0_28 49 rfl rfl)
theorem bd03_dec_X11_0_29 : ([(0, [172])] : List (Nat × List UInt8)).all (fun x => prB x.2 ((cX11_echoLine.data.toList.drop 74).drop x.1)) = true := by decide +kernel
theorem dX11_echoLine_74 : decode cX11_echoLine 74 = .ok (.ireturn, 1) := op172 (bA_at bd03_dec_X11_0_29 0 rfl rfl)
theorem bd03_dec_X11_0_30 : ([(0, [42]), (1, [3]), (2, [2]), (3, [182, 0, 175]), (6, [153, 0, 14]), (9, [42]), (10, [4]), (11, [3]), (12, [16, 9]), (14, [182, 0, 178]), (17, [154, 0, 5]), (20, [3]), (21, [172]), (22, [42]), (23, [180, 0, 157]), (26, [153, 0, 23]), (29, [42]), (30, [180, 0, 38]), (33, [16, 16]), (35, [42]), (36, [180, 0, 41]), (39, [3]), (40, [46]), (41, [96]), (42, [42]), (43, [180, 0, 41]), (46, [4]), (47, [46]), (48, [79]), (49, [4]), (50, [172])] : List (Nat × List UInt8)).all (fun x => prB x.2 ((cX11_ladderLine.data.toList.drop 0).drop x.1)) = true := by decide +kernel
theorem dX11_ladderLine_0 : decode cX11_ladderLine 0 = .ok (.aload_n 0, 1) := op42 (bA_at bd03_dec_X11_0_30 0 rfl rfl)
theorem dX11_ladderLine_1 : decode cX11_ladderLine 1 = .ok (.iconst 0, 1) := op3 (bA_at bd03_dec_X11_0_30 1 rfl rfl)
theorem dX11_ladderLine_2 : decode cX11_ladderLine 2 = .ok (.iconst (-1), 1) := op2 (bA_at bd03_dec_X11_0_30 2 rfl rfl)
theorem dX11_ladderLine_3 : decode cX11_ladderLine 3 = .ok (.invokevirtual 175, 3) := op182 (bA_at bd03_dec_X11_0_30 3 rfl rfl) rfl
theorem dX11_ladderLine_6 : decode cX11_ladderLine 6 = .ok (.ifCond .eq 14, 3) := op153 (bA_at bd03_dec_X11_0_30 4 rfl rfl) (by decide +kernel)
theorem dX11_ladderLine_9 : decode cX11_ladderLine 9 = .ok (.aload_n 0, 1) := op42 (bA_at bd03_dec_X11_0_30 5 rfl rfl)
theorem dX11_ladderLine_10 : decode cX11_ladderLine 10 = .ok (.iconst 1, 1) := op4 (bA_at bd03_dec_X11_0_30 6 rfl rfl)
theorem dX11_ladderLine_11 : decode cX11_ladderLine 11 = .ok (.iconst 0, 1) := op3 (bA_at bd03_dec_X11_0_30 7 rfl rfl)
theorem dX11_ladderLine_12 : decode cX11_ladderLine 12 = .ok (.bipush 9, 2) := op16 (bA_at bd03_dec_X11_0_30 8 rfl rfl) (by decide +kernel)
theorem dX11_ladderLine_14 : decode cX11_ladderLine 14 = .ok (.invokevirtual 178, 3) := op182 (bA_at bd03_dec_X11_0_30 9 rfl rfl) rfl
theorem dX11_ladderLine_17 : decode cX11_ladderLine 17 = .ok (.ifCond .ne 5, 3) := op154 (bA_at bd03_dec_X11_0_30 10 rfl rfl) (by decide +kernel)
theorem dX11_ladderLine_20 : decode cX11_ladderLine 20 = .ok (.iconst 0, 1) := op3 (bA_at bd03_dec_X11_0_30 11 rfl rfl)
theorem dX11_ladderLine_21 : decode cX11_ladderLine 21 = .ok (.ireturn, 1) := op172 (bA_at bd03_dec_X11_0_30 12 rfl rfl)
theorem dX11_ladderLine_22 : decode cX11_ladderLine 22 = .ok (.aload_n 0, 1) := op42 (bA_at bd03_dec_X11_0_30 13 rfl rfl)
theorem dX11_ladderLine_23 : decode cX11_ladderLine 23 = .ok (.getfield 157, 3) := op180 (bA_at bd03_dec_X11_0_30 14 rfl rfl) rfl
theorem dX11_ladderLine_26 : decode cX11_ladderLine 26 = .ok (.ifCond .eq 23, 3) := op153 (bA_at bd03_dec_X11_0_30 15 rfl rfl) (by decide +kernel)
theorem dX11_ladderLine_29 : decode cX11_ladderLine 29 = .ok (.aload_n 0, 1) := op42 (bA_at bd03_dec_X11_0_30 16 rfl rfl)
theorem dX11_ladderLine_30 : decode cX11_ladderLine 30 = .ok (.getfield 38, 3) := op180 (bA_at bd03_dec_X11_0_30 17 rfl rfl) rfl
theorem dX11_ladderLine_33 : decode cX11_ladderLine 33 = .ok (.bipush 16, 2) := op16 (bA_at bd03_dec_X11_0_30 18 rfl rfl) (by decide +kernel)
theorem dX11_ladderLine_35 : decode cX11_ladderLine 35 = .ok (.aload_n 0, 1) := op42 (bA_at bd03_dec_X11_0_30 19 rfl rfl)
theorem dX11_ladderLine_36 : decode cX11_ladderLine 36 = .ok (.getfield 41, 3) := op180 (bA_at bd03_dec_X11_0_30 20 rfl rfl) rfl
theorem dX11_ladderLine_39 : decode cX11_ladderLine 39 = .ok (.iconst 0, 1) := op3 (bA_at bd03_dec_X11_0_30 21 rfl rfl)
theorem dX11_ladderLine_40 : decode cX11_ladderLine 40 = .ok (.iaload, 1) := op46 (bA_at bd03_dec_X11_0_30 22 rfl rfl)
theorem dX11_ladderLine_41 : decode cX11_ladderLine 41 = .ok (.iadd, 1) := op96 (bA_at bd03_dec_X11_0_30 23 rfl rfl)
theorem dX11_ladderLine_42 : decode cX11_ladderLine 42 = .ok (.aload_n 0, 1) := op42 (bA_at bd03_dec_X11_0_30 24 rfl rfl)
theorem dX11_ladderLine_43 : decode cX11_ladderLine 43 = .ok (.getfield 41, 3) := op180 (bA_at bd03_dec_X11_0_30 25 rfl rfl) rfl
theorem dX11_ladderLine_46 : decode cX11_ladderLine 46 = .ok (.iconst 1, 1) := op4 (bA_at bd03_dec_X11_0_30 26 rfl rfl)
theorem dX11_ladderLine_47 : decode cX11_ladderLine 47 = .ok (.iaload, 1) := op46 (bA_at bd03_dec_X11_0_30 27 rfl rfl)
theorem dX11_ladderLine_48 : decode cX11_ladderLine 48 = .ok (.iastore, 1) := op79 (bA_at bd03_dec_X11_0_30 28 rfl rfl)
theorem dX11_ladderLine_49 : decode cX11_ladderLine 49 = .ok (.iconst 1, 1) := op4 (bA_at bd03_dec_X11_0_30 29 rfl rfl)
theorem dX11_ladderLine_50 : decode cX11_ladderLine 50 = .ok (.ireturn, 1) := op172 (bA_at bd03_dec_X11_0_30 30 rfl rfl)
theorem bd03_dec_X11_0_31 : ([(0, [42]), (1, [3]), (2, [2]), (3, [182, 0, 175]), (6, [153, 0, 14]), (9, [42]), (10, [4]), (11, [3]), (12, [16, 9]), (14, [182, 0, 178]), (17, [154, 0, 5]), (20, [3]), (21, [172]), (22, [42]), (23, [4]), (24, [16, 6]), (26, [182, 0, 181]), (29, [60]), (30, [27]), (31, [2]), (32, [159, 0, 33]), (35, [42]), (36, [180, 0, 38]), (39, [16, 25]), (41, [27]), (42, [96]), (43, [42]), (44, [180, 0, 41]), (47, [3]), (48, [46]), (49, [79]), (50, [42]), (51, [180, 0, 38]), (54, [16, 31]), (56, [27]), (57, [96]), (58, [42]), (59, [180, 0, 41]), (62, [4]), (63, [46]), (64, [79]), (65, [4]), (66, [172])] : List (Nat × List UInt8)).all (fun x => prB x.2 ((cX11_singerLine.data.toList.drop 0).drop x.1)) = true := by decide +kernel
theorem dX11_singerLine_0 : decode cX11_singerLine 0 = .ok (.aload_n 0, 1) := op42 (bA_at bd03_dec_X11_0_31 0 rfl rfl)
theorem dX11_singerLine_1 : decode cX11_singerLine 1 = .ok (.iconst 0, 1) := op3 (bA_at bd03_dec_X11_0_31 1 rfl rfl)
theorem dX11_singerLine_2 : decode cX11_singerLine 2 = .ok (.iconst (-1), 1) := op2 (bA_at bd03_dec_X11_0_31 2 rfl rfl)
theorem dX11_singerLine_3 : decode cX11_singerLine 3 = .ok (.invokevirtual 175, 3) := op182 (bA_at bd03_dec_X11_0_31 3 rfl rfl) rfl
theorem dX11_singerLine_6 : decode cX11_singerLine 6 = .ok (.ifCond .eq 14, 3) := op153 (bA_at bd03_dec_X11_0_31 4 rfl rfl) (by decide +kernel)
theorem dX11_singerLine_9 : decode cX11_singerLine 9 = .ok (.aload_n 0, 1) := op42 (bA_at bd03_dec_X11_0_31 5 rfl rfl)
theorem dX11_singerLine_10 : decode cX11_singerLine 10 = .ok (.iconst 1, 1) := op4 (bA_at bd03_dec_X11_0_31 6 rfl rfl)
theorem dX11_singerLine_11 : decode cX11_singerLine 11 = .ok (.iconst 0, 1) := op3 (bA_at bd03_dec_X11_0_31 7 rfl rfl)
theorem dX11_singerLine_12 : decode cX11_singerLine 12 = .ok (.bipush 9, 2) := op16 (bA_at bd03_dec_X11_0_31 8 rfl rfl) (by decide +kernel)
theorem dX11_singerLine_14 : decode cX11_singerLine 14 = .ok (.invokevirtual 178, 3) := op182 (bA_at bd03_dec_X11_0_31 9 rfl rfl) rfl
theorem dX11_singerLine_17 : decode cX11_singerLine 17 = .ok (.ifCond .ne 5, 3) := op154 (bA_at bd03_dec_X11_0_31 10 rfl rfl) (by decide +kernel)
theorem dX11_singerLine_20 : decode cX11_singerLine 20 = .ok (.iconst 0, 1) := op3 (bA_at bd03_dec_X11_0_31 11 rfl rfl)
theorem dX11_singerLine_21 : decode cX11_singerLine 21 = .ok (.ireturn, 1) := op172 (bA_at bd03_dec_X11_0_31 12 rfl rfl)
theorem dX11_singerLine_22 : decode cX11_singerLine 22 = .ok (.aload_n 0, 1) := op42 (bA_at bd03_dec_X11_0_31 13 rfl rfl)
theorem dX11_singerLine_23 : decode cX11_singerLine 23 = .ok (.iconst 1, 1) := op4 (bA_at bd03_dec_X11_0_31 14 rfl rfl)
theorem dX11_singerLine_24 : decode cX11_singerLine 24 = .ok (.bipush 6, 2) := op16 (bA_at bd03_dec_X11_0_31 15 rfl rfl) (by decide +kernel)
theorem dX11_singerLine_26 : decode cX11_singerLine 26 = .ok (.invokevirtual 181, 3) := op182 (bA_at bd03_dec_X11_0_31 16 rfl rfl) rfl
theorem dX11_singerLine_29 : decode cX11_singerLine 29 = .ok (.istore_n 1, 1) := op60 (bA_at bd03_dec_X11_0_31 17 rfl rfl)
theorem dX11_singerLine_30 : decode cX11_singerLine 30 = .ok (.iload_n 1, 1) := op27 (bA_at bd03_dec_X11_0_31 18 rfl rfl)
theorem dX11_singerLine_31 : decode cX11_singerLine 31 = .ok (.iconst (-1), 1) := op2 (bA_at bd03_dec_X11_0_31 19 rfl rfl)
theorem dX11_singerLine_32 : decode cX11_singerLine 32 = .ok (.if_icmp .eq 33, 3) := op159 (bA_at bd03_dec_X11_0_31 20 rfl rfl) (by decide +kernel)
theorem dX11_singerLine_35 : decode cX11_singerLine 35 = .ok (.aload_n 0, 1) := op42 (bA_at bd03_dec_X11_0_31 21 rfl rfl)
theorem dX11_singerLine_36 : decode cX11_singerLine 36 = .ok (.getfield 38, 3) := op180 (bA_at bd03_dec_X11_0_31 22 rfl rfl) rfl
theorem dX11_singerLine_39 : decode cX11_singerLine 39 = .ok (.bipush 25, 2) := op16 (bA_at bd03_dec_X11_0_31 23 rfl rfl) (by decide +kernel)
theorem dX11_singerLine_41 : decode cX11_singerLine 41 = .ok (.iload_n 1, 1) := op27 (bA_at bd03_dec_X11_0_31 24 rfl rfl)
theorem dX11_singerLine_42 : decode cX11_singerLine 42 = .ok (.iadd, 1) := op96 (bA_at bd03_dec_X11_0_31 25 rfl rfl)
theorem dX11_singerLine_43 : decode cX11_singerLine 43 = .ok (.aload_n 0, 1) := op42 (bA_at bd03_dec_X11_0_31 26 rfl rfl)
theorem dX11_singerLine_44 : decode cX11_singerLine 44 = .ok (.getfield 41, 3) := op180 (bA_at bd03_dec_X11_0_31 27 rfl rfl) rfl
theorem dX11_singerLine_47 : decode cX11_singerLine 47 = .ok (.iconst 0, 1) := op3 (bA_at bd03_dec_X11_0_31 28 rfl rfl)
theorem dX11_singerLine_48 : decode cX11_singerLine 48 = .ok (.iaload, 1) := op46 (bA_at bd03_dec_X11_0_31 29 rfl rfl)
theorem dX11_singerLine_49 : decode cX11_singerLine 49 = .ok (.iastore, 1) := op79 (bA_at bd03_dec_X11_0_31 30 rfl rfl)
theorem dX11_singerLine_50 : decode cX11_singerLine 50 = .ok (.aload_n 0, 1) := op42 (bA_at bd03_dec_X11_0_31 31 rfl rfl)
theorem dX11_singerLine_51 : decode cX11_singerLine 51 = .ok (.getfield 38, 3) := op180 (bA_at bd03_dec_X11_0_31 32 rfl rfl) rfl
theorem dX11_singerLine_54 : decode cX11_singerLine 54 = .ok (.bipush 31, 2) := op16 (bA_at bd03_dec_X11_0_31 33 rfl rfl) (by decide +kernel)
theorem dX11_singerLine_56 : decode cX11_singerLine 56 = .ok (.iload_n 1, 1) := op27 (bA_at bd03_dec_X11_0_31 34 rfl rfl)
theorem dX11_singerLine_57 : decode cX11_singerLine 57 = .ok (.iadd, 1) := op96 (bA_at bd03_dec_X11_0_31 35 rfl rfl)
theorem dX11_singerLine_58 : decode cX11_singerLine 58 = .ok (.aload_n 0, 1) := op42 (bA_at bd03_dec_X11_0_31 36 rfl rfl)
theorem dX11_singerLine_59 : decode cX11_singerLine 59 = .ok (.getfield 41, 3) := op180 (bA_at bd03_dec_X11_0_31 37 rfl rfl) rfl
theorem dX11_singerLine_62 : decode cX11_singerLine 62 = .ok (.iconst 1, 1) := op4 (bA_at bd03_dec_X11_0_31 38 rfl rfl)
theorem dX11_singerLine_63 : decode cX11_singerLine 63 = .ok (.iaload, 1) := op46 (bA_at bd03_dec_X11_0_31 39 rfl rfl)
theorem dX11_singerLine_64 : decode cX11_singerLine 64 = .ok (.iastore, 1) := op79 (bA_at bd03_dec_X11_0_31 40 rfl rfl)
theorem dX11_singerLine_65 : decode cX11_singerLine 65 = .ok (.iconst 1, 1) := op4 (bA_at bd03_dec_X11_0_31 41 rfl rfl)
theorem dX11_singerLine_66 : decode cX11_singerLine 66 = .ok (.ireturn, 1) := op172 (bA_at bd03_dec_X11_0_31 42 rfl rfl)
theorem bd03_dec_X11_0_32 : ([(0, [42]), (1, [3]), (2, [3]), (3, [8]), (4, [182, 0, 178]), (7, [153, 0, 13]), (10, [42]), (11, [4]), (12, [3]), (13, [7]), (14, [182, 0, 178]), (17, [154, 0, 5]), (20, [3]), (21, [172]), (22, [42]), (23, [42]), (24, [180, 0, 184]), (27, [42]), (28, [180, 0, 41]), (31, [3]), (32, [46]), (33, [184, 0, 171]), (36, [181, 0, 184]), (39, [42]), (40, [180, 0, 157]), (43, [153, 0, 28]), (46, [42]), (47, [180, 0, 38]), (50, [16, 37]), (52, [42]), (53, [180, 0, 41]), (56, [3]), (57, [46]), (58, [96]), (59, [92]), (60, [46]), (61, [4]), (62, [42]), (63, [180, 0, 41]), (66, [4]), (67, [46]), (68, [120]), (69, [128]), (70, [79]), (71, [4]), (72, [172])] : List (Nat × List UInt8)).all (fun x => prB x.2 ((cX11_knowsLine.data.toList.drop 0).drop x.1)) = true := by decide +kernel
theorem dX11_knowsLine_0 : decode cX11_knowsLine 0 = .ok (.aload_n 0, 1) := op42 (bA_at bd03_dec_X11_0_32 0 rfl rfl)
theorem dX11_knowsLine_1 : decode cX11_knowsLine 1 = .ok (.iconst 0, 1) := op3 (bA_at bd03_dec_X11_0_32 1 rfl rfl)
theorem dX11_knowsLine_2 : decode cX11_knowsLine 2 = .ok (.iconst 0, 1) := op3 (bA_at bd03_dec_X11_0_32 2 rfl rfl)
theorem dX11_knowsLine_3 : decode cX11_knowsLine 3 = .ok (.iconst 5, 1) := op8 (bA_at bd03_dec_X11_0_32 3 rfl rfl)
theorem dX11_knowsLine_4 : decode cX11_knowsLine 4 = .ok (.invokevirtual 178, 3) := op182 (bA_at bd03_dec_X11_0_32 4 rfl rfl) rfl
theorem dX11_knowsLine_7 : decode cX11_knowsLine 7 = .ok (.ifCond .eq 13, 3) := op153 (bA_at bd03_dec_X11_0_32 5 rfl rfl) (by decide +kernel)
theorem dX11_knowsLine_10 : decode cX11_knowsLine 10 = .ok (.aload_n 0, 1) := op42 (bA_at bd03_dec_X11_0_32 6 rfl rfl)
theorem dX11_knowsLine_11 : decode cX11_knowsLine 11 = .ok (.iconst 1, 1) := op4 (bA_at bd03_dec_X11_0_32 7 rfl rfl)
theorem dX11_knowsLine_12 : decode cX11_knowsLine 12 = .ok (.iconst 0, 1) := op3 (bA_at bd03_dec_X11_0_32 8 rfl rfl)
theorem dX11_knowsLine_13 : decode cX11_knowsLine 13 = .ok (.iconst 4, 1) := op7 (bA_at bd03_dec_X11_0_32 9 rfl rfl)
theorem dX11_knowsLine_14 : decode cX11_knowsLine 14 = .ok (.invokevirtual 178, 3) := op182 (bA_at bd03_dec_X11_0_32 10 rfl rfl) rfl
theorem dX11_knowsLine_17 : decode cX11_knowsLine 17 = .ok (.ifCond .ne 5, 3) := op154 (bA_at bd03_dec_X11_0_32 11 rfl rfl) (by decide +kernel)
theorem dX11_knowsLine_20 : decode cX11_knowsLine 20 = .ok (.iconst 0, 1) := op3 (bA_at bd03_dec_X11_0_32 12 rfl rfl)
theorem dX11_knowsLine_21 : decode cX11_knowsLine 21 = .ok (.ireturn, 1) := op172 (bA_at bd03_dec_X11_0_32 13 rfl rfl)
theorem dX11_knowsLine_22 : decode cX11_knowsLine 22 = .ok (.aload_n 0, 1) := op42 (bA_at bd03_dec_X11_0_32 14 rfl rfl)
theorem dX11_knowsLine_23 : decode cX11_knowsLine 23 = .ok (.aload_n 0, 1) := op42 (bA_at bd03_dec_X11_0_32 15 rfl rfl)
theorem dX11_knowsLine_24 : decode cX11_knowsLine 24 = .ok (.getfield 184, 3) := op180 (bA_at bd03_dec_X11_0_32 16 rfl rfl) rfl
theorem dX11_knowsLine_27 : decode cX11_knowsLine 27 = .ok (.aload_n 0, 1) := op42 (bA_at bd03_dec_X11_0_32 17 rfl rfl)
theorem dX11_knowsLine_28 : decode cX11_knowsLine 28 = .ok (.getfield 41, 3) := op180 (bA_at bd03_dec_X11_0_32 18 rfl rfl) rfl
theorem dX11_knowsLine_31 : decode cX11_knowsLine 31 = .ok (.iconst 0, 1) := op3 (bA_at bd03_dec_X11_0_32 19 rfl rfl)
theorem dX11_knowsLine_32 : decode cX11_knowsLine 32 = .ok (.iaload, 1) := op46 (bA_at bd03_dec_X11_0_32 20 rfl rfl)
theorem dX11_knowsLine_33 : decode cX11_knowsLine 33 = .ok (.invokestatic 171, 3) := op184 (bA_at bd03_dec_X11_0_32 21 rfl rfl) rfl
theorem dX11_knowsLine_36 : decode cX11_knowsLine 36 = .ok (.putfield 184, 3) := op181 (bA_at bd03_dec_X11_0_32 22 rfl rfl) rfl
theorem dX11_knowsLine_39 : decode cX11_knowsLine 39 = .ok (.aload_n 0, 1) := op42 (bA_at bd03_dec_X11_0_32 23 rfl rfl)
theorem dX11_knowsLine_40 : decode cX11_knowsLine 40 = .ok (.getfield 157, 3) := op180 (bA_at bd03_dec_X11_0_32 24 rfl rfl) rfl
theorem dX11_knowsLine_43 : decode cX11_knowsLine 43 = .ok (.ifCond .eq 28, 3) := op153 (bA_at bd03_dec_X11_0_32 25 rfl rfl) (by decide +kernel)
theorem dX11_knowsLine_46 : decode cX11_knowsLine 46 = .ok (.aload_n 0, 1) := op42 (bA_at bd03_dec_X11_0_32 26 rfl rfl)
theorem dX11_knowsLine_47 : decode cX11_knowsLine 47 = .ok (.getfield 38, 3) := op180 (bA_at bd03_dec_X11_0_32 27 rfl rfl) rfl
theorem dX11_knowsLine_50 : decode cX11_knowsLine 50 = .ok (.bipush 37, 2) := op16 (bA_at bd03_dec_X11_0_32 28 rfl rfl) (by decide +kernel)
theorem dX11_knowsLine_52 : decode cX11_knowsLine 52 = .ok (.aload_n 0, 1) := op42 (bA_at bd03_dec_X11_0_32 29 rfl rfl)
theorem dX11_knowsLine_53 : decode cX11_knowsLine 53 = .ok (.getfield 41, 3) := op180 (bA_at bd03_dec_X11_0_32 30 rfl rfl) rfl
theorem dX11_knowsLine_56 : decode cX11_knowsLine 56 = .ok (.iconst 0, 1) := op3 (bA_at bd03_dec_X11_0_32 31 rfl rfl)
theorem dX11_knowsLine_57 : decode cX11_knowsLine 57 = .ok (.iaload, 1) := op46 (bA_at bd03_dec_X11_0_32 32 rfl rfl)
theorem dX11_knowsLine_58 : decode cX11_knowsLine 58 = .ok (.iadd, 1) := op96 (bA_at bd03_dec_X11_0_32 33 rfl rfl)
theorem dX11_knowsLine_59 : decode cX11_knowsLine 59 = .ok (.dup2, 1) := op92 (bA_at bd03_dec_X11_0_32 34 rfl rfl)
theorem dX11_knowsLine_60 : decode cX11_knowsLine 60 = .ok (.iaload, 1) := op46 (bA_at bd03_dec_X11_0_32 35 rfl rfl)
theorem dX11_knowsLine_61 : decode cX11_knowsLine 61 = .ok (.iconst 1, 1) := op4 (bA_at bd03_dec_X11_0_32 36 rfl rfl)
theorem dX11_knowsLine_62 : decode cX11_knowsLine 62 = .ok (.aload_n 0, 1) := op42 (bA_at bd03_dec_X11_0_32 37 rfl rfl)
theorem dX11_knowsLine_63 : decode cX11_knowsLine 63 = .ok (.getfield 41, 3) := op180 (bA_at bd03_dec_X11_0_32 38 rfl rfl) rfl
theorem dX11_knowsLine_66 : decode cX11_knowsLine 66 = .ok (.iconst 1, 1) := op4 (bA_at bd03_dec_X11_0_32 39 rfl rfl)
theorem dX11_knowsLine_67 : decode cX11_knowsLine 67 = .ok (.iaload, 1) := op46 (bA_at bd03_dec_X11_0_32 40 rfl rfl)
theorem dX11_knowsLine_68 : decode cX11_knowsLine 68 = .ok (.ishl, 1) := op120 (bA_at bd03_dec_X11_0_32 41 rfl rfl)
theorem dX11_knowsLine_69 : decode cX11_knowsLine 69 = .ok (.ior, 1) := op128 (bA_at bd03_dec_X11_0_32 42 rfl rfl)
theorem dX11_knowsLine_70 : decode cX11_knowsLine 70 = .ok (.iastore, 1) := op79 (bA_at bd03_dec_X11_0_32 43 rfl rfl)
theorem dX11_knowsLine_71 : decode cX11_knowsLine 71 = .ok (.iconst 1, 1) := op4 (bA_at bd03_dec_X11_0_32 44 rfl rfl)
theorem dX11_knowsLine_72 : decode cX11_knowsLine 72 = .ok (.ireturn, 1) := op172 (bA_at bd03_dec_X11_0_32 45 rfl rfl)
theorem bd03_dec_X11_0_33 : ([(0, [31]), (1, [20, 0, 187]), (4, [148]), (5, [153, 0, 75]), (8, [31]), (9, [20, 0, 189]), (12, [148]), (13, [153, 0, 67]), (16, [31]), (17, [20, 0, 191]), (20, [148]), (21, [153, 0, 59]), (24, [31]), (25, [20, 0, 193]), (28, [148]), (29, [153, 0, 51]), (32, [31]), (33, [20, 0, 195]), (36, [148]), (37, [153, 0, 43]), (40, [31]), (41, [20, 0, 197]), (44, [148]), (45, [153, 0, 35]), (48, [31]), (49, [20, 0, 199]), (52, [148]), (53, [153, 0, 27]), (56, [31]), (57, [20, 0, 201]), (60, [148]), (61, [153, 0, 19]), (64, [31]), (65, [20, 0, 203]), (68, [148]), (69, [153, 0, 11]), (72, [31]), (73, [20, 0, 205]), (76, [148]), (77, [154, 0, 7]), (80, [4]), (81, [167, 0, 4]), (84, [3]), (85, [172])] : List (Nat × List UInt8)).all (fun x => prB x.2 ((cX11_isLandWord.data.toList.drop 0).drop x.1)) = true := by decide +kernel
theorem dX11_isLandWord_0 : decode cX11_isLandWord 0 = .ok (.lload_n 1, 1) := op31 (bA_at bd03_dec_X11_0_33 0 rfl rfl)
theorem dX11_isLandWord_1 : decode cX11_isLandWord 1 = .ok (.ldc2_w 187, 3) := op20 (bA_at bd03_dec_X11_0_33 1 rfl rfl) rfl
theorem dX11_isLandWord_4 : decode cX11_isLandWord 4 = .ok (.lcmp, 1) := op148 (bA_at bd03_dec_X11_0_33 2 rfl rfl)
theorem dX11_isLandWord_5 : decode cX11_isLandWord 5 = .ok (.ifCond .eq 75, 3) := op153 (bA_at bd03_dec_X11_0_33 3 rfl rfl) (by decide +kernel)
theorem dX11_isLandWord_8 : decode cX11_isLandWord 8 = .ok (.lload_n 1, 1) := op31 (bA_at bd03_dec_X11_0_33 4 rfl rfl)
theorem dX11_isLandWord_9 : decode cX11_isLandWord 9 = .ok (.ldc2_w 189, 3) := op20 (bA_at bd03_dec_X11_0_33 5 rfl rfl) rfl
theorem dX11_isLandWord_12 : decode cX11_isLandWord 12 = .ok (.lcmp, 1) := op148 (bA_at bd03_dec_X11_0_33 6 rfl rfl)
theorem dX11_isLandWord_13 : decode cX11_isLandWord 13 = .ok (.ifCond .eq 67, 3) := op153 (bA_at bd03_dec_X11_0_33 7 rfl rfl) (by decide +kernel)
theorem dX11_isLandWord_16 : decode cX11_isLandWord 16 = .ok (.lload_n 1, 1) := op31 (bA_at bd03_dec_X11_0_33 8 rfl rfl)
theorem dX11_isLandWord_17 : decode cX11_isLandWord 17 = .ok (.ldc2_w 191, 3) := op20 (bA_at bd03_dec_X11_0_33 9 rfl rfl) rfl
theorem dX11_isLandWord_20 : decode cX11_isLandWord 20 = .ok (.lcmp, 1) := op148 (bA_at bd03_dec_X11_0_33 10 rfl rfl)
theorem dX11_isLandWord_21 : decode cX11_isLandWord 21 = .ok (.ifCond .eq 59, 3) := op153 (bA_at bd03_dec_X11_0_33 11 rfl rfl) (by decide +kernel)
theorem dX11_isLandWord_24 : decode cX11_isLandWord 24 = .ok (.lload_n 1, 1) := op31 (bA_at bd03_dec_X11_0_33 12 rfl rfl)
theorem dX11_isLandWord_25 : decode cX11_isLandWord 25 = .ok (.ldc2_w 193, 3) := op20 (bA_at bd03_dec_X11_0_33 13 rfl rfl) rfl
theorem dX11_isLandWord_28 : decode cX11_isLandWord 28 = .ok (.lcmp, 1) := op148 (bA_at bd03_dec_X11_0_33 14 rfl rfl)
theorem dX11_isLandWord_29 : decode cX11_isLandWord 29 = .ok (.ifCond .eq 51, 3) := op153 (bA_at bd03_dec_X11_0_33 15 rfl rfl) (by decide +kernel)
theorem dX11_isLandWord_32 : decode cX11_isLandWord 32 = .ok (.lload_n 1, 1) := op31 (bA_at bd03_dec_X11_0_33 16 rfl rfl)
theorem dX11_isLandWord_33 : decode cX11_isLandWord 33 = .ok (.ldc2_w 195, 3) := op20 (bA_at bd03_dec_X11_0_33 17 rfl rfl) rfl
theorem dX11_isLandWord_36 : decode cX11_isLandWord 36 = .ok (.lcmp, 1) := op148 (bA_at bd03_dec_X11_0_33 18 rfl rfl)
theorem dX11_isLandWord_37 : decode cX11_isLandWord 37 = .ok (.ifCond .eq 43, 3) := op153 (bA_at bd03_dec_X11_0_33 19 rfl rfl) (by decide +kernel)
theorem dX11_isLandWord_40 : decode cX11_isLandWord 40 = .ok (.lload_n 1, 1) := op31 (bA_at bd03_dec_X11_0_33 20 rfl rfl)
theorem dX11_isLandWord_41 : decode cX11_isLandWord 41 = .ok (.ldc2_w 197, 3) := op20 (bA_at bd03_dec_X11_0_33 21 rfl rfl) rfl
theorem dX11_isLandWord_44 : decode cX11_isLandWord 44 = .ok (.lcmp, 1) := op148 (bA_at bd03_dec_X11_0_33 22 rfl rfl)
theorem dX11_isLandWord_45 : decode cX11_isLandWord 45 = .ok (.ifCond .eq 35, 3) := op153 (bA_at bd03_dec_X11_0_33 23 rfl rfl) (by decide +kernel)
theorem dX11_isLandWord_48 : decode cX11_isLandWord 48 = .ok (.lload_n 1, 1) := op31 (bA_at bd03_dec_X11_0_33 24 rfl rfl)
theorem dX11_isLandWord_49 : decode cX11_isLandWord 49 = .ok (.ldc2_w 199, 3) := op20 (bA_at bd03_dec_X11_0_33 25 rfl rfl) rfl
theorem dX11_isLandWord_52 : decode cX11_isLandWord 52 = .ok (.lcmp, 1) := op148 (bA_at bd03_dec_X11_0_33 26 rfl rfl)
theorem dX11_isLandWord_53 : decode cX11_isLandWord 53 = .ok (.ifCond .eq 27, 3) := op153 (bA_at bd03_dec_X11_0_33 27 rfl rfl) (by decide +kernel)
theorem dX11_isLandWord_56 : decode cX11_isLandWord 56 = .ok (.lload_n 1, 1) := op31 (bA_at bd03_dec_X11_0_33 28 rfl rfl)
theorem dX11_isLandWord_57 : decode cX11_isLandWord 57 = .ok (.ldc2_w 201, 3) := op20 (bA_at bd03_dec_X11_0_33 29 rfl rfl) rfl
theorem dX11_isLandWord_60 : decode cX11_isLandWord 60 = .ok (.lcmp, 1) := op148 (bA_at bd03_dec_X11_0_33 30 rfl rfl)
theorem dX11_isLandWord_61 : decode cX11_isLandWord 61 = .ok (.ifCond .eq 19, 3) := op153 (bA_at bd03_dec_X11_0_33 31 rfl rfl) (by decide +kernel)
theorem dX11_isLandWord_64 : decode cX11_isLandWord 64 = .ok (.lload_n 1, 1) := op31 (bA_at bd03_dec_X11_0_33 32 rfl rfl)
theorem dX11_isLandWord_65 : decode cX11_isLandWord 65 = .ok (.ldc2_w 203, 3) := op20 (bA_at bd03_dec_X11_0_33 33 rfl rfl) rfl
theorem dX11_isLandWord_68 : decode cX11_isLandWord 68 = .ok (.lcmp, 1) := op148 (bA_at bd03_dec_X11_0_33 34 rfl rfl)
theorem dX11_isLandWord_69 : decode cX11_isLandWord 69 = .ok (.ifCond .eq 11, 3) := op153 (bA_at bd03_dec_X11_0_33 35 rfl rfl) (by decide +kernel)
theorem dX11_isLandWord_72 : decode cX11_isLandWord 72 = .ok (.lload_n 1, 1) := op31 (bA_at bd03_dec_X11_0_33 36 rfl rfl)
theorem dX11_isLandWord_73 : decode cX11_isLandWord 73 = .ok (.ldc2_w 205, 3) := op20 (bA_at bd03_dec_X11_0_33 37 rfl rfl) rfl
theorem dX11_isLandWord_76 : decode cX11_isLandWord 76 = .ok (.lcmp, 1) := op148 (bA_at bd03_dec_X11_0_33 38 rfl rfl)
theorem dX11_isLandWord_77 : decode cX11_isLandWord 77 = .ok (.ifCond .ne 7, 3) := op154 (bA_at bd03_dec_X11_0_33 39 rfl rfl) (by decide +kernel)
theorem dX11_isLandWord_80 : decode cX11_isLandWord 80 = .ok (.iconst 1, 1) := op4 (bA_at bd03_dec_X11_0_33 40 rfl rfl)
theorem dX11_isLandWord_81 : decode cX11_isLandWord 81 = .ok (.goto 4, 3) := op167 (bA_at bd03_dec_X11_0_33 41 rfl rfl) (by decide +kernel)
theorem dX11_isLandWord_84 : decode cX11_isLandWord 84 = .ok (.iconst 0, 1) := op3 (bA_at bd03_dec_X11_0_33 42 rfl rfl)
theorem dX11_isLandWord_85 : decode cX11_isLandWord 85 = .ok (.ireturn, 1) := op172 (bA_at bd03_dec_X11_0_33 43 rfl rfl)
theorem bd03_dec_X11_0_34 : ([(0, [42]), (1, [31]), (2, [182, 0, 207]), (5, [154, 0, 8]), (8, [42]), (9, [182, 0, 149]), (12, [172]), (13, [31]), (14, [20, 0, 187]), (17, [148]), (18, [154, 0, 11]), (21, [42]), (22, [3]), (23, [16, 9]), (25, [29]), (26, [182, 0, 211]), (29, [31]), (30, [20, 0, 199]), (33, [148]), (34, [154, 0, 10]), (37, [42]), (38, [7]), (39, [7]), (40, [29]), (41, [182, 0, 211]), (44, [31]), (45, [20, 0, 203]), (48, [148]), (49, [154, 0, 11]), (52, [42]), (53, [4]), (54, [16, 6]), (56, [29]), (57, [182, 0, 211]), (60, [42]), (61, [182, 0, 161]), (64, [31]), (65, [20, 0, 187]), (68, [148]), (69, [154, 0, 8]), (72, [42]), (73, [182, 0, 215]), (76, [172]), (77, [31]), (78, [20, 0, 189]), (81, [148]), (82, [153, 0, 11]), (85, [31]), (86, [20, 0, 191]), (89, [148])] : List (Nat × List UInt8)).all (fun x => prB x.2 ((cX11_landLine.data.toList.drop 0).drop x.1)) = true := by decide +kernel
theorem dX11_landLine_0 : decode cX11_landLine 0 = .ok (.aload_n 0, 1) := op42 (bA_at bd03_dec_X11_0_34 0 rfl rfl)
theorem dX11_landLine_1 : decode cX11_landLine 1 = .ok (.lload_n 1, 1) := op31 (bA_at bd03_dec_X11_0_34 1 rfl rfl)
theorem dX11_landLine_2 : decode cX11_landLine 2 = .ok (.invokevirtual 207, 3) := op182 (bA_at bd03_dec_X11_0_34 2 rfl rfl) rfl
theorem dX11_landLine_5 : decode cX11_landLine 5 = .ok (.ifCond .ne 8, 3) := op154 (bA_at bd03_dec_X11_0_34 3 rfl rfl) (by decide +kernel)
theorem dX11_landLine_8 : decode cX11_landLine 8 = .ok (.aload_n 0, 1) := op42 (bA_at bd03_dec_X11_0_34 4 rfl rfl)
theorem dX11_landLine_9 : decode cX11_landLine 9 = .ok (.invokevirtual 149, 3) := op182 (bA_at bd03_dec_X11_0_34 5 rfl rfl) rfl
theorem dX11_landLine_12 : decode cX11_landLine 12 = .ok (.ireturn, 1) := op172 (bA_at bd03_dec_X11_0_34 6 rfl rfl)
theorem dX11_landLine_13 : decode cX11_landLine 13 = .ok (.lload_n 1, 1) := op31 (bA_at bd03_dec_X11_0_34 7 rfl rfl)
theorem dX11_landLine_14 : decode cX11_landLine 14 = .ok (.ldc2_w 187, 3) := op20 (bA_at bd03_dec_X11_0_34 8 rfl rfl) rfl
theorem dX11_landLine_17 : decode cX11_landLine 17 = .ok (.lcmp, 1) := op148 (bA_at bd03_dec_X11_0_34 9 rfl rfl)
theorem dX11_landLine_18 : decode cX11_landLine 18 = .ok (.ifCond .ne 11, 3) := op154 (bA_at bd03_dec_X11_0_34 10 rfl rfl) (by decide +kernel)
theorem dX11_landLine_21 : decode cX11_landLine 21 = .ok (.aload_n 0, 1) := op42 (bA_at bd03_dec_X11_0_34 11 rfl rfl)
theorem dX11_landLine_22 : decode cX11_landLine 22 = .ok (.iconst 0, 1) := op3 (bA_at bd03_dec_X11_0_34 12 rfl rfl)
theorem dX11_landLine_23 : decode cX11_landLine 23 = .ok (.bipush 9, 2) := op16 (bA_at bd03_dec_X11_0_34 13 rfl rfl) (by decide +kernel)
theorem dX11_landLine_25 : decode cX11_landLine 25 = .ok (.iload_n 3, 1) := op29 (bA_at bd03_dec_X11_0_34 14 rfl rfl)
theorem dX11_landLine_26 : decode cX11_landLine 26 = .ok (.invokevirtual 211, 3) := op182 (bA_at bd03_dec_X11_0_34 15 rfl rfl) rfl
theorem dX11_landLine_29 : decode cX11_landLine 29 = .ok (.lload_n 1, 1) := op31 (bA_at bd03_dec_X11_0_34 16 rfl rfl)
theorem dX11_landLine_30 : decode cX11_landLine 30 = .ok (.ldc2_w 199, 3) := op20 (bA_at bd03_dec_X11_0_34 17 rfl rfl) rfl
theorem dX11_landLine_33 : decode cX11_landLine 33 = .ok (.lcmp, 1) := op148 (bA_at bd03_dec_X11_0_34 18 rfl rfl)
theorem dX11_landLine_34 : decode cX11_landLine 34 = .ok (.ifCond .ne 10, 3) := op154 (bA_at bd03_dec_X11_0_34 19 rfl rfl) (by decide +kernel)
theorem dX11_landLine_37 : decode cX11_landLine 37 = .ok (.aload_n 0, 1) := op42 (bA_at bd03_dec_X11_0_34 20 rfl rfl)
theorem dX11_landLine_38 : decode cX11_landLine 38 = .ok (.iconst 4, 1) := op7 (bA_at bd03_dec_X11_0_34 21 rfl rfl)
theorem dX11_landLine_39 : decode cX11_landLine 39 = .ok (.iconst 4, 1) := op7 (bA_at bd03_dec_X11_0_34 22 rfl rfl)
theorem dX11_landLine_40 : decode cX11_landLine 40 = .ok (.iload_n 3, 1) := op29 (bA_at bd03_dec_X11_0_34 23 rfl rfl)
theorem dX11_landLine_41 : decode cX11_landLine 41 = .ok (.invokevirtual 211, 3) := op182 (bA_at bd03_dec_X11_0_34 24 rfl rfl) rfl
theorem dX11_landLine_44 : decode cX11_landLine 44 = .ok (.lload_n 1, 1) := op31 (bA_at bd03_dec_X11_0_34 25 rfl rfl)
theorem dX11_landLine_45 : decode cX11_landLine 45 = .ok (.ldc2_w 203, 3) := op20 (bA_at bd03_dec_X11_0_34 26 rfl rfl) rfl
theorem dX11_landLine_48 : decode cX11_landLine 48 = .ok (.lcmp, 1) := op148 (bA_at bd03_dec_X11_0_34 27 rfl rfl)
theorem dX11_landLine_49 : decode cX11_landLine 49 = .ok (.ifCond .ne 11, 3) := op154 (bA_at bd03_dec_X11_0_34 28 rfl rfl) (by decide +kernel)
theorem dX11_landLine_52 : decode cX11_landLine 52 = .ok (.aload_n 0, 1) := op42 (bA_at bd03_dec_X11_0_34 29 rfl rfl)
theorem dX11_landLine_53 : decode cX11_landLine 53 = .ok (.iconst 1, 1) := op4 (bA_at bd03_dec_X11_0_34 30 rfl rfl)
theorem dX11_landLine_54 : decode cX11_landLine 54 = .ok (.bipush 6, 2) := op16 (bA_at bd03_dec_X11_0_34 31 rfl rfl) (by decide +kernel)
theorem dX11_landLine_56 : decode cX11_landLine 56 = .ok (.iload_n 3, 1) := op29 (bA_at bd03_dec_X11_0_34 32 rfl rfl)
theorem dX11_landLine_57 : decode cX11_landLine 57 = .ok (.invokevirtual 211, 3) := op182 (bA_at bd03_dec_X11_0_34 33 rfl rfl) rfl
theorem dX11_landLine_60 : decode cX11_landLine 60 = .ok (.aload_n 0, 1) := op42 (bA_at bd03_dec_X11_0_34 34 rfl rfl)
theorem dX11_landLine_61 : decode cX11_landLine 61 = .ok (.invokevirtual 161, 3) := op182 (bA_at bd03_dec_X11_0_34 35 rfl rfl) rfl
theorem dX11_landLine_64 : decode cX11_landLine 64 = .ok (.lload_n 1, 1) := op31 (bA_at bd03_dec_X11_0_34 36 rfl rfl)
theorem dX11_landLine_65 : decode cX11_landLine 65 = .ok (.ldc2_w 187, 3) := op20 (bA_at bd03_dec_X11_0_34 37 rfl rfl) rfl
theorem dX11_landLine_68 : decode cX11_landLine 68 = .ok (.lcmp, 1) := op148 (bA_at bd03_dec_X11_0_34 38 rfl rfl)
theorem dX11_landLine_69 : decode cX11_landLine 69 = .ok (.ifCond .ne 8, 3) := op154 (bA_at bd03_dec_X11_0_34 39 rfl rfl) (by decide +kernel)
theorem dX11_landLine_72 : decode cX11_landLine 72 = .ok (.aload_n 0, 1) := op42 (bA_at bd03_dec_X11_0_34 40 rfl rfl)
theorem dX11_landLine_73 : decode cX11_landLine 73 = .ok (.invokevirtual 215, 3) := op182 (bA_at bd03_dec_X11_0_34 41 rfl rfl) rfl
theorem dX11_landLine_76 : decode cX11_landLine 76 = .ok (.ireturn, 1) := op172 (bA_at bd03_dec_X11_0_34 42 rfl rfl)
theorem dX11_landLine_77 : decode cX11_landLine 77 = .ok (.lload_n 1, 1) := op31 (bA_at bd03_dec_X11_0_34 43 rfl rfl)
theorem dX11_landLine_78 : decode cX11_landLine 78 = .ok (.ldc2_w 189, 3) := op20 (bA_at bd03_dec_X11_0_34 44 rfl rfl) rfl
theorem dX11_landLine_81 : decode cX11_landLine 81 = .ok (.lcmp, 1) := op148 (bA_at bd03_dec_X11_0_34 45 rfl rfl)
theorem dX11_landLine_82 : decode cX11_landLine 82 = .ok (.ifCond .eq 11, 3) := op153 (bA_at bd03_dec_X11_0_34 46 rfl rfl) (by decide +kernel)
theorem dX11_landLine_85 : decode cX11_landLine 85 = .ok (.lload_n 1, 1) := op31 (bA_at bd03_dec_X11_0_34 47 rfl rfl)
theorem dX11_landLine_86 : decode cX11_landLine 86 = .ok (.ldc2_w 191, 3) := op20 (bA_at bd03_dec_X11_0_34 48 rfl rfl) rfl
theorem dX11_landLine_89 : decode cX11_landLine 89 = .ok (.lcmp, 1) := op148 (bA_at bd03_dec_X11_0_34 49 rfl rfl)
theorem bd03_dec_X11_0_35 : ([(0, [154, 0, 21]), (3, [42]), (4, [31]), (5, [20, 0, 189]), (8, [148]), (9, [154, 0, 7]), (12, [5]), (13, [167, 0, 4]), (16, [6]), (17, [182, 0, 218]), (20, [172]), (21, [31]), (22, [20, 0, 193]), (25, [148]), (26, [154, 0, 12]), (29, [42]), (30, [8]), (31, [4]), (32, [16, 9]), (34, [182, 0, 222]), (37, [172]), (38, [31]), (39, [20, 0, 195]), (42, [148]), (43, [154, 0, 13]), (46, [42]), (47, [16, 6]), (49, [3]), (50, [16, 10]), (52, [182, 0, 222]), (55, [172]), (56, [31]), (57, [20, 0, 197]), (60, [148]), (61, [154, 0, 10]), (64, [42]), (65, [182, 0, 225]), (68, [167, 0, 52]), (71, [31]), (72, [20, 0, 199]), (75, [148]), (76, [154, 0, 10]), (79, [42]), (80, [182, 0, 228]), (83, [167, 0, 37]), (86, [31]), (87, [20, 0, 201]), (90, [148]), (91, [154, 0, 10]), (94, [42])] : List (Nat × List UInt8)).all (fun x => prB x.2 ((cX11_landLine.data.toList.drop 90).drop x.1)) = true := by decide +kernel
theorem dX11_landLine_90 : decode cX11_landLine 90 = .ok (.ifCond .ne 21, 3) := op154 (bA_at bd03_dec_X11_0_35 0 rfl rfl) (by decide +kernel)
theorem dX11_landLine_93 : decode cX11_landLine 93 = .ok (.aload_n 0, 1) := op42 (bA_at bd03_dec_X11_0_35 1 rfl rfl)
theorem dX11_landLine_94 : decode cX11_landLine 94 = .ok (.lload_n 1, 1) := op31 (bA_at bd03_dec_X11_0_35 2 rfl rfl)
theorem dX11_landLine_95 : decode cX11_landLine 95 = .ok (.ldc2_w 189, 3) := op20 (bA_at bd03_dec_X11_0_35 3 rfl rfl) rfl
theorem dX11_landLine_98 : decode cX11_landLine 98 = .ok (.lcmp, 1) := op148 (bA_at bd03_dec_X11_0_35 4 rfl rfl)
theorem dX11_landLine_99 : decode cX11_landLine 99 = .ok (.ifCond .ne 7, 3) := op154 (bA_at bd03_dec_X11_0_35 5 rfl rfl) (by decide +kernel)
theorem dX11_landLine_102 : decode cX11_landLine 102 = .ok (.iconst 2, 1) := op5 (bA_at bd03_dec_X11_0_35 6 rfl rfl)
theorem dX11_landLine_103 : decode cX11_landLine 103 = .ok (.goto 4, 3) := op167 (bA_at bd03_dec_X11_0_35 7 rfl rfl) (by decide +kernel)
theorem dX11_landLine_106 : decode cX11_landLine 106 = .ok (.iconst 3, 1) := op6 (bA_at bd03_dec_X11_0_35 8 rfl rfl)
theorem dX11_landLine_107 : decode cX11_landLine 107 = .ok (.invokevirtual 218, 3) := op182 (bA_at bd03_dec_X11_0_35 9 rfl rfl) rfl
theorem dX11_landLine_110 : decode cX11_landLine 110 = .ok (.ireturn, 1) := op172 (bA_at bd03_dec_X11_0_35 10 rfl rfl)
theorem dX11_landLine_111 : decode cX11_landLine 111 = .ok (.lload_n 1, 1) := op31 (bA_at bd03_dec_X11_0_35 11 rfl rfl)
theorem dX11_landLine_112 : decode cX11_landLine 112 = .ok (.ldc2_w 193, 3) := op20 (bA_at bd03_dec_X11_0_35 12 rfl rfl) rfl
theorem dX11_landLine_115 : decode cX11_landLine 115 = .ok (.lcmp, 1) := op148 (bA_at bd03_dec_X11_0_35 13 rfl rfl)
theorem dX11_landLine_116 : decode cX11_landLine 116 = .ok (.ifCond .ne 12, 3) := op154 (bA_at bd03_dec_X11_0_35 14 rfl rfl) (by decide +kernel)
theorem dX11_landLine_119 : decode cX11_landLine 119 = .ok (.aload_n 0, 1) := op42 (bA_at bd03_dec_X11_0_35 15 rfl rfl)
theorem dX11_landLine_120 : decode cX11_landLine 120 = .ok (.iconst 5, 1) := op8 (bA_at bd03_dec_X11_0_35 16 rfl rfl)
theorem dX11_landLine_121 : decode cX11_landLine 121 = .ok (.iconst 1, 1) := op4 (bA_at bd03_dec_X11_0_35 17 rfl rfl)
theorem dX11_landLine_122 : decode cX11_landLine 122 = .ok (.bipush 9, 2) := op16 (bA_at bd03_dec_X11_0_35 18 rfl rfl) (by decide +kernel)
theorem dX11_landLine_124 : decode cX11_landLine 124 = .ok (.invokevirtual 222, 3) := op182 (bA_at bd03_dec_X11_0_35 19 rfl rfl) rfl
theorem dX11_landLine_127 : decode cX11_landLine 127 = .ok (.ireturn, 1) := op172 (bA_at bd03_dec_X11_0_35 20 rfl rfl)
theorem dX11_landLine_128 : decode cX11_landLine 128 = .ok (.lload_n 1, 1) := op31 (bA_at bd03_dec_X11_0_35 21 rfl rfl)
theorem dX11_landLine_129 : decode cX11_landLine 129 = .ok (.ldc2_w 195, 3) := op20 (bA_at bd03_dec_X11_0_35 22 rfl rfl) rfl
theorem dX11_landLine_132 : decode cX11_landLine 132 = .ok (.lcmp, 1) := op148 (bA_at bd03_dec_X11_0_35 23 rfl rfl)
theorem dX11_landLine_133 : decode cX11_landLine 133 = .ok (.ifCond .ne 13, 3) := op154 (bA_at bd03_dec_X11_0_35 24 rfl rfl) (by decide +kernel)
theorem dX11_landLine_136 : decode cX11_landLine 136 = .ok (.aload_n 0, 1) := op42 (bA_at bd03_dec_X11_0_35 25 rfl rfl)
theorem dX11_landLine_137 : decode cX11_landLine 137 = .ok (.bipush 6, 2) := op16 (bA_at bd03_dec_X11_0_35 26 rfl rfl) (by decide +kernel)
theorem dX11_landLine_139 : decode cX11_landLine 139 = .ok (.iconst 0, 1) := op3 (bA_at bd03_dec_X11_0_35 27 rfl rfl)
theorem dX11_landLine_140 : decode cX11_landLine 140 = .ok (.bipush 10, 2) := op16 (bA_at bd03_dec_X11_0_35 28 rfl rfl) (by decide +kernel)
theorem dX11_landLine_142 : decode cX11_landLine 142 = .ok (.invokevirtual 222, 3) := op182 (bA_at bd03_dec_X11_0_35 29 rfl rfl) rfl
theorem dX11_landLine_145 : decode cX11_landLine 145 = .ok (.ireturn, 1) := op172 (bA_at bd03_dec_X11_0_35 30 rfl rfl)
theorem dX11_landLine_146 : decode cX11_landLine 146 = .ok (.lload_n 1, 1) := op31 (bA_at bd03_dec_X11_0_35 31 rfl rfl)
theorem dX11_landLine_147 : decode cX11_landLine 147 = .ok (.ldc2_w 197, 3) := op20 (bA_at bd03_dec_X11_0_35 32 rfl rfl) rfl
theorem dX11_landLine_150 : decode cX11_landLine 150 = .ok (.lcmp, 1) := op148 (bA_at bd03_dec_X11_0_35 33 rfl rfl)
theorem dX11_landLine_151 : decode cX11_landLine 151 = .ok (.ifCond .ne 10, 3) := op154 (bA_at bd03_dec_X11_0_35 34 rfl rfl) (by decide +kernel)
theorem dX11_landLine_154 : decode cX11_landLine 154 = .ok (.aload_n 0, 1) := op42 (bA_at bd03_dec_X11_0_35 35 rfl rfl)
theorem dX11_landLine_155 : decode cX11_landLine 155 = .ok (.invokevirtual 225, 3) := op182 (bA_at bd03_dec_X11_0_35 36 rfl rfl) rfl
theorem dX11_landLine_158 : decode cX11_landLine 158 = .ok (.goto 52, 3) := op167 (bA_at bd03_dec_X11_0_35 37 rfl rfl) (by decide +kernel)
theorem dX11_landLine_161 : decode cX11_landLine 161 = .ok (.lload_n 1, 1) := op31 (bA_at bd03_dec_X11_0_35 38 rfl rfl)
theorem dX11_landLine_162 : decode cX11_landLine 162 = .ok (.ldc2_w 199, 3) := op20 (bA_at bd03_dec_X11_0_35 39 rfl rfl) rfl
theorem dX11_landLine_165 : decode cX11_landLine 165 = .ok (.lcmp, 1) := op148 (bA_at bd03_dec_X11_0_35 40 rfl rfl)
theorem dX11_landLine_166 : decode cX11_landLine 166 = .ok (.ifCond .ne 10, 3) := op154 (bA_at bd03_dec_X11_0_35 41 rfl rfl) (by decide +kernel)
theorem dX11_landLine_169 : decode cX11_landLine 169 = .ok (.aload_n 0, 1) := op42 (bA_at bd03_dec_X11_0_35 42 rfl rfl)
theorem dX11_landLine_170 : decode cX11_landLine 170 = .ok (.invokevirtual 228, 3) := op182 (bA_at bd03_dec_X11_0_35 43 rfl rfl) rfl
theorem dX11_landLine_173 : decode cX11_landLine 173 = .ok (.goto 37, 3) := op167 (bA_at bd03_dec_X11_0_35 44 rfl rfl) (by decide +kernel)
theorem dX11_landLine_176 : decode cX11_landLine 176 = .ok (.lload_n 1, 1) := op31 (bA_at bd03_dec_X11_0_35 45 rfl rfl)
theorem dX11_landLine_177 : decode cX11_landLine 177 = .ok (.ldc2_w 201, 3) := op20 (bA_at bd03_dec_X11_0_35 46 rfl rfl) rfl
theorem dX11_landLine_180 : decode cX11_landLine 180 = .ok (.lcmp, 1) := op148 (bA_at bd03_dec_X11_0_35 47 rfl rfl)
theorem dX11_landLine_181 : decode cX11_landLine 181 = .ok (.ifCond .ne 10, 3) := op154 (bA_at bd03_dec_X11_0_35 48 rfl rfl) (by decide +kernel)
theorem dX11_landLine_184 : decode cX11_landLine 184 = .ok (.aload_n 0, 1) := op42 (bA_at bd03_dec_X11_0_35 49 rfl rfl)
theorem bd03_dec_X11_0_36 : ([(0, [182, 0, 231]), (3, [167, 0, 22]), (6, [31]), (7, [20, 0, 203]), (10, [148]), (11, [154, 0, 10]), (14, [42]), (15, [182, 0, 234]), (18, [167, 0, 7]), (21, [42]), (22, [182, 0, 237]), (25, [172])] : List (Nat × List UInt8)).all (fun x => prB x.2 ((cX11_landLine.data.toList.drop 185).drop x.1)) = true := by decide +kernel
theorem dX11_landLine_185 : decode cX11_landLine 185 = .ok (.invokevirtual 231, 3) := op182 (bA_at bd03_dec_X11_0_36 0 rfl rfl) rfl
theorem dX11_landLine_188 : decode cX11_landLine 188 = .ok (.goto 22, 3) := op167 (bA_at bd03_dec_X11_0_36 1 rfl rfl) (by decide +kernel)
theorem dX11_landLine_191 : decode cX11_landLine 191 = .ok (.lload_n 1, 1) := op31 (bA_at bd03_dec_X11_0_36 2 rfl rfl)
theorem dX11_landLine_192 : decode cX11_landLine 192 = .ok (.ldc2_w 203, 3) := op20 (bA_at bd03_dec_X11_0_36 3 rfl rfl) rfl
theorem dX11_landLine_195 : decode cX11_landLine 195 = .ok (.lcmp, 1) := op148 (bA_at bd03_dec_X11_0_36 4 rfl rfl)
theorem dX11_landLine_196 : decode cX11_landLine 196 = .ok (.ifCond .ne 10, 3) := op154 (bA_at bd03_dec_X11_0_36 5 rfl rfl) (by decide +kernel)
theorem dX11_landLine_199 : decode cX11_landLine 199 = .ok (.aload_n 0, 1) := op42 (bA_at bd03_dec_X11_0_36 6 rfl rfl)
theorem dX11_landLine_200 : decode cX11_landLine 200 = .ok (.invokevirtual 234, 3) := op182 (bA_at bd03_dec_X11_0_36 7 rfl rfl) rfl
theorem dX11_landLine_203 : decode cX11_landLine 203 = .ok (.goto 7, 3) := op167 (bA_at bd03_dec_X11_0_36 8 rfl rfl) (by decide +kernel)
theorem dX11_landLine_206 : decode cX11_landLine 206 = .ok (.aload_n 0, 1) := op42 (bA_at bd03_dec_X11_0_36 9 rfl rfl)
theorem dX11_landLine_207 : decode cX11_landLine 207 = .ok (.invokevirtual 237, 3) := op182 (bA_at bd03_dec_X11_0_36 10 rfl rfl) rfl
theorem dX11_landLine_210 : decode cX11_landLine 210 = .ok (.ireturn, 1) := op172 (bA_at bd03_dec_X11_0_36 11 rfl rfl)
theorem bd03_dec_X11_0_37 : ([(0, [30]), (1, [20, 0, 240]), (4, [148]), (5, [154, 0, 7]), (8, [3]), (9, [167, 0, 64]), (12, [30]), (13, [20, 0, 242]), (16, [148]), (17, [154, 0, 7]), (20, [4]), (21, [167, 0, 52]), (24, [30]), (25, [20, 0, 244]), (28, [148]), (29, [154, 0, 7]), (32, [5]), (33, [167, 0, 40]), (36, [30]), (37, [20, 0, 246]), (40, [148]), (41, [154, 0, 7]), (44, [6]), (45, [167, 0, 28]), (48, [30]), (49, [20, 0, 248]), (52, [148]), (53, [154, 0, 7]), (56, [7]), (57, [167, 0, 16]), (60, [30]), (61, [20, 0, 250]), (64, [148]), (65, [154, 0, 7]), (68, [8]), (69, [167, 0, 4]), (72, [2]), (73, [172])] : List (Nat × List UInt8)).all (fun x => prB x.2 ((cX11_deedBy.data.toList.drop 0).drop x.1)) = true := by decide +kernel
theorem dX11_deedBy_0 : decode cX11_deedBy 0 = .ok (.lload_n 0, 1) := op30 (bA_at bd03_dec_X11_0_37 0 rfl rfl)
theorem dX11_deedBy_1 : decode cX11_deedBy 1 = .ok (.ldc2_w 240, 3) := op20 (bA_at bd03_dec_X11_0_37 1 rfl rfl) rfl
theorem dX11_deedBy_4 : decode cX11_deedBy 4 = .ok (.lcmp, 1) := op148 (bA_at bd03_dec_X11_0_37 2 rfl rfl)
theorem dX11_deedBy_5 : decode cX11_deedBy 5 = .ok (.ifCond .ne 7, 3) := op154 (bA_at bd03_dec_X11_0_37 3 rfl rfl) (by decide +kernel)
theorem dX11_deedBy_8 : decode cX11_deedBy 8 = .ok (.iconst 0, 1) := op3 (bA_at bd03_dec_X11_0_37 4 rfl rfl)
theorem dX11_deedBy_9 : decode cX11_deedBy 9 = .ok (.goto 64, 3) := op167 (bA_at bd03_dec_X11_0_37 5 rfl rfl) (by decide +kernel)
theorem dX11_deedBy_12 : decode cX11_deedBy 12 = .ok (.lload_n 0, 1) := op30 (bA_at bd03_dec_X11_0_37 6 rfl rfl)
theorem dX11_deedBy_13 : decode cX11_deedBy 13 = .ok (.ldc2_w 242, 3) := op20 (bA_at bd03_dec_X11_0_37 7 rfl rfl) rfl
theorem dX11_deedBy_16 : decode cX11_deedBy 16 = .ok (.lcmp, 1) := op148 (bA_at bd03_dec_X11_0_37 8 rfl rfl)
theorem dX11_deedBy_17 : decode cX11_deedBy 17 = .ok (.ifCond .ne 7, 3) := op154 (bA_at bd03_dec_X11_0_37 9 rfl rfl) (by decide +kernel)
theorem dX11_deedBy_20 : decode cX11_deedBy 20 = .ok (.iconst 1, 1) := op4 (bA_at bd03_dec_X11_0_37 10 rfl rfl)
theorem dX11_deedBy_21 : decode cX11_deedBy 21 = .ok (.goto 52, 3) := op167 (bA_at bd03_dec_X11_0_37 11 rfl rfl) (by decide +kernel)
theorem dX11_deedBy_24 : decode cX11_deedBy 24 = .ok (.lload_n 0, 1) := op30 (bA_at bd03_dec_X11_0_37 12 rfl rfl)
theorem dX11_deedBy_25 : decode cX11_deedBy 25 = .ok (.ldc2_w 244, 3) := op20 (bA_at bd03_dec_X11_0_37 13 rfl rfl) rfl
theorem dX11_deedBy_28 : decode cX11_deedBy 28 = .ok (.lcmp, 1) := op148 (bA_at bd03_dec_X11_0_37 14 rfl rfl)
theorem dX11_deedBy_29 : decode cX11_deedBy 29 = .ok (.ifCond .ne 7, 3) := op154 (bA_at bd03_dec_X11_0_37 15 rfl rfl) (by decide +kernel)
theorem dX11_deedBy_32 : decode cX11_deedBy 32 = .ok (.iconst 2, 1) := op5 (bA_at bd03_dec_X11_0_37 16 rfl rfl)
theorem dX11_deedBy_33 : decode cX11_deedBy 33 = .ok (.goto 40, 3) := op167 (bA_at bd03_dec_X11_0_37 17 rfl rfl) (by decide +kernel)
theorem dX11_deedBy_36 : decode cX11_deedBy 36 = .ok (.lload_n 0, 1) := op30 (bA_at bd03_dec_X11_0_37 18 rfl rfl)
theorem dX11_deedBy_37 : decode cX11_deedBy 37 = .ok (.ldc2_w 246, 3) := op20 (bA_at bd03_dec_X11_0_37 19 rfl rfl) rfl
theorem dX11_deedBy_40 : decode cX11_deedBy 40 = .ok (.lcmp, 1) := op148 (bA_at bd03_dec_X11_0_37 20 rfl rfl)
theorem dX11_deedBy_41 : decode cX11_deedBy 41 = .ok (.ifCond .ne 7, 3) := op154 (bA_at bd03_dec_X11_0_37 21 rfl rfl) (by decide +kernel)
theorem dX11_deedBy_44 : decode cX11_deedBy 44 = .ok (.iconst 3, 1) := op6 (bA_at bd03_dec_X11_0_37 22 rfl rfl)
theorem dX11_deedBy_45 : decode cX11_deedBy 45 = .ok (.goto 28, 3) := op167 (bA_at bd03_dec_X11_0_37 23 rfl rfl) (by decide +kernel)
theorem dX11_deedBy_48 : decode cX11_deedBy 48 = .ok (.lload_n 0, 1) := op30 (bA_at bd03_dec_X11_0_37 24 rfl rfl)
theorem dX11_deedBy_49 : decode cX11_deedBy 49 = .ok (.ldc2_w 248, 3) := op20 (bA_at bd03_dec_X11_0_37 25 rfl rfl) rfl
theorem dX11_deedBy_52 : decode cX11_deedBy 52 = .ok (.lcmp, 1) := op148 (bA_at bd03_dec_X11_0_37 26 rfl rfl)
theorem dX11_deedBy_53 : decode cX11_deedBy 53 = .ok (.ifCond .ne 7, 3) := op154 (bA_at bd03_dec_X11_0_37 27 rfl rfl) (by decide +kernel)
theorem dX11_deedBy_56 : decode cX11_deedBy 56 = .ok (.iconst 4, 1) := op7 (bA_at bd03_dec_X11_0_37 28 rfl rfl)
theorem dX11_deedBy_57 : decode cX11_deedBy 57 = .ok (.goto 16, 3) := op167 (bA_at bd03_dec_X11_0_37 29 rfl rfl) (by decide +kernel)
theorem dX11_deedBy_60 : decode cX11_deedBy 60 = .ok (.lload_n 0, 1) := op30 (bA_at bd03_dec_X11_0_37 30 rfl rfl)
theorem dX11_deedBy_61 : decode cX11_deedBy 61 = .ok (.ldc2_w 250, 3) := op20 (bA_at bd03_dec_X11_0_37 31 rfl rfl) rfl
theorem dX11_deedBy_64 : decode cX11_deedBy 64 = .ok (.lcmp, 1) := op148 (bA_at bd03_dec_X11_0_37 32 rfl rfl)
theorem dX11_deedBy_65 : decode cX11_deedBy 65 = .ok (.ifCond .ne 7, 3) := op154 (bA_at bd03_dec_X11_0_37 33 rfl rfl) (by decide +kernel)
theorem dX11_deedBy_68 : decode cX11_deedBy 68 = .ok (.iconst 5, 1) := op8 (bA_at bd03_dec_X11_0_37 34 rfl rfl)
theorem dX11_deedBy_69 : decode cX11_deedBy 69 = .ok (.goto 4, 3) := op167 (bA_at bd03_dec_X11_0_37 35 rfl rfl) (by decide +kernel)
theorem dX11_deedBy_72 : decode cX11_deedBy 72 = .ok (.iconst (-1), 1) := op2 (bA_at bd03_dec_X11_0_37 36 rfl rfl)
theorem dX11_deedBy_73 : decode cX11_deedBy 73 = .ok (.ireturn, 1) := op172 (bA_at bd03_dec_X11_0_37 37 rfl rfl)
theorem bd03_dec_X11_0_38 : ([(0, [42]), (1, [3]), (2, [28]), (3, [182, 0, 181]), (6, [62]), (7, [3]), (8, [54, 4]), (10, [21, 4]), (12, [27]), (13, [162, 0, 34]), (16, [29]), (17, [2]), (18, [159, 0, 29]), (21, [42]), (22, [180, 0, 38]), (25, [4]), (26, [27]), (27, [29]), (28, [104]), (29, [96]), (30, [21, 4]), (32, [96]), (33, [42]), (34, [180, 0, 41]), (37, [21, 4]), (39, [46]), (40, [79]), (41, [132, 4, 1]), (44, [167, 255, 222]), (47, [177])] : List (Nat × List UInt8)).all (fun x => prB x.2 ((cX11_keep.data.toList.drop 0).drop x.1)) = true := by decide +kernel
theorem dX11_keep_0 : decode cX11_keep 0 = .ok (.aload_n 0, 1) := op42 (bA_at bd03_dec_X11_0_38 0 rfl rfl)
theorem dX11_keep_1 : decode cX11_keep 1 = .ok (.iconst 0, 1) := op3 (bA_at bd03_dec_X11_0_38 1 rfl rfl)
theorem dX11_keep_2 : decode cX11_keep 2 = .ok (.iload_n 2, 1) := op28 (bA_at bd03_dec_X11_0_38 2 rfl rfl)
theorem dX11_keep_3 : decode cX11_keep 3 = .ok (.invokevirtual 181, 3) := op182 (bA_at bd03_dec_X11_0_38 3 rfl rfl) rfl
theorem dX11_keep_6 : decode cX11_keep 6 = .ok (.istore_n 3, 1) := op62 (bA_at bd03_dec_X11_0_38 4 rfl rfl)
theorem dX11_keep_7 : decode cX11_keep 7 = .ok (.iconst 0, 1) := op3 (bA_at bd03_dec_X11_0_38 5 rfl rfl)
theorem dX11_keep_8 : decode cX11_keep 8 = .ok (.istore 4, 2) := op54 (bA_at bd03_dec_X11_0_38 6 rfl rfl) rfl
theorem dX11_keep_10 : decode cX11_keep 10 = .ok (.iload 4, 2) := op21 (bA_at bd03_dec_X11_0_38 7 rfl rfl) rfl
theorem dX11_keep_12 : decode cX11_keep 12 = .ok (.iload_n 1, 1) := op27 (bA_at bd03_dec_X11_0_38 8 rfl rfl)
theorem dX11_keep_13 : decode cX11_keep 13 = .ok (.if_icmp .ge 34, 3) := op162 (bA_at bd03_dec_X11_0_38 9 rfl rfl) (by decide +kernel)
theorem dX11_keep_16 : decode cX11_keep 16 = .ok (.iload_n 3, 1) := op29 (bA_at bd03_dec_X11_0_38 10 rfl rfl)
theorem dX11_keep_17 : decode cX11_keep 17 = .ok (.iconst (-1), 1) := op2 (bA_at bd03_dec_X11_0_38 11 rfl rfl)
theorem dX11_keep_18 : decode cX11_keep 18 = .ok (.if_icmp .eq 29, 3) := op159 (bA_at bd03_dec_X11_0_38 12 rfl rfl) (by decide +kernel)
theorem dX11_keep_21 : decode cX11_keep 21 = .ok (.aload_n 0, 1) := op42 (bA_at bd03_dec_X11_0_38 13 rfl rfl)
theorem dX11_keep_22 : decode cX11_keep 22 = .ok (.getfield 38, 3) := op180 (bA_at bd03_dec_X11_0_38 14 rfl rfl) rfl
theorem dX11_keep_25 : decode cX11_keep 25 = .ok (.iconst 1, 1) := op4 (bA_at bd03_dec_X11_0_38 15 rfl rfl)
theorem dX11_keep_26 : decode cX11_keep 26 = .ok (.iload_n 1, 1) := op27 (bA_at bd03_dec_X11_0_38 16 rfl rfl)
theorem dX11_keep_27 : decode cX11_keep 27 = .ok (.iload_n 3, 1) := op29 (bA_at bd03_dec_X11_0_38 17 rfl rfl)
theorem dX11_keep_28 : decode cX11_keep 28 = .ok (.imul, 1) := op104 (bA_at bd03_dec_X11_0_38 18 rfl rfl)
theorem dX11_keep_29 : decode cX11_keep 29 = .ok (.iadd, 1) := op96 (bA_at bd03_dec_X11_0_38 19 rfl rfl)
theorem dX11_keep_30 : decode cX11_keep 30 = .ok (.iload 4, 2) := op21 (bA_at bd03_dec_X11_0_38 20 rfl rfl) rfl
theorem dX11_keep_32 : decode cX11_keep 32 = .ok (.iadd, 1) := op96 (bA_at bd03_dec_X11_0_38 21 rfl rfl)
theorem dX11_keep_33 : decode cX11_keep 33 = .ok (.aload_n 0, 1) := op42 (bA_at bd03_dec_X11_0_38 22 rfl rfl)
theorem dX11_keep_34 : decode cX11_keep 34 = .ok (.getfield 41, 3) := op180 (bA_at bd03_dec_X11_0_38 23 rfl rfl) rfl
theorem dX11_keep_37 : decode cX11_keep 37 = .ok (.iload 4, 2) := op21 (bA_at bd03_dec_X11_0_38 24 rfl rfl) rfl
theorem dX11_keep_39 : decode cX11_keep 39 = .ok (.iaload, 1) := op46 (bA_at bd03_dec_X11_0_38 25 rfl rfl)
theorem dX11_keep_40 : decode cX11_keep 40 = .ok (.iastore, 1) := op79 (bA_at bd03_dec_X11_0_38 26 rfl rfl)
theorem dX11_keep_41 : decode cX11_keep 41 = .ok (.iinc 4 1, 3) := op132 (bA_at bd03_dec_X11_0_38 27 rfl rfl) rfl (by decide +kernel)
theorem dX11_keep_44 : decode cX11_keep 44 = .ok (.goto (-34), 3) := op167 (bA_at bd03_dec_X11_0_38 28 rfl rfl) (by decide +kernel)
theorem dX11_keep_47 : decode cX11_keep 47 = .ok (.return_, 1) := op177 (bA_at bd03_dec_X11_0_38 29 rfl rfl)
theorem bd03_dec_X11_0_39 : ([(0, [31]), (1, [184, 0, 252]), (4, [54, 4]), (6, [21, 4]), (8, [2]), (9, [160, 0, 8]), (12, [42]), (13, [182, 0, 149]), (16, [172]), (17, [42]), (18, [3]), (19, [16, 40]), (21, [29]), (22, [182, 0, 211]), (25, [42]), (26, [182, 0, 161]), (29, [42]), (30, [180, 0, 41]), (33, [5]), (34, [2]), (35, [79]), (36, [42]), (37, [4]), (38, [3]), (39, [8]), (40, [182, 0, 178]), (43, [153, 0, 30]), (46, [21, 4]), (48, [7]), (49, [162, 0, 26]), (52, [42]), (53, [5]), (54, [3]), (55, [21, 4]), (57, [6]), (58, [160, 0, 8]), (61, [16, 8]), (63, [167, 0, 4]), (66, [7]), (67, [182, 0, 178]), (70, [154, 0, 5]), (73, [3]), (74, [172]), (75, [42]), (76, [180, 0, 41]), (79, [3]), (80, [21, 4]), (82, [79]), (83, [42]), (84, [6])] : List (Nat × List UInt8)).all (fun x => prB x.2 ((cX11_eveningLine.data.toList.drop 0).drop x.1)) = true := by decide +kernel
theorem dX11_eveningLine_0 : decode cX11_eveningLine 0 = .ok (.lload_n 1, 1) := op31 (bA_at bd03_dec_X11_0_39 0 rfl rfl)
theorem dX11_eveningLine_1 : decode cX11_eveningLine 1 = .ok (.invokestatic 252, 3) := op184 (bA_at bd03_dec_X11_0_39 1 rfl rfl) rfl
theorem dX11_eveningLine_4 : decode cX11_eveningLine 4 = .ok (.istore 4, 2) := op54 (bA_at bd03_dec_X11_0_39 2 rfl rfl) rfl
theorem dX11_eveningLine_6 : decode cX11_eveningLine 6 = .ok (.iload 4, 2) := op21 (bA_at bd03_dec_X11_0_39 3 rfl rfl) rfl
theorem dX11_eveningLine_8 : decode cX11_eveningLine 8 = .ok (.iconst (-1), 1) := op2 (bA_at bd03_dec_X11_0_39 4 rfl rfl)
theorem dX11_eveningLine_9 : decode cX11_eveningLine 9 = .ok (.if_icmp .ne 8, 3) := op160 (bA_at bd03_dec_X11_0_39 5 rfl rfl) (by decide +kernel)
theorem dX11_eveningLine_12 : decode cX11_eveningLine 12 = .ok (.aload_n 0, 1) := op42 (bA_at bd03_dec_X11_0_39 6 rfl rfl)
theorem dX11_eveningLine_13 : decode cX11_eveningLine 13 = .ok (.invokevirtual 149, 3) := op182 (bA_at bd03_dec_X11_0_39 7 rfl rfl) rfl
theorem dX11_eveningLine_16 : decode cX11_eveningLine 16 = .ok (.ireturn, 1) := op172 (bA_at bd03_dec_X11_0_39 8 rfl rfl)
theorem dX11_eveningLine_17 : decode cX11_eveningLine 17 = .ok (.aload_n 0, 1) := op42 (bA_at bd03_dec_X11_0_39 9 rfl rfl)
theorem dX11_eveningLine_18 : decode cX11_eveningLine 18 = .ok (.iconst 0, 1) := op3 (bA_at bd03_dec_X11_0_39 10 rfl rfl)
theorem dX11_eveningLine_19 : decode cX11_eveningLine 19 = .ok (.bipush 40, 2) := op16 (bA_at bd03_dec_X11_0_39 11 rfl rfl) (by decide +kernel)
theorem dX11_eveningLine_21 : decode cX11_eveningLine 21 = .ok (.iload_n 3, 1) := op29 (bA_at bd03_dec_X11_0_39 12 rfl rfl)
theorem dX11_eveningLine_22 : decode cX11_eveningLine 22 = .ok (.invokevirtual 211, 3) := op182 (bA_at bd03_dec_X11_0_39 13 rfl rfl) rfl
theorem dX11_eveningLine_25 : decode cX11_eveningLine 25 = .ok (.aload_n 0, 1) := op42 (bA_at bd03_dec_X11_0_39 14 rfl rfl)
theorem dX11_eveningLine_26 : decode cX11_eveningLine 26 = .ok (.invokevirtual 161, 3) := op182 (bA_at bd03_dec_X11_0_39 15 rfl rfl) rfl
theorem dX11_eveningLine_29 : decode cX11_eveningLine 29 = .ok (.aload_n 0, 1) := op42 (bA_at bd03_dec_X11_0_39 16 rfl rfl)
theorem dX11_eveningLine_30 : decode cX11_eveningLine 30 = .ok (.getfield 41, 3) := op180 (bA_at bd03_dec_X11_0_39 17 rfl rfl) rfl
theorem dX11_eveningLine_33 : decode cX11_eveningLine 33 = .ok (.iconst 2, 1) := op5 (bA_at bd03_dec_X11_0_39 18 rfl rfl)
theorem dX11_eveningLine_34 : decode cX11_eveningLine 34 = .ok (.iconst (-1), 1) := op2 (bA_at bd03_dec_X11_0_39 19 rfl rfl)
theorem dX11_eveningLine_35 : decode cX11_eveningLine 35 = .ok (.iastore, 1) := op79 (bA_at bd03_dec_X11_0_39 20 rfl rfl)
theorem dX11_eveningLine_36 : decode cX11_eveningLine 36 = .ok (.aload_n 0, 1) := op42 (bA_at bd03_dec_X11_0_39 21 rfl rfl)
theorem dX11_eveningLine_37 : decode cX11_eveningLine 37 = .ok (.iconst 1, 1) := op4 (bA_at bd03_dec_X11_0_39 22 rfl rfl)
theorem dX11_eveningLine_38 : decode cX11_eveningLine 38 = .ok (.iconst 0, 1) := op3 (bA_at bd03_dec_X11_0_39 23 rfl rfl)
theorem dX11_eveningLine_39 : decode cX11_eveningLine 39 = .ok (.iconst 5, 1) := op8 (bA_at bd03_dec_X11_0_39 24 rfl rfl)
theorem dX11_eveningLine_40 : decode cX11_eveningLine 40 = .ok (.invokevirtual 178, 3) := op182 (bA_at bd03_dec_X11_0_39 25 rfl rfl) rfl
theorem dX11_eveningLine_43 : decode cX11_eveningLine 43 = .ok (.ifCond .eq 30, 3) := op153 (bA_at bd03_dec_X11_0_39 26 rfl rfl) (by decide +kernel)
theorem dX11_eveningLine_46 : decode cX11_eveningLine 46 = .ok (.iload 4, 2) := op21 (bA_at bd03_dec_X11_0_39 27 rfl rfl) rfl
theorem dX11_eveningLine_48 : decode cX11_eveningLine 48 = .ok (.iconst 4, 1) := op7 (bA_at bd03_dec_X11_0_39 28 rfl rfl)
theorem dX11_eveningLine_49 : decode cX11_eveningLine 49 = .ok (.if_icmp .ge 26, 3) := op162 (bA_at bd03_dec_X11_0_39 29 rfl rfl) (by decide +kernel)
theorem dX11_eveningLine_52 : decode cX11_eveningLine 52 = .ok (.aload_n 0, 1) := op42 (bA_at bd03_dec_X11_0_39 30 rfl rfl)
theorem dX11_eveningLine_53 : decode cX11_eveningLine 53 = .ok (.iconst 2, 1) := op5 (bA_at bd03_dec_X11_0_39 31 rfl rfl)
theorem dX11_eveningLine_54 : decode cX11_eveningLine 54 = .ok (.iconst 0, 1) := op3 (bA_at bd03_dec_X11_0_39 32 rfl rfl)
theorem dX11_eveningLine_55 : decode cX11_eveningLine 55 = .ok (.iload 4, 2) := op21 (bA_at bd03_dec_X11_0_39 33 rfl rfl) rfl
theorem dX11_eveningLine_57 : decode cX11_eveningLine 57 = .ok (.iconst 3, 1) := op6 (bA_at bd03_dec_X11_0_39 34 rfl rfl)
theorem dX11_eveningLine_58 : decode cX11_eveningLine 58 = .ok (.if_icmp .ne 8, 3) := op160 (bA_at bd03_dec_X11_0_39 35 rfl rfl) (by decide +kernel)
theorem dX11_eveningLine_61 : decode cX11_eveningLine 61 = .ok (.bipush 8, 2) := op16 (bA_at bd03_dec_X11_0_39 36 rfl rfl) (by decide +kernel)
theorem dX11_eveningLine_63 : decode cX11_eveningLine 63 = .ok (.goto 4, 3) := op167 (bA_at bd03_dec_X11_0_39 37 rfl rfl) (by decide +kernel)
theorem dX11_eveningLine_66 : decode cX11_eveningLine 66 = .ok (.iconst 4, 1) := op7 (bA_at bd03_dec_X11_0_39 38 rfl rfl)
theorem dX11_eveningLine_67 : decode cX11_eveningLine 67 = .ok (.invokevirtual 178, 3) := op182 (bA_at bd03_dec_X11_0_39 39 rfl rfl) rfl
theorem dX11_eveningLine_70 : decode cX11_eveningLine 70 = .ok (.ifCond .ne 5, 3) := op154 (bA_at bd03_dec_X11_0_39 40 rfl rfl) (by decide +kernel)
theorem dX11_eveningLine_73 : decode cX11_eveningLine 73 = .ok (.iconst 0, 1) := op3 (bA_at bd03_dec_X11_0_39 41 rfl rfl)
theorem dX11_eveningLine_74 : decode cX11_eveningLine 74 = .ok (.ireturn, 1) := op172 (bA_at bd03_dec_X11_0_39 42 rfl rfl)
theorem dX11_eveningLine_75 : decode cX11_eveningLine 75 = .ok (.aload_n 0, 1) := op42 (bA_at bd03_dec_X11_0_39 43 rfl rfl)
theorem dX11_eveningLine_76 : decode cX11_eveningLine 76 = .ok (.getfield 41, 3) := op180 (bA_at bd03_dec_X11_0_39 44 rfl rfl) rfl
theorem dX11_eveningLine_79 : decode cX11_eveningLine 79 = .ok (.iconst 0, 1) := op3 (bA_at bd03_dec_X11_0_39 45 rfl rfl)
theorem dX11_eveningLine_80 : decode cX11_eveningLine 80 = .ok (.iload 4, 2) := op21 (bA_at bd03_dec_X11_0_39 46 rfl rfl) rfl
theorem dX11_eveningLine_82 : decode cX11_eveningLine 82 = .ok (.iastore, 1) := op79 (bA_at bd03_dec_X11_0_39 47 rfl rfl)
theorem dX11_eveningLine_83 : decode cX11_eveningLine 83 = .ok (.aload_n 0, 1) := op42 (bA_at bd03_dec_X11_0_39 48 rfl rfl)
theorem dX11_eveningLine_84 : decode cX11_eveningLine 84 = .ok (.iconst 3, 1) := op6 (bA_at bd03_dec_X11_0_39 49 rfl rfl)
theorem bd03_dec_X11_0_40 : ([(0, [16, 40]), (2, [182, 1, 0]), (5, [4]), (6, [172])] : List (Nat × List UInt8)).all (fun x => prB x.2 ((cX11_eveningLine.data.toList.drop 85).drop x.1)) = true := by decide +kernel
theorem dX11_eveningLine_85 : decode cX11_eveningLine 85 = .ok (.bipush 40, 2) := op16 (bA_at bd03_dec_X11_0_40 0 rfl rfl) (by decide +kernel)
theorem dX11_eveningLine_87 : decode cX11_eveningLine 87 = .ok (.invokevirtual 256, 3) := op182 (bA_at bd03_dec_X11_0_40 1 rfl rfl) rfl
theorem dX11_eveningLine_90 : decode cX11_eveningLine 90 = .ok (.iconst 1, 1) := op4 (bA_at bd03_dec_X11_0_40 2 rfl rfl)
theorem dX11_eveningLine_91 : decode cX11_eveningLine 91 = .ok (.ireturn, 1) := op172 (bA_at bd03_dec_X11_0_40 3 rfl rfl)
theorem bd03_dec_X11_0_41 : ([(0, [31]), (1, [20, 1, 3]), (4, [148]), (5, [153, 0, 16]), (8, [31]), (9, [20, 1, 5]), (12, [148]), (13, [153, 0, 8]), (16, [42]), (17, [182, 0, 149]), (20, [172]), (21, [42]), (22, [3]), (23, [16, 10]), (25, [29]), (26, [182, 0, 211]), (29, [42]), (30, [182, 0, 161]), (33, [42]), (34, [4]), (35, [3]), (36, [16, 8]), (38, [182, 0, 178]), (41, [153, 0, 14]), (44, [42]), (45, [5]), (46, [3]), (47, [16, 60]), (49, [182, 0, 178]), (52, [154, 0, 5]), (55, [3]), (56, [172]), (57, [42]), (58, [180, 0, 41]), (61, [3]), (62, [31]), (63, [20, 1, 3]), (66, [148]), (67, [154, 0, 7]), (70, [4]), (71, [167, 0, 4]), (74, [3]), (75, [79]), (76, [42]), (77, [6]), (78, [16, 10]), (80, [182, 1, 0]), (83, [4]), (84, [172])] : List (Nat × List UInt8)).all (fun x => prB x.2 ((cX11_sightLine.data.toList.drop 0).drop x.1)) = true := by decide +kernel
theorem dX11_sightLine_0 : decode cX11_sightLine 0 = .ok (.lload_n 1, 1) := op31 (bA_at bd03_dec_X11_0_41 0 rfl rfl)
theorem dX11_sightLine_1 : decode cX11_sightLine 1 = .ok (.ldc2_w 259, 3) := op20 (bA_at bd03_dec_X11_0_41 1 rfl rfl) rfl
theorem dX11_sightLine_4 : decode cX11_sightLine 4 = .ok (.lcmp, 1) := op148 (bA_at bd03_dec_X11_0_41 2 rfl rfl)
theorem dX11_sightLine_5 : decode cX11_sightLine 5 = .ok (.ifCond .eq 16, 3) := op153 (bA_at bd03_dec_X11_0_41 3 rfl rfl) (by decide +kernel)
theorem dX11_sightLine_8 : decode cX11_sightLine 8 = .ok (.lload_n 1, 1) := op31 (bA_at bd03_dec_X11_0_41 4 rfl rfl)
theorem dX11_sightLine_9 : decode cX11_sightLine 9 = .ok (.ldc2_w 261, 3) := op20 (bA_at bd03_dec_X11_0_41 5 rfl rfl) rfl
theorem dX11_sightLine_12 : decode cX11_sightLine 12 = .ok (.lcmp, 1) := op148 (bA_at bd03_dec_X11_0_41 6 rfl rfl)
theorem dX11_sightLine_13 : decode cX11_sightLine 13 = .ok (.ifCond .eq 8, 3) := op153 (bA_at bd03_dec_X11_0_41 7 rfl rfl) (by decide +kernel)
theorem dX11_sightLine_16 : decode cX11_sightLine 16 = .ok (.aload_n 0, 1) := op42 (bA_at bd03_dec_X11_0_41 8 rfl rfl)
theorem dX11_sightLine_17 : decode cX11_sightLine 17 = .ok (.invokevirtual 149, 3) := op182 (bA_at bd03_dec_X11_0_41 9 rfl rfl) rfl
theorem dX11_sightLine_20 : decode cX11_sightLine 20 = .ok (.ireturn, 1) := op172 (bA_at bd03_dec_X11_0_41 10 rfl rfl)
theorem dX11_sightLine_21 : decode cX11_sightLine 21 = .ok (.aload_n 0, 1) := op42 (bA_at bd03_dec_X11_0_41 11 rfl rfl)
theorem dX11_sightLine_22 : decode cX11_sightLine 22 = .ok (.iconst 0, 1) := op3 (bA_at bd03_dec_X11_0_41 12 rfl rfl)
theorem dX11_sightLine_23 : decode cX11_sightLine 23 = .ok (.bipush 10, 2) := op16 (bA_at bd03_dec_X11_0_41 13 rfl rfl) (by decide +kernel)
theorem dX11_sightLine_25 : decode cX11_sightLine 25 = .ok (.iload_n 3, 1) := op29 (bA_at bd03_dec_X11_0_41 14 rfl rfl)
theorem dX11_sightLine_26 : decode cX11_sightLine 26 = .ok (.invokevirtual 211, 3) := op182 (bA_at bd03_dec_X11_0_41 15 rfl rfl) rfl
theorem dX11_sightLine_29 : decode cX11_sightLine 29 = .ok (.aload_n 0, 1) := op42 (bA_at bd03_dec_X11_0_41 16 rfl rfl)
theorem dX11_sightLine_30 : decode cX11_sightLine 30 = .ok (.invokevirtual 161, 3) := op182 (bA_at bd03_dec_X11_0_41 17 rfl rfl) rfl
theorem dX11_sightLine_33 : decode cX11_sightLine 33 = .ok (.aload_n 0, 1) := op42 (bA_at bd03_dec_X11_0_41 18 rfl rfl)
theorem dX11_sightLine_34 : decode cX11_sightLine 34 = .ok (.iconst 1, 1) := op4 (bA_at bd03_dec_X11_0_41 19 rfl rfl)
theorem dX11_sightLine_35 : decode cX11_sightLine 35 = .ok (.iconst 0, 1) := op3 (bA_at bd03_dec_X11_0_41 20 rfl rfl)
theorem dX11_sightLine_36 : decode cX11_sightLine 36 = .ok (.bipush 8, 2) := op16 (bA_at bd03_dec_X11_0_41 21 rfl rfl) (by decide +kernel)
theorem dX11_sightLine_38 : decode cX11_sightLine 38 = .ok (.invokevirtual 178, 3) := op182 (bA_at bd03_dec_X11_0_41 22 rfl rfl) rfl
theorem dX11_sightLine_41 : decode cX11_sightLine 41 = .ok (.ifCond .eq 14, 3) := op153 (bA_at bd03_dec_X11_0_41 23 rfl rfl) (by decide +kernel)
theorem dX11_sightLine_44 : decode cX11_sightLine 44 = .ok (.aload_n 0, 1) := op42 (bA_at bd03_dec_X11_0_41 24 rfl rfl)
theorem dX11_sightLine_45 : decode cX11_sightLine 45 = .ok (.iconst 2, 1) := op5 (bA_at bd03_dec_X11_0_41 25 rfl rfl)
theorem dX11_sightLine_46 : decode cX11_sightLine 46 = .ok (.iconst 0, 1) := op3 (bA_at bd03_dec_X11_0_41 26 rfl rfl)
theorem dX11_sightLine_47 : decode cX11_sightLine 47 = .ok (.bipush 60, 2) := op16 (bA_at bd03_dec_X11_0_41 27 rfl rfl) (by decide +kernel)
theorem dX11_sightLine_49 : decode cX11_sightLine 49 = .ok (.invokevirtual 178, 3) := op182 (bA_at bd03_dec_X11_0_41 28 rfl rfl) rfl
theorem dX11_sightLine_52 : decode cX11_sightLine 52 = .ok (.ifCond .ne 5, 3) := op154 (bA_at bd03_dec_X11_0_41 29 rfl rfl) (by decide +kernel)
theorem dX11_sightLine_55 : decode cX11_sightLine 55 = .ok (.iconst 0, 1) := op3 (bA_at bd03_dec_X11_0_41 30 rfl rfl)
theorem dX11_sightLine_56 : decode cX11_sightLine 56 = .ok (.ireturn, 1) := op172 (bA_at bd03_dec_X11_0_41 31 rfl rfl)
theorem dX11_sightLine_57 : decode cX11_sightLine 57 = .ok (.aload_n 0, 1) := op42 (bA_at bd03_dec_X11_0_41 32 rfl rfl)
theorem dX11_sightLine_58 : decode cX11_sightLine 58 = .ok (.getfield 41, 3) := op180 (bA_at bd03_dec_X11_0_41 33 rfl rfl) rfl
theorem dX11_sightLine_61 : decode cX11_sightLine 61 = .ok (.iconst 0, 1) := op3 (bA_at bd03_dec_X11_0_41 34 rfl rfl)
theorem dX11_sightLine_62 : decode cX11_sightLine 62 = .ok (.lload_n 1, 1) := op31 (bA_at bd03_dec_X11_0_41 35 rfl rfl)
theorem dX11_sightLine_63 : decode cX11_sightLine 63 = .ok (.ldc2_w 259, 3) := op20 (bA_at bd03_dec_X11_0_41 36 rfl rfl) rfl
theorem dX11_sightLine_66 : decode cX11_sightLine 66 = .ok (.lcmp, 1) := op148 (bA_at bd03_dec_X11_0_41 37 rfl rfl)
theorem dX11_sightLine_67 : decode cX11_sightLine 67 = .ok (.ifCond .ne 7, 3) := op154 (bA_at bd03_dec_X11_0_41 38 rfl rfl) (by decide +kernel)
theorem dX11_sightLine_70 : decode cX11_sightLine 70 = .ok (.iconst 1, 1) := op4 (bA_at bd03_dec_X11_0_41 39 rfl rfl)
theorem dX11_sightLine_71 : decode cX11_sightLine 71 = .ok (.goto 4, 3) := op167 (bA_at bd03_dec_X11_0_41 40 rfl rfl) (by decide +kernel)
theorem dX11_sightLine_74 : decode cX11_sightLine 74 = .ok (.iconst 0, 1) := op3 (bA_at bd03_dec_X11_0_41 41 rfl rfl)
theorem dX11_sightLine_75 : decode cX11_sightLine 75 = .ok (.iastore, 1) := op79 (bA_at bd03_dec_X11_0_41 42 rfl rfl)
theorem dX11_sightLine_76 : decode cX11_sightLine 76 = .ok (.aload_n 0, 1) := op42 (bA_at bd03_dec_X11_0_41 43 rfl rfl)
theorem dX11_sightLine_77 : decode cX11_sightLine 77 = .ok (.iconst 3, 1) := op6 (bA_at bd03_dec_X11_0_41 44 rfl rfl)
theorem dX11_sightLine_78 : decode cX11_sightLine 78 = .ok (.bipush 10, 2) := op16 (bA_at bd03_dec_X11_0_41 45 rfl rfl) (by decide +kernel)
theorem dX11_sightLine_80 : decode cX11_sightLine 80 = .ok (.invokevirtual 256, 3) := op182 (bA_at bd03_dec_X11_0_41 46 rfl rfl) rfl
theorem dX11_sightLine_83 : decode cX11_sightLine 83 = .ok (.iconst 1, 1) := op4 (bA_at bd03_dec_X11_0_41 47 rfl rfl)
theorem dX11_sightLine_84 : decode cX11_sightLine 84 = .ok (.ireturn, 1) := op172 (bA_at bd03_dec_X11_0_41 48 rfl rfl)
theorem bd03_dec_X11_0_42 : ([(0, [31]), (1, [20, 1, 7]), (4, [148]), (5, [153, 0, 16]), (8, [31]), (9, [20, 1, 9]), (12, [148]), (13, [153, 0, 8]), (16, [42]), (17, [182, 0, 149]), (20, [172]), (21, [31]), (22, [20, 1, 7]), (25, [148]), (26, [154, 0, 11]), (29, [42]), (30, [3]), (31, [16, 9]), (33, [29]), (34, [182, 0, 211]), (37, [42]), (38, [182, 0, 161]), (41, [31]), (42, [20, 1, 9]), (45, [148]), (46, [154, 0, 13]), (49, [42]), (50, [16, 19]), (52, [3]), (53, [16, 9]), (55, [182, 0, 222]), (58, [172]), (59, [42]), (60, [3]), (61, [3]), (62, [6]), (63, [182, 0, 178]), (66, [153, 0, 14]), (69, [42]), (70, [4]), (71, [3]), (72, [16, 9]), (74, [182, 0, 178]), (77, [154, 0, 5]), (80, [3]), (81, [172]), (82, [42]), (83, [5]), (84, [16, 9]), (86, [182, 1, 0])] : List (Nat × List UInt8)).all (fun x => prB x.2 ((cX11_choirLine.data.toList.drop 0).drop x.1)) = true := by decide +kernel
theorem dX11_choirLine_0 : decode cX11_choirLine 0 = .ok (.lload_n 1, 1) := op31 (bA_at bd03_dec_X11_0_42 0 rfl rfl)
theorem dX11_choirLine_1 : decode cX11_choirLine 1 = .ok (.ldc2_w 263, 3) := op20 (bA_at bd03_dec_X11_0_42 1 rfl rfl) rfl
theorem dX11_choirLine_4 : decode cX11_choirLine 4 = .ok (.lcmp, 1) := op148 (bA_at bd03_dec_X11_0_42 2 rfl rfl)
theorem dX11_choirLine_5 : decode cX11_choirLine 5 = .ok (.ifCond .eq 16, 3) := op153 (bA_at bd03_dec_X11_0_42 3 rfl rfl) (by decide +kernel)
theorem dX11_choirLine_8 : decode cX11_choirLine 8 = .ok (.lload_n 1, 1) := op31 (bA_at bd03_dec_X11_0_42 4 rfl rfl)
theorem dX11_choirLine_9 : decode cX11_choirLine 9 = .ok (.ldc2_w 265, 3) := op20 (bA_at bd03_dec_X11_0_42 5 rfl rfl) rfl
theorem dX11_choirLine_12 : decode cX11_choirLine 12 = .ok (.lcmp, 1) := op148 (bA_at bd03_dec_X11_0_42 6 rfl rfl)
theorem dX11_choirLine_13 : decode cX11_choirLine 13 = .ok (.ifCond .eq 8, 3) := op153 (bA_at bd03_dec_X11_0_42 7 rfl rfl) (by decide +kernel)
theorem dX11_choirLine_16 : decode cX11_choirLine 16 = .ok (.aload_n 0, 1) := op42 (bA_at bd03_dec_X11_0_42 8 rfl rfl)
theorem dX11_choirLine_17 : decode cX11_choirLine 17 = .ok (.invokevirtual 149, 3) := op182 (bA_at bd03_dec_X11_0_42 9 rfl rfl) rfl
theorem dX11_choirLine_20 : decode cX11_choirLine 20 = .ok (.ireturn, 1) := op172 (bA_at bd03_dec_X11_0_42 10 rfl rfl)
theorem dX11_choirLine_21 : decode cX11_choirLine 21 = .ok (.lload_n 1, 1) := op31 (bA_at bd03_dec_X11_0_42 11 rfl rfl)
theorem dX11_choirLine_22 : decode cX11_choirLine 22 = .ok (.ldc2_w 263, 3) := op20 (bA_at bd03_dec_X11_0_42 12 rfl rfl) rfl
theorem dX11_choirLine_25 : decode cX11_choirLine 25 = .ok (.lcmp, 1) := op148 (bA_at bd03_dec_X11_0_42 13 rfl rfl)
theorem dX11_choirLine_26 : decode cX11_choirLine 26 = .ok (.ifCond .ne 11, 3) := op154 (bA_at bd03_dec_X11_0_42 14 rfl rfl) (by decide +kernel)
theorem dX11_choirLine_29 : decode cX11_choirLine 29 = .ok (.aload_n 0, 1) := op42 (bA_at bd03_dec_X11_0_42 15 rfl rfl)
theorem dX11_choirLine_30 : decode cX11_choirLine 30 = .ok (.iconst 0, 1) := op3 (bA_at bd03_dec_X11_0_42 16 rfl rfl)
theorem dX11_choirLine_31 : decode cX11_choirLine 31 = .ok (.bipush 9, 2) := op16 (bA_at bd03_dec_X11_0_42 17 rfl rfl) (by decide +kernel)
theorem dX11_choirLine_33 : decode cX11_choirLine 33 = .ok (.iload_n 3, 1) := op29 (bA_at bd03_dec_X11_0_42 18 rfl rfl)
theorem dX11_choirLine_34 : decode cX11_choirLine 34 = .ok (.invokevirtual 211, 3) := op182 (bA_at bd03_dec_X11_0_42 19 rfl rfl) rfl
theorem dX11_choirLine_37 : decode cX11_choirLine 37 = .ok (.aload_n 0, 1) := op42 (bA_at bd03_dec_X11_0_42 20 rfl rfl)
theorem dX11_choirLine_38 : decode cX11_choirLine 38 = .ok (.invokevirtual 161, 3) := op182 (bA_at bd03_dec_X11_0_42 21 rfl rfl) rfl
theorem dX11_choirLine_41 : decode cX11_choirLine 41 = .ok (.lload_n 1, 1) := op31 (bA_at bd03_dec_X11_0_42 22 rfl rfl)
theorem dX11_choirLine_42 : decode cX11_choirLine 42 = .ok (.ldc2_w 265, 3) := op20 (bA_at bd03_dec_X11_0_42 23 rfl rfl) rfl
theorem dX11_choirLine_45 : decode cX11_choirLine 45 = .ok (.lcmp, 1) := op148 (bA_at bd03_dec_X11_0_42 24 rfl rfl)
theorem dX11_choirLine_46 : decode cX11_choirLine 46 = .ok (.ifCond .ne 13, 3) := op154 (bA_at bd03_dec_X11_0_42 25 rfl rfl) (by decide +kernel)
theorem dX11_choirLine_49 : decode cX11_choirLine 49 = .ok (.aload_n 0, 1) := op42 (bA_at bd03_dec_X11_0_42 26 rfl rfl)
theorem dX11_choirLine_50 : decode cX11_choirLine 50 = .ok (.bipush 19, 2) := op16 (bA_at bd03_dec_X11_0_42 27 rfl rfl) (by decide +kernel)
theorem dX11_choirLine_52 : decode cX11_choirLine 52 = .ok (.iconst 0, 1) := op3 (bA_at bd03_dec_X11_0_42 28 rfl rfl)
theorem dX11_choirLine_53 : decode cX11_choirLine 53 = .ok (.bipush 9, 2) := op16 (bA_at bd03_dec_X11_0_42 29 rfl rfl) (by decide +kernel)
theorem dX11_choirLine_55 : decode cX11_choirLine 55 = .ok (.invokevirtual 222, 3) := op182 (bA_at bd03_dec_X11_0_42 30 rfl rfl) rfl
theorem dX11_choirLine_58 : decode cX11_choirLine 58 = .ok (.ireturn, 1) := op172 (bA_at bd03_dec_X11_0_42 31 rfl rfl)
theorem dX11_choirLine_59 : decode cX11_choirLine 59 = .ok (.aload_n 0, 1) := op42 (bA_at bd03_dec_X11_0_42 32 rfl rfl)
theorem dX11_choirLine_60 : decode cX11_choirLine 60 = .ok (.iconst 0, 1) := op3 (bA_at bd03_dec_X11_0_42 33 rfl rfl)
theorem dX11_choirLine_61 : decode cX11_choirLine 61 = .ok (.iconst 0, 1) := op3 (bA_at bd03_dec_X11_0_42 34 rfl rfl)
theorem dX11_choirLine_62 : decode cX11_choirLine 62 = .ok (.iconst 3, 1) := op6 (bA_at bd03_dec_X11_0_42 35 rfl rfl)
theorem dX11_choirLine_63 : decode cX11_choirLine 63 = .ok (.invokevirtual 178, 3) := op182 (bA_at bd03_dec_X11_0_42 36 rfl rfl) rfl
theorem dX11_choirLine_66 : decode cX11_choirLine 66 = .ok (.ifCond .eq 14, 3) := op153 (bA_at bd03_dec_X11_0_42 37 rfl rfl) (by decide +kernel)
theorem dX11_choirLine_69 : decode cX11_choirLine 69 = .ok (.aload_n 0, 1) := op42 (bA_at bd03_dec_X11_0_42 38 rfl rfl)
theorem dX11_choirLine_70 : decode cX11_choirLine 70 = .ok (.iconst 1, 1) := op4 (bA_at bd03_dec_X11_0_42 39 rfl rfl)
theorem dX11_choirLine_71 : decode cX11_choirLine 71 = .ok (.iconst 0, 1) := op3 (bA_at bd03_dec_X11_0_42 40 rfl rfl)
theorem dX11_choirLine_72 : decode cX11_choirLine 72 = .ok (.bipush 9, 2) := op16 (bA_at bd03_dec_X11_0_42 41 rfl rfl) (by decide +kernel)
theorem dX11_choirLine_74 : decode cX11_choirLine 74 = .ok (.invokevirtual 178, 3) := op182 (bA_at bd03_dec_X11_0_42 42 rfl rfl) rfl
theorem dX11_choirLine_77 : decode cX11_choirLine 77 = .ok (.ifCond .ne 5, 3) := op154 (bA_at bd03_dec_X11_0_42 43 rfl rfl) (by decide +kernel)
theorem dX11_choirLine_80 : decode cX11_choirLine 80 = .ok (.iconst 0, 1) := op3 (bA_at bd03_dec_X11_0_42 44 rfl rfl)
theorem dX11_choirLine_81 : decode cX11_choirLine 81 = .ok (.ireturn, 1) := op172 (bA_at bd03_dec_X11_0_42 45 rfl rfl)
theorem dX11_choirLine_82 : decode cX11_choirLine 82 = .ok (.aload_n 0, 1) := op42 (bA_at bd03_dec_X11_0_42 46 rfl rfl)
theorem dX11_choirLine_83 : decode cX11_choirLine 83 = .ok (.iconst 2, 1) := op5 (bA_at bd03_dec_X11_0_42 47 rfl rfl)
theorem dX11_choirLine_84 : decode cX11_choirLine 84 = .ok (.bipush 9, 2) := op16 (bA_at bd03_dec_X11_0_42 48 rfl rfl) (by decide +kernel)
theorem dX11_choirLine_86 : decode cX11_choirLine 86 = .ok (.invokevirtual 256, 3) := op182 (bA_at bd03_dec_X11_0_42 49 rfl rfl) rfl
theorem bd03_dec_X11_0_43 : ([(0, [4]), (1, [172])] : List (Nat × List UInt8)).all (fun x => prB x.2 ((cX11_choirLine.data.toList.drop 89).drop x.1)) = true := by decide +kernel
theorem dX11_choirLine_89 : decode cX11_choirLine 89 = .ok (.iconst 1, 1) := op4 (bA_at bd03_dec_X11_0_43 0 rfl rfl)
theorem dX11_choirLine_90 : decode cX11_choirLine 90 = .ok (.ireturn, 1) := op172 (bA_at bd03_dec_X11_0_43 1 rfl rfl)
theorem dX11_lineOf_1 : decode cX11_lineOf 1 = .ok (.tableswitch 51 0 2 #[27, 35, 43], 27) := by decide +kernel
theorem bd03_dec_X11_0_44 : ([(0, [27]), (28, [42]), (29, [32]), (30, [21, 4]), (32, [182, 1, 11]), (35, [172]), (36, [42]), (37, [32]), (38, [21, 4]), (40, [182, 1, 15]), (43, [172]), (44, [42]), (45, [32]), (46, [21, 4]), (48, [182, 1, 18]), (51, [172]), (52, [42]), (53, [32]), (54, [21, 4]), (56, [182, 1, 21]), (59, [172])] : List (Nat × List UInt8)).all (fun x => prB x.2 ((cX11_lineOf.data.toList.drop 0).drop x.1)) = true := by decide +kernel
theorem dX11_lineOf_0 : decode cX11_lineOf 0 = .ok (.iload_n 1, 1) := op27 (bA_at bd03_dec_X11_0_44 0 rfl rfl)
theorem dX11_lineOf_28 : decode cX11_lineOf 28 = .ok (.aload_n 0, 1) := op42 (bA_at bd03_dec_X11_0_44 1 rfl rfl)
theorem dX11_lineOf_29 : decode cX11_lineOf 29 = .ok (.lload_n 2, 1) := op32 (bA_at bd03_dec_X11_0_44 2 rfl rfl)
theorem dX11_lineOf_30 : decode cX11_lineOf 30 = .ok (.iload 4, 2) := op21 (bA_at bd03_dec_X11_0_44 3 rfl rfl) rfl
theorem dX11_lineOf_32 : decode cX11_lineOf 32 = .ok (.invokevirtual 267, 3) := op182 (bA_at bd03_dec_X11_0_44 4 rfl rfl) rfl
theorem dX11_lineOf_35 : decode cX11_lineOf 35 = .ok (.ireturn, 1) := op172 (bA_at bd03_dec_X11_0_44 5 rfl rfl)
theorem dX11_lineOf_36 : decode cX11_lineOf 36 = .ok (.aload_n 0, 1) := op42 (bA_at bd03_dec_X11_0_44 6 rfl rfl)
theorem dX11_lineOf_37 : decode cX11_lineOf 37 = .ok (.lload_n 2, 1) := op32 (bA_at bd03_dec_X11_0_44 7 rfl rfl)
theorem dX11_lineOf_38 : decode cX11_lineOf 38 = .ok (.iload 4, 2) := op21 (bA_at bd03_dec_X11_0_44 8 rfl rfl) rfl
theorem dX11_lineOf_40 : decode cX11_lineOf 40 = .ok (.invokevirtual 271, 3) := op182 (bA_at bd03_dec_X11_0_44 9 rfl rfl) rfl
theorem dX11_lineOf_43 : decode cX11_lineOf 43 = .ok (.ireturn, 1) := op172 (bA_at bd03_dec_X11_0_44 10 rfl rfl)
theorem dX11_lineOf_44 : decode cX11_lineOf 44 = .ok (.aload_n 0, 1) := op42 (bA_at bd03_dec_X11_0_44 11 rfl rfl)
theorem dX11_lineOf_45 : decode cX11_lineOf 45 = .ok (.lload_n 2, 1) := op32 (bA_at bd03_dec_X11_0_44 12 rfl rfl)
theorem dX11_lineOf_46 : decode cX11_lineOf 46 = .ok (.iload 4, 2) := op21 (bA_at bd03_dec_X11_0_44 13 rfl rfl) rfl
theorem dX11_lineOf_48 : decode cX11_lineOf 48 = .ok (.invokevirtual 274, 3) := op182 (bA_at bd03_dec_X11_0_44 14 rfl rfl) rfl
theorem dX11_lineOf_51 : decode cX11_lineOf 51 = .ok (.ireturn, 1) := op172 (bA_at bd03_dec_X11_0_44 15 rfl rfl)
theorem dX11_lineOf_52 : decode cX11_lineOf 52 = .ok (.aload_n 0, 1) := op42 (bA_at bd03_dec_X11_0_44 16 rfl rfl)
theorem dX11_lineOf_53 : decode cX11_lineOf 53 = .ok (.lload_n 2, 1) := op32 (bA_at bd03_dec_X11_0_44 17 rfl rfl)
theorem dX11_lineOf_54 : decode cX11_lineOf 54 = .ok (.iload 4, 2) := op21 (bA_at bd03_dec_X11_0_44 18 rfl rfl) rfl
theorem dX11_lineOf_56 : decode cX11_lineOf 56 = .ok (.invokevirtual 277, 3) := op182 (bA_at bd03_dec_X11_0_44 19 rfl rfl) rfl
theorem dX11_lineOf_59 : decode cX11_lineOf 59 = .ok (.ireturn, 1) := op172 (bA_at bd03_dec_X11_0_44 20 rfl rfl)
theorem bd03_dec_X11_0_45 : ([(0, [4]), (1, [61]), (2, [28]), (3, [153, 0, 71]), (6, [42]), (7, [180, 0, 134]), (10, [153, 0, 64]), (13, [42]), (14, [180, 0, 127]), (17, [62]), (18, [42]), (19, [4]), (20, [181, 0, 157]), (23, [42]), (24, [27]), (25, [42]), (26, [180, 0, 134]), (29, [5]), (30, [160, 0, 10]), (33, [42]), (34, [180, 0, 130]), (37, [167, 0, 4]), (40, [9]), (41, [29]), (42, [182, 1, 24]), (45, [61]), (46, [28]), (47, [153, 0, 16]), (50, [42]), (51, [180, 0, 134]), (54, [7]), (55, [159, 0, 8]), (58, [42]), (59, [182, 0, 149]), (62, [61]), (63, [28]), (64, [153, 0, 7]), (67, [42]), (68, [182, 0, 161]), (71, [167, 255, 187]), (74, [28]), (75, [172])] : List (Nat × List UInt8)).all (fun x => prB x.2 ((cX11_lines.data.toList.drop 0).drop x.1)) = true := by decide +kernel
theorem dX11_lines_0 : decode cX11_lines 0 = .ok (.iconst 1, 1) := op4 (bA_at bd03_dec_X11_0_45 0 rfl rfl)
theorem dX11_lines_1 : decode cX11_lines 1 = .ok (.istore_n 2, 1) := op61 (bA_at bd03_dec_X11_0_45 1 rfl rfl)
theorem dX11_lines_2 : decode cX11_lines 2 = .ok (.iload_n 2, 1) := op28 (bA_at bd03_dec_X11_0_45 2 rfl rfl)
theorem dX11_lines_3 : decode cX11_lines 3 = .ok (.ifCond .eq 71, 3) := op153 (bA_at bd03_dec_X11_0_45 3 rfl rfl) (by decide +kernel)
theorem dX11_lines_6 : decode cX11_lines 6 = .ok (.aload_n 0, 1) := op42 (bA_at bd03_dec_X11_0_45 4 rfl rfl)
theorem dX11_lines_7 : decode cX11_lines 7 = .ok (.getfield 134, 3) := op180 (bA_at bd03_dec_X11_0_45 5 rfl rfl) rfl
theorem dX11_lines_10 : decode cX11_lines 10 = .ok (.ifCond .eq 64, 3) := op153 (bA_at bd03_dec_X11_0_45 6 rfl rfl) (by decide +kernel)
theorem dX11_lines_13 : decode cX11_lines 13 = .ok (.aload_n 0, 1) := op42 (bA_at bd03_dec_X11_0_45 7 rfl rfl)
theorem dX11_lines_14 : decode cX11_lines 14 = .ok (.getfield 127, 3) := op180 (bA_at bd03_dec_X11_0_45 8 rfl rfl) rfl
theorem dX11_lines_17 : decode cX11_lines 17 = .ok (.istore_n 3, 1) := op62 (bA_at bd03_dec_X11_0_45 9 rfl rfl)
theorem dX11_lines_18 : decode cX11_lines 18 = .ok (.aload_n 0, 1) := op42 (bA_at bd03_dec_X11_0_45 10 rfl rfl)
theorem dX11_lines_19 : decode cX11_lines 19 = .ok (.iconst 1, 1) := op4 (bA_at bd03_dec_X11_0_45 11 rfl rfl)
theorem dX11_lines_20 : decode cX11_lines 20 = .ok (.putfield 157, 3) := op181 (bA_at bd03_dec_X11_0_45 12 rfl rfl) rfl
theorem dX11_lines_23 : decode cX11_lines 23 = .ok (.aload_n 0, 1) := op42 (bA_at bd03_dec_X11_0_45 13 rfl rfl)
theorem dX11_lines_24 : decode cX11_lines 24 = .ok (.iload_n 1, 1) := op27 (bA_at bd03_dec_X11_0_45 14 rfl rfl)
theorem dX11_lines_25 : decode cX11_lines 25 = .ok (.aload_n 0, 1) := op42 (bA_at bd03_dec_X11_0_45 15 rfl rfl)
theorem dX11_lines_26 : decode cX11_lines 26 = .ok (.getfield 134, 3) := op180 (bA_at bd03_dec_X11_0_45 16 rfl rfl) rfl
theorem dX11_lines_29 : decode cX11_lines 29 = .ok (.iconst 2, 1) := op5 (bA_at bd03_dec_X11_0_45 17 rfl rfl)
theorem dX11_lines_30 : decode cX11_lines 30 = .ok (.if_icmp .ne 10, 3) := op160 (bA_at bd03_dec_X11_0_45 18 rfl rfl) (by decide +kernel)
theorem dX11_lines_33 : decode cX11_lines 33 = .ok (.aload_n 0, 1) := op42 (bA_at bd03_dec_X11_0_45 19 rfl rfl)
theorem dX11_lines_34 : decode cX11_lines 34 = .ok (.getfield 130, 3) := op180 (bA_at bd03_dec_X11_0_45 20 rfl rfl) rfl
theorem dX11_lines_37 : decode cX11_lines 37 = .ok (.goto 4, 3) := op167 (bA_at bd03_dec_X11_0_45 21 rfl rfl) (by decide +kernel)
theorem dX11_lines_40 : decode cX11_lines 40 = .ok (.lconst 0, 1) := op9 (bA_at bd03_dec_X11_0_45 22 rfl rfl)
theorem dX11_lines_41 : decode cX11_lines 41 = .ok (.iload_n 3, 1) := op29 (bA_at bd03_dec_X11_0_45 23 rfl rfl)
theorem dX11_lines_42 : decode cX11_lines 42 = .ok (.invokevirtual 280, 3) := op182 (bA_at bd03_dec_X11_0_45 24 rfl rfl) rfl
theorem dX11_lines_45 : decode cX11_lines 45 = .ok (.istore_n 2, 1) := op61 (bA_at bd03_dec_X11_0_45 25 rfl rfl)
theorem dX11_lines_46 : decode cX11_lines 46 = .ok (.iload_n 2, 1) := op28 (bA_at bd03_dec_X11_0_45 26 rfl rfl)
theorem dX11_lines_47 : decode cX11_lines 47 = .ok (.ifCond .eq 16, 3) := op153 (bA_at bd03_dec_X11_0_45 27 rfl rfl) (by decide +kernel)
theorem dX11_lines_50 : decode cX11_lines 50 = .ok (.aload_n 0, 1) := op42 (bA_at bd03_dec_X11_0_45 28 rfl rfl)
theorem dX11_lines_51 : decode cX11_lines 51 = .ok (.getfield 134, 3) := op180 (bA_at bd03_dec_X11_0_45 29 rfl rfl) rfl
theorem dX11_lines_54 : decode cX11_lines 54 = .ok (.iconst 4, 1) := op7 (bA_at bd03_dec_X11_0_45 30 rfl rfl)
theorem dX11_lines_55 : decode cX11_lines 55 = .ok (.if_icmp .eq 8, 3) := op159 (bA_at bd03_dec_X11_0_45 31 rfl rfl) (by decide +kernel)
theorem dX11_lines_58 : decode cX11_lines 58 = .ok (.aload_n 0, 1) := op42 (bA_at bd03_dec_X11_0_45 32 rfl rfl)
theorem dX11_lines_59 : decode cX11_lines 59 = .ok (.invokevirtual 149, 3) := op182 (bA_at bd03_dec_X11_0_45 33 rfl rfl) rfl
theorem dX11_lines_62 : decode cX11_lines 62 = .ok (.istore_n 2, 1) := op61 (bA_at bd03_dec_X11_0_45 34 rfl rfl)
theorem dX11_lines_63 : decode cX11_lines 63 = .ok (.iload_n 2, 1) := op28 (bA_at bd03_dec_X11_0_45 35 rfl rfl)
theorem dX11_lines_64 : decode cX11_lines 64 = .ok (.ifCond .eq 7, 3) := op153 (bA_at bd03_dec_X11_0_45 36 rfl rfl) (by decide +kernel)
theorem dX11_lines_67 : decode cX11_lines 67 = .ok (.aload_n 0, 1) := op42 (bA_at bd03_dec_X11_0_45 37 rfl rfl)
theorem dX11_lines_68 : decode cX11_lines 68 = .ok (.invokevirtual 161, 3) := op182 (bA_at bd03_dec_X11_0_45 38 rfl rfl) rfl
theorem dX11_lines_71 : decode cX11_lines 71 = .ok (.goto (-69), 3) := op167 (bA_at bd03_dec_X11_0_45 39 rfl rfl) (by decide +kernel)
theorem dX11_lines_74 : decode cX11_lines 74 = .ok (.iload_n 2, 1) := op28 (bA_at bd03_dec_X11_0_45 40 rfl rfl)
theorem dX11_lines_75 : decode cX11_lines 75 = .ok (.ireturn, 1) := op172 (bA_at bd03_dec_X11_0_45 41 rfl rfl)
theorem bd03_dec_X11_0_46 : ([(0, [3]), (1, [61]), (2, [28]), (3, [17, 0, 132]), (6, [162, 0, 16]), (9, [42]), (10, [180, 0, 38]), (13, [28]), (14, [3]), (15, [79]), (16, [132, 2, 1]), (19, [167, 255, 239]), (22, [27]), (23, [154, 0, 18]), (26, [42]), (27, [180, 0, 38]), (30, [8]), (31, [5]), (32, [79]), (33, [42]), (34, [180, 0, 38]), (37, [16, 6]), (39, [8]), (40, [79]), (41, [42]), (42, [2]), (43, [181, 0, 168]), (46, [42]), (47, [2]), (48, [181, 0, 184]), (51, [42]), (52, [3]), (53, [181, 0, 117]), (56, [42]), (57, [3]), (58, [181, 0, 143]), (61, [42]), (62, [182, 0, 161]), (65, [42]), (66, [27]), (67, [182, 1, 28]), (70, [61]), (71, [28]), (72, [153, 0, 49]), (75, [27]), (76, [154, 0, 45]), (79, [42]), (80, [180, 0, 143]), (83, [154, 0, 38]), (86, [42])] : List (Nat × List UInt8)).all (fun x => prB x.2 ((cX11_readText.data.toList.drop 0).drop x.1)) = true := by decide +kernel
theorem dX11_readText_0 : decode cX11_readText 0 = .ok (.iconst 0, 1) := op3 (bA_at bd03_dec_X11_0_46 0 rfl rfl)
theorem dX11_readText_1 : decode cX11_readText 1 = .ok (.istore_n 2, 1) := op61 (bA_at bd03_dec_X11_0_46 1 rfl rfl)
theorem dX11_readText_2 : decode cX11_readText 2 = .ok (.iload_n 2, 1) := op28 (bA_at bd03_dec_X11_0_46 2 rfl rfl)
theorem dX11_readText_3 : decode cX11_readText 3 = .ok (.sipush 132, 3) := op17 (bA_at bd03_dec_X11_0_46 3 rfl rfl) (by decide +kernel)
theorem dX11_readText_6 : decode cX11_readText 6 = .ok (.if_icmp .ge 16, 3) := op162 (bA_at bd03_dec_X11_0_46 4 rfl rfl) (by decide +kernel)
theorem dX11_readText_9 : decode cX11_readText 9 = .ok (.aload_n 0, 1) := op42 (bA_at bd03_dec_X11_0_46 5 rfl rfl)
theorem dX11_readText_10 : decode cX11_readText 10 = .ok (.getfield 38, 3) := op180 (bA_at bd03_dec_X11_0_46 6 rfl rfl) rfl
theorem dX11_readText_13 : decode cX11_readText 13 = .ok (.iload_n 2, 1) := op28 (bA_at bd03_dec_X11_0_46 7 rfl rfl)
theorem dX11_readText_14 : decode cX11_readText 14 = .ok (.iconst 0, 1) := op3 (bA_at bd03_dec_X11_0_46 8 rfl rfl)
theorem dX11_readText_15 : decode cX11_readText 15 = .ok (.iastore, 1) := op79 (bA_at bd03_dec_X11_0_46 9 rfl rfl)
theorem dX11_readText_16 : decode cX11_readText 16 = .ok (.iinc 2 1, 3) := op132 (bA_at bd03_dec_X11_0_46 10 rfl rfl) rfl (by decide +kernel)
theorem dX11_readText_19 : decode cX11_readText 19 = .ok (.goto (-17), 3) := op167 (bA_at bd03_dec_X11_0_46 11 rfl rfl) (by decide +kernel)
theorem dX11_readText_22 : decode cX11_readText 22 = .ok (.iload_n 1, 1) := op27 (bA_at bd03_dec_X11_0_46 12 rfl rfl)
theorem dX11_readText_23 : decode cX11_readText 23 = .ok (.ifCond .ne 18, 3) := op154 (bA_at bd03_dec_X11_0_46 13 rfl rfl) (by decide +kernel)
theorem dX11_readText_26 : decode cX11_readText 26 = .ok (.aload_n 0, 1) := op42 (bA_at bd03_dec_X11_0_46 14 rfl rfl)
theorem dX11_readText_27 : decode cX11_readText 27 = .ok (.getfield 38, 3) := op180 (bA_at bd03_dec_X11_0_46 15 rfl rfl) rfl
theorem dX11_readText_30 : decode cX11_readText 30 = .ok (.iconst 5, 1) := op8 (bA_at bd03_dec_X11_0_46 16 rfl rfl)
theorem dX11_readText_31 : decode cX11_readText 31 = .ok (.iconst 2, 1) := op5 (bA_at bd03_dec_X11_0_46 17 rfl rfl)
theorem dX11_readText_32 : decode cX11_readText 32 = .ok (.iastore, 1) := op79 (bA_at bd03_dec_X11_0_46 18 rfl rfl)
theorem dX11_readText_33 : decode cX11_readText 33 = .ok (.aload_n 0, 1) := op42 (bA_at bd03_dec_X11_0_46 19 rfl rfl)
theorem dX11_readText_34 : decode cX11_readText 34 = .ok (.getfield 38, 3) := op180 (bA_at bd03_dec_X11_0_46 20 rfl rfl) rfl
theorem dX11_readText_37 : decode cX11_readText 37 = .ok (.bipush 6, 2) := op16 (bA_at bd03_dec_X11_0_46 21 rfl rfl) (by decide +kernel)
theorem dX11_readText_39 : decode cX11_readText 39 = .ok (.iconst 5, 1) := op8 (bA_at bd03_dec_X11_0_46 22 rfl rfl)
theorem dX11_readText_40 : decode cX11_readText 40 = .ok (.iastore, 1) := op79 (bA_at bd03_dec_X11_0_46 23 rfl rfl)
theorem dX11_readText_41 : decode cX11_readText 41 = .ok (.aload_n 0, 1) := op42 (bA_at bd03_dec_X11_0_46 24 rfl rfl)
theorem dX11_readText_42 : decode cX11_readText 42 = .ok (.iconst (-1), 1) := op2 (bA_at bd03_dec_X11_0_46 25 rfl rfl)
theorem dX11_readText_43 : decode cX11_readText 43 = .ok (.putfield 168, 3) := op181 (bA_at bd03_dec_X11_0_46 26 rfl rfl) rfl
theorem dX11_readText_46 : decode cX11_readText 46 = .ok (.aload_n 0, 1) := op42 (bA_at bd03_dec_X11_0_46 27 rfl rfl)
theorem dX11_readText_47 : decode cX11_readText 47 = .ok (.iconst (-1), 1) := op2 (bA_at bd03_dec_X11_0_46 28 rfl rfl)
theorem dX11_readText_48 : decode cX11_readText 48 = .ok (.putfield 184, 3) := op181 (bA_at bd03_dec_X11_0_46 29 rfl rfl) rfl
theorem dX11_readText_51 : decode cX11_readText 51 = .ok (.aload_n 0, 1) := op42 (bA_at bd03_dec_X11_0_46 30 rfl rfl)
theorem dX11_readText_52 : decode cX11_readText 52 = .ok (.iconst 0, 1) := op3 (bA_at bd03_dec_X11_0_46 31 rfl rfl)
theorem dX11_readText_53 : decode cX11_readText 53 = .ok (.putfield 117, 3) := op181 (bA_at bd03_dec_X11_0_46 32 rfl rfl) rfl
theorem dX11_readText_56 : decode cX11_readText 56 = .ok (.aload_n 0, 1) := op42 (bA_at bd03_dec_X11_0_46 33 rfl rfl)
theorem dX11_readText_57 : decode cX11_readText 57 = .ok (.iconst 0, 1) := op3 (bA_at bd03_dec_X11_0_46 34 rfl rfl)
theorem dX11_readText_58 : decode cX11_readText 58 = .ok (.putfield 143, 3) := op181 (bA_at bd03_dec_X11_0_46 35 rfl rfl) rfl
theorem dX11_readText_61 : decode cX11_readText 61 = .ok (.aload_n 0, 1) := op42 (bA_at bd03_dec_X11_0_46 36 rfl rfl)
theorem dX11_readText_62 : decode cX11_readText 62 = .ok (.invokevirtual 161, 3) := op182 (bA_at bd03_dec_X11_0_46 37 rfl rfl) rfl
theorem dX11_readText_65 : decode cX11_readText 65 = .ok (.aload_n 0, 1) := op42 (bA_at bd03_dec_X11_0_46 38 rfl rfl)
theorem dX11_readText_66 : decode cX11_readText 66 = .ok (.iload_n 1, 1) := op27 (bA_at bd03_dec_X11_0_46 39 rfl rfl)
theorem dX11_readText_67 : decode cX11_readText 67 = .ok (.invokevirtual 284, 3) := op182 (bA_at bd03_dec_X11_0_46 40 rfl rfl) rfl
theorem dX11_readText_70 : decode cX11_readText 70 = .ok (.istore_n 2, 1) := op61 (bA_at bd03_dec_X11_0_46 41 rfl rfl)
theorem dX11_readText_71 : decode cX11_readText 71 = .ok (.iload_n 2, 1) := op28 (bA_at bd03_dec_X11_0_46 42 rfl rfl)
theorem dX11_readText_72 : decode cX11_readText 72 = .ok (.ifCond .eq 49, 3) := op153 (bA_at bd03_dec_X11_0_46 43 rfl rfl) (by decide +kernel)
theorem dX11_readText_75 : decode cX11_readText 75 = .ok (.iload_n 1, 1) := op27 (bA_at bd03_dec_X11_0_46 44 rfl rfl)
theorem dX11_readText_76 : decode cX11_readText 76 = .ok (.ifCond .ne 45, 3) := op154 (bA_at bd03_dec_X11_0_46 45 rfl rfl) (by decide +kernel)
theorem dX11_readText_79 : decode cX11_readText 79 = .ok (.aload_n 0, 1) := op42 (bA_at bd03_dec_X11_0_46 46 rfl rfl)
theorem dX11_readText_80 : decode cX11_readText 80 = .ok (.getfield 143, 3) := op180 (bA_at bd03_dec_X11_0_46 47 rfl rfl) rfl
theorem dX11_readText_83 : decode cX11_readText 83 = .ok (.ifCond .ne 38, 3) := op154 (bA_at bd03_dec_X11_0_46 48 rfl rfl) (by decide +kernel)
theorem dX11_readText_86 : decode cX11_readText 86 = .ok (.aload_n 0, 1) := op42 (bA_at bd03_dec_X11_0_46 49 rfl rfl)
theorem bd03_dec_X11_0_47 : ([(0, [180, 0, 168]), (3, [42]), (4, [180, 0, 38]), (7, [3]), (8, [46]), (9, [162, 0, 16]), (12, [42]), (13, [180, 0, 184]), (16, [42]), (17, [180, 0, 38]), (20, [4]), (21, [46]), (22, [161, 0, 12]), (25, [42]), (26, [7]), (27, [42]), (28, [180, 0, 127]), (31, [182, 0, 153]), (34, [42]), (35, [180, 0, 17]), (38, [3]), (39, [28]), (40, [153, 0, 10]), (43, [42]), (44, [180, 0, 143]), (47, [167, 0, 4]), (50, [4]), (51, [79]), (52, [42]), (53, [180, 0, 20]), (56, [3]), (57, [28]), (58, [154, 0, 10]), (61, [42]), (62, [180, 0, 140]), (65, [167, 0, 18]), (68, [42]), (69, [180, 0, 143]), (72, [158, 0, 10]), (75, [42]), (76, [180, 0, 146]), (79, [167, 0, 4]), (82, [2]), (83, [79]), (84, [42]), (85, [180, 0, 17]), (88, [3]), (89, [46]), (90, [154, 0, 7]), (93, [4])] : List (Nat × List UInt8)).all (fun x => prB x.2 ((cX11_readText.data.toList.drop 87).drop x.1)) = true := by decide +kernel
theorem dX11_readText_87 : decode cX11_readText 87 = .ok (.getfield 168, 3) := op180 (bA_at bd03_dec_X11_0_47 0 rfl rfl) rfl
theorem dX11_readText_90 : decode cX11_readText 90 = .ok (.aload_n 0, 1) := op42 (bA_at bd03_dec_X11_0_47 1 rfl rfl)
theorem dX11_readText_91 : decode cX11_readText 91 = .ok (.getfield 38, 3) := op180 (bA_at bd03_dec_X11_0_47 2 rfl rfl) rfl
theorem dX11_readText_94 : decode cX11_readText 94 = .ok (.iconst 0, 1) := op3 (bA_at bd03_dec_X11_0_47 3 rfl rfl)
theorem dX11_readText_95 : decode cX11_readText 95 = .ok (.iaload, 1) := op46 (bA_at bd03_dec_X11_0_47 4 rfl rfl)
theorem dX11_readText_96 : decode cX11_readText 96 = .ok (.if_icmp .ge 16, 3) := op162 (bA_at bd03_dec_X11_0_47 5 rfl rfl) (by decide +kernel)
theorem dX11_readText_99 : decode cX11_readText 99 = .ok (.aload_n 0, 1) := op42 (bA_at bd03_dec_X11_0_47 6 rfl rfl)
theorem dX11_readText_100 : decode cX11_readText 100 = .ok (.getfield 184, 3) := op180 (bA_at bd03_dec_X11_0_47 7 rfl rfl) rfl
theorem dX11_readText_103 : decode cX11_readText 103 = .ok (.aload_n 0, 1) := op42 (bA_at bd03_dec_X11_0_47 8 rfl rfl)
theorem dX11_readText_104 : decode cX11_readText 104 = .ok (.getfield 38, 3) := op180 (bA_at bd03_dec_X11_0_47 9 rfl rfl) rfl
theorem dX11_readText_107 : decode cX11_readText 107 = .ok (.iconst 1, 1) := op4 (bA_at bd03_dec_X11_0_47 10 rfl rfl)
theorem dX11_readText_108 : decode cX11_readText 108 = .ok (.iaload, 1) := op46 (bA_at bd03_dec_X11_0_47 11 rfl rfl)
theorem dX11_readText_109 : decode cX11_readText 109 = .ok (.if_icmp .lt 12, 3) := op161 (bA_at bd03_dec_X11_0_47 12 rfl rfl) (by decide +kernel)
theorem dX11_readText_112 : decode cX11_readText 112 = .ok (.aload_n 0, 1) := op42 (bA_at bd03_dec_X11_0_47 13 rfl rfl)
theorem dX11_readText_113 : decode cX11_readText 113 = .ok (.iconst 4, 1) := op7 (bA_at bd03_dec_X11_0_47 14 rfl rfl)
theorem dX11_readText_114 : decode cX11_readText 114 = .ok (.aload_n 0, 1) := op42 (bA_at bd03_dec_X11_0_47 15 rfl rfl)
theorem dX11_readText_115 : decode cX11_readText 115 = .ok (.getfield 127, 3) := op180 (bA_at bd03_dec_X11_0_47 16 rfl rfl) rfl
theorem dX11_readText_118 : decode cX11_readText 118 = .ok (.invokevirtual 153, 3) := op182 (bA_at bd03_dec_X11_0_47 17 rfl rfl) rfl
theorem dX11_readText_121 : decode cX11_readText 121 = .ok (.aload_n 0, 1) := op42 (bA_at bd03_dec_X11_0_47 18 rfl rfl)
theorem dX11_readText_122 : decode cX11_readText 122 = .ok (.getfield 17, 3) := op180 (bA_at bd03_dec_X11_0_47 19 rfl rfl) rfl
theorem dX11_readText_125 : decode cX11_readText 125 = .ok (.iconst 0, 1) := op3 (bA_at bd03_dec_X11_0_47 20 rfl rfl)
theorem dX11_readText_126 : decode cX11_readText 126 = .ok (.iload_n 2, 1) := op28 (bA_at bd03_dec_X11_0_47 21 rfl rfl)
theorem dX11_readText_127 : decode cX11_readText 127 = .ok (.ifCond .eq 10, 3) := op153 (bA_at bd03_dec_X11_0_47 22 rfl rfl) (by decide +kernel)
theorem dX11_readText_130 : decode cX11_readText 130 = .ok (.aload_n 0, 1) := op42 (bA_at bd03_dec_X11_0_47 23 rfl rfl)
theorem dX11_readText_131 : decode cX11_readText 131 = .ok (.getfield 143, 3) := op180 (bA_at bd03_dec_X11_0_47 24 rfl rfl) rfl
theorem dX11_readText_134 : decode cX11_readText 134 = .ok (.goto 4, 3) := op167 (bA_at bd03_dec_X11_0_47 25 rfl rfl) (by decide +kernel)
theorem dX11_readText_137 : decode cX11_readText 137 = .ok (.iconst 1, 1) := op4 (bA_at bd03_dec_X11_0_47 26 rfl rfl)
theorem dX11_readText_138 : decode cX11_readText 138 = .ok (.iastore, 1) := op79 (bA_at bd03_dec_X11_0_47 27 rfl rfl)
theorem dX11_readText_139 : decode cX11_readText 139 = .ok (.aload_n 0, 1) := op42 (bA_at bd03_dec_X11_0_47 28 rfl rfl)
theorem dX11_readText_140 : decode cX11_readText 140 = .ok (.getfield 20, 3) := op180 (bA_at bd03_dec_X11_0_47 29 rfl rfl) rfl
theorem dX11_readText_143 : decode cX11_readText 143 = .ok (.iconst 0, 1) := op3 (bA_at bd03_dec_X11_0_47 30 rfl rfl)
theorem dX11_readText_144 : decode cX11_readText 144 = .ok (.iload_n 2, 1) := op28 (bA_at bd03_dec_X11_0_47 31 rfl rfl)
theorem dX11_readText_145 : decode cX11_readText 145 = .ok (.ifCond .ne 10, 3) := op154 (bA_at bd03_dec_X11_0_47 32 rfl rfl) (by decide +kernel)
theorem dX11_readText_148 : decode cX11_readText 148 = .ok (.aload_n 0, 1) := op42 (bA_at bd03_dec_X11_0_47 33 rfl rfl)
theorem dX11_readText_149 : decode cX11_readText 149 = .ok (.getfield 140, 3) := op180 (bA_at bd03_dec_X11_0_47 34 rfl rfl) rfl
theorem dX11_readText_152 : decode cX11_readText 152 = .ok (.goto 18, 3) := op167 (bA_at bd03_dec_X11_0_47 35 rfl rfl) (by decide +kernel)
theorem dX11_readText_155 : decode cX11_readText 155 = .ok (.aload_n 0, 1) := op42 (bA_at bd03_dec_X11_0_47 36 rfl rfl)
theorem dX11_readText_156 : decode cX11_readText 156 = .ok (.getfield 143, 3) := op180 (bA_at bd03_dec_X11_0_47 37 rfl rfl) rfl
theorem dX11_readText_159 : decode cX11_readText 159 = .ok (.ifCond .le 10, 3) := op158 (bA_at bd03_dec_X11_0_47 38 rfl rfl) (by decide +kernel)
theorem dX11_readText_162 : decode cX11_readText 162 = .ok (.aload_n 0, 1) := op42 (bA_at bd03_dec_X11_0_47 39 rfl rfl)
theorem dX11_readText_163 : decode cX11_readText 163 = .ok (.getfield 146, 3) := op180 (bA_at bd03_dec_X11_0_47 40 rfl rfl) rfl
theorem dX11_readText_166 : decode cX11_readText 166 = .ok (.goto 4, 3) := op167 (bA_at bd03_dec_X11_0_47 41 rfl rfl) (by decide +kernel)
theorem dX11_readText_169 : decode cX11_readText 169 = .ok (.iconst (-1), 1) := op2 (bA_at bd03_dec_X11_0_47 42 rfl rfl)
theorem dX11_readText_170 : decode cX11_readText 170 = .ok (.iastore, 1) := op79 (bA_at bd03_dec_X11_0_47 43 rfl rfl)
theorem dX11_readText_171 : decode cX11_readText 171 = .ok (.aload_n 0, 1) := op42 (bA_at bd03_dec_X11_0_47 44 rfl rfl)
theorem dX11_readText_172 : decode cX11_readText 172 = .ok (.getfield 17, 3) := op180 (bA_at bd03_dec_X11_0_47 45 rfl rfl) rfl
theorem dX11_readText_175 : decode cX11_readText 175 = .ok (.iconst 0, 1) := op3 (bA_at bd03_dec_X11_0_47 46 rfl rfl)
theorem dX11_readText_176 : decode cX11_readText 176 = .ok (.iaload, 1) := op46 (bA_at bd03_dec_X11_0_47 47 rfl rfl)
theorem dX11_readText_177 : decode cX11_readText 177 = .ok (.ifCond .ne 7, 3) := op154 (bA_at bd03_dec_X11_0_47 48 rfl rfl) (by decide +kernel)
theorem dX11_readText_180 : decode cX11_readText 180 = .ok (.iconst 1, 1) := op4 (bA_at bd03_dec_X11_0_47 49 rfl rfl)
theorem bd03_dec_X11_0_48 : ([(0, [167, 0, 4]), (3, [3]), (4, [172])] : List (Nat × List UInt8)).all (fun x => prB x.2 ((cX11_readText.data.toList.drop 181).drop x.1)) = true := by decide +kernel
theorem dX11_readText_181 : decode cX11_readText 181 = .ok (.goto 4, 3) := op167 (bA_at bd03_dec_X11_0_48 0 rfl rfl) (by decide +kernel)
theorem dX11_readText_184 : decode cX11_readText 184 = .ok (.iconst 0, 1) := op3 (bA_at bd03_dec_X11_0_48 1 rfl rfl)
theorem dX11_readText_185 : decode cX11_readText 185 = .ok (.ireturn, 1) := op172 (bA_at bd03_dec_X11_0_48 2 rfl rfl)
theorem bd03_dec_X11_0_49 : ([(0, [3]), (1, [54, 4]), (3, [21, 4]), (5, [28]), (6, [162, 0, 24]), (9, [43]), (10, [28]), (11, [29]), (12, [104]), (13, [21, 4]), (15, [96])] : List (Nat × List UInt8)).all (fun x => prB x.2 ((cX11_store.data.toList.drop 0).drop x.1)) = true := by decide +kernel
theorem dX11_store_0 : decode cX11_store 0 = .ok (.iconst 0, 1) := op3 (bA_at bd03_dec_X11_0_49 0 rfl rfl)
theorem dX11_store_1 : decode cX11_store 1 = .ok (.istore 4, 2) := op54 (bA_at bd03_dec_X11_0_49 1 rfl rfl) rfl
theorem dX11_store_3 : decode cX11_store 3 = .ok (.iload 4, 2) := op21 (bA_at bd03_dec_X11_0_49 2 rfl rfl) rfl
theorem dX11_store_5 : decode cX11_store 5 = .ok (.iload_n 2, 1) := op28 (bA_at bd03_dec_X11_0_49 3 rfl rfl)
theorem dX11_store_6 : decode cX11_store 6 = .ok (.if_icmp .ge 24, 3) := op162 (bA_at bd03_dec_X11_0_49 4 rfl rfl) (by decide +kernel)
theorem dX11_store_9 : decode cX11_store 9 = .ok (.aload_n 1, 1) := op43 (bA_at bd03_dec_X11_0_49 5 rfl rfl)
theorem dX11_store_10 : decode cX11_store 10 = .ok (.iload_n 2, 1) := op28 (bA_at bd03_dec_X11_0_49 6 rfl rfl)
theorem dX11_store_11 : decode cX11_store 11 = .ok (.iload_n 3, 1) := op29 (bA_at bd03_dec_X11_0_49 7 rfl rfl)
theorem dX11_store_12 : decode cX11_store 12 = .ok (.imul, 1) := op104 (bA_at bd03_dec_X11_0_49 8 rfl rfl)
theorem dX11_store_13 : decode cX11_store 13 = .ok (.iload 4, 2) := op21 (bA_at bd03_dec_X11_0_49 9 rfl rfl) rfl
theorem dX11_store_15 : decode cX11_store 15 = .ok (.iadd, 1) := op96 (bA_at bd03_dec_X11_0_49 10 rfl rfl)
end
