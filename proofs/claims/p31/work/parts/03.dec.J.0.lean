section
theorem dc_of {C : ByteArray} {l : List (Nat × (Instr × Nat))} (h : l.all (fun x => decide (decode C x.1 = .ok x.2)) = true) {p : Nat} {r : Instr × Nat} (hm : (p, r) ∈ l) : decode C p = .ok r := of_decide_eq_true (List.all_eq_true.mp h (p, r) hm)
theorem bd03_dec_J_0_0 : ([(0, [26]), (1, [26]), (2, [4]), (3, [124]), (4, [19, 1, 9]), (7, [126]), (8, [100]), (9, [59]), (10, [26]), (11, [19, 1, 10]), (14, [126]), (15, [26]), (16, [5]), (17, [124]), (18, [19, 1, 10]), (21, [126]), (22, [96]), (23, [59]), (24, [26]), (25, [26]), (26, [7]), (27, [124]), (28, [96]), (29, [19, 1, 11]), (32, [126]), (33, [59]), (34, [26]), (35, [26]), (36, [16, 8]), (38, [124]), (39, [96]), (40, [59]), (41, [26]), (42, [26]), (43, [16, 16]), (45, [124]), (46, [96]), (47, [59]), (48, [26]), (49, [16, 63]), (51, [126]), (52, [172])] : List (Nat × List UInt8)).all (fun x => prB x.2 ((cJ6_bitCount_0f7a4.data.toList.drop 0).drop x.1)) = true := by decide +kernel
theorem dJ6_bitCount_0f7a4_0 : decode cJ6_bitCount_0f7a4 0 = .ok (.iload_n 0, 1) := op26 (bA_at bd03_dec_J_0_0 0 rfl rfl)
theorem dJ6_bitCount_0f7a4_1 : decode cJ6_bitCount_0f7a4 1 = .ok (.iload_n 0, 1) := op26 (bA_at bd03_dec_J_0_0 1 rfl rfl)
theorem dJ6_bitCount_0f7a4_2 : decode cJ6_bitCount_0f7a4 2 = .ok (.iconst 1, 1) := op4 (bA_at bd03_dec_J_0_0 2 rfl rfl)
theorem dJ6_bitCount_0f7a4_3 : decode cJ6_bitCount_0f7a4 3 = .ok (.iushr, 1) := op124 (bA_at bd03_dec_J_0_0 3 rfl rfl)
theorem dJ6_bitCount_0f7a4_4 : decode cJ6_bitCount_0f7a4 4 = .ok (.ldc_w 265, 3) := op19 (bA_at bd03_dec_J_0_0 4 rfl rfl) rfl
theorem dJ6_bitCount_0f7a4_7 : decode cJ6_bitCount_0f7a4 7 = .ok (.iand, 1) := op126 (bA_at bd03_dec_J_0_0 5 rfl rfl)
theorem dJ6_bitCount_0f7a4_8 : decode cJ6_bitCount_0f7a4 8 = .ok (.isub, 1) := op100 (bA_at bd03_dec_J_0_0 6 rfl rfl)
theorem dJ6_bitCount_0f7a4_9 : decode cJ6_bitCount_0f7a4 9 = .ok (.istore_n 0, 1) := op59 (bA_at bd03_dec_J_0_0 7 rfl rfl)
theorem dJ6_bitCount_0f7a4_10 : decode cJ6_bitCount_0f7a4 10 = .ok (.iload_n 0, 1) := op26 (bA_at bd03_dec_J_0_0 8 rfl rfl)
theorem dJ6_bitCount_0f7a4_11 : decode cJ6_bitCount_0f7a4 11 = .ok (.ldc_w 266, 3) := op19 (bA_at bd03_dec_J_0_0 9 rfl rfl) rfl
theorem dJ6_bitCount_0f7a4_14 : decode cJ6_bitCount_0f7a4 14 = .ok (.iand, 1) := op126 (bA_at bd03_dec_J_0_0 10 rfl rfl)
theorem dJ6_bitCount_0f7a4_15 : decode cJ6_bitCount_0f7a4 15 = .ok (.iload_n 0, 1) := op26 (bA_at bd03_dec_J_0_0 11 rfl rfl)
theorem dJ6_bitCount_0f7a4_16 : decode cJ6_bitCount_0f7a4 16 = .ok (.iconst 2, 1) := op5 (bA_at bd03_dec_J_0_0 12 rfl rfl)
theorem dJ6_bitCount_0f7a4_17 : decode cJ6_bitCount_0f7a4 17 = .ok (.iushr, 1) := op124 (bA_at bd03_dec_J_0_0 13 rfl rfl)
theorem dJ6_bitCount_0f7a4_18 : decode cJ6_bitCount_0f7a4 18 = .ok (.ldc_w 266, 3) := op19 (bA_at bd03_dec_J_0_0 14 rfl rfl) rfl
theorem dJ6_bitCount_0f7a4_21 : decode cJ6_bitCount_0f7a4 21 = .ok (.iand, 1) := op126 (bA_at bd03_dec_J_0_0 15 rfl rfl)
theorem dJ6_bitCount_0f7a4_22 : decode cJ6_bitCount_0f7a4 22 = .ok (.iadd, 1) := op96 (bA_at bd03_dec_J_0_0 16 rfl rfl)
theorem dJ6_bitCount_0f7a4_23 : decode cJ6_bitCount_0f7a4 23 = .ok (.istore_n 0, 1) := op59 (bA_at bd03_dec_J_0_0 17 rfl rfl)
theorem dJ6_bitCount_0f7a4_24 : decode cJ6_bitCount_0f7a4 24 = .ok (.iload_n 0, 1) := op26 (bA_at bd03_dec_J_0_0 18 rfl rfl)
theorem dJ6_bitCount_0f7a4_25 : decode cJ6_bitCount_0f7a4 25 = .ok (.iload_n 0, 1) := op26 (bA_at bd03_dec_J_0_0 19 rfl rfl)
theorem dJ6_bitCount_0f7a4_26 : decode cJ6_bitCount_0f7a4 26 = .ok (.iconst 4, 1) := op7 (bA_at bd03_dec_J_0_0 20 rfl rfl)
theorem dJ6_bitCount_0f7a4_27 : decode cJ6_bitCount_0f7a4 27 = .ok (.iushr, 1) := op124 (bA_at bd03_dec_J_0_0 21 rfl rfl)
theorem dJ6_bitCount_0f7a4_28 : decode cJ6_bitCount_0f7a4 28 = .ok (.iadd, 1) := op96 (bA_at bd03_dec_J_0_0 22 rfl rfl)
theorem dJ6_bitCount_0f7a4_29 : decode cJ6_bitCount_0f7a4 29 = .ok (.ldc_w 267, 3) := op19 (bA_at bd03_dec_J_0_0 23 rfl rfl) rfl
theorem dJ6_bitCount_0f7a4_32 : decode cJ6_bitCount_0f7a4 32 = .ok (.iand, 1) := op126 (bA_at bd03_dec_J_0_0 24 rfl rfl)
theorem dJ6_bitCount_0f7a4_33 : decode cJ6_bitCount_0f7a4 33 = .ok (.istore_n 0, 1) := op59 (bA_at bd03_dec_J_0_0 25 rfl rfl)
theorem dJ6_bitCount_0f7a4_34 : decode cJ6_bitCount_0f7a4 34 = .ok (.iload_n 0, 1) := op26 (bA_at bd03_dec_J_0_0 26 rfl rfl)
theorem dJ6_bitCount_0f7a4_35 : decode cJ6_bitCount_0f7a4 35 = .ok (.iload_n 0, 1) := op26 (bA_at bd03_dec_J_0_0 27 rfl rfl)
theorem dJ6_bitCount_0f7a4_36 : decode cJ6_bitCount_0f7a4 36 = .ok (.bipush 8, 2) := op16 (bA_at bd03_dec_J_0_0 28 rfl rfl) (by decide +kernel)
theorem dJ6_bitCount_0f7a4_38 : decode cJ6_bitCount_0f7a4 38 = .ok (.iushr, 1) := op124 (bA_at bd03_dec_J_0_0 29 rfl rfl)
theorem dJ6_bitCount_0f7a4_39 : decode cJ6_bitCount_0f7a4 39 = .ok (.iadd, 1) := op96 (bA_at bd03_dec_J_0_0 30 rfl rfl)
theorem dJ6_bitCount_0f7a4_40 : decode cJ6_bitCount_0f7a4 40 = .ok (.istore_n 0, 1) := op59 (bA_at bd03_dec_J_0_0 31 rfl rfl)
theorem dJ6_bitCount_0f7a4_41 : decode cJ6_bitCount_0f7a4 41 = .ok (.iload_n 0, 1) := op26 (bA_at bd03_dec_J_0_0 32 rfl rfl)
theorem dJ6_bitCount_0f7a4_42 : decode cJ6_bitCount_0f7a4 42 = .ok (.iload_n 0, 1) := op26 (bA_at bd03_dec_J_0_0 33 rfl rfl)
theorem dJ6_bitCount_0f7a4_43 : decode cJ6_bitCount_0f7a4 43 = .ok (.bipush 16, 2) := op16 (bA_at bd03_dec_J_0_0 34 rfl rfl) (by decide +kernel)
theorem dJ6_bitCount_0f7a4_45 : decode cJ6_bitCount_0f7a4 45 = .ok (.iushr, 1) := op124 (bA_at bd03_dec_J_0_0 35 rfl rfl)
theorem dJ6_bitCount_0f7a4_46 : decode cJ6_bitCount_0f7a4 46 = .ok (.iadd, 1) := op96 (bA_at bd03_dec_J_0_0 36 rfl rfl)
theorem dJ6_bitCount_0f7a4_47 : decode cJ6_bitCount_0f7a4 47 = .ok (.istore_n 0, 1) := op59 (bA_at bd03_dec_J_0_0 37 rfl rfl)
theorem dJ6_bitCount_0f7a4_48 : decode cJ6_bitCount_0f7a4 48 = .ok (.iload_n 0, 1) := op26 (bA_at bd03_dec_J_0_0 38 rfl rfl)
theorem dJ6_bitCount_0f7a4_49 : decode cJ6_bitCount_0f7a4 49 = .ok (.bipush 63, 2) := op16 (bA_at bd03_dec_J_0_0 39 rfl rfl) (by decide +kernel)
theorem dJ6_bitCount_0f7a4_51 : decode cJ6_bitCount_0f7a4 51 = .ok (.iand, 1) := op126 (bA_at bd03_dec_J_0_0 40 rfl rfl)
theorem dJ6_bitCount_0f7a4_52 : decode cJ6_bitCount_0f7a4 52 = .ok (.ireturn, 1) := op172 (bA_at bd03_dec_J_0_0 41 rfl rfl)
theorem bd03_dec_J_0_1 : ([(0, [3]), (1, [61]), (2, [42]), (3, [190]), (4, [62]), (5, [28]), (6, [29]), (7, [162, 0, 13]), (10, [42]), (11, [28]), (12, [27]), (13, [79]), (14, [132, 2, 1]), (17, [167, 255, 244]), (20, [177])] : List (Nat × List UInt8)).all (fun x => prB x.2 ((cJ7_fill_53178.data.toList.drop 0).drop x.1)) = true := by decide +kernel
theorem dJ7_fill_53178_0 : decode cJ7_fill_53178 0 = .ok (.iconst 0, 1) := op3 (bA_at bd03_dec_J_0_1 0 rfl rfl)
theorem dJ7_fill_53178_1 : decode cJ7_fill_53178 1 = .ok (.istore_n 2, 1) := op61 (bA_at bd03_dec_J_0_1 1 rfl rfl)
theorem dJ7_fill_53178_2 : decode cJ7_fill_53178 2 = .ok (.aload_n 0, 1) := op42 (bA_at bd03_dec_J_0_1 2 rfl rfl)
theorem dJ7_fill_53178_3 : decode cJ7_fill_53178 3 = .ok (.arraylength, 1) := op190 (bA_at bd03_dec_J_0_1 3 rfl rfl)
theorem dJ7_fill_53178_4 : decode cJ7_fill_53178 4 = .ok (.istore_n 3, 1) := op62 (bA_at bd03_dec_J_0_1 4 rfl rfl)
theorem dJ7_fill_53178_5 : decode cJ7_fill_53178 5 = .ok (.iload_n 2, 1) := op28 (bA_at bd03_dec_J_0_1 5 rfl rfl)
theorem dJ7_fill_53178_6 : decode cJ7_fill_53178 6 = .ok (.iload_n 3, 1) := op29 (bA_at bd03_dec_J_0_1 6 rfl rfl)
theorem dJ7_fill_53178_7 : decode cJ7_fill_53178 7 = .ok (.if_icmp .ge 13, 3) := op162 (bA_at bd03_dec_J_0_1 7 rfl rfl) (by decide +kernel)
theorem dJ7_fill_53178_10 : decode cJ7_fill_53178 10 = .ok (.aload_n 0, 1) := op42 (bA_at bd03_dec_J_0_1 8 rfl rfl)
theorem dJ7_fill_53178_11 : decode cJ7_fill_53178 11 = .ok (.iload_n 2, 1) := op28 (bA_at bd03_dec_J_0_1 9 rfl rfl)
theorem dJ7_fill_53178_12 : decode cJ7_fill_53178 12 = .ok (.iload_n 1, 1) := op27 (bA_at bd03_dec_J_0_1 10 rfl rfl)
theorem dJ7_fill_53178_13 : decode cJ7_fill_53178 13 = .ok (.iastore, 1) := op79 (bA_at bd03_dec_J_0_1 11 rfl rfl)
theorem dJ7_fill_53178_14 : decode cJ7_fill_53178 14 = .ok (.iinc 2 1, 3) := op132 (bA_at bd03_dec_J_0_1 12 rfl rfl) rfl (by decide +kernel)
theorem dJ7_fill_53178_17 : decode cJ7_fill_53178 17 = .ok (.goto (-12), 3) := op167 (bA_at bd03_dec_J_0_1 13 rfl rfl) (by decide +kernel)
theorem dJ7_fill_53178_20 : decode cJ7_fill_53178 20 = .ok (.return_, 1) := op177 (bA_at bd03_dec_J_0_1 14 rfl rfl)
end
section
theorem bd03_dec_X0_0_0 : ([(0, [42]), (1, [43]), (2, [180, 0, 18]), (5, [181, 0, 18]), (8, [42]), (9, [43]), (10, [180, 0, 22]), (13, [181, 0, 22]), (16, [43]), (17, [180, 0, 9]), (20, [3]), (21, [42]), (22, [180, 0, 9]), (25, [3]), (26, [42]), (27, [180, 0, 18]), (30, [184, 0, 25]), (33, [43]), (34, [180, 0, 15]), (37, [3]), (38, [42]), (39, [180, 0, 15]), (42, [3]), (43, [42]), (44, [180, 0, 18]), (47, [184, 0, 25]), (50, [177])] : List (Nat × List UInt8)).all (fun x => prB x.2 ((cX0_copyFrom.data.toList.drop 0).drop x.1)) = true := by decide +kernel
theorem dX0_copyFrom_0 : decode cX0_copyFrom 0 = .ok (.aload_n 0, 1) := op42 (bA_at bd03_dec_X0_0_0 0 rfl rfl)
theorem dX0_copyFrom_1 : decode cX0_copyFrom 1 = .ok (.aload_n 1, 1) := op43 (bA_at bd03_dec_X0_0_0 1 rfl rfl)
theorem dX0_copyFrom_2 : decode cX0_copyFrom 2 = .ok (.getfield 18, 3) := op180 (bA_at bd03_dec_X0_0_0 2 rfl rfl) rfl
theorem dX0_copyFrom_5 : decode cX0_copyFrom 5 = .ok (.putfield 18, 3) := op181 (bA_at bd03_dec_X0_0_0 3 rfl rfl) rfl
theorem dX0_copyFrom_8 : decode cX0_copyFrom 8 = .ok (.aload_n 0, 1) := op42 (bA_at bd03_dec_X0_0_0 4 rfl rfl)
theorem dX0_copyFrom_9 : decode cX0_copyFrom 9 = .ok (.aload_n 1, 1) := op43 (bA_at bd03_dec_X0_0_0 5 rfl rfl)
theorem dX0_copyFrom_10 : decode cX0_copyFrom 10 = .ok (.getfield 22, 3) := op180 (bA_at bd03_dec_X0_0_0 6 rfl rfl) rfl
theorem dX0_copyFrom_13 : decode cX0_copyFrom 13 = .ok (.putfield 22, 3) := op181 (bA_at bd03_dec_X0_0_0 7 rfl rfl) rfl
theorem dX0_copyFrom_16 : decode cX0_copyFrom 16 = .ok (.aload_n 1, 1) := op43 (bA_at bd03_dec_X0_0_0 8 rfl rfl)
theorem dX0_copyFrom_17 : decode cX0_copyFrom 17 = .ok (.getfield 9, 3) := op180 (bA_at bd03_dec_X0_0_0 9 rfl rfl) rfl
theorem dX0_copyFrom_20 : decode cX0_copyFrom 20 = .ok (.iconst 0, 1) := op3 (bA_at bd03_dec_X0_0_0 10 rfl rfl)
theorem dX0_copyFrom_21 : decode cX0_copyFrom 21 = .ok (.aload_n 0, 1) := op42 (bA_at bd03_dec_X0_0_0 11 rfl rfl)
theorem dX0_copyFrom_22 : decode cX0_copyFrom 22 = .ok (.getfield 9, 3) := op180 (bA_at bd03_dec_X0_0_0 12 rfl rfl) rfl
theorem dX0_copyFrom_25 : decode cX0_copyFrom 25 = .ok (.iconst 0, 1) := op3 (bA_at bd03_dec_X0_0_0 13 rfl rfl)
theorem dX0_copyFrom_26 : decode cX0_copyFrom 26 = .ok (.aload_n 0, 1) := op42 (bA_at bd03_dec_X0_0_0 14 rfl rfl)
theorem dX0_copyFrom_27 : decode cX0_copyFrom 27 = .ok (.getfield 18, 3) := op180 (bA_at bd03_dec_X0_0_0 15 rfl rfl) rfl
theorem dX0_copyFrom_30 : decode cX0_copyFrom 30 = .ok (.invokestatic 25, 3) := op184 (bA_at bd03_dec_X0_0_0 16 rfl rfl) rfl
theorem dX0_copyFrom_33 : decode cX0_copyFrom 33 = .ok (.aload_n 1, 1) := op43 (bA_at bd03_dec_X0_0_0 17 rfl rfl)
theorem dX0_copyFrom_34 : decode cX0_copyFrom 34 = .ok (.getfield 15, 3) := op180 (bA_at bd03_dec_X0_0_0 18 rfl rfl) rfl
theorem dX0_copyFrom_37 : decode cX0_copyFrom 37 = .ok (.iconst 0, 1) := op3 (bA_at bd03_dec_X0_0_0 19 rfl rfl)
theorem dX0_copyFrom_38 : decode cX0_copyFrom 38 = .ok (.aload_n 0, 1) := op42 (bA_at bd03_dec_X0_0_0 20 rfl rfl)
theorem dX0_copyFrom_39 : decode cX0_copyFrom 39 = .ok (.getfield 15, 3) := op180 (bA_at bd03_dec_X0_0_0 21 rfl rfl) rfl
theorem dX0_copyFrom_42 : decode cX0_copyFrom 42 = .ok (.iconst 0, 1) := op3 (bA_at bd03_dec_X0_0_0 22 rfl rfl)
theorem dX0_copyFrom_43 : decode cX0_copyFrom 43 = .ok (.aload_n 0, 1) := op42 (bA_at bd03_dec_X0_0_0 23 rfl rfl)
theorem dX0_copyFrom_44 : decode cX0_copyFrom 44 = .ok (.getfield 18, 3) := op180 (bA_at bd03_dec_X0_0_0 24 rfl rfl) rfl
theorem dX0_copyFrom_47 : decode cX0_copyFrom 47 = .ok (.invokestatic 25, 3) := op184 (bA_at bd03_dec_X0_0_0 25 rfl rfl) rfl
theorem dX0_copyFrom_50 : decode cX0_copyFrom 50 = .ok (.return_, 1) := op177 (bA_at bd03_dec_X0_0_0 26 rfl rfl)
theorem bd03_dec_X0_0_1 : ([(0, [3]), (1, [60]), (2, [3]), (3, [61]), (4, [3]), (5, [62]), (6, [29]), (7, [42]), (8, [180, 0, 18]), (11, [162, 0, 44]), (14, [29]), (15, [158, 0, 26]), (18, [42]), (19, [180, 0, 15]), (22, [29]), (23, [46]), (24, [42]), (25, [180, 0, 15]), (28, [29]), (29, [4]), (30, [100]), (31, [46]), (32, [162, 0, 9]), (35, [28]), (36, [4]), (37, [96]), (38, [167, 0, 4]), (41, [4]), (42, [61]), (43, [27]), (44, [28]), (45, [184, 0, 31]), (48, [60]), (49, [132, 3, 1]), (52, [167, 255, 210]), (55, [27]), (56, [172])] : List (Nat × List UInt8)).all (fun x => prB x.2 ((cX0_longestFall.data.toList.drop 0).drop x.1)) = true := by decide +kernel
theorem dX0_longestFall_0 : decode cX0_longestFall 0 = .ok (.iconst 0, 1) := op3 (bA_at bd03_dec_X0_0_1 0 rfl rfl)
theorem dX0_longestFall_1 : decode cX0_longestFall 1 = .ok (.istore_n 1, 1) := op60 (bA_at bd03_dec_X0_0_1 1 rfl rfl)
theorem dX0_longestFall_2 : decode cX0_longestFall 2 = .ok (.iconst 0, 1) := op3 (bA_at bd03_dec_X0_0_1 2 rfl rfl)
theorem dX0_longestFall_3 : decode cX0_longestFall 3 = .ok (.istore_n 2, 1) := op61 (bA_at bd03_dec_X0_0_1 3 rfl rfl)
theorem dX0_longestFall_4 : decode cX0_longestFall 4 = .ok (.iconst 0, 1) := op3 (bA_at bd03_dec_X0_0_1 4 rfl rfl)
theorem dX0_longestFall_5 : decode cX0_longestFall 5 = .ok (.istore_n 3, 1) := op62 (bA_at bd03_dec_X0_0_1 5 rfl rfl)
theorem dX0_longestFall_6 : decode cX0_longestFall 6 = .ok (.iload_n 3, 1) := op29 (bA_at bd03_dec_X0_0_1 6 rfl rfl)
theorem dX0_longestFall_7 : decode cX0_longestFall 7 = .ok (.aload_n 0, 1) := op42 (bA_at bd03_dec_X0_0_1 7 rfl rfl)
theorem dX0_longestFall_8 : decode cX0_longestFall 8 = .ok (.getfield 18, 3) := op180 (bA_at bd03_dec_X0_0_1 8 rfl rfl) rfl
theorem dX0_longestFall_11 : decode cX0_longestFall 11 = .ok (.if_icmp .ge 44, 3) := op162 (bA_at bd03_dec_X0_0_1 9 rfl rfl) (by decide +kernel)
theorem dX0_longestFall_14 : decode cX0_longestFall 14 = .ok (.iload_n 3, 1) := op29 (bA_at bd03_dec_X0_0_1 10 rfl rfl)
theorem dX0_longestFall_15 : decode cX0_longestFall 15 = .ok (.ifCond .le 26, 3) := op158 (bA_at bd03_dec_X0_0_1 11 rfl rfl) (by decide +kernel)
theorem dX0_longestFall_18 : decode cX0_longestFall 18 = .ok (.aload_n 0, 1) := op42 (bA_at bd03_dec_X0_0_1 12 rfl rfl)
theorem dX0_longestFall_19 : decode cX0_longestFall 19 = .ok (.getfield 15, 3) := op180 (bA_at bd03_dec_X0_0_1 13 rfl rfl) rfl
theorem dX0_longestFall_22 : decode cX0_longestFall 22 = .ok (.iload_n 3, 1) := op29 (bA_at bd03_dec_X0_0_1 14 rfl rfl)
theorem dX0_longestFall_23 : decode cX0_longestFall 23 = .ok (.iaload, 1) := op46 (bA_at bd03_dec_X0_0_1 15 rfl rfl)
theorem dX0_longestFall_24 : decode cX0_longestFall 24 = .ok (.aload_n 0, 1) := op42 (bA_at bd03_dec_X0_0_1 16 rfl rfl)
theorem dX0_longestFall_25 : decode cX0_longestFall 25 = .ok (.getfield 15, 3) := op180 (bA_at bd03_dec_X0_0_1 17 rfl rfl) rfl
theorem dX0_longestFall_28 : decode cX0_longestFall 28 = .ok (.iload_n 3, 1) := op29 (bA_at bd03_dec_X0_0_1 18 rfl rfl)
theorem dX0_longestFall_29 : decode cX0_longestFall 29 = .ok (.iconst 1, 1) := op4 (bA_at bd03_dec_X0_0_1 19 rfl rfl)
theorem dX0_longestFall_30 : decode cX0_longestFall 30 = .ok (.isub, 1) := op100 (bA_at bd03_dec_X0_0_1 20 rfl rfl)
theorem dX0_longestFall_31 : decode cX0_longestFall 31 = .ok (.iaload, 1) := op46 (bA_at bd03_dec_X0_0_1 21 rfl rfl)
theorem dX0_longestFall_32 : decode cX0_longestFall 32 = .ok (.if_icmp .ge 9, 3) := op162 (bA_at bd03_dec_X0_0_1 22 rfl rfl) (by decide +kernel)
theorem dX0_longestFall_35 : decode cX0_longestFall 35 = .ok (.iload_n 2, 1) := op28 (bA_at bd03_dec_X0_0_1 23 rfl rfl)
theorem dX0_longestFall_36 : decode cX0_longestFall 36 = .ok (.iconst 1, 1) := op4 (bA_at bd03_dec_X0_0_1 24 rfl rfl)
theorem dX0_longestFall_37 : decode cX0_longestFall 37 = .ok (.iadd, 1) := op96 (bA_at bd03_dec_X0_0_1 25 rfl rfl)
theorem dX0_longestFall_38 : decode cX0_longestFall 38 = .ok (.goto 4, 3) := op167 (bA_at bd03_dec_X0_0_1 26 rfl rfl) (by decide +kernel)
theorem dX0_longestFall_41 : decode cX0_longestFall 41 = .ok (.iconst 1, 1) := op4 (bA_at bd03_dec_X0_0_1 27 rfl rfl)
theorem dX0_longestFall_42 : decode cX0_longestFall 42 = .ok (.istore_n 2, 1) := op61 (bA_at bd03_dec_X0_0_1 28 rfl rfl)
theorem dX0_longestFall_43 : decode cX0_longestFall 43 = .ok (.iload_n 1, 1) := op27 (bA_at bd03_dec_X0_0_1 29 rfl rfl)
theorem dX0_longestFall_44 : decode cX0_longestFall 44 = .ok (.iload_n 2, 1) := op28 (bA_at bd03_dec_X0_0_1 30 rfl rfl)
theorem dX0_longestFall_45 : decode cX0_longestFall 45 = .ok (.invokestatic 31, 3) := op184 (bA_at bd03_dec_X0_0_1 31 rfl rfl) rfl
theorem dX0_longestFall_48 : decode cX0_longestFall 48 = .ok (.istore_n 1, 1) := op60 (bA_at bd03_dec_X0_0_1 32 rfl rfl)
theorem dX0_longestFall_49 : decode cX0_longestFall 49 = .ok (.iinc 3 1, 3) := op132 (bA_at bd03_dec_X0_0_1 33 rfl rfl) rfl (by decide +kernel)
theorem dX0_longestFall_52 : decode cX0_longestFall 52 = .ok (.goto (-46), 3) := op167 (bA_at bd03_dec_X0_0_1 34 rfl rfl) (by decide +kernel)
theorem dX0_longestFall_55 : decode cX0_longestFall 55 = .ok (.iload_n 1, 1) := op27 (bA_at bd03_dec_X0_0_1 35 rfl rfl)
theorem dX0_longestFall_56 : decode cX0_longestFall 56 = .ok (.ireturn, 1) := op172 (bA_at bd03_dec_X0_0_1 36 rfl rfl)
theorem bd03_dec_X0_0_2 : ([(0, [27]), (1, [154, 0, 8]), (4, [42]), (5, [180, 0, 18]), (8, [172]), (9, [27]), (10, [4]), (11, [160, 0, 8]), (14, [42]), (15, [180, 0, 22]), (18, [172]), (19, [27]), (20, [6]), (21, [160, 0, 8]), (24, [42]), (25, [182, 0, 37]), (28, [172]), (29, [27]), (30, [16, 10]), (32, [161, 0, 24]), (35, [27]), (36, [16, 10]), (38, [42]), (39, [180, 0, 18]), (42, [96]), (43, [162, 0, 13]), (46, [42]), (47, [180, 0, 9]), (50, [27]), (51, [16, 10]), (53, [100]), (54, [46]), (55, [172]), (56, [27]), (57, [16, 20]), (59, [161, 0, 26]), (62, [27]), (63, [16, 20]), (65, [42]), (66, [180, 0, 18]), (69, [96]), (70, [162, 0, 15]), (73, [42]), (74, [180, 0, 15]), (77, [27]), (78, [16, 20]), (80, [100]), (81, [46]), (82, [167, 0, 4]), (85, [2])] : List (Nat × List UInt8)).all (fun x => prB x.2 ((cX0_look.data.toList.drop 0).drop x.1)) = true := by decide +kernel
theorem dX0_look_0 : decode cX0_look 0 = .ok (.iload_n 1, 1) := op27 (bA_at bd03_dec_X0_0_2 0 rfl rfl)
theorem dX0_look_1 : decode cX0_look 1 = .ok (.ifCond .ne 8, 3) := op154 (bA_at bd03_dec_X0_0_2 1 rfl rfl) (by decide +kernel)
theorem dX0_look_4 : decode cX0_look 4 = .ok (.aload_n 0, 1) := op42 (bA_at bd03_dec_X0_0_2 2 rfl rfl)
theorem dX0_look_5 : decode cX0_look 5 = .ok (.getfield 18, 3) := op180 (bA_at bd03_dec_X0_0_2 3 rfl rfl) rfl
theorem dX0_look_8 : decode cX0_look 8 = .ok (.ireturn, 1) := op172 (bA_at bd03_dec_X0_0_2 4 rfl rfl)
theorem dX0_look_9 : decode cX0_look 9 = .ok (.iload_n 1, 1) := op27 (bA_at bd03_dec_X0_0_2 5 rfl rfl)
theorem dX0_look_10 : decode cX0_look 10 = .ok (.iconst 1, 1) := op4 (bA_at bd03_dec_X0_0_2 6 rfl rfl)
theorem dX0_look_11 : decode cX0_look 11 = .ok (.if_icmp .ne 8, 3) := op160 (bA_at bd03_dec_X0_0_2 7 rfl rfl) (by decide +kernel)
theorem dX0_look_14 : decode cX0_look 14 = .ok (.aload_n 0, 1) := op42 (bA_at bd03_dec_X0_0_2 8 rfl rfl)
theorem dX0_look_15 : decode cX0_look 15 = .ok (.getfield 22, 3) := op180 (bA_at bd03_dec_X0_0_2 9 rfl rfl) rfl
theorem dX0_look_18 : decode cX0_look 18 = .ok (.ireturn, 1) := op172 (bA_at bd03_dec_X0_0_2 10 rfl rfl)
theorem dX0_look_19 : decode cX0_look 19 = .ok (.iload_n 1, 1) := op27 (bA_at bd03_dec_X0_0_2 11 rfl rfl)
theorem dX0_look_20 : decode cX0_look 20 = .ok (.iconst 3, 1) := op6 (bA_at bd03_dec_X0_0_2 12 rfl rfl)
theorem dX0_look_21 : decode cX0_look 21 = .ok (.if_icmp .ne 8, 3) := op160 (bA_at bd03_dec_X0_0_2 13 rfl rfl) (by decide +kernel)
theorem dX0_look_24 : decode cX0_look 24 = .ok (.aload_n 0, 1) := op42 (bA_at bd03_dec_X0_0_2 14 rfl rfl)
theorem dX0_look_25 : decode cX0_look 25 = .ok (.invokevirtual 37, 3) := op182 (bA_at bd03_dec_X0_0_2 15 rfl rfl) rfl
theorem dX0_look_28 : decode cX0_look 28 = .ok (.ireturn, 1) := op172 (bA_at bd03_dec_X0_0_2 16 rfl rfl)
theorem dX0_look_29 : decode cX0_look 29 = .ok (.iload_n 1, 1) := op27 (bA_at bd03_dec_X0_0_2 17 rfl rfl)
theorem dX0_look_30 : decode cX0_look 30 = .ok (.bipush 10, 2) := op16 (bA_at bd03_dec_X0_0_2 18 rfl rfl) (by decide +kernel)
theorem dX0_look_32 : decode cX0_look 32 = .ok (.if_icmp .lt 24, 3) := op161 (bA_at bd03_dec_X0_0_2 19 rfl rfl) (by decide +kernel)
theorem dX0_look_35 : decode cX0_look 35 = .ok (.iload_n 1, 1) := op27 (bA_at bd03_dec_X0_0_2 20 rfl rfl)
theorem dX0_look_36 : decode cX0_look 36 = .ok (.bipush 10, 2) := op16 (bA_at bd03_dec_X0_0_2 21 rfl rfl) (by decide +kernel)
theorem dX0_look_38 : decode cX0_look 38 = .ok (.aload_n 0, 1) := op42 (bA_at bd03_dec_X0_0_2 22 rfl rfl)
theorem dX0_look_39 : decode cX0_look 39 = .ok (.getfield 18, 3) := op180 (bA_at bd03_dec_X0_0_2 23 rfl rfl) rfl
theorem dX0_look_42 : decode cX0_look 42 = .ok (.iadd, 1) := op96 (bA_at bd03_dec_X0_0_2 24 rfl rfl)
theorem dX0_look_43 : decode cX0_look 43 = .ok (.if_icmp .ge 13, 3) := op162 (bA_at bd03_dec_X0_0_2 25 rfl rfl) (by decide +kernel)
theorem dX0_look_46 : decode cX0_look 46 = .ok (.aload_n 0, 1) := op42 (bA_at bd03_dec_X0_0_2 26 rfl rfl)
theorem dX0_look_47 : decode cX0_look 47 = .ok (.getfield 9, 3) := op180 (bA_at bd03_dec_X0_0_2 27 rfl rfl) rfl
theorem dX0_look_50 : decode cX0_look 50 = .ok (.iload_n 1, 1) := op27 (bA_at bd03_dec_X0_0_2 28 rfl rfl)
theorem dX0_look_51 : decode cX0_look 51 = .ok (.bipush 10, 2) := op16 (bA_at bd03_dec_X0_0_2 29 rfl rfl) (by decide +kernel)
theorem dX0_look_53 : decode cX0_look 53 = .ok (.isub, 1) := op100 (bA_at bd03_dec_X0_0_2 30 rfl rfl)
theorem dX0_look_54 : decode cX0_look 54 = .ok (.iaload, 1) := op46 (bA_at bd03_dec_X0_0_2 31 rfl rfl)
theorem dX0_look_55 : decode cX0_look 55 = .ok (.ireturn, 1) := op172 (bA_at bd03_dec_X0_0_2 32 rfl rfl)
theorem dX0_look_56 : decode cX0_look 56 = .ok (.iload_n 1, 1) := op27 (bA_at bd03_dec_X0_0_2 33 rfl rfl)
theorem dX0_look_57 : decode cX0_look 57 = .ok (.bipush 20, 2) := op16 (bA_at bd03_dec_X0_0_2 34 rfl rfl) (by decide +kernel)
theorem dX0_look_59 : decode cX0_look 59 = .ok (.if_icmp .lt 26, 3) := op161 (bA_at bd03_dec_X0_0_2 35 rfl rfl) (by decide +kernel)
theorem dX0_look_62 : decode cX0_look 62 = .ok (.iload_n 1, 1) := op27 (bA_at bd03_dec_X0_0_2 36 rfl rfl)
theorem dX0_look_63 : decode cX0_look 63 = .ok (.bipush 20, 2) := op16 (bA_at bd03_dec_X0_0_2 37 rfl rfl) (by decide +kernel)
theorem dX0_look_65 : decode cX0_look 65 = .ok (.aload_n 0, 1) := op42 (bA_at bd03_dec_X0_0_2 38 rfl rfl)
theorem dX0_look_66 : decode cX0_look 66 = .ok (.getfield 18, 3) := op180 (bA_at bd03_dec_X0_0_2 39 rfl rfl) rfl
theorem dX0_look_69 : decode cX0_look 69 = .ok (.iadd, 1) := op96 (bA_at bd03_dec_X0_0_2 40 rfl rfl)
theorem dX0_look_70 : decode cX0_look 70 = .ok (.if_icmp .ge 15, 3) := op162 (bA_at bd03_dec_X0_0_2 41 rfl rfl) (by decide +kernel)
theorem dX0_look_73 : decode cX0_look 73 = .ok (.aload_n 0, 1) := op42 (bA_at bd03_dec_X0_0_2 42 rfl rfl)
theorem dX0_look_74 : decode cX0_look 74 = .ok (.getfield 15, 3) := op180 (bA_at bd03_dec_X0_0_2 43 rfl rfl) rfl
theorem dX0_look_77 : decode cX0_look 77 = .ok (.iload_n 1, 1) := op27 (bA_at bd03_dec_X0_0_2 44 rfl rfl)
theorem dX0_look_78 : decode cX0_look 78 = .ok (.bipush 20, 2) := op16 (bA_at bd03_dec_X0_0_2 45 rfl rfl) (by decide +kernel)
theorem dX0_look_80 : decode cX0_look 80 = .ok (.isub, 1) := op100 (bA_at bd03_dec_X0_0_2 46 rfl rfl)
theorem dX0_look_81 : decode cX0_look 81 = .ok (.iaload, 1) := op46 (bA_at bd03_dec_X0_0_2 47 rfl rfl)
theorem dX0_look_82 : decode cX0_look 82 = .ok (.goto 4, 3) := op167 (bA_at bd03_dec_X0_0_2 48 rfl rfl) (by decide +kernel)
theorem dX0_look_85 : decode cX0_look 85 = .ok (.iconst (-1), 1) := op2 (bA_at bd03_dec_X0_0_2 49 rfl rfl)
theorem bd03_dec_X0_0_3 : ([(0, [172])] : List (Nat × List UInt8)).all (fun x => prB x.2 ((cX0_look.data.toList.drop 86).drop x.1)) = true := by decide +kernel
theorem dX0_look_86 : decode cX0_look 86 = .ok (.ireturn, 1) := op172 (bA_at bd03_dec_X0_0_3 0 rfl rfl)
end
section
theorem bd03_dec_X1_0_0 : ([(0, [42]), (1, [43]), (2, [180, 0, 21]), (5, [181, 0, 21]), (8, [43]), (9, [180, 0, 9]), (12, [3]), (13, [42]), (14, [180, 0, 9]), (17, [3]), (18, [42]), (19, [180, 0, 21]), (22, [184, 0, 25]), (25, [43]), (26, [180, 0, 15]), (29, [3]), (30, [42]), (31, [180, 0, 15]), (34, [3]), (35, [42]), (36, [180, 0, 21]), (39, [184, 0, 25]), (42, [43]), (43, [180, 0, 18]), (46, [3]), (47, [42]), (48, [180, 0, 18]), (51, [3]), (52, [42]), (53, [180, 0, 21]), (56, [184, 0, 25]), (59, [177])] : List (Nat × List UInt8)).all (fun x => prB x.2 ((cX1_copyFrom.data.toList.drop 0).drop x.1)) = true := by decide +kernel
theorem dX1_copyFrom_0 : decode cX1_copyFrom 0 = .ok (.aload_n 0, 1) := op42 (bA_at bd03_dec_X1_0_0 0 rfl rfl)
theorem dX1_copyFrom_1 : decode cX1_copyFrom 1 = .ok (.aload_n 1, 1) := op43 (bA_at bd03_dec_X1_0_0 1 rfl rfl)
theorem dX1_copyFrom_2 : decode cX1_copyFrom 2 = .ok (.getfield 21, 3) := op180 (bA_at bd03_dec_X1_0_0 2 rfl rfl) rfl
theorem dX1_copyFrom_5 : decode cX1_copyFrom 5 = .ok (.putfield 21, 3) := op181 (bA_at bd03_dec_X1_0_0 3 rfl rfl) rfl
theorem dX1_copyFrom_8 : decode cX1_copyFrom 8 = .ok (.aload_n 1, 1) := op43 (bA_at bd03_dec_X1_0_0 4 rfl rfl)
theorem dX1_copyFrom_9 : decode cX1_copyFrom 9 = .ok (.getfield 9, 3) := op180 (bA_at bd03_dec_X1_0_0 5 rfl rfl) rfl
theorem dX1_copyFrom_12 : decode cX1_copyFrom 12 = .ok (.iconst 0, 1) := op3 (bA_at bd03_dec_X1_0_0 6 rfl rfl)
theorem dX1_copyFrom_13 : decode cX1_copyFrom 13 = .ok (.aload_n 0, 1) := op42 (bA_at bd03_dec_X1_0_0 7 rfl rfl)
theorem dX1_copyFrom_14 : decode cX1_copyFrom 14 = .ok (.getfield 9, 3) := op180 (bA_at bd03_dec_X1_0_0 8 rfl rfl) rfl
theorem dX1_copyFrom_17 : decode cX1_copyFrom 17 = .ok (.iconst 0, 1) := op3 (bA_at bd03_dec_X1_0_0 9 rfl rfl)
theorem dX1_copyFrom_18 : decode cX1_copyFrom 18 = .ok (.aload_n 0, 1) := op42 (bA_at bd03_dec_X1_0_0 10 rfl rfl)
theorem dX1_copyFrom_19 : decode cX1_copyFrom 19 = .ok (.getfield 21, 3) := op180 (bA_at bd03_dec_X1_0_0 11 rfl rfl) rfl
theorem dX1_copyFrom_22 : decode cX1_copyFrom 22 = .ok (.invokestatic 25, 3) := op184 (bA_at bd03_dec_X1_0_0 12 rfl rfl) rfl
theorem dX1_copyFrom_25 : decode cX1_copyFrom 25 = .ok (.aload_n 1, 1) := op43 (bA_at bd03_dec_X1_0_0 13 rfl rfl)
theorem dX1_copyFrom_26 : decode cX1_copyFrom 26 = .ok (.getfield 15, 3) := op180 (bA_at bd03_dec_X1_0_0 14 rfl rfl) rfl
theorem dX1_copyFrom_29 : decode cX1_copyFrom 29 = .ok (.iconst 0, 1) := op3 (bA_at bd03_dec_X1_0_0 15 rfl rfl)
theorem dX1_copyFrom_30 : decode cX1_copyFrom 30 = .ok (.aload_n 0, 1) := op42 (bA_at bd03_dec_X1_0_0 16 rfl rfl)
theorem dX1_copyFrom_31 : decode cX1_copyFrom 31 = .ok (.getfield 15, 3) := op180 (bA_at bd03_dec_X1_0_0 17 rfl rfl) rfl
theorem dX1_copyFrom_34 : decode cX1_copyFrom 34 = .ok (.iconst 0, 1) := op3 (bA_at bd03_dec_X1_0_0 18 rfl rfl)
theorem dX1_copyFrom_35 : decode cX1_copyFrom 35 = .ok (.aload_n 0, 1) := op42 (bA_at bd03_dec_X1_0_0 19 rfl rfl)
theorem dX1_copyFrom_36 : decode cX1_copyFrom 36 = .ok (.getfield 21, 3) := op180 (bA_at bd03_dec_X1_0_0 20 rfl rfl) rfl
theorem dX1_copyFrom_39 : decode cX1_copyFrom 39 = .ok (.invokestatic 25, 3) := op184 (bA_at bd03_dec_X1_0_0 21 rfl rfl) rfl
theorem dX1_copyFrom_42 : decode cX1_copyFrom 42 = .ok (.aload_n 1, 1) := op43 (bA_at bd03_dec_X1_0_0 22 rfl rfl)
theorem dX1_copyFrom_43 : decode cX1_copyFrom 43 = .ok (.getfield 18, 3) := op180 (bA_at bd03_dec_X1_0_0 23 rfl rfl) rfl
theorem dX1_copyFrom_46 : decode cX1_copyFrom 46 = .ok (.iconst 0, 1) := op3 (bA_at bd03_dec_X1_0_0 24 rfl rfl)
theorem dX1_copyFrom_47 : decode cX1_copyFrom 47 = .ok (.aload_n 0, 1) := op42 (bA_at bd03_dec_X1_0_0 25 rfl rfl)
theorem dX1_copyFrom_48 : decode cX1_copyFrom 48 = .ok (.getfield 18, 3) := op180 (bA_at bd03_dec_X1_0_0 26 rfl rfl) rfl
theorem dX1_copyFrom_51 : decode cX1_copyFrom 51 = .ok (.iconst 0, 1) := op3 (bA_at bd03_dec_X1_0_0 27 rfl rfl)
theorem dX1_copyFrom_52 : decode cX1_copyFrom 52 = .ok (.aload_n 0, 1) := op42 (bA_at bd03_dec_X1_0_0 28 rfl rfl)
theorem dX1_copyFrom_53 : decode cX1_copyFrom 53 = .ok (.getfield 21, 3) := op180 (bA_at bd03_dec_X1_0_0 29 rfl rfl) rfl
theorem dX1_copyFrom_56 : decode cX1_copyFrom 56 = .ok (.invokestatic 25, 3) := op184 (bA_at bd03_dec_X1_0_0 30 rfl rfl) rfl
theorem dX1_copyFrom_59 : decode cX1_copyFrom 59 = .ok (.return_, 1) := op177 (bA_at bd03_dec_X1_0_0 31 rfl rfl)
theorem dX1_look_1 : decode cX1_look 1 = .ok (.tableswitch 48 0 2 #[27, 34, 41], 27) := by decide +kernel
theorem bd03_dec_X1_0_1 : ([(0, [28]), (28, [42]), (29, [180, 0, 9]), (32, [27]), (33, [46]), (34, [172]), (35, [42]), (36, [180, 0, 15]), (39, [27]), (40, [46]), (41, [172]), (42, [42]), (43, [180, 0, 18]), (46, [27]), (47, [46]), (48, [172]), (49, [16, 254]), (51, [172])] : List (Nat × List UInt8)).all (fun x => prB x.2 ((cX1_look.data.toList.drop 0).drop x.1)) = true := by decide +kernel
theorem dX1_look_0 : decode cX1_look 0 = .ok (.iload_n 2, 1) := op28 (bA_at bd03_dec_X1_0_1 0 rfl rfl)
theorem dX1_look_28 : decode cX1_look 28 = .ok (.aload_n 0, 1) := op42 (bA_at bd03_dec_X1_0_1 1 rfl rfl)
theorem dX1_look_29 : decode cX1_look 29 = .ok (.getfield 9, 3) := op180 (bA_at bd03_dec_X1_0_1 2 rfl rfl) rfl
theorem dX1_look_32 : decode cX1_look 32 = .ok (.iload_n 1, 1) := op27 (bA_at bd03_dec_X1_0_1 3 rfl rfl)
theorem dX1_look_33 : decode cX1_look 33 = .ok (.iaload, 1) := op46 (bA_at bd03_dec_X1_0_1 4 rfl rfl)
theorem dX1_look_34 : decode cX1_look 34 = .ok (.ireturn, 1) := op172 (bA_at bd03_dec_X1_0_1 5 rfl rfl)
theorem dX1_look_35 : decode cX1_look 35 = .ok (.aload_n 0, 1) := op42 (bA_at bd03_dec_X1_0_1 6 rfl rfl)
theorem dX1_look_36 : decode cX1_look 36 = .ok (.getfield 15, 3) := op180 (bA_at bd03_dec_X1_0_1 7 rfl rfl) rfl
theorem dX1_look_39 : decode cX1_look 39 = .ok (.iload_n 1, 1) := op27 (bA_at bd03_dec_X1_0_1 8 rfl rfl)
theorem dX1_look_40 : decode cX1_look 40 = .ok (.iaload, 1) := op46 (bA_at bd03_dec_X1_0_1 9 rfl rfl)
theorem dX1_look_41 : decode cX1_look 41 = .ok (.ireturn, 1) := op172 (bA_at bd03_dec_X1_0_1 10 rfl rfl)
theorem dX1_look_42 : decode cX1_look 42 = .ok (.aload_n 0, 1) := op42 (bA_at bd03_dec_X1_0_1 11 rfl rfl)
theorem dX1_look_43 : decode cX1_look 43 = .ok (.getfield 18, 3) := op180 (bA_at bd03_dec_X1_0_1 12 rfl rfl) rfl
theorem dX1_look_46 : decode cX1_look 46 = .ok (.iload_n 1, 1) := op27 (bA_at bd03_dec_X1_0_1 13 rfl rfl)
theorem dX1_look_47 : decode cX1_look 47 = .ok (.iaload, 1) := op46 (bA_at bd03_dec_X1_0_1 14 rfl rfl)
theorem dX1_look_48 : decode cX1_look 48 = .ok (.ireturn, 1) := op172 (bA_at bd03_dec_X1_0_1 15 rfl rfl)
theorem dX1_look_49 : decode cX1_look 49 = .ok (.bipush (-2), 2) := op16 (bA_at bd03_dec_X1_0_1 16 rfl rfl) (by decide +kernel)
theorem dX1_look_51 : decode cX1_look 51 = .ok (.ireturn, 1) := op172 (bA_at bd03_dec_X1_0_1 17 rfl rfl)
end
section
theorem bd03_dec_X10_0_0 : ([(0, [27]), (1, [155, 0, 8]), (4, [27]), (5, [6]), (6, [161, 0, 5]), (9, [3]), (10, [172]), (11, [42]), (12, [180, 0, 16]), (15, [27]), (16, [50]), (17, [199, 0, 16]), (20, [42]), (21, [180, 0, 16]), (24, [27]), (25, [187, 0, 7]), (28, [89]), (29, [183, 0, 9]), (32, [83]), (33, [42]), (34, [180, 0, 16]), (37, [27]), (38, [50]), (39, [42]), (40, [180, 0, 10]), (43, [182, 1, 67]), (46, [4]), (47, [172])] : List (Nat × List UInt8)).all (fun x => prB x.2 ((cX10_image.data.toList.drop 0).drop x.1)) = true := by decide +kernel
theorem dX10_image_0 : decode cX10_image 0 = .ok (.iload_n 1, 1) := op27 (bA_at bd03_dec_X10_0_0 0 rfl rfl)
theorem dX10_image_1 : decode cX10_image 1 = .ok (.ifCond .lt 8, 3) := op155 (bA_at bd03_dec_X10_0_0 1 rfl rfl) (by decide +kernel)
theorem dX10_image_4 : decode cX10_image 4 = .ok (.iload_n 1, 1) := op27 (bA_at bd03_dec_X10_0_0 2 rfl rfl)
theorem dX10_image_5 : decode cX10_image 5 = .ok (.iconst 3, 1) := op6 (bA_at bd03_dec_X10_0_0 3 rfl rfl)
theorem dX10_image_6 : decode cX10_image 6 = .ok (.if_icmp .lt 5, 3) := op161 (bA_at bd03_dec_X10_0_0 4 rfl rfl) (by decide +kernel)
theorem dX10_image_9 : decode cX10_image 9 = .ok (.iconst 0, 1) := op3 (bA_at bd03_dec_X10_0_0 5 rfl rfl)
theorem dX10_image_10 : decode cX10_image 10 = .ok (.ireturn, 1) := op172 (bA_at bd03_dec_X10_0_0 6 rfl rfl)
theorem dX10_image_11 : decode cX10_image 11 = .ok (.aload_n 0, 1) := op42 (bA_at bd03_dec_X10_0_0 7 rfl rfl)
theorem dX10_image_12 : decode cX10_image 12 = .ok (.getfield 16, 3) := op180 (bA_at bd03_dec_X10_0_0 8 rfl rfl) rfl
theorem dX10_image_15 : decode cX10_image 15 = .ok (.iload_n 1, 1) := op27 (bA_at bd03_dec_X10_0_0 9 rfl rfl)
theorem dX10_image_16 : decode cX10_image 16 = .ok (.aaload, 1) := op50 (bA_at bd03_dec_X10_0_0 10 rfl rfl)
theorem dX10_image_17 : decode cX10_image 17 = .ok (.ifnonnull 16, 3) := op199 (bA_at bd03_dec_X10_0_0 11 rfl rfl) (by decide +kernel)
theorem dX10_image_20 : decode cX10_image 20 = .ok (.aload_n 0, 1) := op42 (bA_at bd03_dec_X10_0_0 12 rfl rfl)
theorem dX10_image_21 : decode cX10_image 21 = .ok (.getfield 16, 3) := op180 (bA_at bd03_dec_X10_0_0 13 rfl rfl) rfl
theorem dX10_image_24 : decode cX10_image 24 = .ok (.iload_n 1, 1) := op27 (bA_at bd03_dec_X10_0_0 14 rfl rfl)
theorem dX10_image_25 : decode cX10_image 25 = .ok (.new 7, 3) := op187 (bA_at bd03_dec_X10_0_0 15 rfl rfl) rfl
theorem dX10_image_28 : decode cX10_image 28 = .ok (.dup, 1) := op89 (bA_at bd03_dec_X10_0_0 16 rfl rfl)
theorem dX10_image_29 : decode cX10_image 29 = .ok (.invokespecial 9, 3) := op183 (bA_at bd03_dec_X10_0_0 17 rfl rfl) rfl
theorem dX10_image_32 : decode cX10_image 32 = .ok (.aastore, 1) := op83 (bA_at bd03_dec_X10_0_0 18 rfl rfl)
theorem dX10_image_33 : decode cX10_image 33 = .ok (.aload_n 0, 1) := op42 (bA_at bd03_dec_X10_0_0 19 rfl rfl)
theorem dX10_image_34 : decode cX10_image 34 = .ok (.getfield 16, 3) := op180 (bA_at bd03_dec_X10_0_0 20 rfl rfl) rfl
theorem dX10_image_37 : decode cX10_image 37 = .ok (.iload_n 1, 1) := op27 (bA_at bd03_dec_X10_0_0 21 rfl rfl)
theorem dX10_image_38 : decode cX10_image 38 = .ok (.aaload, 1) := op50 (bA_at bd03_dec_X10_0_0 22 rfl rfl)
theorem dX10_image_39 : decode cX10_image 39 = .ok (.aload_n 0, 1) := op42 (bA_at bd03_dec_X10_0_0 23 rfl rfl)
theorem dX10_image_40 : decode cX10_image 40 = .ok (.getfield 10, 3) := op180 (bA_at bd03_dec_X10_0_0 24 rfl rfl) rfl
theorem dX10_image_43 : decode cX10_image 43 = .ok (.invokevirtual 323, 3) := op182 (bA_at bd03_dec_X10_0_0 25 rfl rfl) rfl
theorem dX10_image_46 : decode cX10_image 46 = .ok (.iconst 1, 1) := op4 (bA_at bd03_dec_X10_0_0 26 rfl rfl)
theorem dX10_image_47 : decode cX10_image 47 = .ok (.ireturn, 1) := op172 (bA_at bd03_dec_X10_0_0 27 rfl rfl)
theorem bd03_dec_X10_0_1 : ([(0, [26]), (1, [27]), (2, [122]), (3, [4]), (4, [126]), (5, [153, 0, 7]), (8, [4]), (9, [167, 0, 4]), (12, [3]), (13, [172])] : List (Nat × List UInt8)).all (fun x => prB x.2 ((cX10_has.data.toList.drop 0).drop x.1)) = true := by decide +kernel
theorem dX10_has_0 : decode cX10_has 0 = .ok (.iload_n 0, 1) := op26 (bA_at bd03_dec_X10_0_1 0 rfl rfl)
theorem dX10_has_1 : decode cX10_has 1 = .ok (.iload_n 1, 1) := op27 (bA_at bd03_dec_X10_0_1 1 rfl rfl)
theorem dX10_has_2 : decode cX10_has 2 = .ok (.ishr, 1) := op122 (bA_at bd03_dec_X10_0_1 2 rfl rfl)
theorem dX10_has_3 : decode cX10_has 3 = .ok (.iconst 1, 1) := op4 (bA_at bd03_dec_X10_0_1 3 rfl rfl)
theorem dX10_has_4 : decode cX10_has 4 = .ok (.iand, 1) := op126 (bA_at bd03_dec_X10_0_1 4 rfl rfl)
theorem dX10_has_5 : decode cX10_has 5 = .ok (.ifCond .eq 7, 3) := op153 (bA_at bd03_dec_X10_0_1 5 rfl rfl) (by decide +kernel)
theorem dX10_has_8 : decode cX10_has 8 = .ok (.iconst 1, 1) := op4 (bA_at bd03_dec_X10_0_1 6 rfl rfl)
theorem dX10_has_9 : decode cX10_has 9 = .ok (.goto 4, 3) := op167 (bA_at bd03_dec_X10_0_1 7 rfl rfl) (by decide +kernel)
theorem dX10_has_12 : decode cX10_has 12 = .ok (.iconst 0, 1) := op3 (bA_at bd03_dec_X10_0_1 8 rfl rfl)
theorem dX10_has_13 : decode cX10_has 13 = .ok (.ireturn, 1) := op172 (bA_at bd03_dec_X10_0_1 9 rfl rfl)
end
