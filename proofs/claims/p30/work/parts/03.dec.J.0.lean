section
theorem dc_of {C : ByteArray} {l : List (Nat × (Instr × Nat))} (h : l.all (fun x => decide (decode C x.1 = .ok x.2)) = true) {p : Nat} {r : Instr × Nat} (hm : (p, r) ∈ l) : decode C p = .ok r := of_decide_eq_true (List.all_eq_true.mp h (p, r) hm)
theorem bd03_dec_J_0_0 : ([(0, [26]), (1, [26]), (2, [4]), (3, [124]), (4, [19, 1, 9]), (7, [126]), (8, [100]), (9, [59]), (10, [26]), (11, [19, 1, 10]), (14, [126]), (15, [26])] : List (Nat × List UInt8)).all (fun x => prB x.2 ((cJ6_bitCount_0f7a4.data.toList.drop 0).drop x.1)) = true := by decide +kernel
theorem dJ6_bitCount_0f7a4_0 : decode cJ6_bitCount_0f7a4 0 = .ok (.iload_n 0, 1) := op26 (bA_at bd03_dec_J_0_0 0 rfl rfl)
theorem dJ6_bitCount_0f7a4_1 : decode cJ6_bitCount_0f7a4 1 = .ok (.iload_n 0, 1) := op26 (bA_at bd03_dec_J_0_0 1 rfl rfl)
theorem dJ6_bitCount_0f7a4_2 : decode cJ6_bitCount_0f7a4 2 = .ok (.iconst 1, 1) := op4 (bA_at bd03_dec_J_0_0 2 rfl rfl)
theorem dJ6_bitCount_0f7a4_3 : decode cJ6_bitCount_0f7a4 3 = .ok (.iushr, 1) := op124 (bA_at bd03_dec_J_0_0 3 rfl rfl)
theorem dJ6_bitCount_0f7a4_4 : decode cJ6_bitCount_0f7a4 4 = .ok (.ldc_w 265, 3) := op19 (bA_at bd03_dec_J_0_0 4 rfl rfl) rfl
theorem dJ6_bitCount_0f7a4_7 : decode cJ6_bitCount_0f7a4 7 = .ok (.iand, 1) := op126 (bA_at bd03_dec_J_0_0 5 rfl rfl)
theorem dJ6_bitCount_0f7a4_8 : decode cJ6_bitCount_0f7a4 8 = .ok (.isub, 1) := op100 (bA_at bd03_dec_J_0_0 6 rfl rfl)
theorem dJ6_bitCount_0f7a4_9 : decode cJ6_bitCount_0f7a4 9 = .ok (.istore_n 0, 1) := op59 (bA_at bd03_dec_J_0_0 7 rfl rfl)
theorem dJ6_bitCount_0f7a4_10 : decode cJ6_bitCount_0f7a4 10 = .ok (.iload_n 0, 1) := op26 (bA_at bd03_dec_J_0_0 8 rfl rfl)
theorem dJ6_bitCount_0f7a4_11 : decode cJ6_bitCount_0f7a4 11 = .ok (.ldc_w 266, 3) := op19 (bA_at bd03_dec_J_0_0 9 rfl rfl) rfl
theorem dJ6_bitCount_0f7a4_14 : decode cJ6_bitCount_0f7a4 14 = .ok (.iand, 1) := op126 (bA_at bd03_dec_J_0_0 10 rfl rfl)
theorem dJ6_bitCount_0f7a4_15 : decode cJ6_bitCount_0f7a4 15 = .ok (.iload_n 0, 1) := op26 (bA_at bd03_dec_J_0_0 11 rfl rfl)
theorem bd03_dec_J_0_1 : ([(0, [5]), (1, [124]), (2, [19, 1, 10]), (5, [126]), (6, [96]), (7, [59]), (8, [26]), (9, [26]), (10, [7]), (11, [124]), (12, [96]), (13, [19, 1, 11])] : List (Nat × List UInt8)).all (fun x => prB x.2 ((cJ6_bitCount_0f7a4.data.toList.drop 16).drop x.1)) = true := by decide +kernel
theorem dJ6_bitCount_0f7a4_16 : decode cJ6_bitCount_0f7a4 16 = .ok (.iconst 2, 1) := op5 (bA_at bd03_dec_J_0_1 0 rfl rfl)
theorem dJ6_bitCount_0f7a4_17 : decode cJ6_bitCount_0f7a4 17 = .ok (.iushr, 1) := op124 (bA_at bd03_dec_J_0_1 1 rfl rfl)
theorem dJ6_bitCount_0f7a4_18 : decode cJ6_bitCount_0f7a4 18 = .ok (.ldc_w 266, 3) := op19 (bA_at bd03_dec_J_0_1 2 rfl rfl) rfl
theorem dJ6_bitCount_0f7a4_21 : decode cJ6_bitCount_0f7a4 21 = .ok (.iand, 1) := op126 (bA_at bd03_dec_J_0_1 3 rfl rfl)
theorem dJ6_bitCount_0f7a4_22 : decode cJ6_bitCount_0f7a4 22 = .ok (.iadd, 1) := op96 (bA_at bd03_dec_J_0_1 4 rfl rfl)
theorem dJ6_bitCount_0f7a4_23 : decode cJ6_bitCount_0f7a4 23 = .ok (.istore_n 0, 1) := op59 (bA_at bd03_dec_J_0_1 5 rfl rfl)
theorem dJ6_bitCount_0f7a4_24 : decode cJ6_bitCount_0f7a4 24 = .ok (.iload_n 0, 1) := op26 (bA_at bd03_dec_J_0_1 6 rfl rfl)
theorem dJ6_bitCount_0f7a4_25 : decode cJ6_bitCount_0f7a4 25 = .ok (.iload_n 0, 1) := op26 (bA_at bd03_dec_J_0_1 7 rfl rfl)
theorem dJ6_bitCount_0f7a4_26 : decode cJ6_bitCount_0f7a4 26 = .ok (.iconst 4, 1) := op7 (bA_at bd03_dec_J_0_1 8 rfl rfl)
theorem dJ6_bitCount_0f7a4_27 : decode cJ6_bitCount_0f7a4 27 = .ok (.iushr, 1) := op124 (bA_at bd03_dec_J_0_1 9 rfl rfl)
theorem dJ6_bitCount_0f7a4_28 : decode cJ6_bitCount_0f7a4 28 = .ok (.iadd, 1) := op96 (bA_at bd03_dec_J_0_1 10 rfl rfl)
theorem dJ6_bitCount_0f7a4_29 : decode cJ6_bitCount_0f7a4 29 = .ok (.ldc_w 267, 3) := op19 (bA_at bd03_dec_J_0_1 11 rfl rfl) rfl
theorem bd03_dec_J_0_2 : ([(0, [126]), (1, [59]), (2, [26]), (3, [26]), (4, [16, 8]), (6, [124]), (7, [96]), (8, [59]), (9, [26]), (10, [26]), (11, [16, 16]), (13, [124])] : List (Nat × List UInt8)).all (fun x => prB x.2 ((cJ6_bitCount_0f7a4.data.toList.drop 32).drop x.1)) = true := by decide +kernel
theorem dJ6_bitCount_0f7a4_32 : decode cJ6_bitCount_0f7a4 32 = .ok (.iand, 1) := op126 (bA_at bd03_dec_J_0_2 0 rfl rfl)
theorem dJ6_bitCount_0f7a4_33 : decode cJ6_bitCount_0f7a4 33 = .ok (.istore_n 0, 1) := op59 (bA_at bd03_dec_J_0_2 1 rfl rfl)
theorem dJ6_bitCount_0f7a4_34 : decode cJ6_bitCount_0f7a4 34 = .ok (.iload_n 0, 1) := op26 (bA_at bd03_dec_J_0_2 2 rfl rfl)
theorem dJ6_bitCount_0f7a4_35 : decode cJ6_bitCount_0f7a4 35 = .ok (.iload_n 0, 1) := op26 (bA_at bd03_dec_J_0_2 3 rfl rfl)
theorem dJ6_bitCount_0f7a4_36 : decode cJ6_bitCount_0f7a4 36 = .ok (.bipush 8, 2) := op16 (bA_at bd03_dec_J_0_2 4 rfl rfl) (by decide +kernel)
theorem dJ6_bitCount_0f7a4_38 : decode cJ6_bitCount_0f7a4 38 = .ok (.iushr, 1) := op124 (bA_at bd03_dec_J_0_2 5 rfl rfl)
theorem dJ6_bitCount_0f7a4_39 : decode cJ6_bitCount_0f7a4 39 = .ok (.iadd, 1) := op96 (bA_at bd03_dec_J_0_2 6 rfl rfl)
theorem dJ6_bitCount_0f7a4_40 : decode cJ6_bitCount_0f7a4 40 = .ok (.istore_n 0, 1) := op59 (bA_at bd03_dec_J_0_2 7 rfl rfl)
theorem dJ6_bitCount_0f7a4_41 : decode cJ6_bitCount_0f7a4 41 = .ok (.iload_n 0, 1) := op26 (bA_at bd03_dec_J_0_2 8 rfl rfl)
theorem dJ6_bitCount_0f7a4_42 : decode cJ6_bitCount_0f7a4 42 = .ok (.iload_n 0, 1) := op26 (bA_at bd03_dec_J_0_2 9 rfl rfl)
theorem dJ6_bitCount_0f7a4_43 : decode cJ6_bitCount_0f7a4 43 = .ok (.bipush 16, 2) := op16 (bA_at bd03_dec_J_0_2 10 rfl rfl) (by decide +kernel)
theorem dJ6_bitCount_0f7a4_45 : decode cJ6_bitCount_0f7a4 45 = .ok (.iushr, 1) := op124 (bA_at bd03_dec_J_0_2 11 rfl rfl)
theorem bd03_dec_J_0_3 : ([(0, [96]), (1, [59]), (2, [26]), (3, [16, 63]), (5, [126]), (6, [172])] : List (Nat × List UInt8)).all (fun x => prB x.2 ((cJ6_bitCount_0f7a4.data.toList.drop 46).drop x.1)) = true := by decide +kernel
theorem dJ6_bitCount_0f7a4_46 : decode cJ6_bitCount_0f7a4 46 = .ok (.iadd, 1) := op96 (bA_at bd03_dec_J_0_3 0 rfl rfl)
theorem dJ6_bitCount_0f7a4_47 : decode cJ6_bitCount_0f7a4 47 = .ok (.istore_n 0, 1) := op59 (bA_at bd03_dec_J_0_3 1 rfl rfl)
theorem dJ6_bitCount_0f7a4_48 : decode cJ6_bitCount_0f7a4 48 = .ok (.iload_n 0, 1) := op26 (bA_at bd03_dec_J_0_3 2 rfl rfl)
theorem dJ6_bitCount_0f7a4_49 : decode cJ6_bitCount_0f7a4 49 = .ok (.bipush 63, 2) := op16 (bA_at bd03_dec_J_0_3 3 rfl rfl) (by decide +kernel)
theorem dJ6_bitCount_0f7a4_51 : decode cJ6_bitCount_0f7a4 51 = .ok (.iand, 1) := op126 (bA_at bd03_dec_J_0_3 4 rfl rfl)
theorem dJ6_bitCount_0f7a4_52 : decode cJ6_bitCount_0f7a4 52 = .ok (.ireturn, 1) := op172 (bA_at bd03_dec_J_0_3 5 rfl rfl)
theorem bd03_dec_J_0_4 : ([(0, [3]), (1, [61]), (2, [42]), (3, [190]), (4, [62]), (5, [28]), (6, [29]), (7, [162, 0, 13]), (10, [42]), (11, [28]), (12, [27]), (13, [79])] : List (Nat × List UInt8)).all (fun x => prB x.2 ((cJ7_fill_53178.data.toList.drop 0).drop x.1)) = true := by decide +kernel
theorem dJ7_fill_53178_0 : decode cJ7_fill_53178 0 = .ok (.iconst 0, 1) := op3 (bA_at bd03_dec_J_0_4 0 rfl rfl)
theorem dJ7_fill_53178_1 : decode cJ7_fill_53178 1 = .ok (.istore_n 2, 1) := op61 (bA_at bd03_dec_J_0_4 1 rfl rfl)
theorem dJ7_fill_53178_2 : decode cJ7_fill_53178 2 = .ok (.aload_n 0, 1) := op42 (bA_at bd03_dec_J_0_4 2 rfl rfl)
theorem dJ7_fill_53178_3 : decode cJ7_fill_53178 3 = .ok (.arraylength, 1) := op190 (bA_at bd03_dec_J_0_4 3 rfl rfl)
theorem dJ7_fill_53178_4 : decode cJ7_fill_53178 4 = .ok (.istore_n 3, 1) := op62 (bA_at bd03_dec_J_0_4 4 rfl rfl)
theorem dJ7_fill_53178_5 : decode cJ7_fill_53178 5 = .ok (.iload_n 2, 1) := op28 (bA_at bd03_dec_J_0_4 5 rfl rfl)
theorem dJ7_fill_53178_6 : decode cJ7_fill_53178 6 = .ok (.iload_n 3, 1) := op29 (bA_at bd03_dec_J_0_4 6 rfl rfl)
theorem dJ7_fill_53178_7 : decode cJ7_fill_53178 7 = .ok (.if_icmp .ge 13, 3) := op162 (bA_at bd03_dec_J_0_4 7 rfl rfl) (by decide +kernel)
theorem dJ7_fill_53178_10 : decode cJ7_fill_53178 10 = .ok (.aload_n 0, 1) := op42 (bA_at bd03_dec_J_0_4 8 rfl rfl)
theorem dJ7_fill_53178_11 : decode cJ7_fill_53178 11 = .ok (.iload_n 2, 1) := op28 (bA_at bd03_dec_J_0_4 9 rfl rfl)
theorem dJ7_fill_53178_12 : decode cJ7_fill_53178 12 = .ok (.iload_n 1, 1) := op27 (bA_at bd03_dec_J_0_4 10 rfl rfl)
theorem dJ7_fill_53178_13 : decode cJ7_fill_53178 13 = .ok (.iastore, 1) := op79 (bA_at bd03_dec_J_0_4 11 rfl rfl)
theorem bd03_dec_J_0_5 : ([(0, [132, 2, 1]), (3, [167, 255, 244]), (6, [177])] : List (Nat × List UInt8)).all (fun x => prB x.2 ((cJ7_fill_53178.data.toList.drop 14).drop x.1)) = true := by decide +kernel
theorem dJ7_fill_53178_14 : decode cJ7_fill_53178 14 = .ok (.iinc 2 1, 3) := op132 (bA_at bd03_dec_J_0_5 0 rfl rfl) rfl (by decide +kernel)
theorem dJ7_fill_53178_17 : decode cJ7_fill_53178 17 = .ok (.goto (-12), 3) := op167 (bA_at bd03_dec_J_0_5 1 rfl rfl) (by decide +kernel)
theorem dJ7_fill_53178_20 : decode cJ7_fill_53178 20 = .ok (.return_, 1) := op177 (bA_at bd03_dec_J_0_5 2 rfl rfl)
end
section
theorem bd03_dec_X0_0_0 : ([(0, [42]), (1, [43]), (2, [180, 0, 18]), (5, [181, 0, 18]), (8, [42]), (9, [43]), (10, [180, 0, 22]), (13, [181, 0, 22]), (16, [43]), (17, [180, 0, 9]), (20, [3]), (21, [42])] : List (Nat × List UInt8)).all (fun x => prB x.2 ((cX0_copyFrom.data.toList.drop 0).drop x.1)) = true := by decide +kernel
theorem dX0_copyFrom_0 : decode cX0_copyFrom 0 = .ok (.aload_n 0, 1) := op42 (bA_at bd03_dec_X0_0_0 0 rfl rfl)
theorem dX0_copyFrom_1 : decode cX0_copyFrom 1 = .ok (.aload_n 1, 1) := op43 (bA_at bd03_dec_X0_0_0 1 rfl rfl)
theorem dX0_copyFrom_2 : decode cX0_copyFrom 2 = .ok (.getfield 18, 3) := op180 (bA_at bd03_dec_X0_0_0 2 rfl rfl) rfl
theorem dX0_copyFrom_5 : decode cX0_copyFrom 5 = .ok (.putfield 18, 3) := op181 (bA_at bd03_dec_X0_0_0 3 rfl rfl) rfl
theorem dX0_copyFrom_8 : decode cX0_copyFrom 8 = .ok (.aload_n 0, 1) := op42 (bA_at bd03_dec_X0_0_0 4 rfl rfl)
theorem dX0_copyFrom_9 : decode cX0_copyFrom 9 = .ok (.aload_n 1, 1) := op43 (bA_at bd03_dec_X0_0_0 5 rfl rfl)
theorem dX0_copyFrom_10 : decode cX0_copyFrom 10 = .ok (.getfield 22, 3) := op180 (bA_at bd03_dec_X0_0_0 6 rfl rfl) rfl
theorem dX0_copyFrom_13 : decode cX0_copyFrom 13 = .ok (.putfield 22, 3) := op181 (bA_at bd03_dec_X0_0_0 7 rfl rfl) rfl
theorem dX0_copyFrom_16 : decode cX0_copyFrom 16 = .ok (.aload_n 1, 1) := op43 (bA_at bd03_dec_X0_0_0 8 rfl rfl)
theorem dX0_copyFrom_17 : decode cX0_copyFrom 17 = .ok (.getfield 9, 3) := op180 (bA_at bd03_dec_X0_0_0 9 rfl rfl) rfl
theorem dX0_copyFrom_20 : decode cX0_copyFrom 20 = .ok (.iconst 0, 1) := op3 (bA_at bd03_dec_X0_0_0 10 rfl rfl)
theorem dX0_copyFrom_21 : decode cX0_copyFrom 21 = .ok (.aload_n 0, 1) := op42 (bA_at bd03_dec_X0_0_0 11 rfl rfl)
theorem bd03_dec_X0_0_1 : ([(0, [180, 0, 9]), (3, [3]), (4, [42]), (5, [180, 0, 18]), (8, [184, 0, 25]), (11, [43]), (12, [180, 0, 15]), (15, [3]), (16, [42]), (17, [180, 0, 15]), (20, [3]), (21, [42])] : List (Nat × List UInt8)).all (fun x => prB x.2 ((cX0_copyFrom.data.toList.drop 22).drop x.1)) = true := by decide +kernel
theorem dX0_copyFrom_22 : decode cX0_copyFrom 22 = .ok (.getfield 9, 3) := op180 (bA_at bd03_dec_X0_0_1 0 rfl rfl) rfl
theorem dX0_copyFrom_25 : decode cX0_copyFrom 25 = .ok (.iconst 0, 1) := op3 (bA_at bd03_dec_X0_0_1 1 rfl rfl)
theorem dX0_copyFrom_26 : decode cX0_copyFrom 26 = .ok (.aload_n 0, 1) := op42 (bA_at bd03_dec_X0_0_1 2 rfl rfl)
theorem dX0_copyFrom_27 : decode cX0_copyFrom 27 = .ok (.getfield 18, 3) := op180 (bA_at bd03_dec_X0_0_1 3 rfl rfl) rfl
theorem dX0_copyFrom_30 : decode cX0_copyFrom 30 = .ok (.invokestatic 25, 3) := op184 (bA_at bd03_dec_X0_0_1 4 rfl rfl) rfl
theorem dX0_copyFrom_33 : decode cX0_copyFrom 33 = .ok (.aload_n 1, 1) := op43 (bA_at bd03_dec_X0_0_1 5 rfl rfl)
theorem dX0_copyFrom_34 : decode cX0_copyFrom 34 = .ok (.getfield 15, 3) := op180 (bA_at bd03_dec_X0_0_1 6 rfl rfl) rfl
theorem dX0_copyFrom_37 : decode cX0_copyFrom 37 = .ok (.iconst 0, 1) := op3 (bA_at bd03_dec_X0_0_1 7 rfl rfl)
theorem dX0_copyFrom_38 : decode cX0_copyFrom 38 = .ok (.aload_n 0, 1) := op42 (bA_at bd03_dec_X0_0_1 8 rfl rfl)
theorem dX0_copyFrom_39 : decode cX0_copyFrom 39 = .ok (.getfield 15, 3) := op180 (bA_at bd03_dec_X0_0_1 9 rfl rfl) rfl
theorem dX0_copyFrom_42 : decode cX0_copyFrom 42 = .ok (.iconst 0, 1) := op3 (bA_at bd03_dec_X0_0_1 10 rfl rfl)
theorem dX0_copyFrom_43 : decode cX0_copyFrom 43 = .ok (.aload_n 0, 1) := op42 (bA_at bd03_dec_X0_0_1 11 rfl rfl)
theorem bd03_dec_X0_0_2 : ([(0, [180, 0, 18]), (3, [184, 0, 25]), (6, [177])] : List (Nat × List UInt8)).all (fun x => prB x.2 ((cX0_copyFrom.data.toList.drop 44).drop x.1)) = true := by decide +kernel
theorem dX0_copyFrom_44 : decode cX0_copyFrom 44 = .ok (.getfield 18, 3) := op180 (bA_at bd03_dec_X0_0_2 0 rfl rfl) rfl
theorem dX0_copyFrom_47 : decode cX0_copyFrom 47 = .ok (.invokestatic 25, 3) := op184 (bA_at bd03_dec_X0_0_2 1 rfl rfl) rfl
theorem dX0_copyFrom_50 : decode cX0_copyFrom 50 = .ok (.return_, 1) := op177 (bA_at bd03_dec_X0_0_2 2 rfl rfl)
theorem bd03_dec_X0_0_3 : ([(0, [3]), (1, [60]), (2, [3]), (3, [61]), (4, [3]), (5, [62]), (6, [29]), (7, [42]), (8, [180, 0, 18]), (11, [162, 0, 44]), (14, [29]), (15, [158, 0, 26])] : List (Nat × List UInt8)).all (fun x => prB x.2 ((cX0_longestFall.data.toList.drop 0).drop x.1)) = true := by decide +kernel
theorem dX0_longestFall_0 : decode cX0_longestFall 0 = .ok (.iconst 0, 1) := op3 (bA_at bd03_dec_X0_0_3 0 rfl rfl)
theorem dX0_longestFall_1 : decode cX0_longestFall 1 = .ok (.istore_n 1, 1) := op60 (bA_at bd03_dec_X0_0_3 1 rfl rfl)
theorem dX0_longestFall_2 : decode cX0_longestFall 2 = .ok (.iconst 0, 1) := op3 (bA_at bd03_dec_X0_0_3 2 rfl rfl)
theorem dX0_longestFall_3 : decode cX0_longestFall 3 = .ok (.istore_n 2, 1) := op61 (bA_at bd03_dec_X0_0_3 3 rfl rfl)
theorem dX0_longestFall_4 : decode cX0_longestFall 4 = .ok (.iconst 0, 1) := op3 (bA_at bd03_dec_X0_0_3 4 rfl rfl)
theorem dX0_longestFall_5 : decode cX0_longestFall 5 = .ok (.istore_n 3, 1) := op62 (bA_at bd03_dec_X0_0_3 5 rfl rfl)
theorem dX0_longestFall_6 : decode cX0_longestFall 6 = .ok (.iload_n 3, 1) := op29 (bA_at bd03_dec_X0_0_3 6 rfl rfl)
theorem dX0_longestFall_7 : decode cX0_longestFall 7 = .ok (.aload_n 0, 1) := op42 (bA_at bd03_dec_X0_0_3 7 rfl rfl)
theorem dX0_longestFall_8 : decode cX0_longestFall 8 = .ok (.getfield 18, 3) := op180 (bA_at bd03_dec_X0_0_3 8 rfl rfl) rfl
theorem dX0_longestFall_11 : decode cX0_longestFall 11 = .ok (.if_icmp .ge 44, 3) := op162 (bA_at bd03_dec_X0_0_3 9 rfl rfl) (by decide +kernel)
theorem dX0_longestFall_14 : decode cX0_longestFall 14 = .ok (.iload_n 3, 1) := op29 (bA_at bd03_dec_X0_0_3 10 rfl rfl)
theorem dX0_longestFall_15 : decode cX0_longestFall 15 = .ok (.ifCond .le 26, 3) := op158 (bA_at bd03_dec_X0_0_3 11 rfl rfl) (by decide +kernel)
theorem bd03_dec_X0_0_4 : ([(0, [42]), (1, [180, 0, 15]), (4, [29]), (5, [46]), (6, [42]), (7, [180, 0, 15]), (10, [29]), (11, [4]), (12, [100]), (13, [46]), (14, [162, 0, 9]), (17, [28])] : List (Nat × List UInt8)).all (fun x => prB x.2 ((cX0_longestFall.data.toList.drop 18).drop x.1)) = true := by decide +kernel
theorem dX0_longestFall_18 : decode cX0_longestFall 18 = .ok (.aload_n 0, 1) := op42 (bA_at bd03_dec_X0_0_4 0 rfl rfl)
theorem dX0_longestFall_19 : decode cX0_longestFall 19 = .ok (.getfield 15, 3) := op180 (bA_at bd03_dec_X0_0_4 1 rfl rfl) rfl
theorem dX0_longestFall_22 : decode cX0_longestFall 22 = .ok (.iload_n 3, 1) := op29 (bA_at bd03_dec_X0_0_4 2 rfl rfl)
theorem dX0_longestFall_23 : decode cX0_longestFall 23 = .ok (.iaload, 1) := op46 (bA_at bd03_dec_X0_0_4 3 rfl rfl)
theorem dX0_longestFall_24 : decode cX0_longestFall 24 = .ok (.aload_n 0, 1) := op42 (bA_at bd03_dec_X0_0_4 4 rfl rfl)
theorem dX0_longestFall_25 : decode cX0_longestFall 25 = .ok (.getfield 15, 3) := op180 (bA_at bd03_dec_X0_0_4 5 rfl rfl) rfl
theorem dX0_longestFall_28 : decode cX0_longestFall 28 = .ok (.iload_n 3, 1) := op29 (bA_at bd03_dec_X0_0_4 6 rfl rfl)
theorem dX0_longestFall_29 : decode cX0_longestFall 29 = .ok (.iconst 1, 1) := op4 (bA_at bd03_dec_X0_0_4 7 rfl rfl)
theorem dX0_longestFall_30 : decode cX0_longestFall 30 = .ok (.isub, 1) := op100 (bA_at bd03_dec_X0_0_4 8 rfl rfl)
theorem dX0_longestFall_31 : decode cX0_longestFall 31 = .ok (.iaload, 1) := op46 (bA_at bd03_dec_X0_0_4 9 rfl rfl)
theorem dX0_longestFall_32 : decode cX0_longestFall 32 = .ok (.if_icmp .ge 9, 3) := op162 (bA_at bd03_dec_X0_0_4 10 rfl rfl) (by decide +kernel)
theorem dX0_longestFall_35 : decode cX0_longestFall 35 = .ok (.iload_n 2, 1) := op28 (bA_at bd03_dec_X0_0_4 11 rfl rfl)
theorem bd03_dec_X0_0_5 : ([(0, [4]), (1, [96]), (2, [167, 0, 4]), (5, [4]), (6, [61]), (7, [27]), (8, [28]), (9, [184, 0, 31]), (12, [60]), (13, [132, 3, 1]), (16, [167, 255, 210]), (19, [27])] : List (Nat × List UInt8)).all (fun x => prB x.2 ((cX0_longestFall.data.toList.drop 36).drop x.1)) = true := by decide +kernel
theorem dX0_longestFall_36 : decode cX0_longestFall 36 = .ok (.iconst 1, 1) := op4 (bA_at bd03_dec_X0_0_5 0 rfl rfl)
theorem dX0_longestFall_37 : decode cX0_longestFall 37 = .ok (.iadd, 1) := op96 (bA_at bd03_dec_X0_0_5 1 rfl rfl)
theorem dX0_longestFall_38 : decode cX0_longestFall 38 = .ok (.goto 4, 3) := op167 (bA_at bd03_dec_X0_0_5 2 rfl rfl) (by decide +kernel)
theorem dX0_longestFall_41 : decode cX0_longestFall 41 = .ok (.iconst 1, 1) := op4 (bA_at bd03_dec_X0_0_5 3 rfl rfl)
theorem dX0_longestFall_42 : decode cX0_longestFall 42 = .ok (.istore_n 2, 1) := op61 (bA_at bd03_dec_X0_0_5 4 rfl rfl)
theorem dX0_longestFall_43 : decode cX0_longestFall 43 = .ok (.iload_n 1, 1) := op27 (bA_at bd03_dec_X0_0_5 5 rfl rfl)
theorem dX0_longestFall_44 : decode cX0_longestFall 44 = .ok (.iload_n 2, 1) := op28 (bA_at bd03_dec_X0_0_5 6 rfl rfl)
theorem dX0_longestFall_45 : decode cX0_longestFall 45 = .ok (.invokestatic 31, 3) := op184 (bA_at bd03_dec_X0_0_5 7 rfl rfl) rfl
theorem dX0_longestFall_48 : decode cX0_longestFall 48 = .ok (.istore_n 1, 1) := op60 (bA_at bd03_dec_X0_0_5 8 rfl rfl)
theorem dX0_longestFall_49 : decode cX0_longestFall 49 = .ok (.iinc 3 1, 3) := op132 (bA_at bd03_dec_X0_0_5 9 rfl rfl) rfl (by decide +kernel)
theorem dX0_longestFall_52 : decode cX0_longestFall 52 = .ok (.goto (-46), 3) := op167 (bA_at bd03_dec_X0_0_5 10 rfl rfl) (by decide +kernel)
theorem dX0_longestFall_55 : decode cX0_longestFall 55 = .ok (.iload_n 1, 1) := op27 (bA_at bd03_dec_X0_0_5 11 rfl rfl)
theorem bd03_dec_X0_0_6 : ([(0, [172])] : List (Nat × List UInt8)).all (fun x => prB x.2 ((cX0_longestFall.data.toList.drop 56).drop x.1)) = true := by decide +kernel
theorem dX0_longestFall_56 : decode cX0_longestFall 56 = .ok (.ireturn, 1) := op172 (bA_at bd03_dec_X0_0_6 0 rfl rfl)
theorem bd03_dec_X0_0_7 : ([(0, [27]), (1, [154, 0, 8]), (4, [42]), (5, [180, 0, 18]), (8, [172]), (9, [27]), (10, [4]), (11, [160, 0, 8]), (14, [42]), (15, [180, 0, 22]), (18, [172]), (19, [27])] : List (Nat × List UInt8)).all (fun x => prB x.2 ((cX0_look.data.toList.drop 0).drop x.1)) = true := by decide +kernel
theorem dX0_look_0 : decode cX0_look 0 = .ok (.iload_n 1, 1) := op27 (bA_at bd03_dec_X0_0_7 0 rfl rfl)
theorem dX0_look_1 : decode cX0_look 1 = .ok (.ifCond .ne 8, 3) := op154 (bA_at bd03_dec_X0_0_7 1 rfl rfl) (by decide +kernel)
theorem dX0_look_4 : decode cX0_look 4 = .ok (.aload_n 0, 1) := op42 (bA_at bd03_dec_X0_0_7 2 rfl rfl)
theorem dX0_look_5 : decode cX0_look 5 = .ok (.getfield 18, 3) := op180 (bA_at bd03_dec_X0_0_7 3 rfl rfl) rfl
theorem dX0_look_8 : decode cX0_look 8 = .ok (.ireturn, 1) := op172 (bA_at bd03_dec_X0_0_7 4 rfl rfl)
theorem dX0_look_9 : decode cX0_look 9 = .ok (.iload_n 1, 1) := op27 (bA_at bd03_dec_X0_0_7 5 rfl rfl)
theorem dX0_look_10 : decode cX0_look 10 = .ok (.iconst 1, 1) := op4 (bA_at bd03_dec_X0_0_7 6 rfl rfl)
theorem dX0_look_11 : decode cX0_look 11 = .ok (.if_icmp .ne 8, 3) := op160 (bA_at bd03_dec_X0_0_7 7 rfl rfl) (by decide +kernel)
theorem dX0_look_14 : decode cX0_look 14 = .ok (.aload_n 0, 1) := op42 (bA_at bd03_dec_X0_0_7 8 rfl rfl)
theorem dX0_look_15 : decode cX0_look 15 = .ok (.getfield 22, 3) := op180 (bA_at bd03_dec_X0_0_7 9 rfl rfl) rfl
theorem dX0_look_18 : decode cX0_look 18 = .ok (.ireturn, 1) := op172 (bA_at bd03_dec_X0_0_7 10 rfl rfl)
theorem dX0_look_19 : decode cX0_look 19 = .ok (.iload_n 1, 1) := op27 (bA_at bd03_dec_X0_0_7 11 rfl rfl)
theorem bd03_dec_X0_0_8 : ([(0, [6]), (1, [160, 0, 8]), (4, [42]), (5, [182, 0, 37]), (8, [172]), (9, [27]), (10, [16, 10]), (12, [161, 0, 24]), (15, [27]), (16, [16, 10]), (18, [42]), (19, [180, 0, 18])] : List (Nat × List UInt8)).all (fun x => prB x.2 ((cX0_look.data.toList.drop 20).drop x.1)) = true := by decide +kernel
theorem dX0_look_20 : decode cX0_look 20 = .ok (.iconst 3, 1) := op6 (bA_at bd03_dec_X0_0_8 0 rfl rfl)
theorem dX0_look_21 : decode cX0_look 21 = .ok (.if_icmp .ne 8, 3) := op160 (bA_at bd03_dec_X0_0_8 1 rfl rfl) (by decide +kernel)
theorem dX0_look_24 : decode cX0_look 24 = .ok (.aload_n 0, 1) := op42 (bA_at bd03_dec_X0_0_8 2 rfl rfl)
theorem dX0_look_25 : decode cX0_look 25 = .ok (.invokevirtual 37, 3) := op182 (bA_at bd03_dec_X0_0_8 3 rfl rfl) rfl
theorem dX0_look_28 : decode cX0_look 28 = .ok (.ireturn, 1) := op172 (bA_at bd03_dec_X0_0_8 4 rfl rfl)
theorem dX0_look_29 : decode cX0_look 29 = .ok (.iload_n 1, 1) := op27 (bA_at bd03_dec_X0_0_8 5 rfl rfl)
theorem dX0_look_30 : decode cX0_look 30 = .ok (.bipush 10, 2) := op16 (bA_at bd03_dec_X0_0_8 6 rfl rfl) (by decide +kernel)
theorem dX0_look_32 : decode cX0_look 32 = .ok (.if_icmp .lt 24, 3) := op161 (bA_at bd03_dec_X0_0_8 7 rfl rfl) (by decide +kernel)
theorem dX0_look_35 : decode cX0_look 35 = .ok (.iload_n 1, 1) := op27 (bA_at bd03_dec_X0_0_8 8 rfl rfl)
theorem dX0_look_36 : decode cX0_look 36 = .ok (.bipush 10, 2) := op16 (bA_at bd03_dec_X0_0_8 9 rfl rfl) (by decide +kernel)
theorem dX0_look_38 : decode cX0_look 38 = .ok (.aload_n 0, 1) := op42 (bA_at bd03_dec_X0_0_8 10 rfl rfl)
theorem dX0_look_39 : decode cX0_look 39 = .ok (.getfield 18, 3) := op180 (bA_at bd03_dec_X0_0_8 11 rfl rfl) rfl
theorem bd03_dec_X0_0_9 : ([(0, [96]), (1, [162, 0, 13]), (4, [42]), (5, [180, 0, 9]), (8, [27]), (9, [16, 10]), (11, [100]), (12, [46]), (13, [172]), (14, [27]), (15, [16, 20]), (17, [161, 0, 26])] : List (Nat × List UInt8)).all (fun x => prB x.2 ((cX0_look.data.toList.drop 42).drop x.1)) = true := by decide +kernel
theorem dX0_look_42 : decode cX0_look 42 = .ok (.iadd, 1) := op96 (bA_at bd03_dec_X0_0_9 0 rfl rfl)
theorem dX0_look_43 : decode cX0_look 43 = .ok (.if_icmp .ge 13, 3) := op162 (bA_at bd03_dec_X0_0_9 1 rfl rfl) (by decide +kernel)
theorem dX0_look_46 : decode cX0_look 46 = .ok (.aload_n 0, 1) := op42 (bA_at bd03_dec_X0_0_9 2 rfl rfl)
theorem dX0_look_47 : decode cX0_look 47 = .ok (.getfield 9, 3) := op180 (bA_at bd03_dec_X0_0_9 3 rfl rfl) rfl
theorem dX0_look_50 : decode cX0_look 50 = .ok (.iload_n 1, 1) := op27 (bA_at bd03_dec_X0_0_9 4 rfl rfl)
theorem dX0_look_51 : decode cX0_look 51 = .ok (.bipush 10, 2) := op16 (bA_at bd03_dec_X0_0_9 5 rfl rfl) (by decide +kernel)
theorem dX0_look_53 : decode cX0_look 53 = .ok (.isub, 1) := op100 (bA_at bd03_dec_X0_0_9 6 rfl rfl)
theorem dX0_look_54 : decode cX0_look 54 = .ok (.iaload, 1) := op46 (bA_at bd03_dec_X0_0_9 7 rfl rfl)
theorem dX0_look_55 : decode cX0_look 55 = .ok (.ireturn, 1) := op172 (bA_at bd03_dec_X0_0_9 8 rfl rfl)
theorem dX0_look_56 : decode cX0_look 56 = .ok (.iload_n 1, 1) := op27 (bA_at bd03_dec_X0_0_9 9 rfl rfl)
theorem dX0_look_57 : decode cX0_look 57 = .ok (.bipush 20, 2) := op16 (bA_at bd03_dec_X0_0_9 10 rfl rfl) (by decide +kernel)
theorem dX0_look_59 : decode cX0_look 59 = .ok (.if_icmp .lt 26, 3) := op161 (bA_at bd03_dec_X0_0_9 11 rfl rfl) (by decide +kernel)
theorem bd03_dec_X0_0_10 : ([(0, [27]), (1, [16, 20]), (3, [42]), (4, [180, 0, 18]), (7, [96]), (8, [162, 0, 15]), (11, [42]), (12, [180, 0, 15]), (15, [27]), (16, [16, 20]), (18, [100]), (19, [46])] : List (Nat × List UInt8)).all (fun x => prB x.2 ((cX0_look.data.toList.drop 62).drop x.1)) = true := by decide +kernel
theorem dX0_look_62 : decode cX0_look 62 = .ok (.iload_n 1, 1) := op27 (bA_at bd03_dec_X0_0_10 0 rfl rfl)
theorem dX0_look_63 : decode cX0_look 63 = .ok (.bipush 20, 2) := op16 (bA_at bd03_dec_X0_0_10 1 rfl rfl) (by decide +kernel)
theorem dX0_look_65 : decode cX0_look 65 = .ok (.aload_n 0, 1) := op42 (bA_at bd03_dec_X0_0_10 2 rfl rfl)
theorem dX0_look_66 : decode cX0_look 66 = .ok (.getfield 18, 3) := op180 (bA_at bd03_dec_X0_0_10 3 rfl rfl) rfl
theorem dX0_look_69 : decode cX0_look 69 = .ok (.iadd, 1) := op96 (bA_at bd03_dec_X0_0_10 4 rfl rfl)
theorem dX0_look_70 : decode cX0_look 70 = .ok (.if_icmp .ge 15, 3) := op162 (bA_at bd03_dec_X0_0_10 5 rfl rfl) (by decide +kernel)
theorem dX0_look_73 : decode cX0_look 73 = .ok (.aload_n 0, 1) := op42 (bA_at bd03_dec_X0_0_10 6 rfl rfl)
theorem dX0_look_74 : decode cX0_look 74 = .ok (.getfield 15, 3) := op180 (bA_at bd03_dec_X0_0_10 7 rfl rfl) rfl
theorem dX0_look_77 : decode cX0_look 77 = .ok (.iload_n 1, 1) := op27 (bA_at bd03_dec_X0_0_10 8 rfl rfl)
theorem dX0_look_78 : decode cX0_look 78 = .ok (.bipush 20, 2) := op16 (bA_at bd03_dec_X0_0_10 9 rfl rfl) (by decide +kernel)
theorem dX0_look_80 : decode cX0_look 80 = .ok (.isub, 1) := op100 (bA_at bd03_dec_X0_0_10 10 rfl rfl)
theorem dX0_look_81 : decode cX0_look 81 = .ok (.iaload, 1) := op46 (bA_at bd03_dec_X0_0_10 11 rfl rfl)
theorem bd03_dec_X0_0_11 : ([(0, [167, 0, 4]), (3, [2]), (4, [172])] : List (Nat × List UInt8)).all (fun x => prB x.2 ((cX0_look.data.toList.drop 82).drop x.1)) = true := by decide +kernel
theorem dX0_look_82 : decode cX0_look 82 = .ok (.goto 4, 3) := op167 (bA_at bd03_dec_X0_0_11 0 rfl rfl) (by decide +kernel)
theorem dX0_look_85 : decode cX0_look 85 = .ok (.iconst (-1), 1) := op2 (bA_at bd03_dec_X0_0_11 1 rfl rfl)
theorem dX0_look_86 : decode cX0_look 86 = .ok (.ireturn, 1) := op172 (bA_at bd03_dec_X0_0_11 2 rfl rfl)
end
section
theorem bd03_dec_X1_0_0 : ([(0, [42]), (1, [43]), (2, [180, 0, 21]), (5, [181, 0, 21]), (8, [43]), (9, [180, 0, 9]), (12, [3]), (13, [42]), (14, [180, 0, 9]), (17, [3]), (18, [42]), (19, [180, 0, 21])] : List (Nat × List UInt8)).all (fun x => prB x.2 ((cX1_copyFrom.data.toList.drop 0).drop x.1)) = true := by decide +kernel
theorem dX1_copyFrom_0 : decode cX1_copyFrom 0 = .ok (.aload_n 0, 1) := op42 (bA_at bd03_dec_X1_0_0 0 rfl rfl)
theorem dX1_copyFrom_1 : decode cX1_copyFrom 1 = .ok (.aload_n 1, 1) := op43 (bA_at bd03_dec_X1_0_0 1 rfl rfl)
theorem dX1_copyFrom_2 : decode cX1_copyFrom 2 = .ok (.getfield 21, 3) := op180 (bA_at bd03_dec_X1_0_0 2 rfl rfl) rfl
theorem dX1_copyFrom_5 : decode cX1_copyFrom 5 = .ok (.putfield 21, 3) := op181 (bA_at bd03_dec_X1_0_0 3 rfl rfl) rfl
theorem dX1_copyFrom_8 : decode cX1_copyFrom 8 = .ok (.aload_n 1, 1) := op43 (bA_at bd03_dec_X1_0_0 4 rfl rfl)
theorem dX1_copyFrom_9 : decode cX1_copyFrom 9 = .ok (.getfield 9, 3) := op180 (bA_at bd03_dec_X1_0_0 5 rfl rfl) rfl
theorem dX1_copyFrom_12 : decode cX1_copyFrom 12 = .ok (.iconst 0, 1) := op3 (bA_at bd03_dec_X1_0_0 6 rfl rfl)
theorem dX1_copyFrom_13 : decode cX1_copyFrom 13 = .ok (.aload_n 0, 1) := op42 (bA_at bd03_dec_X1_0_0 7 rfl rfl)
theorem dX1_copyFrom_14 : decode cX1_copyFrom 14 = .ok (.getfield 9, 3) := op180 (bA_at bd03_dec_X1_0_0 8 rfl rfl) rfl
theorem dX1_copyFrom_17 : decode cX1_copyFrom 17 = .ok (.iconst 0, 1) := op3 (bA_at bd03_dec_X1_0_0 9 rfl rfl)
theorem dX1_copyFrom_18 : decode cX1_copyFrom 18 = .ok (.aload_n 0, 1) := op42 (bA_at bd03_dec_X1_0_0 10 rfl rfl)
theorem dX1_copyFrom_19 : decode cX1_copyFrom 19 = .ok (.getfield 21, 3) := op180 (bA_at bd03_dec_X1_0_0 11 rfl rfl) rfl
theorem bd03_dec_X1_0_1 : ([(0, [184, 0, 25]), (3, [43]), (4, [180, 0, 15]), (7, [3]), (8, [42]), (9, [180, 0, 15]), (12, [3]), (13, [42]), (14, [180, 0, 21]), (17, [184, 0, 25]), (20, [43]), (21, [180, 0, 18])] : List (Nat × List UInt8)).all (fun x => prB x.2 ((cX1_copyFrom.data.toList.drop 22).drop x.1)) = true := by decide +kernel
theorem dX1_copyFrom_22 : decode cX1_copyFrom 22 = .ok (.invokestatic 25, 3) := op184 (bA_at bd03_dec_X1_0_1 0 rfl rfl) rfl
theorem dX1_copyFrom_25 : decode cX1_copyFrom 25 = .ok (.aload_n 1, 1) := op43 (bA_at bd03_dec_X1_0_1 1 rfl rfl)
theorem dX1_copyFrom_26 : decode cX1_copyFrom 26 = .ok (.getfield 15, 3) := op180 (bA_at bd03_dec_X1_0_1 2 rfl rfl) rfl
theorem dX1_copyFrom_29 : decode cX1_copyFrom 29 = .ok (.iconst 0, 1) := op3 (bA_at bd03_dec_X1_0_1 3 rfl rfl)
theorem dX1_copyFrom_30 : decode cX1_copyFrom 30 = .ok (.aload_n 0, 1) := op42 (bA_at bd03_dec_X1_0_1 4 rfl rfl)
theorem dX1_copyFrom_31 : decode cX1_copyFrom 31 = .ok (.getfield 15, 3) := op180 (bA_at bd03_dec_X1_0_1 5 rfl rfl) rfl
theorem dX1_copyFrom_34 : decode cX1_copyFrom 34 = .ok (.iconst 0, 1) := op3 (bA_at bd03_dec_X1_0_1 6 rfl rfl)
theorem dX1_copyFrom_35 : decode cX1_copyFrom 35 = .ok (.aload_n 0, 1) := op42 (bA_at bd03_dec_X1_0_1 7 rfl rfl)
theorem dX1_copyFrom_36 : decode cX1_copyFrom 36 = .ok (.getfield 21, 3) := op180 (bA_at bd03_dec_X1_0_1 8 rfl rfl) rfl
theorem dX1_copyFrom_39 : decode cX1_copyFrom 39 = .ok (.invokestatic 25, 3) := op184 (bA_at bd03_dec_X1_0_1 9 rfl rfl) rfl
theorem dX1_copyFrom_42 : decode cX1_copyFrom 42 = .ok (.aload_n 1, 1) := op43 (bA_at bd03_dec_X1_0_1 10 rfl rfl)
theorem dX1_copyFrom_43 : decode cX1_copyFrom 43 = .ok (.getfield 18, 3) := op180 (bA_at bd03_dec_X1_0_1 11 rfl rfl) rfl
theorem bd03_dec_X1_0_2 : ([(0, [3]), (1, [42]), (2, [180, 0, 18]), (5, [3]), (6, [42]), (7, [180, 0, 21]), (10, [184, 0, 25]), (13, [177])] : List (Nat × List UInt8)).all (fun x => prB x.2 ((cX1_copyFrom.data.toList.drop 46).drop x.1)) = true := by decide +kernel
theorem dX1_copyFrom_46 : decode cX1_copyFrom 46 = .ok (.iconst 0, 1) := op3 (bA_at bd03_dec_X1_0_2 0 rfl rfl)
theorem dX1_copyFrom_47 : decode cX1_copyFrom 47 = .ok (.aload_n 0, 1) := op42 (bA_at bd03_dec_X1_0_2 1 rfl rfl)
theorem dX1_copyFrom_48 : decode cX1_copyFrom 48 = .ok (.getfield 18, 3) := op180 (bA_at bd03_dec_X1_0_2 2 rfl rfl) rfl
theorem dX1_copyFrom_51 : decode cX1_copyFrom 51 = .ok (.iconst 0, 1) := op3 (bA_at bd03_dec_X1_0_2 3 rfl rfl)
theorem dX1_copyFrom_52 : decode cX1_copyFrom 52 = .ok (.aload_n 0, 1) := op42 (bA_at bd03_dec_X1_0_2 4 rfl rfl)
theorem dX1_copyFrom_53 : decode cX1_copyFrom 53 = .ok (.getfield 21, 3) := op180 (bA_at bd03_dec_X1_0_2 5 rfl rfl) rfl
theorem dX1_copyFrom_56 : decode cX1_copyFrom 56 = .ok (.invokestatic 25, 3) := op184 (bA_at bd03_dec_X1_0_2 6 rfl rfl) rfl
theorem dX1_copyFrom_59 : decode cX1_copyFrom 59 = .ok (.return_, 1) := op177 (bA_at bd03_dec_X1_0_2 7 rfl rfl)
theorem dX1_look_1 : decode cX1_look 1 = .ok (.tableswitch 48 0 2 #[27, 34, 41], 27) := by decide +kernel
theorem bd03_dec_X1_0_3 : ([(0, [28]), (28, [42]), (29, [180, 0, 9]), (32, [27]), (33, [46]), (34, [172]), (35, [42]), (36, [180, 0, 15]), (39, [27]), (40, [46]), (41, [172])] : List (Nat × List UInt8)).all (fun x => prB x.2 ((cX1_look.data.toList.drop 0).drop x.1)) = true := by decide +kernel
theorem dX1_look_0 : decode cX1_look 0 = .ok (.iload_n 2, 1) := op28 (bA_at bd03_dec_X1_0_3 0 rfl rfl)
theorem dX1_look_28 : decode cX1_look 28 = .ok (.aload_n 0, 1) := op42 (bA_at bd03_dec_X1_0_3 1 rfl rfl)
theorem dX1_look_29 : decode cX1_look 29 = .ok (.getfield 9, 3) := op180 (bA_at bd03_dec_X1_0_3 2 rfl rfl) rfl
theorem dX1_look_32 : decode cX1_look 32 = .ok (.iload_n 1, 1) := op27 (bA_at bd03_dec_X1_0_3 3 rfl rfl)
theorem dX1_look_33 : decode cX1_look 33 = .ok (.iaload, 1) := op46 (bA_at bd03_dec_X1_0_3 4 rfl rfl)
theorem dX1_look_34 : decode cX1_look 34 = .ok (.ireturn, 1) := op172 (bA_at bd03_dec_X1_0_3 5 rfl rfl)
theorem dX1_look_35 : decode cX1_look 35 = .ok (.aload_n 0, 1) := op42 (bA_at bd03_dec_X1_0_3 6 rfl rfl)
theorem dX1_look_36 : decode cX1_look 36 = .ok (.getfield 15, 3) := op180 (bA_at bd03_dec_X1_0_3 7 rfl rfl) rfl
theorem dX1_look_39 : decode cX1_look 39 = .ok (.iload_n 1, 1) := op27 (bA_at bd03_dec_X1_0_3 8 rfl rfl)
theorem dX1_look_40 : decode cX1_look 40 = .ok (.iaload, 1) := op46 (bA_at bd03_dec_X1_0_3 9 rfl rfl)
theorem dX1_look_41 : decode cX1_look 41 = .ok (.ireturn, 1) := op172 (bA_at bd03_dec_X1_0_3 10 rfl rfl)
theorem bd03_dec_X1_0_4 : ([(0, [42]), (1, [180, 0, 18]), (4, [27]), (5, [46]), (6, [172]), (7, [16, 254]), (9, [172])] : List (Nat × List UInt8)).all (fun x => prB x.2 ((cX1_look.data.toList.drop 42).drop x.1)) = true := by decide +kernel
theorem dX1_look_42 : decode cX1_look 42 = .ok (.aload_n 0, 1) := op42 (bA_at bd03_dec_X1_0_4 0 rfl rfl)
theorem dX1_look_43 : decode cX1_look 43 = .ok (.getfield 18, 3) := op180 (bA_at bd03_dec_X1_0_4 1 rfl rfl) rfl
theorem dX1_look_46 : decode cX1_look 46 = .ok (.iload_n 1, 1) := op27 (bA_at bd03_dec_X1_0_4 2 rfl rfl)
theorem dX1_look_47 : decode cX1_look 47 = .ok (.iaload, 1) := op46 (bA_at bd03_dec_X1_0_4 3 rfl rfl)
theorem dX1_look_48 : decode cX1_look 48 = .ok (.ireturn, 1) := op172 (bA_at bd03_dec_X1_0_4 4 rfl rfl)
theorem dX1_look_49 : decode cX1_look 49 = .ok (.bipush (-2), 2) := op16 (bA_at bd03_dec_X1_0_4 5 rfl rfl) (by decide +kernel)
theorem dX1_look_51 : decode cX1_look 51 = .ok (.ireturn, 1) := op172 (bA_at bd03_dec_X1_0_4 6 rfl rfl)
end
section
theorem bd03_dec_X10_0_0 : ([(0, [27]), (1, [155, 0, 8]), (4, [27]), (5, [6]), (6, [161, 0, 5]), (9, [3]), (10, [172]), (11, [42]), (12, [180, 0, 16]), (15, [27]), (16, [50]), (17, [199, 0, 16])] : List (Nat × List UInt8)).all (fun x => prB x.2 ((cX10_image.data.toList.drop 0).drop x.1)) = true := by decide +kernel
theorem dX10_image_0 : decode cX10_image 0 = .ok (.iload_n 1, 1) := op27 (bA_at bd03_dec_X10_0_0 0 rfl rfl)
theorem dX10_image_1 : decode cX10_image 1 = .ok (.ifCond .lt 8, 3) := op155 (bA_at bd03_dec_X10_0_0 1 rfl rfl) (by decide +kernel)
theorem dX10_image_4 : decode cX10_image 4 = .ok (.iload_n 1, 1) := op27 (bA_at bd03_dec_X10_0_0 2 rfl rfl)
theorem dX10_image_5 : decode cX10_image 5 = .ok (.iconst 3, 1) := op6 (bA_at bd03_dec_X10_0_0 3 rfl rfl)
theorem dX10_image_6 : decode cX10_image 6 = .ok (.if_icmp .lt 5, 3) := op161 (bA_at bd03_dec_X10_0_0 4 rfl rfl) (by decide +kernel)
theorem dX10_image_9 : decode cX10_image 9 = .ok (.iconst 0, 1) := op3 (bA_at bd03_dec_X10_0_0 5 rfl rfl)
theorem dX10_image_10 : decode cX10_image 10 = .ok (.ireturn, 1) := op172 (bA_at bd03_dec_X10_0_0 6 rfl rfl)
theorem dX10_image_11 : decode cX10_image 11 = .ok (.aload_n 0, 1) := op42 (bA_at bd03_dec_X10_0_0 7 rfl rfl)
theorem dX10_image_12 : decode cX10_image 12 = .ok (.getfield 16, 3) := op180 (bA_at bd03_dec_X10_0_0 8 rfl rfl) rfl
theorem dX10_image_15 : decode cX10_image 15 = .ok (.iload_n 1, 1) := op27 (bA_at bd03_dec_X10_0_0 9 rfl rfl)
theorem dX10_image_16 : decode cX10_image 16 = .ok (.aaload, 1) := op50 (bA_at bd03_dec_X10_0_0 10 rfl rfl)
theorem dX10_image_17 : decode cX10_image 17 = .ok (.ifnonnull 16, 3) := op199 (bA_at bd03_dec_X10_0_0 11 rfl rfl) (by decide +kernel)
theorem bd03_dec_X10_0_1 : ([(0, [42]), (1, [180, 0, 16]), (4, [27]), (5, [187, 0, 7]), (8, [89]), (9, [183, 0, 9]), (12, [83]), (13, [42]), (14, [180, 0, 16]), (17, [27]), (18, [50]), (19, [42])] : List (Nat × List UInt8)).all (fun x => prB x.2 ((cX10_image.data.toList.drop 20).drop x.1)) = true := by decide +kernel
theorem dX10_image_20 : decode cX10_image 20 = .ok (.aload_n 0, 1) := op42 (bA_at bd03_dec_X10_0_1 0 rfl rfl)
theorem dX10_image_21 : decode cX10_image 21 = .ok (.getfield 16, 3) := op180 (bA_at bd03_dec_X10_0_1 1 rfl rfl) rfl
theorem dX10_image_24 : decode cX10_image 24 = .ok (.iload_n 1, 1) := op27 (bA_at bd03_dec_X10_0_1 2 rfl rfl)
theorem dX10_image_25 : decode cX10_image 25 = .ok (.new 7, 3) := op187 (bA_at bd03_dec_X10_0_1 3 rfl rfl) rfl
theorem dX10_image_28 : decode cX10_image 28 = .ok (.dup, 1) := op89 (bA_at bd03_dec_X10_0_1 4 rfl rfl)
theorem dX10_image_29 : decode cX10_image 29 = .ok (.invokespecial 9, 3) := op183 (bA_at bd03_dec_X10_0_1 5 rfl rfl) rfl
theorem dX10_image_32 : decode cX10_image 32 = .ok (.aastore, 1) := op83 (bA_at bd03_dec_X10_0_1 6 rfl rfl)
theorem dX10_image_33 : decode cX10_image 33 = .ok (.aload_n 0, 1) := op42 (bA_at bd03_dec_X10_0_1 7 rfl rfl)
theorem dX10_image_34 : decode cX10_image 34 = .ok (.getfield 16, 3) := op180 (bA_at bd03_dec_X10_0_1 8 rfl rfl) rfl
theorem dX10_image_37 : decode cX10_image 37 = .ok (.iload_n 1, 1) := op27 (bA_at bd03_dec_X10_0_1 9 rfl rfl)
theorem dX10_image_38 : decode cX10_image 38 = .ok (.aaload, 1) := op50 (bA_at bd03_dec_X10_0_1 10 rfl rfl)
theorem dX10_image_39 : decode cX10_image 39 = .ok (.aload_n 0, 1) := op42 (bA_at bd03_dec_X10_0_1 11 rfl rfl)
theorem bd03_dec_X10_0_2 : ([(0, [180, 0, 10]), (3, [182, 1, 67]), (6, [4]), (7, [172])] : List (Nat × List UInt8)).all (fun x => prB x.2 ((cX10_image.data.toList.drop 40).drop x.1)) = true := by decide +kernel
theorem dX10_image_40 : decode cX10_image 40 = .ok (.getfield 10, 3) := op180 (bA_at bd03_dec_X10_0_2 0 rfl rfl) rfl
theorem dX10_image_43 : decode cX10_image 43 = .ok (.invokevirtual 323, 3) := op182 (bA_at bd03_dec_X10_0_2 1 rfl rfl) rfl
theorem dX10_image_46 : decode cX10_image 46 = .ok (.iconst 1, 1) := op4 (bA_at bd03_dec_X10_0_2 2 rfl rfl)
theorem dX10_image_47 : decode cX10_image 47 = .ok (.ireturn, 1) := op172 (bA_at bd03_dec_X10_0_2 3 rfl rfl)
theorem bd03_dec_X10_0_3 : ([(0, [26]), (1, [27]), (2, [122]), (3, [4]), (4, [126]), (5, [153, 0, 7]), (8, [4]), (9, [167, 0, 4]), (12, [3]), (13, [172])] : List (Nat × List UInt8)).all (fun x => prB x.2 ((cX10_has.data.toList.drop 0).drop x.1)) = true := by decide +kernel
theorem dX10_has_0 : decode cX10_has 0 = .ok (.iload_n 0, 1) := op26 (bA_at bd03_dec_X10_0_3 0 rfl rfl)
theorem dX10_has_1 : decode cX10_has 1 = .ok (.iload_n 1, 1) := op27 (bA_at bd03_dec_X10_0_3 1 rfl rfl)
theorem dX10_has_2 : decode cX10_has 2 = .ok (.ishr, 1) := op122 (bA_at bd03_dec_X10_0_3 2 rfl rfl)
theorem dX10_has_3 : decode cX10_has 3 = .ok (.iconst 1, 1) := op4 (bA_at bd03_dec_X10_0_3 3 rfl rfl)
theorem dX10_has_4 : decode cX10_has 4 = .ok (.iand, 1) := op126 (bA_at bd03_dec_X10_0_3 4 rfl rfl)
theorem dX10_has_5 : decode cX10_has 5 = .ok (.ifCond .eq 7, 3) := op153 (bA_at bd03_dec_X10_0_3 5 rfl rfl) (by decide +kernel)
theorem dX10_has_8 : decode cX10_has 8 = .ok (.iconst 1, 1) := op4 (bA_at bd03_dec_X10_0_3 6 rfl rfl)
theorem dX10_has_9 : decode cX10_has 9 = .ok (.goto 4, 3) := op167 (bA_at bd03_dec_X10_0_3 7 rfl rfl) (by decide +kernel)
theorem dX10_has_12 : decode cX10_has 12 = .ok (.iconst 0, 1) := op3 (bA_at bd03_dec_X10_0_3 8 rfl rfl)
theorem dX10_has_13 : decode cX10_has 13 = .ok (.ireturn, 1) := op172 (bA_at bd03_dec_X10_0_3 9 rfl rfl)
end
section
theorem bd03_dec_X11_0_0 : ([(0, [26]), (1, [27]), (2, [161, 0, 12]), (5, [26]), (6, [28]), (7, [163, 0, 7]), (10, [4]), (11, [167, 0, 4]), (14, [3]), (15, [172])] : List (Nat × List UInt8)).all (fun x => prB x.2 ((cX11_in.data.toList.drop 0).drop x.1)) = true := by decide +kernel
theorem dX11_in_0 : decode cX11_in 0 = .ok (.iload_n 0, 1) := op26 (bA_at bd03_dec_X11_0_0 0 rfl rfl)
theorem dX11_in_1 : decode cX11_in 1 = .ok (.iload_n 1, 1) := op27 (bA_at bd03_dec_X11_0_0 1 rfl rfl)
theorem dX11_in_2 : decode cX11_in 2 = .ok (.if_icmp .lt 12, 3) := op161 (bA_at bd03_dec_X11_0_0 2 rfl rfl) (by decide +kernel)
theorem dX11_in_5 : decode cX11_in 5 = .ok (.iload_n 0, 1) := op26 (bA_at bd03_dec_X11_0_0 3 rfl rfl)
theorem dX11_in_6 : decode cX11_in 6 = .ok (.iload_n 2, 1) := op28 (bA_at bd03_dec_X11_0_0 4 rfl rfl)
theorem dX11_in_7 : decode cX11_in 7 = .ok (.if_icmp .gt 7, 3) := op163 (bA_at bd03_dec_X11_0_0 5 rfl rfl) (by decide +kernel)
theorem dX11_in_10 : decode cX11_in 10 = .ok (.iconst 1, 1) := op4 (bA_at bd03_dec_X11_0_0 6 rfl rfl)
theorem dX11_in_11 : decode cX11_in 11 = .ok (.goto 4, 3) := op167 (bA_at bd03_dec_X11_0_0 7 rfl rfl) (by decide +kernel)
theorem dX11_in_14 : decode cX11_in 14 = .ok (.iconst 0, 1) := op3 (bA_at bd03_dec_X11_0_0 8 rfl rfl)
theorem dX11_in_15 : decode cX11_in 15 = .ok (.ireturn, 1) := op172 (bA_at bd03_dec_X11_0_0 9 rfl rfl)
theorem bd03_dec_X11_0_1 : ([(0, [26]), (1, [27]), (2, [122]), (3, [4]), (4, [126]), (5, [4]), (6, [160, 0, 7]), (9, [4]), (10, [167, 0, 4]), (13, [3]), (14, [172])] : List (Nat × List UInt8)).all (fun x => prB x.2 ((cX11_has.data.toList.drop 0).drop x.1)) = true := by decide +kernel
theorem dX11_has_0 : decode cX11_has 0 = .ok (.iload_n 0, 1) := op26 (bA_at bd03_dec_X11_0_1 0 rfl rfl)
theorem dX11_has_1 : decode cX11_has 1 = .ok (.iload_n 1, 1) := op27 (bA_at bd03_dec_X11_0_1 1 rfl rfl)
theorem dX11_has_2 : decode cX11_has 2 = .ok (.ishr, 1) := op122 (bA_at bd03_dec_X11_0_1 2 rfl rfl)
theorem dX11_has_3 : decode cX11_has 3 = .ok (.iconst 1, 1) := op4 (bA_at bd03_dec_X11_0_1 3 rfl rfl)
theorem dX11_has_4 : decode cX11_has 4 = .ok (.iand, 1) := op126 (bA_at bd03_dec_X11_0_1 4 rfl rfl)
theorem dX11_has_5 : decode cX11_has 5 = .ok (.iconst 1, 1) := op4 (bA_at bd03_dec_X11_0_1 5 rfl rfl)
theorem dX11_has_6 : decode cX11_has 6 = .ok (.if_icmp .ne 7, 3) := op160 (bA_at bd03_dec_X11_0_1 6 rfl rfl) (by decide +kernel)
theorem dX11_has_9 : decode cX11_has 9 = .ok (.iconst 1, 1) := op4 (bA_at bd03_dec_X11_0_1 7 rfl rfl)
theorem dX11_has_10 : decode cX11_has 10 = .ok (.goto 4, 3) := op167 (bA_at bd03_dec_X11_0_1 8 rfl rfl) (by decide +kernel)
theorem dX11_has_13 : decode cX11_has 13 = .ok (.iconst 0, 1) := op3 (bA_at bd03_dec_X11_0_1 9 rfl rfl)
theorem dX11_has_14 : decode cX11_has 14 = .ok (.ireturn, 1) := op172 (bA_at bd03_dec_X11_0_1 10 rfl rfl)
theorem bd03_dec_X11_0_2 : ([(0, [26]), (1, [27]), (2, [164, 0, 7]), (5, [26]), (6, [167, 0, 4]), (9, [27]), (10, [172])] : List (Nat × List UInt8)).all (fun x => prB x.2 ((cX11_greater.data.toList.drop 0).drop x.1)) = true := by decide +kernel
theorem dX11_greater_0 : decode cX11_greater 0 = .ok (.iload_n 0, 1) := op26 (bA_at bd03_dec_X11_0_2 0 rfl rfl)
theorem dX11_greater_1 : decode cX11_greater 1 = .ok (.iload_n 1, 1) := op27 (bA_at bd03_dec_X11_0_2 1 rfl rfl)
theorem dX11_greater_2 : decode cX11_greater 2 = .ok (.if_icmp .le 7, 3) := op164 (bA_at bd03_dec_X11_0_2 2 rfl rfl) (by decide +kernel)
theorem dX11_greater_5 : decode cX11_greater 5 = .ok (.iload_n 0, 1) := op26 (bA_at bd03_dec_X11_0_2 3 rfl rfl)
theorem dX11_greater_6 : decode cX11_greater 6 = .ok (.goto 4, 3) := op167 (bA_at bd03_dec_X11_0_2 4 rfl rfl) (by decide +kernel)
theorem dX11_greater_9 : decode cX11_greater 9 = .ok (.iload_n 1, 1) := op27 (bA_at bd03_dec_X11_0_2 5 rfl rfl)
theorem dX11_greater_10 : decode cX11_greater 10 = .ok (.ireturn, 1) := op172 (bA_at bd03_dec_X11_0_2 6 rfl rfl)
theorem bd03_dec_X11_0_3 : ([(0, [26]), (1, [27]), (2, [162, 0, 7]), (5, [26]), (6, [167, 0, 4]), (9, [27]), (10, [172])] : List (Nat × List UInt8)).all (fun x => prB x.2 ((cX11_lesser.data.toList.drop 0).drop x.1)) = true := by decide +kernel
theorem dX11_lesser_0 : decode cX11_lesser 0 = .ok (.iload_n 0, 1) := op26 (bA_at bd03_dec_X11_0_3 0 rfl rfl)
theorem dX11_lesser_1 : decode cX11_lesser 1 = .ok (.iload_n 1, 1) := op27 (bA_at bd03_dec_X11_0_3 1 rfl rfl)
theorem dX11_lesser_2 : decode cX11_lesser 2 = .ok (.if_icmp .ge 7, 3) := op162 (bA_at bd03_dec_X11_0_3 2 rfl rfl) (by decide +kernel)
theorem dX11_lesser_5 : decode cX11_lesser 5 = .ok (.iload_n 0, 1) := op26 (bA_at bd03_dec_X11_0_3 3 rfl rfl)
theorem dX11_lesser_6 : decode cX11_lesser 6 = .ok (.goto 4, 3) := op167 (bA_at bd03_dec_X11_0_3 4 rfl rfl) (by decide +kernel)
theorem dX11_lesser_9 : decode cX11_lesser 9 = .ok (.iload_n 1, 1) := op27 (bA_at bd03_dec_X11_0_3 5 rfl rfl)
theorem dX11_lesser_10 : decode cX11_lesser 10 = .ok (.ireturn, 1) := op172 (bA_at bd03_dec_X11_0_3 6 rfl rfl)
theorem bd03_dec_X11_0_4 : ([(0, [3]), (1, [60]), (2, [3]), (3, [61]), (4, [28]), (5, [16, 9]), (7, [162, 0, 25]), (10, [27]), (11, [26]), (12, [28]), (13, [184, 0, 101]), (16, [153, 0, 7])] : List (Nat × List UInt8)).all (fun x => prB x.2 ((cX11_ones.data.toList.drop 0).drop x.1)) = true := by decide +kernel
theorem dX11_ones_0 : decode cX11_ones 0 = .ok (.iconst 0, 1) := op3 (bA_at bd03_dec_X11_0_4 0 rfl rfl)
theorem dX11_ones_1 : decode cX11_ones 1 = .ok (.istore_n 1, 1) := op60 (bA_at bd03_dec_X11_0_4 1 rfl rfl)
theorem dX11_ones_2 : decode cX11_ones 2 = .ok (.iconst 0, 1) := op3 (bA_at bd03_dec_X11_0_4 2 rfl rfl)
theorem dX11_ones_3 : decode cX11_ones 3 = .ok (.istore_n 2, 1) := op61 (bA_at bd03_dec_X11_0_4 3 rfl rfl)
theorem dX11_ones_4 : decode cX11_ones 4 = .ok (.iload_n 2, 1) := op28 (bA_at bd03_dec_X11_0_4 4 rfl rfl)
theorem dX11_ones_5 : decode cX11_ones 5 = .ok (.bipush 9, 2) := op16 (bA_at bd03_dec_X11_0_4 5 rfl rfl) (by decide +kernel)
theorem dX11_ones_7 : decode cX11_ones 7 = .ok (.if_icmp .ge 25, 3) := op162 (bA_at bd03_dec_X11_0_4 6 rfl rfl) (by decide +kernel)
theorem dX11_ones_10 : decode cX11_ones 10 = .ok (.iload_n 1, 1) := op27 (bA_at bd03_dec_X11_0_4 7 rfl rfl)
theorem dX11_ones_11 : decode cX11_ones 11 = .ok (.iload_n 0, 1) := op26 (bA_at bd03_dec_X11_0_4 8 rfl rfl)
theorem dX11_ones_12 : decode cX11_ones 12 = .ok (.iload_n 2, 1) := op28 (bA_at bd03_dec_X11_0_4 9 rfl rfl)
theorem dX11_ones_13 : decode cX11_ones 13 = .ok (.invokestatic 101, 3) := op184 (bA_at bd03_dec_X11_0_4 10 rfl rfl) rfl
theorem dX11_ones_16 : decode cX11_ones 16 = .ok (.ifCond .eq 7, 3) := op153 (bA_at bd03_dec_X11_0_4 11 rfl rfl) (by decide +kernel)
theorem bd03_dec_X11_0_5 : ([(0, [4]), (1, [167, 0, 4]), (4, [3]), (5, [96]), (6, [60]), (7, [132, 2, 1]), (10, [167, 255, 231]), (13, [27]), (14, [172])] : List (Nat × List UInt8)).all (fun x => prB x.2 ((cX11_ones.data.toList.drop 19).drop x.1)) = true := by decide +kernel
theorem dX11_ones_19 : decode cX11_ones 19 = .ok (.iconst 1, 1) := op4 (bA_at bd03_dec_X11_0_5 0 rfl rfl)
theorem dX11_ones_20 : decode cX11_ones 20 = .ok (.goto 4, 3) := op167 (bA_at bd03_dec_X11_0_5 1 rfl rfl) (by decide +kernel)
theorem dX11_ones_23 : decode cX11_ones 23 = .ok (.iconst 0, 1) := op3 (bA_at bd03_dec_X11_0_5 2 rfl rfl)
theorem dX11_ones_24 : decode cX11_ones 24 = .ok (.iadd, 1) := op96 (bA_at bd03_dec_X11_0_5 3 rfl rfl)
theorem dX11_ones_25 : decode cX11_ones 25 = .ok (.istore_n 1, 1) := op60 (bA_at bd03_dec_X11_0_5 4 rfl rfl)
theorem dX11_ones_26 : decode cX11_ones 26 = .ok (.iinc 2 1, 3) := op132 (bA_at bd03_dec_X11_0_5 5 rfl rfl) rfl (by decide +kernel)
theorem dX11_ones_29 : decode cX11_ones 29 = .ok (.goto (-25), 3) := op167 (bA_at bd03_dec_X11_0_5 6 rfl rfl) (by decide +kernel)
theorem dX11_ones_32 : decode cX11_ones 32 = .ok (.iload_n 1, 1) := op27 (bA_at bd03_dec_X11_0_5 7 rfl rfl)
theorem dX11_ones_33 : decode cX11_ones 33 = .ok (.ireturn, 1) := op172 (bA_at bd03_dec_X11_0_5 8 rfl rfl)
theorem bd03_dec_X11_0_6 : ([(0, [3]), (1, [54, 4]), (3, [21, 4]), (5, [27]), (6, [162, 0, 25]), (9, [42]), (10, [27]), (11, [29]), (12, [104]), (13, [21, 4]), (15, [96]), (16, [42])] : List (Nat × List UInt8)).all (fun x => prB x.2 ((cX11_copyRow.data.toList.drop 0).drop x.1)) = true := by decide +kernel
theorem dX11_copyRow_0 : decode cX11_copyRow 0 = .ok (.iconst 0, 1) := op3 (bA_at bd03_dec_X11_0_6 0 rfl rfl)
theorem dX11_copyRow_1 : decode cX11_copyRow 1 = .ok (.istore 4, 2) := op54 (bA_at bd03_dec_X11_0_6 1 rfl rfl) rfl
theorem dX11_copyRow_3 : decode cX11_copyRow 3 = .ok (.iload 4, 2) := op21 (bA_at bd03_dec_X11_0_6 2 rfl rfl) rfl
theorem dX11_copyRow_5 : decode cX11_copyRow 5 = .ok (.iload_n 1, 1) := op27 (bA_at bd03_dec_X11_0_6 3 rfl rfl)
theorem dX11_copyRow_6 : decode cX11_copyRow 6 = .ok (.if_icmp .ge 25, 3) := op162 (bA_at bd03_dec_X11_0_6 4 rfl rfl) (by decide +kernel)
theorem dX11_copyRow_9 : decode cX11_copyRow 9 = .ok (.aload_n 0, 1) := op42 (bA_at bd03_dec_X11_0_6 5 rfl rfl)
theorem dX11_copyRow_10 : decode cX11_copyRow 10 = .ok (.iload_n 1, 1) := op27 (bA_at bd03_dec_X11_0_6 6 rfl rfl)
theorem dX11_copyRow_11 : decode cX11_copyRow 11 = .ok (.iload_n 3, 1) := op29 (bA_at bd03_dec_X11_0_6 7 rfl rfl)
theorem dX11_copyRow_12 : decode cX11_copyRow 12 = .ok (.imul, 1) := op104 (bA_at bd03_dec_X11_0_6 8 rfl rfl)
theorem dX11_copyRow_13 : decode cX11_copyRow 13 = .ok (.iload 4, 2) := op21 (bA_at bd03_dec_X11_0_6 9 rfl rfl) rfl
theorem dX11_copyRow_15 : decode cX11_copyRow 15 = .ok (.iadd, 1) := op96 (bA_at bd03_dec_X11_0_6 10 rfl rfl)
theorem dX11_copyRow_16 : decode cX11_copyRow 16 = .ok (.aload_n 0, 1) := op42 (bA_at bd03_dec_X11_0_6 11 rfl rfl)
theorem bd03_dec_X11_0_7 : ([(0, [27]), (1, [28]), (2, [104]), (3, [21, 4]), (5, [96]), (6, [46]), (7, [79]), (8, [132, 4, 1]), (11, [167, 255, 231]), (14, [177])] : List (Nat × List UInt8)).all (fun x => prB x.2 ((cX11_copyRow.data.toList.drop 17).drop x.1)) = true := by decide +kernel
theorem dX11_copyRow_17 : decode cX11_copyRow 17 = .ok (.iload_n 1, 1) := op27 (bA_at bd03_dec_X11_0_7 0 rfl rfl)
theorem dX11_copyRow_18 : decode cX11_copyRow 18 = .ok (.iload_n 2, 1) := op28 (bA_at bd03_dec_X11_0_7 1 rfl rfl)
theorem dX11_copyRow_19 : decode cX11_copyRow 19 = .ok (.imul, 1) := op104 (bA_at bd03_dec_X11_0_7 2 rfl rfl)
theorem dX11_copyRow_20 : decode cX11_copyRow 20 = .ok (.iload 4, 2) := op21 (bA_at bd03_dec_X11_0_7 3 rfl rfl) rfl
theorem dX11_copyRow_22 : decode cX11_copyRow 22 = .ok (.iadd, 1) := op96 (bA_at bd03_dec_X11_0_7 4 rfl rfl)
theorem dX11_copyRow_23 : decode cX11_copyRow 23 = .ok (.iaload, 1) := op46 (bA_at bd03_dec_X11_0_7 5 rfl rfl)
theorem dX11_copyRow_24 : decode cX11_copyRow 24 = .ok (.iastore, 1) := op79 (bA_at bd03_dec_X11_0_7 6 rfl rfl)
theorem dX11_copyRow_25 : decode cX11_copyRow 25 = .ok (.iinc 4 1, 3) := op132 (bA_at bd03_dec_X11_0_7 7 rfl rfl) rfl (by decide +kernel)
theorem dX11_copyRow_28 : decode cX11_copyRow 28 = .ok (.goto (-25), 3) := op167 (bA_at bd03_dec_X11_0_7 8 rfl rfl) (by decide +kernel)
theorem dX11_copyRow_31 : decode cX11_copyRow 31 = .ok (.return_, 1) := op177 (bA_at bd03_dec_X11_0_7 9 rfl rfl)
theorem bd03_dec_X11_0_8 : ([(0, [3]), (1, [62]), (2, [29]), (3, [17, 2, 88]), (6, [162, 0, 33]), (9, [42]), (10, [180, 0, 7]), (13, [17, 2, 88]), (16, [28]), (17, [104]), (18, [29]), (19, [96])] : List (Nat × List UInt8)).all (fun x => prB x.2 ((cX11_copyAll.data.toList.drop 0).drop x.1)) = true := by decide +kernel
theorem dX11_copyAll_0 : decode cX11_copyAll 0 = .ok (.iconst 0, 1) := op3 (bA_at bd03_dec_X11_0_8 0 rfl rfl)
theorem dX11_copyAll_1 : decode cX11_copyAll 1 = .ok (.istore_n 3, 1) := op62 (bA_at bd03_dec_X11_0_8 1 rfl rfl)
theorem dX11_copyAll_2 : decode cX11_copyAll 2 = .ok (.iload_n 3, 1) := op29 (bA_at bd03_dec_X11_0_8 2 rfl rfl)
theorem dX11_copyAll_3 : decode cX11_copyAll 3 = .ok (.sipush 600, 3) := op17 (bA_at bd03_dec_X11_0_8 3 rfl rfl) (by decide +kernel)
theorem dX11_copyAll_6 : decode cX11_copyAll 6 = .ok (.if_icmp .ge 33, 3) := op162 (bA_at bd03_dec_X11_0_8 4 rfl rfl) (by decide +kernel)
theorem dX11_copyAll_9 : decode cX11_copyAll 9 = .ok (.aload_n 0, 1) := op42 (bA_at bd03_dec_X11_0_8 5 rfl rfl)
theorem dX11_copyAll_10 : decode cX11_copyAll 10 = .ok (.getfield 7, 3) := op180 (bA_at bd03_dec_X11_0_8 6 rfl rfl) rfl
theorem dX11_copyAll_13 : decode cX11_copyAll 13 = .ok (.sipush 600, 3) := op17 (bA_at bd03_dec_X11_0_8 7 rfl rfl) (by decide +kernel)
theorem dX11_copyAll_16 : decode cX11_copyAll 16 = .ok (.iload_n 2, 1) := op28 (bA_at bd03_dec_X11_0_8 8 rfl rfl)
theorem dX11_copyAll_17 : decode cX11_copyAll 17 = .ok (.imul, 1) := op104 (bA_at bd03_dec_X11_0_8 9 rfl rfl)
theorem dX11_copyAll_18 : decode cX11_copyAll 18 = .ok (.iload_n 3, 1) := op29 (bA_at bd03_dec_X11_0_8 10 rfl rfl)
theorem dX11_copyAll_19 : decode cX11_copyAll 19 = .ok (.iadd, 1) := op96 (bA_at bd03_dec_X11_0_8 11 rfl rfl)
theorem bd03_dec_X11_0_9 : ([(0, [42]), (1, [180, 0, 7]), (4, [17, 2, 88]), (7, [27]), (8, [104]), (9, [29]), (10, [96]), (11, [51]), (12, [84]), (13, [132, 3, 1]), (16, [167, 255, 222]), (19, [42])] : List (Nat × List UInt8)).all (fun x => prB x.2 ((cX11_copyAll.data.toList.drop 20).drop x.1)) = true := by decide +kernel
theorem dX11_copyAll_20 : decode cX11_copyAll 20 = .ok (.aload_n 0, 1) := op42 (bA_at bd03_dec_X11_0_9 0 rfl rfl)
theorem dX11_copyAll_21 : decode cX11_copyAll 21 = .ok (.getfield 7, 3) := op180 (bA_at bd03_dec_X11_0_9 1 rfl rfl) rfl
theorem dX11_copyAll_24 : decode cX11_copyAll 24 = .ok (.sipush 600, 3) := op17 (bA_at bd03_dec_X11_0_9 2 rfl rfl) (by decide +kernel)
theorem dX11_copyAll_27 : decode cX11_copyAll 27 = .ok (.iload_n 1, 1) := op27 (bA_at bd03_dec_X11_0_9 3 rfl rfl)
theorem dX11_copyAll_28 : decode cX11_copyAll 28 = .ok (.imul, 1) := op104 (bA_at bd03_dec_X11_0_9 4 rfl rfl)
theorem dX11_copyAll_29 : decode cX11_copyAll 29 = .ok (.iload_n 3, 1) := op29 (bA_at bd03_dec_X11_0_9 5 rfl rfl)
theorem dX11_copyAll_30 : decode cX11_copyAll 30 = .ok (.iadd, 1) := op96 (bA_at bd03_dec_X11_0_9 6 rfl rfl)
theorem dX11_copyAll_31 : decode cX11_copyAll 31 = .ok (.baload, 1) := op51 (bA_at bd03_dec_X11_0_9 7 rfl rfl)
theorem dX11_copyAll_32 : decode cX11_copyAll 32 = .ok (.bastore, 1) := op84 (bA_at bd03_dec_X11_0_9 8 rfl rfl)
theorem dX11_copyAll_33 : decode cX11_copyAll 33 = .ok (.iinc 3 1, 3) := op132 (bA_at bd03_dec_X11_0_9 9 rfl rfl) rfl (by decide +kernel)
theorem dX11_copyAll_36 : decode cX11_copyAll 36 = .ok (.goto (-34), 3) := op167 (bA_at bd03_dec_X11_0_9 10 rfl rfl) (by decide +kernel)
theorem dX11_copyAll_39 : decode cX11_copyAll 39 = .ok (.aload_n 0, 1) := op42 (bA_at bd03_dec_X11_0_9 11 rfl rfl)
theorem bd03_dec_X11_0_10 : ([(0, [180, 0, 13]), (3, [4]), (4, [27]), (5, [28]), (6, [184, 0, 105]), (9, [42]), (10, [180, 0, 17]), (13, [4]), (14, [27]), (15, [28]), (16, [184, 0, 105]), (19, [42])] : List (Nat × List UInt8)).all (fun x => prB x.2 ((cX11_copyAll.data.toList.drop 40).drop x.1)) = true := by decide +kernel
theorem dX11_copyAll_40 : decode cX11_copyAll 40 = .ok (.getfield 13, 3) := op180 (bA_at bd03_dec_X11_0_10 0 rfl rfl) rfl
theorem dX11_copyAll_43 : decode cX11_copyAll 43 = .ok (.iconst 1, 1) := op4 (bA_at bd03_dec_X11_0_10 1 rfl rfl)
theorem dX11_copyAll_44 : decode cX11_copyAll 44 = .ok (.iload_n 1, 1) := op27 (bA_at bd03_dec_X11_0_10 2 rfl rfl)
theorem dX11_copyAll_45 : decode cX11_copyAll 45 = .ok (.iload_n 2, 1) := op28 (bA_at bd03_dec_X11_0_10 3 rfl rfl)
theorem dX11_copyAll_46 : decode cX11_copyAll 46 = .ok (.invokestatic 105, 3) := op184 (bA_at bd03_dec_X11_0_10 4 rfl rfl) rfl
theorem dX11_copyAll_49 : decode cX11_copyAll 49 = .ok (.aload_n 0, 1) := op42 (bA_at bd03_dec_X11_0_10 5 rfl rfl)
theorem dX11_copyAll_50 : decode cX11_copyAll 50 = .ok (.getfield 17, 3) := op180 (bA_at bd03_dec_X11_0_10 6 rfl rfl) rfl
theorem dX11_copyAll_53 : decode cX11_copyAll 53 = .ok (.iconst 1, 1) := op4 (bA_at bd03_dec_X11_0_10 7 rfl rfl)
theorem dX11_copyAll_54 : decode cX11_copyAll 54 = .ok (.iload_n 1, 1) := op27 (bA_at bd03_dec_X11_0_10 8 rfl rfl)
theorem dX11_copyAll_55 : decode cX11_copyAll 55 = .ok (.iload_n 2, 1) := op28 (bA_at bd03_dec_X11_0_10 9 rfl rfl)
theorem dX11_copyAll_56 : decode cX11_copyAll 56 = .ok (.invokestatic 105, 3) := op184 (bA_at bd03_dec_X11_0_10 10 rfl rfl) rfl
theorem dX11_copyAll_59 : decode cX11_copyAll 59 = .ok (.aload_n 0, 1) := op42 (bA_at bd03_dec_X11_0_10 11 rfl rfl)
theorem bd03_dec_X11_0_11 : ([(0, [180, 0, 20]), (3, [4]), (4, [27]), (5, [28]), (6, [184, 0, 105]), (9, [42]), (10, [180, 0, 23]), (13, [7]), (14, [27]), (15, [28]), (16, [184, 0, 105]), (19, [42])] : List (Nat × List UInt8)).all (fun x => prB x.2 ((cX11_copyAll.data.toList.drop 60).drop x.1)) = true := by decide +kernel
theorem dX11_copyAll_60 : decode cX11_copyAll 60 = .ok (.getfield 20, 3) := op180 (bA_at bd03_dec_X11_0_11 0 rfl rfl) rfl
theorem dX11_copyAll_63 : decode cX11_copyAll 63 = .ok (.iconst 1, 1) := op4 (bA_at bd03_dec_X11_0_11 1 rfl rfl)
theorem dX11_copyAll_64 : decode cX11_copyAll 64 = .ok (.iload_n 1, 1) := op27 (bA_at bd03_dec_X11_0_11 2 rfl rfl)
theorem dX11_copyAll_65 : decode cX11_copyAll 65 = .ok (.iload_n 2, 1) := op28 (bA_at bd03_dec_X11_0_11 3 rfl rfl)
theorem dX11_copyAll_66 : decode cX11_copyAll 66 = .ok (.invokestatic 105, 3) := op184 (bA_at bd03_dec_X11_0_11 4 rfl rfl) rfl
theorem dX11_copyAll_69 : decode cX11_copyAll 69 = .ok (.aload_n 0, 1) := op42 (bA_at bd03_dec_X11_0_11 5 rfl rfl)
theorem dX11_copyAll_70 : decode cX11_copyAll 70 = .ok (.getfield 23, 3) := op180 (bA_at bd03_dec_X11_0_11 6 rfl rfl) rfl
theorem dX11_copyAll_73 : decode cX11_copyAll 73 = .ok (.iconst 4, 1) := op7 (bA_at bd03_dec_X11_0_11 7 rfl rfl)
theorem dX11_copyAll_74 : decode cX11_copyAll 74 = .ok (.iload_n 1, 1) := op27 (bA_at bd03_dec_X11_0_11 8 rfl rfl)
theorem dX11_copyAll_75 : decode cX11_copyAll 75 = .ok (.iload_n 2, 1) := op28 (bA_at bd03_dec_X11_0_11 9 rfl rfl)
theorem dX11_copyAll_76 : decode cX11_copyAll 76 = .ok (.invokestatic 105, 3) := op184 (bA_at bd03_dec_X11_0_11 10 rfl rfl) rfl
theorem dX11_copyAll_79 : decode cX11_copyAll 79 = .ok (.aload_n 0, 1) := op42 (bA_at bd03_dec_X11_0_11 11 rfl rfl)
theorem bd03_dec_X11_0_12 : ([(0, [180, 0, 26]), (3, [17, 1, 8]), (6, [27]), (7, [28]), (8, [184, 0, 105]), (11, [42]), (12, [180, 0, 29]), (15, [17, 0, 242]), (18, [27]), (19, [28]), (20, [184, 0, 105]), (23, [42])] : List (Nat × List UInt8)).all (fun x => prB x.2 ((cX11_copyAll.data.toList.drop 80).drop x.1)) = true := by decide +kernel
theorem dX11_copyAll_80 : decode cX11_copyAll 80 = .ok (.getfield 26, 3) := op180 (bA_at bd03_dec_X11_0_12 0 rfl rfl) rfl
theorem dX11_copyAll_83 : decode cX11_copyAll 83 = .ok (.sipush 264, 3) := op17 (bA_at bd03_dec_X11_0_12 1 rfl rfl) (by decide +kernel)
theorem dX11_copyAll_86 : decode cX11_copyAll 86 = .ok (.iload_n 1, 1) := op27 (bA_at bd03_dec_X11_0_12 2 rfl rfl)
theorem dX11_copyAll_87 : decode cX11_copyAll 87 = .ok (.iload_n 2, 1) := op28 (bA_at bd03_dec_X11_0_12 3 rfl rfl)
theorem dX11_copyAll_88 : decode cX11_copyAll 88 = .ok (.invokestatic 105, 3) := op184 (bA_at bd03_dec_X11_0_12 4 rfl rfl) rfl
theorem dX11_copyAll_91 : decode cX11_copyAll 91 = .ok (.aload_n 0, 1) := op42 (bA_at bd03_dec_X11_0_12 5 rfl rfl)
theorem dX11_copyAll_92 : decode cX11_copyAll 92 = .ok (.getfield 29, 3) := op180 (bA_at bd03_dec_X11_0_12 6 rfl rfl) rfl
theorem dX11_copyAll_95 : decode cX11_copyAll 95 = .ok (.sipush 242, 3) := op17 (bA_at bd03_dec_X11_0_12 7 rfl rfl) (by decide +kernel)
theorem dX11_copyAll_98 : decode cX11_copyAll 98 = .ok (.iload_n 1, 1) := op27 (bA_at bd03_dec_X11_0_12 8 rfl rfl)
theorem dX11_copyAll_99 : decode cX11_copyAll 99 = .ok (.iload_n 2, 1) := op28 (bA_at bd03_dec_X11_0_12 9 rfl rfl)
theorem dX11_copyAll_100 : decode cX11_copyAll 100 = .ok (.invokestatic 105, 3) := op184 (bA_at bd03_dec_X11_0_12 10 rfl rfl) rfl
theorem dX11_copyAll_103 : decode cX11_copyAll 103 = .ok (.aload_n 0, 1) := op42 (bA_at bd03_dec_X11_0_12 11 rfl rfl)
theorem bd03_dec_X11_0_13 : ([(0, [180, 0, 32]), (3, [16, 62]), (5, [27]), (6, [28]), (7, [184, 0, 105]), (10, [42]), (11, [180, 0, 35]), (14, [16, 40]), (16, [27]), (17, [28]), (18, [184, 0, 105]), (21, [177])] : List (Nat × List UInt8)).all (fun x => prB x.2 ((cX11_copyAll.data.toList.drop 104).drop x.1)) = true := by decide +kernel
theorem dX11_copyAll_104 : decode cX11_copyAll 104 = .ok (.getfield 32, 3) := op180 (bA_at bd03_dec_X11_0_13 0 rfl rfl) rfl
theorem dX11_copyAll_107 : decode cX11_copyAll 107 = .ok (.bipush 62, 2) := op16 (bA_at bd03_dec_X11_0_13 1 rfl rfl) (by decide +kernel)
theorem dX11_copyAll_109 : decode cX11_copyAll 109 = .ok (.iload_n 1, 1) := op27 (bA_at bd03_dec_X11_0_13 2 rfl rfl)
theorem dX11_copyAll_110 : decode cX11_copyAll 110 = .ok (.iload_n 2, 1) := op28 (bA_at bd03_dec_X11_0_13 3 rfl rfl)
theorem dX11_copyAll_111 : decode cX11_copyAll 111 = .ok (.invokestatic 105, 3) := op184 (bA_at bd03_dec_X11_0_13 4 rfl rfl) rfl
theorem dX11_copyAll_114 : decode cX11_copyAll 114 = .ok (.aload_n 0, 1) := op42 (bA_at bd03_dec_X11_0_13 5 rfl rfl)
theorem dX11_copyAll_115 : decode cX11_copyAll 115 = .ok (.getfield 35, 3) := op180 (bA_at bd03_dec_X11_0_13 6 rfl rfl) rfl
theorem dX11_copyAll_118 : decode cX11_copyAll 118 = .ok (.bipush 40, 2) := op16 (bA_at bd03_dec_X11_0_13 7 rfl rfl) (by decide +kernel)
theorem dX11_copyAll_120 : decode cX11_copyAll 120 = .ok (.iload_n 1, 1) := op27 (bA_at bd03_dec_X11_0_13 8 rfl rfl)
theorem dX11_copyAll_121 : decode cX11_copyAll 121 = .ok (.iload_n 2, 1) := op28 (bA_at bd03_dec_X11_0_13 9 rfl rfl)
theorem dX11_copyAll_122 : decode cX11_copyAll 122 = .ok (.invokestatic 105, 3) := op184 (bA_at bd03_dec_X11_0_13 10 rfl rfl) rfl
theorem dX11_copyAll_125 : decode cX11_copyAll 125 = .ok (.return_, 1) := op177 (bA_at bd03_dec_X11_0_13 11 rfl rfl)
theorem bd03_dec_X11_0_14 : ([(0, [28]), (1, [3]), (2, [42]), (3, [180, 0, 23]), (6, [27]), (7, [46]), (8, [4]), (9, [100]), (10, [184, 0, 109]), (13, [172])] : List (Nat × List UInt8)).all (fun x => prB x.2 ((cX11_is.data.toList.drop 0).drop x.1)) = true := by decide +kernel
theorem dX11_is_0 : decode cX11_is 0 = .ok (.iload_n 2, 1) := op28 (bA_at bd03_dec_X11_0_14 0 rfl rfl)
theorem dX11_is_1 : decode cX11_is 1 = .ok (.iconst 0, 1) := op3 (bA_at bd03_dec_X11_0_14 1 rfl rfl)
theorem dX11_is_2 : decode cX11_is 2 = .ok (.aload_n 0, 1) := op42 (bA_at bd03_dec_X11_0_14 2 rfl rfl)
theorem dX11_is_3 : decode cX11_is 3 = .ok (.getfield 23, 3) := op180 (bA_at bd03_dec_X11_0_14 3 rfl rfl) rfl
theorem dX11_is_6 : decode cX11_is 6 = .ok (.iload_n 1, 1) := op27 (bA_at bd03_dec_X11_0_14 4 rfl rfl)
theorem dX11_is_7 : decode cX11_is 7 = .ok (.iaload, 1) := op46 (bA_at bd03_dec_X11_0_14 5 rfl rfl)
theorem dX11_is_8 : decode cX11_is 8 = .ok (.iconst 1, 1) := op4 (bA_at bd03_dec_X11_0_14 6 rfl rfl)
theorem dX11_is_9 : decode cX11_is 9 = .ok (.isub, 1) := op100 (bA_at bd03_dec_X11_0_14 7 rfl rfl)
theorem dX11_is_10 : decode cX11_is 10 = .ok (.invokestatic 109, 3) := op184 (bA_at bd03_dec_X11_0_14 8 rfl rfl) rfl
theorem dX11_is_13 : decode cX11_is 13 = .ok (.ireturn, 1) := op172 (bA_at bd03_dec_X11_0_14 9 rfl rfl)
theorem bd03_dec_X11_0_15 : ([(0, [42]), (1, [3]), (2, [181, 0, 97]), (5, [42]), (6, [180, 0, 13]), (9, [3]), (10, [46]), (11, [16, 20]), (13, [96]), (14, [17, 2, 88]), (17, [164, 0, 5]), (20, [2])] : List (Nat × List UInt8)).all (fun x => prB x.2 ((cX11_feed.data.toList.drop 0).drop x.1)) = true := by decide +kernel
theorem dX11_feed_0 : decode cX11_feed 0 = .ok (.aload_n 0, 1) := op42 (bA_at bd03_dec_X11_0_15 0 rfl rfl)
theorem dX11_feed_1 : decode cX11_feed 1 = .ok (.iconst 0, 1) := op3 (bA_at bd03_dec_X11_0_15 1 rfl rfl)
theorem dX11_feed_2 : decode cX11_feed 2 = .ok (.putfield 97, 3) := op181 (bA_at bd03_dec_X11_0_15 2 rfl rfl) rfl
theorem dX11_feed_5 : decode cX11_feed 5 = .ok (.aload_n 0, 1) := op42 (bA_at bd03_dec_X11_0_15 3 rfl rfl)
theorem dX11_feed_6 : decode cX11_feed 6 = .ok (.getfield 13, 3) := op180 (bA_at bd03_dec_X11_0_15 4 rfl rfl) rfl
theorem dX11_feed_9 : decode cX11_feed 9 = .ok (.iconst 0, 1) := op3 (bA_at bd03_dec_X11_0_15 5 rfl rfl)
theorem dX11_feed_10 : decode cX11_feed 10 = .ok (.iaload, 1) := op46 (bA_at bd03_dec_X11_0_15 6 rfl rfl)
theorem dX11_feed_11 : decode cX11_feed 11 = .ok (.bipush 20, 2) := op16 (bA_at bd03_dec_X11_0_15 7 rfl rfl) (by decide +kernel)
theorem dX11_feed_13 : decode cX11_feed 13 = .ok (.iadd, 1) := op96 (bA_at bd03_dec_X11_0_15 8 rfl rfl)
theorem dX11_feed_14 : decode cX11_feed 14 = .ok (.sipush 600, 3) := op17 (bA_at bd03_dec_X11_0_15 9 rfl rfl) (by decide +kernel)
theorem dX11_feed_17 : decode cX11_feed 17 = .ok (.if_icmp .le 5, 3) := op164 (bA_at bd03_dec_X11_0_15 10 rfl rfl) (by decide +kernel)
theorem dX11_feed_20 : decode cX11_feed 20 = .ok (.iconst (-1), 1) := op2 (bA_at bd03_dec_X11_0_15 11 rfl rfl)
theorem bd03_dec_X11_0_16 : ([(0, [172]), (1, [42]), (2, [27]), (3, [182, 0, 113]), (6, [42]), (7, [28]), (8, [182, 0, 113]), (11, [42]), (12, [29]), (13, [182, 0, 113]), (16, [42]), (17, [21, 4])] : List (Nat × List UInt8)).all (fun x => prB x.2 ((cX11_feed.data.toList.drop 21).drop x.1)) = true := by decide +kernel
theorem dX11_feed_21 : decode cX11_feed 21 = .ok (.ireturn, 1) := op172 (bA_at bd03_dec_X11_0_16 0 rfl rfl)
theorem dX11_feed_22 : decode cX11_feed 22 = .ok (.aload_n 0, 1) := op42 (bA_at bd03_dec_X11_0_16 1 rfl rfl)
theorem dX11_feed_23 : decode cX11_feed 23 = .ok (.iload_n 1, 1) := op27 (bA_at bd03_dec_X11_0_16 2 rfl rfl)
theorem dX11_feed_24 : decode cX11_feed 24 = .ok (.invokevirtual 113, 3) := op182 (bA_at bd03_dec_X11_0_16 3 rfl rfl) rfl
theorem dX11_feed_27 : decode cX11_feed 27 = .ok (.aload_n 0, 1) := op42 (bA_at bd03_dec_X11_0_16 4 rfl rfl)
theorem dX11_feed_28 : decode cX11_feed 28 = .ok (.iload_n 2, 1) := op28 (bA_at bd03_dec_X11_0_16 5 rfl rfl)
theorem dX11_feed_29 : decode cX11_feed 29 = .ok (.invokevirtual 113, 3) := op182 (bA_at bd03_dec_X11_0_16 6 rfl rfl) rfl
theorem dX11_feed_32 : decode cX11_feed 32 = .ok (.aload_n 0, 1) := op42 (bA_at bd03_dec_X11_0_16 7 rfl rfl)
theorem dX11_feed_33 : decode cX11_feed 33 = .ok (.iload_n 3, 1) := op29 (bA_at bd03_dec_X11_0_16 8 rfl rfl)
theorem dX11_feed_34 : decode cX11_feed 34 = .ok (.invokevirtual 113, 3) := op182 (bA_at bd03_dec_X11_0_16 9 rfl rfl) rfl
theorem dX11_feed_37 : decode cX11_feed 37 = .ok (.aload_n 0, 1) := op42 (bA_at bd03_dec_X11_0_16 10 rfl rfl)
theorem dX11_feed_38 : decode cX11_feed 38 = .ok (.iload 4, 2) := op21 (bA_at bd03_dec_X11_0_16 11 rfl rfl) rfl
theorem bd03_dec_X11_0_17 : ([(0, [182, 0, 113]), (3, [42]), (4, [21, 5]), (6, [182, 0, 113]), (9, [42]), (10, [180, 0, 13]), (13, [3]), (14, [46]), (15, [172])] : List (Nat × List UInt8)).all (fun x => prB x.2 ((cX11_feed.data.toList.drop 40).drop x.1)) = true := by decide +kernel
theorem dX11_feed_40 : decode cX11_feed 40 = .ok (.invokevirtual 113, 3) := op182 (bA_at bd03_dec_X11_0_17 0 rfl rfl) rfl
theorem dX11_feed_43 : decode cX11_feed 43 = .ok (.aload_n 0, 1) := op42 (bA_at bd03_dec_X11_0_17 1 rfl rfl)
theorem dX11_feed_44 : decode cX11_feed 44 = .ok (.iload 5, 2) := op21 (bA_at bd03_dec_X11_0_17 2 rfl rfl) rfl
theorem dX11_feed_46 : decode cX11_feed 46 = .ok (.invokevirtual 113, 3) := op182 (bA_at bd03_dec_X11_0_17 3 rfl rfl) rfl
theorem dX11_feed_49 : decode cX11_feed 49 = .ok (.aload_n 0, 1) := op42 (bA_at bd03_dec_X11_0_17 4 rfl rfl)
theorem dX11_feed_50 : decode cX11_feed 50 = .ok (.getfield 13, 3) := op180 (bA_at bd03_dec_X11_0_17 5 rfl rfl) rfl
theorem dX11_feed_53 : decode cX11_feed 53 = .ok (.iconst 0, 1) := op3 (bA_at bd03_dec_X11_0_17 6 rfl rfl)
theorem dX11_feed_54 : decode cX11_feed 54 = .ok (.iaload, 1) := op46 (bA_at bd03_dec_X11_0_17 7 rfl rfl)
theorem dX11_feed_55 : decode cX11_feed 55 = .ok (.ireturn, 1) := op172 (bA_at bd03_dec_X11_0_17 8 rfl rfl)
theorem bd03_dec_X11_0_18 : ([(0, [16, 24]), (2, [61]), (3, [28]), (4, [155, 0, 34]), (7, [42]), (8, [180, 0, 7]), (11, [42]), (12, [180, 0, 13]), (15, [3]), (16, [46]), (17, [27]), (18, [28])] : List (Nat × List UInt8)).all (fun x => prB x.2 ((cX11_four.data.toList.drop 0).drop x.1)) = true := by decide +kernel
theorem dX11_four_0 : decode cX11_four 0 = .ok (.bipush 24, 2) := op16 (bA_at bd03_dec_X11_0_18 0 rfl rfl) (by decide +kernel)
theorem dX11_four_2 : decode cX11_four 2 = .ok (.istore_n 2, 1) := op61 (bA_at bd03_dec_X11_0_18 1 rfl rfl)
theorem dX11_four_3 : decode cX11_four 3 = .ok (.iload_n 2, 1) := op28 (bA_at bd03_dec_X11_0_18 2 rfl rfl)
theorem dX11_four_4 : decode cX11_four 4 = .ok (.ifCond .lt 34, 3) := op155 (bA_at bd03_dec_X11_0_18 3 rfl rfl) (by decide +kernel)
theorem dX11_four_7 : decode cX11_four 7 = .ok (.aload_n 0, 1) := op42 (bA_at bd03_dec_X11_0_18 4 rfl rfl)
theorem dX11_four_8 : decode cX11_four 8 = .ok (.getfield 7, 3) := op180 (bA_at bd03_dec_X11_0_18 5 rfl rfl) rfl
theorem dX11_four_11 : decode cX11_four 11 = .ok (.aload_n 0, 1) := op42 (bA_at bd03_dec_X11_0_18 6 rfl rfl)
theorem dX11_four_12 : decode cX11_four 12 = .ok (.getfield 13, 3) := op180 (bA_at bd03_dec_X11_0_18 7 rfl rfl) rfl
theorem dX11_four_15 : decode cX11_four 15 = .ok (.iconst 0, 1) := op3 (bA_at bd03_dec_X11_0_18 8 rfl rfl)
theorem dX11_four_16 : decode cX11_four 16 = .ok (.iaload, 1) := op46 (bA_at bd03_dec_X11_0_18 9 rfl rfl)
theorem dX11_four_17 : decode cX11_four 17 = .ok (.iload_n 1, 1) := op27 (bA_at bd03_dec_X11_0_18 10 rfl rfl)
theorem dX11_four_18 : decode cX11_four 18 = .ok (.iload_n 2, 1) := op28 (bA_at bd03_dec_X11_0_18 11 rfl rfl)
theorem bd03_dec_X11_0_19 : ([(0, [122]), (1, [145]), (2, [84]), (3, [42]), (4, [180, 0, 13]), (7, [3]), (8, [92]), (9, [46]), (10, [4]), (11, [96]), (12, [79]), (13, [132, 2, 248])] : List (Nat × List UInt8)).all (fun x => prB x.2 ((cX11_four.data.toList.drop 19).drop x.1)) = true := by decide +kernel
theorem dX11_four_19 : decode cX11_four 19 = .ok (.ishr, 1) := op122 (bA_at bd03_dec_X11_0_19 0 rfl rfl)
theorem dX11_four_20 : decode cX11_four 20 = .ok (.i2b, 1) := op145 (bA_at bd03_dec_X11_0_19 1 rfl rfl)
theorem dX11_four_21 : decode cX11_four 21 = .ok (.bastore, 1) := op84 (bA_at bd03_dec_X11_0_19 2 rfl rfl)
theorem dX11_four_22 : decode cX11_four 22 = .ok (.aload_n 0, 1) := op42 (bA_at bd03_dec_X11_0_19 3 rfl rfl)
theorem dX11_four_23 : decode cX11_four 23 = .ok (.getfield 13, 3) := op180 (bA_at bd03_dec_X11_0_19 4 rfl rfl) rfl
theorem dX11_four_26 : decode cX11_four 26 = .ok (.iconst 0, 1) := op3 (bA_at bd03_dec_X11_0_19 5 rfl rfl)
theorem dX11_four_27 : decode cX11_four 27 = .ok (.dup2, 1) := op92 (bA_at bd03_dec_X11_0_19 6 rfl rfl)
theorem dX11_four_28 : decode cX11_four 28 = .ok (.iaload, 1) := op46 (bA_at bd03_dec_X11_0_19 7 rfl rfl)
theorem dX11_four_29 : decode cX11_four 29 = .ok (.iconst 1, 1) := op4 (bA_at bd03_dec_X11_0_19 8 rfl rfl)
theorem dX11_four_30 : decode cX11_four 30 = .ok (.iadd, 1) := op96 (bA_at bd03_dec_X11_0_19 9 rfl rfl)
theorem dX11_four_31 : decode cX11_four 31 = .ok (.iastore, 1) := op79 (bA_at bd03_dec_X11_0_19 10 rfl rfl)
theorem dX11_four_32 : decode cX11_four 32 = .ok (.iinc 2 (-8), 3) := op132 (bA_at bd03_dec_X11_0_19 11 rfl rfl) rfl (by decide +kernel)
theorem bd03_dec_X11_0_20 : ([(0, [167, 255, 224]), (3, [177])] : List (Nat × List UInt8)).all (fun x => prB x.2 ((cX11_four.data.toList.drop 35).drop x.1)) = true := by decide +kernel
theorem dX11_four_35 : decode cX11_four 35 = .ok (.goto (-32), 3) := op167 (bA_at bd03_dec_X11_0_20 0 rfl rfl) (by decide +kernel)
theorem dX11_four_38 : decode cX11_four 38 = .ok (.return_, 1) := op177 (bA_at bd03_dec_X11_0_20 1 rfl rfl)
theorem bd03_dec_X11_0_21 : ([(0, [42]), (1, [3]), (2, [181, 0, 97]), (5, [27]), (6, [3]), (7, [42]), (8, [180, 0, 13]), (11, [3]), (12, [46]), (13, [184, 0, 109]), (16, [154, 0, 5]), (19, [2])] : List (Nat × List UInt8)).all (fun x => prB x.2 ((cX11_end.data.toList.drop 0).drop x.1)) = true := by decide +kernel
theorem dX11_end_0 : decode cX11_end 0 = .ok (.aload_n 0, 1) := op42 (bA_at bd03_dec_X11_0_21 0 rfl rfl)
theorem dX11_end_1 : decode cX11_end 1 = .ok (.iconst 0, 1) := op3 (bA_at bd03_dec_X11_0_21 1 rfl rfl)
theorem dX11_end_2 : decode cX11_end 2 = .ok (.putfield 97, 3) := op181 (bA_at bd03_dec_X11_0_21 2 rfl rfl) rfl
theorem dX11_end_5 : decode cX11_end 5 = .ok (.iload_n 1, 1) := op27 (bA_at bd03_dec_X11_0_21 3 rfl rfl)
theorem dX11_end_6 : decode cX11_end 6 = .ok (.iconst 0, 1) := op3 (bA_at bd03_dec_X11_0_21 4 rfl rfl)
theorem dX11_end_7 : decode cX11_end 7 = .ok (.aload_n 0, 1) := op42 (bA_at bd03_dec_X11_0_21 5 rfl rfl)
theorem dX11_end_8 : decode cX11_end 8 = .ok (.getfield 13, 3) := op180 (bA_at bd03_dec_X11_0_21 6 rfl rfl) rfl
theorem dX11_end_11 : decode cX11_end 11 = .ok (.iconst 0, 1) := op3 (bA_at bd03_dec_X11_0_21 7 rfl rfl)
theorem dX11_end_12 : decode cX11_end 12 = .ok (.iaload, 1) := op46 (bA_at bd03_dec_X11_0_21 8 rfl rfl)
theorem dX11_end_13 : decode cX11_end 13 = .ok (.invokestatic 109, 3) := op184 (bA_at bd03_dec_X11_0_21 9 rfl rfl) rfl
theorem dX11_end_16 : decode cX11_end 16 = .ok (.ifCond .ne 5, 3) := op154 (bA_at bd03_dec_X11_0_21 10 rfl rfl) (by decide +kernel)
theorem dX11_end_19 : decode cX11_end 19 = .ok (.iconst (-1), 1) := op2 (bA_at bd03_dec_X11_0_21 11 rfl rfl)
theorem bd03_dec_X11_0_22 : ([(0, [172]), (1, [42]), (2, [180, 0, 13]), (5, [3]), (6, [27]), (7, [79]), (8, [27]), (9, [172])] : List (Nat × List UInt8)).all (fun x => prB x.2 ((cX11_end.data.toList.drop 20).drop x.1)) = true := by decide +kernel
theorem dX11_end_20 : decode cX11_end 20 = .ok (.ireturn, 1) := op172 (bA_at bd03_dec_X11_0_22 0 rfl rfl)
theorem dX11_end_21 : decode cX11_end 21 = .ok (.aload_n 0, 1) := op42 (bA_at bd03_dec_X11_0_22 1 rfl rfl)
theorem dX11_end_22 : decode cX11_end 22 = .ok (.getfield 13, 3) := op180 (bA_at bd03_dec_X11_0_22 2 rfl rfl) rfl
theorem dX11_end_25 : decode cX11_end 25 = .ok (.iconst 0, 1) := op3 (bA_at bd03_dec_X11_0_22 3 rfl rfl)
theorem dX11_end_26 : decode cX11_end 26 = .ok (.iload_n 1, 1) := op27 (bA_at bd03_dec_X11_0_22 4 rfl rfl)
theorem dX11_end_27 : decode cX11_end 27 = .ok (.iastore, 1) := op79 (bA_at bd03_dec_X11_0_22 5 rfl rfl)
theorem dX11_end_28 : decode cX11_end 28 = .ok (.iload_n 1, 1) := op27 (bA_at bd03_dec_X11_0_22 6 rfl rfl)
theorem dX11_end_29 : decode cX11_end 29 = .ok (.ireturn, 1) := op172 (bA_at bd03_dec_X11_0_22 7 rfl rfl)
theorem bd03_dec_X11_0_23 : ([(0, [42]), (1, [180, 0, 117]), (4, [42]), (5, [180, 0, 120]), (8, [162, 0, 19]), (11, [42]), (12, [180, 0, 7]), (15, [42]), (16, [180, 0, 117]), (19, [51]), (20, [17, 0, 255]), (23, [126])] : List (Nat × List UInt8)).all (fun x => prB x.2 ((cX11_see.data.toList.drop 0).drop x.1)) = true := by decide +kernel
theorem dX11_see_0 : decode cX11_see 0 = .ok (.aload_n 0, 1) := op42 (bA_at bd03_dec_X11_0_23 0 rfl rfl)
theorem dX11_see_1 : decode cX11_see 1 = .ok (.getfield 117, 3) := op180 (bA_at bd03_dec_X11_0_23 1 rfl rfl) rfl
theorem dX11_see_4 : decode cX11_see 4 = .ok (.aload_n 0, 1) := op42 (bA_at bd03_dec_X11_0_23 2 rfl rfl)
theorem dX11_see_5 : decode cX11_see 5 = .ok (.getfield 120, 3) := op180 (bA_at bd03_dec_X11_0_23 3 rfl rfl) rfl
theorem dX11_see_8 : decode cX11_see 8 = .ok (.if_icmp .ge 19, 3) := op162 (bA_at bd03_dec_X11_0_23 4 rfl rfl) (by decide +kernel)
theorem dX11_see_11 : decode cX11_see 11 = .ok (.aload_n 0, 1) := op42 (bA_at bd03_dec_X11_0_23 5 rfl rfl)
theorem dX11_see_12 : decode cX11_see 12 = .ok (.getfield 7, 3) := op180 (bA_at bd03_dec_X11_0_23 6 rfl rfl) rfl
theorem dX11_see_15 : decode cX11_see 15 = .ok (.aload_n 0, 1) := op42 (bA_at bd03_dec_X11_0_23 7 rfl rfl)
theorem dX11_see_16 : decode cX11_see 16 = .ok (.getfield 117, 3) := op180 (bA_at bd03_dec_X11_0_23 8 rfl rfl) rfl
theorem dX11_see_19 : decode cX11_see 19 = .ok (.baload, 1) := op51 (bA_at bd03_dec_X11_0_23 9 rfl rfl)
theorem dX11_see_20 : decode cX11_see 20 = .ok (.sipush 255, 3) := op17 (bA_at bd03_dec_X11_0_23 10 rfl rfl) (by decide +kernel)
theorem dX11_see_23 : decode cX11_see 23 = .ok (.iand, 1) := op126 (bA_at bd03_dec_X11_0_23 11 rfl rfl)
theorem bd03_dec_X11_0_24 : ([(0, [167, 0, 4]), (3, [2]), (4, [172])] : List (Nat × List UInt8)).all (fun x => prB x.2 ((cX11_see.data.toList.drop 24).drop x.1)) = true := by decide +kernel
theorem dX11_see_24 : decode cX11_see 24 = .ok (.goto 4, 3) := op167 (bA_at bd03_dec_X11_0_24 0 rfl rfl) (by decide +kernel)
theorem dX11_see_27 : decode cX11_see 27 = .ok (.iconst (-1), 1) := op2 (bA_at bd03_dec_X11_0_24 1 rfl rfl)
theorem dX11_see_28 : decode cX11_see 28 = .ok (.ireturn, 1) := op172 (bA_at bd03_dec_X11_0_24 2 rfl rfl)
theorem bd03_dec_X11_0_25 : ([(0, [42]), (1, [182, 0, 123]), (4, [16, 10]), (6, [159, 0, 12]), (9, [42]), (10, [182, 0, 123]), (13, [16, 32]), (15, [160, 0, 16]), (18, [42]), (19, [89]), (20, [180, 0, 117]), (23, [4])] : List (Nat × List UInt8)).all (fun x => prB x.2 ((cX11_token.data.toList.drop 0).drop x.1)) = true := by decide +kernel
theorem dX11_token_0 : decode cX11_token 0 = .ok (.aload_n 0, 1) := op42 (bA_at bd03_dec_X11_0_25 0 rfl rfl)
theorem dX11_token_1 : decode cX11_token 1 = .ok (.invokevirtual 123, 3) := op182 (bA_at bd03_dec_X11_0_25 1 rfl rfl) rfl
theorem dX11_token_4 : decode cX11_token 4 = .ok (.bipush 10, 2) := op16 (bA_at bd03_dec_X11_0_25 2 rfl rfl) (by decide +kernel)
theorem dX11_token_6 : decode cX11_token 6 = .ok (.if_icmp .eq 12, 3) := op159 (bA_at bd03_dec_X11_0_25 3 rfl rfl) (by decide +kernel)
theorem dX11_token_9 : decode cX11_token 9 = .ok (.aload_n 0, 1) := op42 (bA_at bd03_dec_X11_0_25 4 rfl rfl)
theorem dX11_token_10 : decode cX11_token 10 = .ok (.invokevirtual 123, 3) := op182 (bA_at bd03_dec_X11_0_25 5 rfl rfl) rfl
theorem dX11_token_13 : decode cX11_token 13 = .ok (.bipush 32, 2) := op16 (bA_at bd03_dec_X11_0_25 6 rfl rfl) (by decide +kernel)
theorem dX11_token_15 : decode cX11_token 15 = .ok (.if_icmp .ne 16, 3) := op160 (bA_at bd03_dec_X11_0_25 7 rfl rfl) (by decide +kernel)
theorem dX11_token_18 : decode cX11_token 18 = .ok (.aload_n 0, 1) := op42 (bA_at bd03_dec_X11_0_25 8 rfl rfl)
theorem dX11_token_19 : decode cX11_token 19 = .ok (.dup, 1) := op89 (bA_at bd03_dec_X11_0_25 9 rfl rfl)
theorem dX11_token_20 : decode cX11_token 20 = .ok (.getfield 117, 3) := op180 (bA_at bd03_dec_X11_0_25 10 rfl rfl) rfl
theorem dX11_token_23 : decode cX11_token 23 = .ok (.iconst 1, 1) := op4 (bA_at bd03_dec_X11_0_25 11 rfl rfl)
theorem bd03_dec_X11_0_26 : ([(0, [96]), (1, [181, 0, 117]), (4, [167, 255, 228]), (7, [42]), (8, [42]), (9, [180, 0, 117]), (12, [181, 0, 127]), (15, [42]), (16, [182, 0, 123]), (19, [60]), (20, [42]), (21, [9])] : List (Nat × List UInt8)).all (fun x => prB x.2 ((cX11_token.data.toList.drop 24).drop x.1)) = true := by decide +kernel
theorem dX11_token_24 : decode cX11_token 24 = .ok (.iadd, 1) := op96 (bA_at bd03_dec_X11_0_26 0 rfl rfl)
theorem dX11_token_25 : decode cX11_token 25 = .ok (.putfield 117, 3) := op181 (bA_at bd03_dec_X11_0_26 1 rfl rfl) rfl
theorem dX11_token_28 : decode cX11_token 28 = .ok (.goto (-28), 3) := op167 (bA_at bd03_dec_X11_0_26 2 rfl rfl) (by decide +kernel)
theorem dX11_token_31 : decode cX11_token 31 = .ok (.aload_n 0, 1) := op42 (bA_at bd03_dec_X11_0_26 3 rfl rfl)
theorem dX11_token_32 : decode cX11_token 32 = .ok (.aload_n 0, 1) := op42 (bA_at bd03_dec_X11_0_26 4 rfl rfl)
theorem dX11_token_33 : decode cX11_token 33 = .ok (.getfield 117, 3) := op180 (bA_at bd03_dec_X11_0_26 5 rfl rfl) rfl
theorem dX11_token_36 : decode cX11_token 36 = .ok (.putfield 127, 3) := op181 (bA_at bd03_dec_X11_0_26 6 rfl rfl) rfl
theorem dX11_token_39 : decode cX11_token 39 = .ok (.aload_n 0, 1) := op42 (bA_at bd03_dec_X11_0_26 7 rfl rfl)
theorem dX11_token_40 : decode cX11_token 40 = .ok (.invokevirtual 123, 3) := op182 (bA_at bd03_dec_X11_0_26 8 rfl rfl) rfl
theorem dX11_token_43 : decode cX11_token 43 = .ok (.istore_n 1, 1) := op60 (bA_at bd03_dec_X11_0_26 9 rfl rfl)
theorem dX11_token_44 : decode cX11_token 44 = .ok (.aload_n 0, 1) := op42 (bA_at bd03_dec_X11_0_26 10 rfl rfl)
theorem dX11_token_45 : decode cX11_token 45 = .ok (.lconst 0, 1) := op9 (bA_at bd03_dec_X11_0_26 11 rfl rfl)
theorem bd03_dec_X11_0_27 : ([(0, [181, 0, 130]), (3, [3]), (4, [61]), (5, [27]), (6, [156, 0, 11]), (9, [42]), (10, [3]), (11, [181, 0, 134]), (14, [167, 0, 206]), (17, [27]), (18, [16, 97]), (20, [16, 122])] : List (Nat × List UInt8)).all (fun x => prB x.2 ((cX11_token.data.toList.drop 46).drop x.1)) = true := by decide +kernel
theorem dX11_token_46 : decode cX11_token 46 = .ok (.putfield 130, 3) := op181 (bA_at bd03_dec_X11_0_27 0 rfl rfl) rfl
theorem dX11_token_49 : decode cX11_token 49 = .ok (.iconst 0, 1) := op3 (bA_at bd03_dec_X11_0_27 1 rfl rfl)
theorem dX11_token_50 : decode cX11_token 50 = .ok (.istore_n 2, 1) := op61 (bA_at bd03_dec_X11_0_27 2 rfl rfl)
theorem dX11_token_51 : decode cX11_token 51 = .ok (.iload_n 1, 1) := op27 (bA_at bd03_dec_X11_0_27 3 rfl rfl)
theorem dX11_token_52 : decode cX11_token 52 = .ok (.ifCond .ge 11, 3) := op156 (bA_at bd03_dec_X11_0_27 4 rfl rfl) (by decide +kernel)
theorem dX11_token_55 : decode cX11_token 55 = .ok (.aload_n 0, 1) := op42 (bA_at bd03_dec_X11_0_27 5 rfl rfl)
theorem dX11_token_56 : decode cX11_token 56 = .ok (.iconst 0, 1) := op3 (bA_at bd03_dec_X11_0_27 6 rfl rfl)
theorem dX11_token_57 : decode cX11_token 57 = .ok (.putfield 134, 3) := op181 (bA_at bd03_dec_X11_0_27 7 rfl rfl) rfl
theorem dX11_token_60 : decode cX11_token 60 = .ok (.goto 206, 3) := op167 (bA_at bd03_dec_X11_0_27 8 rfl rfl) (by decide +kernel)
theorem dX11_token_63 : decode cX11_token 63 = .ok (.iload_n 1, 1) := op27 (bA_at bd03_dec_X11_0_27 9 rfl rfl)
theorem dX11_token_64 : decode cX11_token 64 = .ok (.bipush 97, 2) := op16 (bA_at bd03_dec_X11_0_27 10 rfl rfl) (by decide +kernel)
theorem dX11_token_66 : decode cX11_token 66 = .ok (.bipush 122, 2) := op16 (bA_at bd03_dec_X11_0_27 11 rfl rfl) (by decide +kernel)
theorem bd03_dec_X11_0_28 : ([(0, [184, 0, 109]), (3, [153, 0, 76]), (6, [42]), (7, [182, 0, 123]), (10, [16, 97]), (12, [16, 122]), (14, [184, 0, 109]), (17, [153, 0, 36]), (20, [42]), (21, [42]), (22, [180, 0, 130]), (25, [16, 8])] : List (Nat × List UInt8)).all (fun x => prB x.2 ((cX11_token.data.toList.drop 68).drop x.1)) = true := by decide +kernel
theorem dX11_token_68 : decode cX11_token 68 = .ok (.invokestatic 109, 3) := op184 (bA_at bd03_dec_X11_0_28 0 rfl rfl) rfl
theorem dX11_token_71 : decode cX11_token 71 = .ok (.ifCond .eq 76, 3) := op153 (bA_at bd03_dec_X11_0_28 1 rfl rfl) (by decide +kernel)
theorem dX11_token_74 : decode cX11_token 74 = .ok (.aload_n 0, 1) := op42 (bA_at bd03_dec_X11_0_28 2 rfl rfl)
theorem dX11_token_75 : decode cX11_token 75 = .ok (.invokevirtual 123, 3) := op182 (bA_at bd03_dec_X11_0_28 3 rfl rfl) rfl
theorem dX11_token_78 : decode cX11_token 78 = .ok (.bipush 97, 2) := op16 (bA_at bd03_dec_X11_0_28 4 rfl rfl) (by decide +kernel)
theorem dX11_token_80 : decode cX11_token 80 = .ok (.bipush 122, 2) := op16 (bA_at bd03_dec_X11_0_28 5 rfl rfl) (by decide +kernel)
theorem dX11_token_82 : decode cX11_token 82 = .ok (.invokestatic 109, 3) := op184 (bA_at bd03_dec_X11_0_28 6 rfl rfl) rfl
theorem dX11_token_85 : decode cX11_token 85 = .ok (.ifCond .eq 36, 3) := op153 (bA_at bd03_dec_X11_0_28 7 rfl rfl) (by decide +kernel)
theorem dX11_token_88 : decode cX11_token 88 = .ok (.aload_n 0, 1) := op42 (bA_at bd03_dec_X11_0_28 8 rfl rfl)
theorem dX11_token_89 : decode cX11_token 89 = .ok (.aload_n 0, 1) := op42 (bA_at bd03_dec_X11_0_28 9 rfl rfl)
theorem dX11_token_90 : decode cX11_token 90 = .ok (.getfield 130, 3) := op180 (bA_at bd03_dec_X11_0_28 10 rfl rfl) rfl
theorem dX11_token_93 : decode cX11_token 93 = .ok (.bipush 8, 2) := op16 (bA_at bd03_dec_X11_0_28 11 rfl rfl) (by decide +kernel)
theorem bd03_dec_X11_0_29 : ([(0, [121]), (1, [42]), (2, [182, 0, 123]), (5, [133]), (6, [129]), (7, [181, 0, 130]), (10, [42]), (11, [89]), (12, [180, 0, 117]), (15, [4]), (16, [96]), (17, [181, 0, 117])] : List (Nat × List UInt8)).all (fun x => prB x.2 ((cX11_token.data.toList.drop 95).drop x.1)) = true := by decide +kernel
theorem dX11_token_95 : decode cX11_token 95 = .ok (.lshl, 1) := op121 (bA_at bd03_dec_X11_0_29 0 rfl rfl)
theorem dX11_token_96 : decode cX11_token 96 = .ok (.aload_n 0, 1) := op42 (bA_at bd03_dec_X11_0_29 1 rfl rfl)
theorem dX11_token_97 : decode cX11_token 97 = .ok (.invokevirtual 123, 3) := op182 (bA_at bd03_dec_X11_0_29 2 rfl rfl) rfl
theorem dX11_token_100 : decode cX11_token 100 = .ok (.i2l, 1) := op133 (bA_at bd03_dec_X11_0_29 3 rfl rfl)
theorem dX11_token_101 : decode cX11_token 101 = .ok (.lor, 1) := op129 (bA_at bd03_dec_X11_0_29 4 rfl rfl)
theorem dX11_token_102 : decode cX11_token 102 = .ok (.putfield 130, 3) := op181 (bA_at bd03_dec_X11_0_29 5 rfl rfl) rfl
theorem dX11_token_105 : decode cX11_token 105 = .ok (.aload_n 0, 1) := op42 (bA_at bd03_dec_X11_0_29 6 rfl rfl)
theorem dX11_token_106 : decode cX11_token 106 = .ok (.dup, 1) := op89 (bA_at bd03_dec_X11_0_29 7 rfl rfl)
theorem dX11_token_107 : decode cX11_token 107 = .ok (.getfield 117, 3) := op180 (bA_at bd03_dec_X11_0_29 8 rfl rfl) rfl
theorem dX11_token_110 : decode cX11_token 110 = .ok (.iconst 1, 1) := op4 (bA_at bd03_dec_X11_0_29 9 rfl rfl)
theorem dX11_token_111 : decode cX11_token 111 = .ok (.iadd, 1) := op96 (bA_at bd03_dec_X11_0_29 10 rfl rfl)
theorem dX11_token_112 : decode cX11_token 112 = .ok (.putfield 117, 3) := op181 (bA_at bd03_dec_X11_0_29 11 rfl rfl) rfl
theorem bd03_dec_X11_0_30 : ([(0, [132, 2, 1]), (3, [167, 255, 212]), (6, [42]), (7, [28]), (8, [16, 8]), (10, [164, 0, 7]), (13, [9]), (14, [167, 0, 7]), (17, [42]), (18, [180, 0, 130]), (21, [181, 0, 130]), (24, [42])] : List (Nat × List UInt8)).all (fun x => prB x.2 ((cX11_token.data.toList.drop 115).drop x.1)) = true := by decide +kernel
theorem dX11_token_115 : decode cX11_token 115 = .ok (.iinc 2 1, 3) := op132 (bA_at bd03_dec_X11_0_30 0 rfl rfl) rfl (by decide +kernel)
theorem dX11_token_118 : decode cX11_token 118 = .ok (.goto (-44), 3) := op167 (bA_at bd03_dec_X11_0_30 1 rfl rfl) (by decide +kernel)
theorem dX11_token_121 : decode cX11_token 121 = .ok (.aload_n 0, 1) := op42 (bA_at bd03_dec_X11_0_30 2 rfl rfl)
theorem dX11_token_122 : decode cX11_token 122 = .ok (.iload_n 2, 1) := op28 (bA_at bd03_dec_X11_0_30 3 rfl rfl)
theorem dX11_token_123 : decode cX11_token 123 = .ok (.bipush 8, 2) := op16 (bA_at bd03_dec_X11_0_30 4 rfl rfl) (by decide +kernel)
theorem dX11_token_125 : decode cX11_token 125 = .ok (.if_icmp .le 7, 3) := op164 (bA_at bd03_dec_X11_0_30 5 rfl rfl) (by decide +kernel)
theorem dX11_token_128 : decode cX11_token 128 = .ok (.lconst 0, 1) := op9 (bA_at bd03_dec_X11_0_30 6 rfl rfl)
theorem dX11_token_129 : decode cX11_token 129 = .ok (.goto 7, 3) := op167 (bA_at bd03_dec_X11_0_30 7 rfl rfl) (by decide +kernel)
theorem dX11_token_132 : decode cX11_token 132 = .ok (.aload_n 0, 1) := op42 (bA_at bd03_dec_X11_0_30 8 rfl rfl)
theorem dX11_token_133 : decode cX11_token 133 = .ok (.getfield 130, 3) := op180 (bA_at bd03_dec_X11_0_30 9 rfl rfl) rfl
theorem dX11_token_136 : decode cX11_token 136 = .ok (.putfield 130, 3) := op181 (bA_at bd03_dec_X11_0_30 10 rfl rfl) rfl
theorem dX11_token_139 : decode cX11_token 139 = .ok (.aload_n 0, 1) := op42 (bA_at bd03_dec_X11_0_30 11 rfl rfl)
theorem bd03_dec_X11_0_31 : ([(0, [5]), (1, [181, 0, 134]), (4, [167, 0, 122]), (7, [27]), (8, [16, 48]), (10, [16, 57]), (12, [184, 0, 109]), (15, [153, 0, 86]), (18, [42]), (19, [3]), (20, [181, 0, 137]), (23, [42])] : List (Nat × List UInt8)).all (fun x => prB x.2 ((cX11_token.data.toList.drop 140).drop x.1)) = true := by decide +kernel
theorem dX11_token_140 : decode cX11_token 140 = .ok (.iconst 2, 1) := op5 (bA_at bd03_dec_X11_0_31 0 rfl rfl)
theorem dX11_token_141 : decode cX11_token 141 = .ok (.putfield 134, 3) := op181 (bA_at bd03_dec_X11_0_31 1 rfl rfl) rfl
theorem dX11_token_144 : decode cX11_token 144 = .ok (.goto 122, 3) := op167 (bA_at bd03_dec_X11_0_31 2 rfl rfl) (by decide +kernel)
theorem dX11_token_147 : decode cX11_token 147 = .ok (.iload_n 1, 1) := op27 (bA_at bd03_dec_X11_0_31 3 rfl rfl)
theorem dX11_token_148 : decode cX11_token 148 = .ok (.bipush 48, 2) := op16 (bA_at bd03_dec_X11_0_31 4 rfl rfl) (by decide +kernel)
theorem dX11_token_150 : decode cX11_token 150 = .ok (.bipush 57, 2) := op16 (bA_at bd03_dec_X11_0_31 5 rfl rfl) (by decide +kernel)
theorem dX11_token_152 : decode cX11_token 152 = .ok (.invokestatic 109, 3) := op184 (bA_at bd03_dec_X11_0_31 6 rfl rfl) rfl
theorem dX11_token_155 : decode cX11_token 155 = .ok (.ifCond .eq 86, 3) := op153 (bA_at bd03_dec_X11_0_31 7 rfl rfl) (by decide +kernel)
theorem dX11_token_158 : decode cX11_token 158 = .ok (.aload_n 0, 1) := op42 (bA_at bd03_dec_X11_0_31 8 rfl rfl)
theorem dX11_token_159 : decode cX11_token 159 = .ok (.iconst 0, 1) := op3 (bA_at bd03_dec_X11_0_31 9 rfl rfl)
theorem dX11_token_160 : decode cX11_token 160 = .ok (.putfield 137, 3) := op181 (bA_at bd03_dec_X11_0_31 10 rfl rfl) rfl
theorem dX11_token_163 : decode cX11_token 163 = .ok (.aload_n 0, 1) := op42 (bA_at bd03_dec_X11_0_31 11 rfl rfl)
theorem bd03_dec_X11_0_32 : ([(0, [182, 0, 123]), (3, [16, 48]), (5, [16, 57]), (7, [184, 0, 109]), (10, [153, 0, 50]), (13, [42]), (14, [28]), (15, [5]), (16, [162, 0, 21]), (19, [16, 10]), (21, [42]), (22, [180, 0, 137])] : List (Nat × List UInt8)).all (fun x => prB x.2 ((cX11_token.data.toList.drop 164).drop x.1)) = true := by decide +kernel
theorem dX11_token_164 : decode cX11_token 164 = .ok (.invokevirtual 123, 3) := op182 (bA_at bd03_dec_X11_0_32 0 rfl rfl) rfl
theorem dX11_token_167 : decode cX11_token 167 = .ok (.bipush 48, 2) := op16 (bA_at bd03_dec_X11_0_32 1 rfl rfl) (by decide +kernel)
theorem dX11_token_169 : decode cX11_token 169 = .ok (.bipush 57, 2) := op16 (bA_at bd03_dec_X11_0_32 2 rfl rfl) (by decide +kernel)
theorem dX11_token_171 : decode cX11_token 171 = .ok (.invokestatic 109, 3) := op184 (bA_at bd03_dec_X11_0_32 3 rfl rfl) rfl
theorem dX11_token_174 : decode cX11_token 174 = .ok (.ifCond .eq 50, 3) := op153 (bA_at bd03_dec_X11_0_32 4 rfl rfl) (by decide +kernel)
theorem dX11_token_177 : decode cX11_token 177 = .ok (.aload_n 0, 1) := op42 (bA_at bd03_dec_X11_0_32 5 rfl rfl)
theorem dX11_token_178 : decode cX11_token 178 = .ok (.iload_n 2, 1) := op28 (bA_at bd03_dec_X11_0_32 6 rfl rfl)
theorem dX11_token_179 : decode cX11_token 179 = .ok (.iconst 2, 1) := op5 (bA_at bd03_dec_X11_0_32 7 rfl rfl)
theorem dX11_token_180 : decode cX11_token 180 = .ok (.if_icmp .ge 21, 3) := op162 (bA_at bd03_dec_X11_0_32 8 rfl rfl) (by decide +kernel)
theorem dX11_token_183 : decode cX11_token 183 = .ok (.bipush 10, 2) := op16 (bA_at bd03_dec_X11_0_32 9 rfl rfl) (by decide +kernel)
theorem dX11_token_185 : decode cX11_token 185 = .ok (.aload_n 0, 1) := op42 (bA_at bd03_dec_X11_0_32 10 rfl rfl)
theorem dX11_token_186 : decode cX11_token 186 = .ok (.getfield 137, 3) := op180 (bA_at bd03_dec_X11_0_32 11 rfl rfl) rfl
theorem bd03_dec_X11_0_33 : ([(0, [104]), (1, [42]), (2, [182, 0, 123]), (5, [96]), (6, [16, 48]), (8, [100]), (9, [167, 0, 7]), (12, [42]), (13, [180, 0, 137]), (16, [181, 0, 137]), (19, [42]), (20, [89])] : List (Nat × List UInt8)).all (fun x => prB x.2 ((cX11_token.data.toList.drop 189).drop x.1)) = true := by decide +kernel
theorem dX11_token_189 : decode cX11_token 189 = .ok (.imul, 1) := op104 (bA_at bd03_dec_X11_0_33 0 rfl rfl)
theorem dX11_token_190 : decode cX11_token 190 = .ok (.aload_n 0, 1) := op42 (bA_at bd03_dec_X11_0_33 1 rfl rfl)
theorem dX11_token_191 : decode cX11_token 191 = .ok (.invokevirtual 123, 3) := op182 (bA_at bd03_dec_X11_0_33 2 rfl rfl) rfl
theorem dX11_token_194 : decode cX11_token 194 = .ok (.iadd, 1) := op96 (bA_at bd03_dec_X11_0_33 3 rfl rfl)
theorem dX11_token_195 : decode cX11_token 195 = .ok (.bipush 48, 2) := op16 (bA_at bd03_dec_X11_0_33 4 rfl rfl) (by decide +kernel)
theorem dX11_token_197 : decode cX11_token 197 = .ok (.isub, 1) := op100 (bA_at bd03_dec_X11_0_33 5 rfl rfl)
theorem dX11_token_198 : decode cX11_token 198 = .ok (.goto 7, 3) := op167 (bA_at bd03_dec_X11_0_33 6 rfl rfl) (by decide +kernel)
theorem dX11_token_201 : decode cX11_token 201 = .ok (.aload_n 0, 1) := op42 (bA_at bd03_dec_X11_0_33 7 rfl rfl)
theorem dX11_token_202 : decode cX11_token 202 = .ok (.getfield 137, 3) := op180 (bA_at bd03_dec_X11_0_33 8 rfl rfl) rfl
theorem dX11_token_205 : decode cX11_token 205 = .ok (.putfield 137, 3) := op181 (bA_at bd03_dec_X11_0_33 9 rfl rfl) rfl
theorem dX11_token_208 : decode cX11_token 208 = .ok (.aload_n 0, 1) := op42 (bA_at bd03_dec_X11_0_33 10 rfl rfl)
theorem dX11_token_209 : decode cX11_token 209 = .ok (.dup, 1) := op89 (bA_at bd03_dec_X11_0_33 11 rfl rfl)
theorem bd03_dec_X11_0_34 : ([(0, [180, 0, 117]), (3, [4]), (4, [96]), (5, [181, 0, 117]), (8, [132, 2, 1]), (11, [167, 255, 198]), (14, [42]), (15, [28]), (16, [5]), (17, [164, 0, 7]), (20, [4]), (21, [167, 0, 4])] : List (Nat × List UInt8)).all (fun x => prB x.2 ((cX11_token.data.toList.drop 210).drop x.1)) = true := by decide +kernel
theorem dX11_token_210 : decode cX11_token 210 = .ok (.getfield 117, 3) := op180 (bA_at bd03_dec_X11_0_34 0 rfl rfl) rfl
theorem dX11_token_213 : decode cX11_token 213 = .ok (.iconst 1, 1) := op4 (bA_at bd03_dec_X11_0_34 1 rfl rfl)
theorem dX11_token_214 : decode cX11_token 214 = .ok (.iadd, 1) := op96 (bA_at bd03_dec_X11_0_34 2 rfl rfl)
theorem dX11_token_215 : decode cX11_token 215 = .ok (.putfield 117, 3) := op181 (bA_at bd03_dec_X11_0_34 3 rfl rfl) rfl
theorem dX11_token_218 : decode cX11_token 218 = .ok (.iinc 2 1, 3) := op132 (bA_at bd03_dec_X11_0_34 4 rfl rfl) rfl (by decide +kernel)
theorem dX11_token_221 : decode cX11_token 221 = .ok (.goto (-58), 3) := op167 (bA_at bd03_dec_X11_0_34 5 rfl rfl) (by decide +kernel)
theorem dX11_token_224 : decode cX11_token 224 = .ok (.aload_n 0, 1) := op42 (bA_at bd03_dec_X11_0_34 6 rfl rfl)
theorem dX11_token_225 : decode cX11_token 225 = .ok (.iload_n 2, 1) := op28 (bA_at bd03_dec_X11_0_34 7 rfl rfl)
theorem dX11_token_226 : decode cX11_token 226 = .ok (.iconst 2, 1) := op5 (bA_at bd03_dec_X11_0_34 8 rfl rfl)
theorem dX11_token_227 : decode cX11_token 227 = .ok (.if_icmp .le 7, 3) := op164 (bA_at bd03_dec_X11_0_34 9 rfl rfl) (by decide +kernel)
theorem dX11_token_230 : decode cX11_token 230 = .ok (.iconst 1, 1) := op4 (bA_at bd03_dec_X11_0_34 10 rfl rfl)
theorem dX11_token_231 : decode cX11_token 231 = .ok (.goto 4, 3) := op167 (bA_at bd03_dec_X11_0_34 11 rfl rfl) (by decide +kernel)
theorem bd03_dec_X11_0_35 : ([(0, [6]), (1, [181, 0, 134]), (4, [167, 0, 28]), (7, [42]), (8, [89]), (9, [180, 0, 117]), (12, [4]), (13, [96]), (14, [181, 0, 117]), (17, [42]), (18, [27]), (19, [16, 59])] : List (Nat × List UInt8)).all (fun x => prB x.2 ((cX11_token.data.toList.drop 234).drop x.1)) = true := by decide +kernel
theorem dX11_token_234 : decode cX11_token 234 = .ok (.iconst 3, 1) := op6 (bA_at bd03_dec_X11_0_35 0 rfl rfl)
theorem dX11_token_235 : decode cX11_token 235 = .ok (.putfield 134, 3) := op181 (bA_at bd03_dec_X11_0_35 1 rfl rfl) rfl
theorem dX11_token_238 : decode cX11_token 238 = .ok (.goto 28, 3) := op167 (bA_at bd03_dec_X11_0_35 2 rfl rfl) (by decide +kernel)
theorem dX11_token_241 : decode cX11_token 241 = .ok (.aload_n 0, 1) := op42 (bA_at bd03_dec_X11_0_35 3 rfl rfl)
theorem dX11_token_242 : decode cX11_token 242 = .ok (.dup, 1) := op89 (bA_at bd03_dec_X11_0_35 4 rfl rfl)
theorem dX11_token_243 : decode cX11_token 243 = .ok (.getfield 117, 3) := op180 (bA_at bd03_dec_X11_0_35 5 rfl rfl) rfl
theorem dX11_token_246 : decode cX11_token 246 = .ok (.iconst 1, 1) := op4 (bA_at bd03_dec_X11_0_35 6 rfl rfl)
theorem dX11_token_247 : decode cX11_token 247 = .ok (.iadd, 1) := op96 (bA_at bd03_dec_X11_0_35 7 rfl rfl)
theorem dX11_token_248 : decode cX11_token 248 = .ok (.putfield 117, 3) := op181 (bA_at bd03_dec_X11_0_35 8 rfl rfl) rfl
theorem dX11_token_251 : decode cX11_token 251 = .ok (.aload_n 0, 1) := op42 (bA_at bd03_dec_X11_0_35 9 rfl rfl)
theorem dX11_token_252 : decode cX11_token 252 = .ok (.iload_n 1, 1) := op27 (bA_at bd03_dec_X11_0_35 10 rfl rfl)
theorem dX11_token_253 : decode cX11_token 253 = .ok (.bipush 59, 2) := op16 (bA_at bd03_dec_X11_0_35 11 rfl rfl) (by decide +kernel)
theorem bd03_dec_X11_0_36 : ([(0, [160, 0, 7]), (3, [7]), (4, [167, 0, 4]), (7, [4]), (8, [181, 0, 134]), (11, [177])] : List (Nat × List UInt8)).all (fun x => prB x.2 ((cX11_token.data.toList.drop 255).drop x.1)) = true := by decide +kernel
theorem dX11_token_255 : decode cX11_token 255 = .ok (.if_icmp .ne 7, 3) := op160 (bA_at bd03_dec_X11_0_36 0 rfl rfl) (by decide +kernel)
theorem dX11_token_258 : decode cX11_token 258 = .ok (.iconst 4, 1) := op7 (bA_at bd03_dec_X11_0_36 1 rfl rfl)
theorem dX11_token_259 : decode cX11_token 259 = .ok (.goto 4, 3) := op167 (bA_at bd03_dec_X11_0_36 2 rfl rfl) (by decide +kernel)
theorem dX11_token_262 : decode cX11_token 262 = .ok (.iconst 1, 1) := op4 (bA_at bd03_dec_X11_0_36 3 rfl rfl)
theorem dX11_token_263 : decode cX11_token 263 = .ok (.putfield 134, 3) := op181 (bA_at bd03_dec_X11_0_36 4 rfl rfl) rfl
theorem dX11_token_266 : decode cX11_token 266 = .ok (.return_, 1) := op177 (bA_at bd03_dec_X11_0_36 5 rfl rfl)
theorem bd03_dec_X11_0_37 : ([(0, [42]), (1, [42]), (2, [180, 0, 127]), (5, [181, 0, 140]), (8, [3]), (9, [172])] : List (Nat × List UInt8)).all (fun x => prB x.2 ((cX11_fails.data.toList.drop 0).drop x.1)) = true := by decide +kernel
theorem dX11_fails_0 : decode cX11_fails 0 = .ok (.aload_n 0, 1) := op42 (bA_at bd03_dec_X11_0_37 0 rfl rfl)
theorem dX11_fails_1 : decode cX11_fails 1 = .ok (.aload_n 0, 1) := op42 (bA_at bd03_dec_X11_0_37 1 rfl rfl)
theorem dX11_fails_2 : decode cX11_fails 2 = .ok (.getfield 127, 3) := op180 (bA_at bd03_dec_X11_0_37 2 rfl rfl) rfl
theorem dX11_fails_5 : decode cX11_fails 5 = .ok (.putfield 140, 3) := op181 (bA_at bd03_dec_X11_0_37 3 rfl rfl) rfl
theorem dX11_fails_8 : decode cX11_fails 8 = .ok (.iconst 0, 1) := op3 (bA_at bd03_dec_X11_0_37 4 rfl rfl)
theorem dX11_fails_9 : decode cX11_fails 9 = .ok (.ireturn, 1) := op172 (bA_at bd03_dec_X11_0_37 5 rfl rfl)
theorem bd03_dec_X11_0_38 : ([(0, [42]), (1, [180, 0, 143]), (4, [153, 0, 27]), (7, [28]), (8, [42]), (9, [180, 0, 146]), (12, [161, 0, 19]), (15, [28]), (16, [42]), (17, [180, 0, 146]), (20, [160, 0, 21]), (23, [27])] : List (Nat × List UInt8)).all (fun x => prB x.2 ((cX11_later.data.toList.drop 0).drop x.1)) = true := by decide +kernel
theorem dX11_later_0 : decode cX11_later 0 = .ok (.aload_n 0, 1) := op42 (bA_at bd03_dec_X11_0_38 0 rfl rfl)
theorem dX11_later_1 : decode cX11_later 1 = .ok (.getfield 143, 3) := op180 (bA_at bd03_dec_X11_0_38 1 rfl rfl) rfl
theorem dX11_later_4 : decode cX11_later 4 = .ok (.ifCond .eq 27, 3) := op153 (bA_at bd03_dec_X11_0_38 2 rfl rfl) (by decide +kernel)
theorem dX11_later_7 : decode cX11_later 7 = .ok (.iload_n 2, 1) := op28 (bA_at bd03_dec_X11_0_38 3 rfl rfl)
theorem dX11_later_8 : decode cX11_later 8 = .ok (.aload_n 0, 1) := op42 (bA_at bd03_dec_X11_0_38 4 rfl rfl)
theorem dX11_later_9 : decode cX11_later 9 = .ok (.getfield 146, 3) := op180 (bA_at bd03_dec_X11_0_38 5 rfl rfl) rfl
theorem dX11_later_12 : decode cX11_later 12 = .ok (.if_icmp .lt 19, 3) := op161 (bA_at bd03_dec_X11_0_38 6 rfl rfl) (by decide +kernel)
theorem dX11_later_15 : decode cX11_later 15 = .ok (.iload_n 2, 1) := op28 (bA_at bd03_dec_X11_0_38 7 rfl rfl)
theorem dX11_later_16 : decode cX11_later 16 = .ok (.aload_n 0, 1) := op42 (bA_at bd03_dec_X11_0_38 8 rfl rfl)
theorem dX11_later_17 : decode cX11_later 17 = .ok (.getfield 146, 3) := op180 (bA_at bd03_dec_X11_0_38 9 rfl rfl) rfl
theorem dX11_later_20 : decode cX11_later 20 = .ok (.if_icmp .ne 21, 3) := op160 (bA_at bd03_dec_X11_0_38 10 rfl rfl) (by decide +kernel)
theorem dX11_later_23 : decode cX11_later 23 = .ok (.iload_n 1, 1) := op27 (bA_at bd03_dec_X11_0_38 11 rfl rfl)
theorem bd03_dec_X11_0_39 : ([(0, [42]), (1, [180, 0, 143]), (4, [162, 0, 13]), (7, [42]), (8, [27]), (9, [181, 0, 143]), (12, [42]), (13, [28]), (14, [181, 0, 146]), (17, [177])] : List (Nat × List UInt8)).all (fun x => prB x.2 ((cX11_later.data.toList.drop 24).drop x.1)) = true := by decide +kernel
theorem dX11_later_24 : decode cX11_later 24 = .ok (.aload_n 0, 1) := op42 (bA_at bd03_dec_X11_0_39 0 rfl rfl)
theorem dX11_later_25 : decode cX11_later 25 = .ok (.getfield 143, 3) := op180 (bA_at bd03_dec_X11_0_39 1 rfl rfl) rfl
theorem dX11_later_28 : decode cX11_later 28 = .ok (.if_icmp .ge 13, 3) := op162 (bA_at bd03_dec_X11_0_39 2 rfl rfl) (by decide +kernel)
theorem dX11_later_31 : decode cX11_later 31 = .ok (.aload_n 0, 1) := op42 (bA_at bd03_dec_X11_0_39 3 rfl rfl)
theorem dX11_later_32 : decode cX11_later 32 = .ok (.iload_n 1, 1) := op27 (bA_at bd03_dec_X11_0_39 4 rfl rfl)
theorem dX11_later_33 : decode cX11_later 33 = .ok (.putfield 143, 3) := op181 (bA_at bd03_dec_X11_0_39 5 rfl rfl) rfl
theorem dX11_later_36 : decode cX11_later 36 = .ok (.aload_n 0, 1) := op42 (bA_at bd03_dec_X11_0_39 6 rfl rfl)
theorem dX11_later_37 : decode cX11_later 37 = .ok (.iload_n 2, 1) := op28 (bA_at bd03_dec_X11_0_39 7 rfl rfl)
theorem dX11_later_38 : decode cX11_later 38 = .ok (.putfield 146, 3) := op181 (bA_at bd03_dec_X11_0_39 8 rfl rfl) rfl
theorem dX11_later_41 : decode cX11_later 41 = .ok (.return_, 1) := op177 (bA_at bd03_dec_X11_0_39 9 rfl rfl)
theorem bd03_dec_X11_0_40 : ([(0, [42]), (1, [180, 0, 134]), (4, [6]), (5, [159, 0, 8]), (8, [42]), (9, [182, 0, 149]), (12, [172]), (13, [42]), (14, [180, 0, 41]), (17, [27]), (18, [42]), (19, [180, 0, 137])] : List (Nat × List UInt8)).all (fun x => prB x.2 ((cX11_takeBut.data.toList.drop 0).drop x.1)) = true := by decide +kernel
theorem dX11_takeBut_0 : decode cX11_takeBut 0 = .ok (.aload_n 0, 1) := op42 (bA_at bd03_dec_X11_0_40 0 rfl rfl)
theorem dX11_takeBut_1 : decode cX11_takeBut 1 = .ok (.getfield 134, 3) := op180 (bA_at bd03_dec_X11_0_40 1 rfl rfl) rfl
theorem dX11_takeBut_4 : decode cX11_takeBut 4 = .ok (.iconst 3, 1) := op6 (bA_at bd03_dec_X11_0_40 2 rfl rfl)
theorem dX11_takeBut_5 : decode cX11_takeBut 5 = .ok (.if_icmp .eq 8, 3) := op159 (bA_at bd03_dec_X11_0_40 3 rfl rfl) (by decide +kernel)
theorem dX11_takeBut_8 : decode cX11_takeBut 8 = .ok (.aload_n 0, 1) := op42 (bA_at bd03_dec_X11_0_40 4 rfl rfl)
theorem dX11_takeBut_9 : decode cX11_takeBut 9 = .ok (.invokevirtual 149, 3) := op182 (bA_at bd03_dec_X11_0_40 5 rfl rfl) rfl
theorem dX11_takeBut_12 : decode cX11_takeBut 12 = .ok (.ireturn, 1) := op172 (bA_at bd03_dec_X11_0_40 6 rfl rfl)
theorem dX11_takeBut_13 : decode cX11_takeBut 13 = .ok (.aload_n 0, 1) := op42 (bA_at bd03_dec_X11_0_40 7 rfl rfl)
theorem dX11_takeBut_14 : decode cX11_takeBut 14 = .ok (.getfield 41, 3) := op180 (bA_at bd03_dec_X11_0_40 8 rfl rfl) rfl
theorem dX11_takeBut_17 : decode cX11_takeBut 17 = .ok (.iload_n 1, 1) := op27 (bA_at bd03_dec_X11_0_40 9 rfl rfl)
theorem dX11_takeBut_18 : decode cX11_takeBut 18 = .ok (.aload_n 0, 1) := op42 (bA_at bd03_dec_X11_0_40 10 rfl rfl)
theorem dX11_takeBut_19 : decode cX11_takeBut 19 = .ok (.getfield 137, 3) := op180 (bA_at bd03_dec_X11_0_40 11 rfl rfl) rfl
theorem bd03_dec_X11_0_41 : ([(0, [79]), (1, [42]), (2, [180, 0, 137]), (5, [28]), (6, [29]), (7, [184, 0, 109]), (10, [153, 0, 12]), (13, [42]), (14, [180, 0, 137]), (17, [21, 4]), (19, [160, 0, 17]), (22, [42])] : List (Nat × List UInt8)).all (fun x => prB x.2 ((cX11_takeBut.data.toList.drop 22).drop x.1)) = true := by decide +kernel
theorem dX11_takeBut_22 : decode cX11_takeBut 22 = .ok (.iastore, 1) := op79 (bA_at bd03_dec_X11_0_41 0 rfl rfl)
theorem dX11_takeBut_23 : decode cX11_takeBut 23 = .ok (.aload_n 0, 1) := op42 (bA_at bd03_dec_X11_0_41 1 rfl rfl)
theorem dX11_takeBut_24 : decode cX11_takeBut 24 = .ok (.getfield 137, 3) := op180 (bA_at bd03_dec_X11_0_41 2 rfl rfl) rfl
theorem dX11_takeBut_27 : decode cX11_takeBut 27 = .ok (.iload_n 2, 1) := op28 (bA_at bd03_dec_X11_0_41 3 rfl rfl)
theorem dX11_takeBut_28 : decode cX11_takeBut 28 = .ok (.iload_n 3, 1) := op29 (bA_at bd03_dec_X11_0_41 4 rfl rfl)
theorem dX11_takeBut_29 : decode cX11_takeBut 29 = .ok (.invokestatic 109, 3) := op184 (bA_at bd03_dec_X11_0_41 5 rfl rfl) rfl
theorem dX11_takeBut_32 : decode cX11_takeBut 32 = .ok (.ifCond .eq 12, 3) := op153 (bA_at bd03_dec_X11_0_41 6 rfl rfl) (by decide +kernel)
theorem dX11_takeBut_35 : decode cX11_takeBut 35 = .ok (.aload_n 0, 1) := op42 (bA_at bd03_dec_X11_0_41 7 rfl rfl)
theorem dX11_takeBut_36 : decode cX11_takeBut 36 = .ok (.getfield 137, 3) := op180 (bA_at bd03_dec_X11_0_41 8 rfl rfl) rfl
theorem dX11_takeBut_39 : decode cX11_takeBut 39 = .ok (.iload 4, 2) := op21 (bA_at bd03_dec_X11_0_41 9 rfl rfl) rfl
theorem dX11_takeBut_41 : decode cX11_takeBut 41 = .ok (.if_icmp .ne 17, 3) := op160 (bA_at bd03_dec_X11_0_41 10 rfl rfl) (by decide +kernel)
theorem dX11_takeBut_44 : decode cX11_takeBut 44 = .ok (.aload_n 0, 1) := op42 (bA_at bd03_dec_X11_0_41 11 rfl rfl)
theorem bd03_dec_X11_0_42 : ([(0, [5]), (1, [42]), (2, [180, 0, 127]), (5, [182, 0, 153]), (8, [42]), (9, [3]), (10, [181, 0, 157]), (13, [42]), (14, [182, 0, 161]), (17, [4]), (18, [172])] : List (Nat × List UInt8)).all (fun x => prB x.2 ((cX11_takeBut.data.toList.drop 45).drop x.1)) = true := by decide +kernel
theorem dX11_takeBut_45 : decode cX11_takeBut 45 = .ok (.iconst 2, 1) := op5 (bA_at bd03_dec_X11_0_42 0 rfl rfl)
theorem dX11_takeBut_46 : decode cX11_takeBut 46 = .ok (.aload_n 0, 1) := op42 (bA_at bd03_dec_X11_0_42 1 rfl rfl)
theorem dX11_takeBut_47 : decode cX11_takeBut 47 = .ok (.getfield 127, 3) := op180 (bA_at bd03_dec_X11_0_42 2 rfl rfl) rfl
theorem dX11_takeBut_50 : decode cX11_takeBut 50 = .ok (.invokevirtual 153, 3) := op182 (bA_at bd03_dec_X11_0_42 3 rfl rfl) rfl
theorem dX11_takeBut_53 : decode cX11_takeBut 53 = .ok (.aload_n 0, 1) := op42 (bA_at bd03_dec_X11_0_42 4 rfl rfl)
theorem dX11_takeBut_54 : decode cX11_takeBut 54 = .ok (.iconst 0, 1) := op3 (bA_at bd03_dec_X11_0_42 5 rfl rfl)
theorem dX11_takeBut_55 : decode cX11_takeBut 55 = .ok (.putfield 157, 3) := op181 (bA_at bd03_dec_X11_0_42 6 rfl rfl) rfl
theorem dX11_takeBut_58 : decode cX11_takeBut 58 = .ok (.aload_n 0, 1) := op42 (bA_at bd03_dec_X11_0_42 7 rfl rfl)
theorem dX11_takeBut_59 : decode cX11_takeBut 59 = .ok (.invokevirtual 161, 3) := op182 (bA_at bd03_dec_X11_0_42 8 rfl rfl) rfl
theorem dX11_takeBut_62 : decode cX11_takeBut 62 = .ok (.iconst 1, 1) := op4 (bA_at bd03_dec_X11_0_42 9 rfl rfl)
theorem dX11_takeBut_63 : decode cX11_takeBut 63 = .ok (.ireturn, 1) := op172 (bA_at bd03_dec_X11_0_42 10 rfl rfl)
theorem bd03_dec_X11_0_43 : ([(0, [42]), (1, [27]), (2, [28]), (3, [29]), (4, [2]), (5, [182, 0, 164]), (8, [172])] : List (Nat × List UInt8)).all (fun x => prB x.2 ((cX11_take.data.toList.drop 0).drop x.1)) = true := by decide +kernel
theorem dX11_take_0 : decode cX11_take 0 = .ok (.aload_n 0, 1) := op42 (bA_at bd03_dec_X11_0_43 0 rfl rfl)
theorem dX11_take_1 : decode cX11_take 1 = .ok (.iload_n 1, 1) := op27 (bA_at bd03_dec_X11_0_43 1 rfl rfl)
theorem dX11_take_2 : decode cX11_take 2 = .ok (.iload_n 2, 1) := op28 (bA_at bd03_dec_X11_0_43 2 rfl rfl)
theorem dX11_take_3 : decode cX11_take 3 = .ok (.iload_n 3, 1) := op29 (bA_at bd03_dec_X11_0_43 3 rfl rfl)
theorem dX11_take_4 : decode cX11_take 4 = .ok (.iconst (-1), 1) := op2 (bA_at bd03_dec_X11_0_43 4 rfl rfl)
theorem dX11_take_5 : decode cX11_take 5 = .ok (.invokevirtual 164, 3) := op182 (bA_at bd03_dec_X11_0_43 5 rfl rfl) rfl
theorem dX11_take_8 : decode cX11_take 8 = .ok (.ireturn, 1) := op172 (bA_at bd03_dec_X11_0_43 6 rfl rfl)
theorem bd03_dec_X11_0_44 : ([(0, [42]), (1, [27]), (2, [3]), (3, [16, 8]), (5, [28]), (6, [182, 0, 164]), (9, [154, 0, 5]), (12, [3]), (13, [172]), (14, [42]), (15, [42]), (16, [180, 0, 168])] : List (Nat × List UInt8)).all (fun x => prB x.2 ((cX11_takeHut.data.toList.drop 0).drop x.1)) = true := by decide +kernel
theorem dX11_takeHut_0 : decode cX11_takeHut 0 = .ok (.aload_n 0, 1) := op42 (bA_at bd03_dec_X11_0_44 0 rfl rfl)
theorem dX11_takeHut_1 : decode cX11_takeHut 1 = .ok (.iload_n 1, 1) := op27 (bA_at bd03_dec_X11_0_44 1 rfl rfl)
theorem dX11_takeHut_2 : decode cX11_takeHut 2 = .ok (.iconst 0, 1) := op3 (bA_at bd03_dec_X11_0_44 2 rfl rfl)
theorem dX11_takeHut_3 : decode cX11_takeHut 3 = .ok (.bipush 8, 2) := op16 (bA_at bd03_dec_X11_0_44 3 rfl rfl) (by decide +kernel)
theorem dX11_takeHut_5 : decode cX11_takeHut 5 = .ok (.iload_n 2, 1) := op28 (bA_at bd03_dec_X11_0_44 4 rfl rfl)
theorem dX11_takeHut_6 : decode cX11_takeHut 6 = .ok (.invokevirtual 164, 3) := op182 (bA_at bd03_dec_X11_0_44 5 rfl rfl) rfl
theorem dX11_takeHut_9 : decode cX11_takeHut 9 = .ok (.ifCond .ne 5, 3) := op154 (bA_at bd03_dec_X11_0_44 6 rfl rfl) (by decide +kernel)
theorem dX11_takeHut_12 : decode cX11_takeHut 12 = .ok (.iconst 0, 1) := op3 (bA_at bd03_dec_X11_0_44 7 rfl rfl)
theorem dX11_takeHut_13 : decode cX11_takeHut 13 = .ok (.ireturn, 1) := op172 (bA_at bd03_dec_X11_0_44 8 rfl rfl)
theorem dX11_takeHut_14 : decode cX11_takeHut 14 = .ok (.aload_n 0, 1) := op42 (bA_at bd03_dec_X11_0_44 9 rfl rfl)
theorem dX11_takeHut_15 : decode cX11_takeHut 15 = .ok (.aload_n 0, 1) := op42 (bA_at bd03_dec_X11_0_44 10 rfl rfl)
theorem dX11_takeHut_16 : decode cX11_takeHut 16 = .ok (.getfield 168, 3) := op180 (bA_at bd03_dec_X11_0_44 11 rfl rfl) rfl
theorem bd03_dec_X11_0_45 : ([(0, [42]), (1, [180, 0, 41]), (4, [27]), (5, [46]), (6, [184, 0, 171]), (9, [181, 0, 168]), (12, [4]), (13, [172])] : List (Nat × List UInt8)).all (fun x => prB x.2 ((cX11_takeHut.data.toList.drop 19).drop x.1)) = true := by decide +kernel
theorem dX11_takeHut_19 : decode cX11_takeHut 19 = .ok (.aload_n 0, 1) := op42 (bA_at bd03_dec_X11_0_45 0 rfl rfl)
theorem dX11_takeHut_20 : decode cX11_takeHut 20 = .ok (.getfield 41, 3) := op180 (bA_at bd03_dec_X11_0_45 1 rfl rfl) rfl
theorem dX11_takeHut_23 : decode cX11_takeHut 23 = .ok (.iload_n 1, 1) := op27 (bA_at bd03_dec_X11_0_45 2 rfl rfl)
theorem dX11_takeHut_24 : decode cX11_takeHut 24 = .ok (.iaload, 1) := op46 (bA_at bd03_dec_X11_0_45 3 rfl rfl)
theorem dX11_takeHut_25 : decode cX11_takeHut 25 = .ok (.invokestatic 171, 3) := op184 (bA_at bd03_dec_X11_0_45 4 rfl rfl) rfl
theorem dX11_takeHut_28 : decode cX11_takeHut 28 = .ok (.putfield 168, 3) := op181 (bA_at bd03_dec_X11_0_45 5 rfl rfl) rfl
theorem dX11_takeHut_31 : decode cX11_takeHut 31 = .ok (.iconst 1, 1) := op4 (bA_at bd03_dec_X11_0_45 6 rfl rfl)
theorem dX11_takeHut_32 : decode cX11_takeHut 32 = .ok (.ireturn, 1) := op172 (bA_at bd03_dec_X11_0_45 7 rfl rfl)
theorem bd03_dec_X11_0_46 : ([(0, [42]), (1, [180, 0, 38]), (4, [27]), (5, [46]), (6, [28]), (7, [160, 0, 9]), (10, [42]), (11, [6]), (12, [29]), (13, [182, 0, 153]), (16, [177])] : List (Nat × List UInt8)).all (fun x => prB x.2 ((cX11_full.data.toList.drop 0).drop x.1)) = true := by decide +kernel
theorem dX11_full_0 : decode cX11_full 0 = .ok (.aload_n 0, 1) := op42 (bA_at bd03_dec_X11_0_46 0 rfl rfl)
theorem dX11_full_1 : decode cX11_full 1 = .ok (.getfield 38, 3) := op180 (bA_at bd03_dec_X11_0_46 1 rfl rfl) rfl
theorem dX11_full_4 : decode cX11_full 4 = .ok (.iload_n 1, 1) := op27 (bA_at bd03_dec_X11_0_46 2 rfl rfl)
theorem dX11_full_5 : decode cX11_full 5 = .ok (.iaload, 1) := op46 (bA_at bd03_dec_X11_0_46 3 rfl rfl)
theorem dX11_full_6 : decode cX11_full 6 = .ok (.iload_n 2, 1) := op28 (bA_at bd03_dec_X11_0_46 4 rfl rfl)
theorem dX11_full_7 : decode cX11_full 7 = .ok (.if_icmp .ne 9, 3) := op160 (bA_at bd03_dec_X11_0_46 5 rfl rfl) (by decide +kernel)
theorem dX11_full_10 : decode cX11_full 10 = .ok (.aload_n 0, 1) := op42 (bA_at bd03_dec_X11_0_46 6 rfl rfl)
theorem dX11_full_11 : decode cX11_full 11 = .ok (.iconst 3, 1) := op6 (bA_at bd03_dec_X11_0_46 7 rfl rfl)
theorem dX11_full_12 : decode cX11_full 12 = .ok (.iload_n 3, 1) := op29 (bA_at bd03_dec_X11_0_46 8 rfl rfl)
theorem dX11_full_13 : decode cX11_full 13 = .ok (.invokevirtual 153, 3) := op182 (bA_at bd03_dec_X11_0_46 9 rfl rfl) rfl
theorem dX11_full_16 : decode cX11_full 16 = .ok (.return_, 1) := op177 (bA_at bd03_dec_X11_0_46 10 rfl rfl)
theorem bd03_dec_X11_0_47 : ([(0, [42]), (1, [180, 0, 38]), (4, [27]), (5, [46]), (6, [62]), (7, [29]), (8, [28]), (9, [160, 0, 5]), (12, [2]), (13, [172]), (14, [42]), (15, [180, 0, 38])] : List (Nat × List UInt8)).all (fun x => prB x.2 ((cX11_further.data.toList.drop 0).drop x.1)) = true := by decide +kernel
theorem dX11_further_0 : decode cX11_further 0 = .ok (.aload_n 0, 1) := op42 (bA_at bd03_dec_X11_0_47 0 rfl rfl)
theorem dX11_further_1 : decode cX11_further 1 = .ok (.getfield 38, 3) := op180 (bA_at bd03_dec_X11_0_47 1 rfl rfl) rfl
theorem dX11_further_4 : decode cX11_further 4 = .ok (.iload_n 1, 1) := op27 (bA_at bd03_dec_X11_0_47 2 rfl rfl)
theorem dX11_further_5 : decode cX11_further 5 = .ok (.iaload, 1) := op46 (bA_at bd03_dec_X11_0_47 3 rfl rfl)
theorem dX11_further_6 : decode cX11_further 6 = .ok (.istore_n 3, 1) := op62 (bA_at bd03_dec_X11_0_47 4 rfl rfl)
theorem dX11_further_7 : decode cX11_further 7 = .ok (.iload_n 3, 1) := op29 (bA_at bd03_dec_X11_0_47 5 rfl rfl)
theorem dX11_further_8 : decode cX11_further 8 = .ok (.iload_n 2, 1) := op28 (bA_at bd03_dec_X11_0_47 6 rfl rfl)
theorem dX11_further_9 : decode cX11_further 9 = .ok (.if_icmp .ne 5, 3) := op160 (bA_at bd03_dec_X11_0_47 7 rfl rfl) (by decide +kernel)
theorem dX11_further_12 : decode cX11_further 12 = .ok (.iconst (-1), 1) := op2 (bA_at bd03_dec_X11_0_47 8 rfl rfl)
theorem dX11_further_13 : decode cX11_further 13 = .ok (.ireturn, 1) := op172 (bA_at bd03_dec_X11_0_47 9 rfl rfl)
theorem dX11_further_14 : decode cX11_further 14 = .ok (.aload_n 0, 1) := op42 (bA_at bd03_dec_X11_0_47 10 rfl rfl)
theorem dX11_further_15 : decode cX11_further 15 = .ok (.getfield 38, 3) := op180 (bA_at bd03_dec_X11_0_47 11 rfl rfl) rfl
theorem bd03_dec_X11_0_48 : ([(0, [27]), (1, [92]), (2, [46]), (3, [4]), (4, [96]), (5, [79]), (6, [29]), (7, [172])] : List (Nat × List UInt8)).all (fun x => prB x.2 ((cX11_further.data.toList.drop 18).drop x.1)) = true := by decide +kernel
theorem dX11_further_18 : decode cX11_further 18 = .ok (.iload_n 1, 1) := op27 (bA_at bd03_dec_X11_0_48 0 rfl rfl)
theorem dX11_further_19 : decode cX11_further 19 = .ok (.dup2, 1) := op92 (bA_at bd03_dec_X11_0_48 1 rfl rfl)
theorem dX11_further_20 : decode cX11_further 20 = .ok (.iaload, 1) := op46 (bA_at bd03_dec_X11_0_48 2 rfl rfl)
theorem dX11_further_21 : decode cX11_further 21 = .ok (.iconst 1, 1) := op4 (bA_at bd03_dec_X11_0_48 3 rfl rfl)
theorem dX11_further_22 : decode cX11_further 22 = .ok (.iadd, 1) := op96 (bA_at bd03_dec_X11_0_48 4 rfl rfl)
theorem dX11_further_23 : decode cX11_further 23 = .ok (.iastore, 1) := op79 (bA_at bd03_dec_X11_0_48 5 rfl rfl)
theorem dX11_further_24 : decode cX11_further 24 = .ok (.iload_n 3, 1) := op29 (bA_at bd03_dec_X11_0_48 6 rfl rfl)
theorem dX11_further_25 : decode cX11_further 25 = .ok (.ireturn, 1) := op172 (bA_at bd03_dec_X11_0_48 7 rfl rfl)
theorem bd03_dec_X11_0_49 : ([(0, [42]), (1, [3]), (2, [2]), (3, [182, 0, 175]), (6, [154, 0, 5]), (9, [3]), (10, [172]), (11, [42]), (12, [180, 0, 38]), (15, [27]), (16, [92]), (17, [46])] : List (Nat × List UInt8)).all (fun x => prB x.2 ((cX11_bitLine.data.toList.drop 0).drop x.1)) = true := by decide +kernel
theorem dX11_bitLine_0 : decode cX11_bitLine 0 = .ok (.aload_n 0, 1) := op42 (bA_at bd03_dec_X11_0_49 0 rfl rfl)
theorem dX11_bitLine_1 : decode cX11_bitLine 1 = .ok (.iconst 0, 1) := op3 (bA_at bd03_dec_X11_0_49 1 rfl rfl)
theorem dX11_bitLine_2 : decode cX11_bitLine 2 = .ok (.iconst (-1), 1) := op2 (bA_at bd03_dec_X11_0_49 2 rfl rfl)
theorem dX11_bitLine_3 : decode cX11_bitLine 3 = .ok (.invokevirtual 175, 3) := op182 (bA_at bd03_dec_X11_0_49 3 rfl rfl) rfl
theorem dX11_bitLine_6 : decode cX11_bitLine 6 = .ok (.ifCond .ne 5, 3) := op154 (bA_at bd03_dec_X11_0_49 4 rfl rfl) (by decide +kernel)
theorem dX11_bitLine_9 : decode cX11_bitLine 9 = .ok (.iconst 0, 1) := op3 (bA_at bd03_dec_X11_0_49 5 rfl rfl)
theorem dX11_bitLine_10 : decode cX11_bitLine 10 = .ok (.ireturn, 1) := op172 (bA_at bd03_dec_X11_0_49 6 rfl rfl)
theorem dX11_bitLine_11 : decode cX11_bitLine 11 = .ok (.aload_n 0, 1) := op42 (bA_at bd03_dec_X11_0_49 7 rfl rfl)
theorem dX11_bitLine_12 : decode cX11_bitLine 12 = .ok (.getfield 38, 3) := op180 (bA_at bd03_dec_X11_0_49 8 rfl rfl) rfl
theorem dX11_bitLine_15 : decode cX11_bitLine 15 = .ok (.iload_n 1, 1) := op27 (bA_at bd03_dec_X11_0_49 9 rfl rfl)
theorem dX11_bitLine_16 : decode cX11_bitLine 16 = .ok (.dup2, 1) := op92 (bA_at bd03_dec_X11_0_49 10 rfl rfl)
theorem dX11_bitLine_17 : decode cX11_bitLine 17 = .ok (.iaload, 1) := op46 (bA_at bd03_dec_X11_0_49 11 rfl rfl)
theorem bd03_dec_X11_0_50 : ([(0, [42]), (1, [180, 0, 157]), (4, [153, 0, 14]), (7, [4]), (8, [42]), (9, [180, 0, 41]), (12, [3]), (13, [46]), (14, [120]), (15, [167, 0, 4]), (18, [3]), (19, [128])] : List (Nat × List UInt8)).all (fun x => prB x.2 ((cX11_bitLine.data.toList.drop 18).drop x.1)) = true := by decide +kernel
theorem dX11_bitLine_18 : decode cX11_bitLine 18 = .ok (.aload_n 0, 1) := op42 (bA_at bd03_dec_X11_0_50 0 rfl rfl)
theorem dX11_bitLine_19 : decode cX11_bitLine 19 = .ok (.getfield 157, 3) := op180 (bA_at bd03_dec_X11_0_50 1 rfl rfl) rfl
theorem dX11_bitLine_22 : decode cX11_bitLine 22 = .ok (.ifCond .eq 14, 3) := op153 (bA_at bd03_dec_X11_0_50 2 rfl rfl) (by decide +kernel)
theorem dX11_bitLine_25 : decode cX11_bitLine 25 = .ok (.iconst 1, 1) := op4 (bA_at bd03_dec_X11_0_50 3 rfl rfl)
theorem dX11_bitLine_26 : decode cX11_bitLine 26 = .ok (.aload_n 0, 1) := op42 (bA_at bd03_dec_X11_0_50 4 rfl rfl)
theorem dX11_bitLine_27 : decode cX11_bitLine 27 = .ok (.getfield 41, 3) := op180 (bA_at bd03_dec_X11_0_50 5 rfl rfl) rfl
theorem dX11_bitLine_30 : decode cX11_bitLine 30 = .ok (.iconst 0, 1) := op3 (bA_at bd03_dec_X11_0_50 6 rfl rfl)
theorem dX11_bitLine_31 : decode cX11_bitLine 31 = .ok (.iaload, 1) := op46 (bA_at bd03_dec_X11_0_50 7 rfl rfl)
theorem dX11_bitLine_32 : decode cX11_bitLine 32 = .ok (.ishl, 1) := op120 (bA_at bd03_dec_X11_0_50 8 rfl rfl)
theorem dX11_bitLine_33 : decode cX11_bitLine 33 = .ok (.goto 4, 3) := op167 (bA_at bd03_dec_X11_0_50 9 rfl rfl) (by decide +kernel)
theorem dX11_bitLine_36 : decode cX11_bitLine 36 = .ok (.iconst 0, 1) := op3 (bA_at bd03_dec_X11_0_50 10 rfl rfl)
theorem dX11_bitLine_37 : decode cX11_bitLine 37 = .ok (.ior, 1) := op128 (bA_at bd03_dec_X11_0_50 11 rfl rfl)
theorem bd03_dec_X11_0_51 : ([(0, [79]), (1, [4]), (2, [172])] : List (Nat × List UInt8)).all (fun x => prB x.2 ((cX11_bitLine.data.toList.drop 38).drop x.1)) = true := by decide +kernel
theorem dX11_bitLine_38 : decode cX11_bitLine 38 = .ok (.iastore, 1) := op79 (bA_at bd03_dec_X11_0_51 0 rfl rfl)
theorem dX11_bitLine_39 : decode cX11_bitLine 39 = .ok (.iconst 1, 1) := op4 (bA_at bd03_dec_X11_0_51 1 rfl rfl)
theorem dX11_bitLine_40 : decode cX11_bitLine 40 = .ok (.ireturn, 1) := op172 (bA_at bd03_dec_X11_0_51 2 rfl rfl)
theorem bd03_dec_X11_0_52 : ([(0, [42]), (1, [3]), (2, [28]), (3, [29]), (4, [182, 0, 178]), (7, [154, 0, 5]), (10, [3]), (11, [172]), (12, [42]), (13, [180, 0, 38]), (16, [27]), (17, [42])] : List (Nat × List UInt8)).all (fun x => prB x.2 ((cX11_plainLine.data.toList.drop 0).drop x.1)) = true := by decide +kernel
theorem dX11_plainLine_0 : decode cX11_plainLine 0 = .ok (.aload_n 0, 1) := op42 (bA_at bd03_dec_X11_0_52 0 rfl rfl)
theorem dX11_plainLine_1 : decode cX11_plainLine 1 = .ok (.iconst 0, 1) := op3 (bA_at bd03_dec_X11_0_52 1 rfl rfl)
theorem dX11_plainLine_2 : decode cX11_plainLine 2 = .ok (.iload_n 2, 1) := op28 (bA_at bd03_dec_X11_0_52 2 rfl rfl)
theorem dX11_plainLine_3 : decode cX11_plainLine 3 = .ok (.iload_n 3, 1) := op29 (bA_at bd03_dec_X11_0_52 3 rfl rfl)
theorem dX11_plainLine_4 : decode cX11_plainLine 4 = .ok (.invokevirtual 178, 3) := op182 (bA_at bd03_dec_X11_0_52 4 rfl rfl) rfl
theorem dX11_plainLine_7 : decode cX11_plainLine 7 = .ok (.ifCond .ne 5, 3) := op154 (bA_at bd03_dec_X11_0_52 5 rfl rfl) (by decide +kernel)
theorem dX11_plainLine_10 : decode cX11_plainLine 10 = .ok (.iconst 0, 1) := op3 (bA_at bd03_dec_X11_0_52 6 rfl rfl)
theorem dX11_plainLine_11 : decode cX11_plainLine 11 = .ok (.ireturn, 1) := op172 (bA_at bd03_dec_X11_0_52 7 rfl rfl)
theorem dX11_plainLine_12 : decode cX11_plainLine 12 = .ok (.aload_n 0, 1) := op42 (bA_at bd03_dec_X11_0_52 8 rfl rfl)
theorem dX11_plainLine_13 : decode cX11_plainLine 13 = .ok (.getfield 38, 3) := op180 (bA_at bd03_dec_X11_0_52 9 rfl rfl) rfl
theorem dX11_plainLine_16 : decode cX11_plainLine 16 = .ok (.iload_n 1, 1) := op27 (bA_at bd03_dec_X11_0_52 10 rfl rfl)
theorem dX11_plainLine_17 : decode cX11_plainLine 17 = .ok (.aload_n 0, 1) := op42 (bA_at bd03_dec_X11_0_52 11 rfl rfl)
theorem bd03_dec_X11_0_53 : ([(0, [180, 0, 41]), (3, [3]), (4, [46]), (5, [79]), (6, [4]), (7, [172])] : List (Nat × List UInt8)).all (fun x => prB x.2 ((cX11_plainLine.data.toList.drop 18).drop x.1)) = true := by decide +kernel
theorem dX11_plainLine_18 : decode cX11_plainLine 18 = .ok (.getfield 41, 3) := op180 (bA_at bd03_dec_X11_0_53 0 rfl rfl) rfl
theorem dX11_plainLine_21 : decode cX11_plainLine 21 = .ok (.iconst 0, 1) := op3 (bA_at bd03_dec_X11_0_53 1 rfl rfl)
theorem dX11_plainLine_22 : decode cX11_plainLine 22 = .ok (.iaload, 1) := op46 (bA_at bd03_dec_X11_0_53 2 rfl rfl)
theorem dX11_plainLine_23 : decode cX11_plainLine 23 = .ok (.iastore, 1) := op79 (bA_at bd03_dec_X11_0_53 3 rfl rfl)
theorem dX11_plainLine_24 : decode cX11_plainLine 24 = .ok (.iconst 1, 1) := op4 (bA_at bd03_dec_X11_0_53 4 rfl rfl)
theorem dX11_plainLine_25 : decode cX11_plainLine 25 = .ok (.ireturn, 1) := op172 (bA_at bd03_dec_X11_0_53 5 rfl rfl)
theorem bd03_dec_X11_0_54 : ([(0, [42]), (1, [3]), (2, [3]), (3, [16, 99]), (5, [182, 0, 178]), (8, [154, 0, 5]), (11, [3]), (12, [172]), (13, [42]), (14, [3]), (15, [16, 9]), (17, [182, 0, 181])] : List (Nat × List UInt8)).all (fun x => prB x.2 ((cX11_hutLine.data.toList.drop 0).drop x.1)) = true := by decide +kernel
theorem dX11_hutLine_0 : decode cX11_hutLine 0 = .ok (.aload_n 0, 1) := op42 (bA_at bd03_dec_X11_0_54 0 rfl rfl)
theorem dX11_hutLine_1 : decode cX11_hutLine 1 = .ok (.iconst 0, 1) := op3 (bA_at bd03_dec_X11_0_54 1 rfl rfl)
theorem dX11_hutLine_2 : decode cX11_hutLine 2 = .ok (.iconst 0, 1) := op3 (bA_at bd03_dec_X11_0_54 2 rfl rfl)
theorem dX11_hutLine_3 : decode cX11_hutLine 3 = .ok (.bipush 99, 2) := op16 (bA_at bd03_dec_X11_0_54 3 rfl rfl) (by decide +kernel)
theorem dX11_hutLine_5 : decode cX11_hutLine 5 = .ok (.invokevirtual 178, 3) := op182 (bA_at bd03_dec_X11_0_54 4 rfl rfl) rfl
theorem dX11_hutLine_8 : decode cX11_hutLine 8 = .ok (.ifCond .ne 5, 3) := op154 (bA_at bd03_dec_X11_0_54 5 rfl rfl) (by decide +kernel)
theorem dX11_hutLine_11 : decode cX11_hutLine 11 = .ok (.iconst 0, 1) := op3 (bA_at bd03_dec_X11_0_54 6 rfl rfl)
theorem dX11_hutLine_12 : decode cX11_hutLine 12 = .ok (.ireturn, 1) := op172 (bA_at bd03_dec_X11_0_54 7 rfl rfl)
theorem dX11_hutLine_13 : decode cX11_hutLine 13 = .ok (.aload_n 0, 1) := op42 (bA_at bd03_dec_X11_0_54 8 rfl rfl)
theorem dX11_hutLine_14 : decode cX11_hutLine 14 = .ok (.iconst 0, 1) := op3 (bA_at bd03_dec_X11_0_54 9 rfl rfl)
theorem dX11_hutLine_15 : decode cX11_hutLine 15 = .ok (.bipush 9, 2) := op16 (bA_at bd03_dec_X11_0_54 10 rfl rfl) (by decide +kernel)
theorem dX11_hutLine_17 : decode cX11_hutLine 17 = .ok (.invokevirtual 181, 3) := op182 (bA_at bd03_dec_X11_0_54 11 rfl rfl) rfl
theorem bd03_dec_X11_0_55 : ([(0, [60]), (1, [27]), (2, [2]), (3, [159, 0, 18]), (6, [42]), (7, [180, 0, 38]), (10, [16, 7]), (12, [27]), (13, [96]), (14, [42]), (15, [180, 0, 41]), (18, [3])] : List (Nat × List UInt8)).all (fun x => prB x.2 ((cX11_hutLine.data.toList.drop 20).drop x.1)) = true := by decide +kernel
theorem dX11_hutLine_20 : decode cX11_hutLine 20 = .ok (.istore_n 1, 1) := op60 (bA_at bd03_dec_X11_0_55 0 rfl rfl)
theorem dX11_hutLine_21 : decode cX11_hutLine 21 = .ok (.iload_n 1, 1) := op27 (bA_at bd03_dec_X11_0_55 1 rfl rfl)
theorem dX11_hutLine_22 : decode cX11_hutLine 22 = .ok (.iconst (-1), 1) := op2 (bA_at bd03_dec_X11_0_55 2 rfl rfl)
theorem dX11_hutLine_23 : decode cX11_hutLine 23 = .ok (.if_icmp .eq 18, 3) := op159 (bA_at bd03_dec_X11_0_55 3 rfl rfl) (by decide +kernel)
theorem dX11_hutLine_26 : decode cX11_hutLine 26 = .ok (.aload_n 0, 1) := op42 (bA_at bd03_dec_X11_0_55 4 rfl rfl)
theorem dX11_hutLine_27 : decode cX11_hutLine 27 = .ok (.getfield 38, 3) := op180 (bA_at bd03_dec_X11_0_55 5 rfl rfl) rfl
theorem dX11_hutLine_30 : decode cX11_hutLine 30 = .ok (.bipush 7, 2) := op16 (bA_at bd03_dec_X11_0_55 6 rfl rfl) (by decide +kernel)
theorem dX11_hutLine_32 : decode cX11_hutLine 32 = .ok (.iload_n 1, 1) := op27 (bA_at bd03_dec_X11_0_55 7 rfl rfl)
theorem dX11_hutLine_33 : decode cX11_hutLine 33 = .ok (.iadd, 1) := op96 (bA_at bd03_dec_X11_0_55 8 rfl rfl)
theorem dX11_hutLine_34 : decode cX11_hutLine 34 = .ok (.aload_n 0, 1) := op42 (bA_at bd03_dec_X11_0_55 9 rfl rfl)
theorem dX11_hutLine_35 : decode cX11_hutLine 35 = .ok (.getfield 41, 3) := op180 (bA_at bd03_dec_X11_0_55 10 rfl rfl) rfl
theorem dX11_hutLine_38 : decode cX11_hutLine 38 = .ok (.iconst 0, 1) := op3 (bA_at bd03_dec_X11_0_55 11 rfl rfl)
theorem bd03_dec_X11_0_56 : ([(0, [46]), (1, [79]), (2, [4]), (3, [172])] : List (Nat × List UInt8)).all (fun x => prB x.2 ((cX11_hutLine.data.toList.drop 39).drop x.1)) = true := by decide +kernel
theorem dX11_hutLine_39 : decode cX11_hutLine 39 = .ok (.iaload, 1) := op46 (bA_at bd03_dec_X11_0_56 0 rfl rfl)
theorem dX11_hutLine_40 : decode cX11_hutLine 40 = .ok (.iastore, 1) := op79 (bA_at bd03_dec_X11_0_56 1 rfl rfl)
theorem dX11_hutLine_41 : decode cX11_hutLine 41 = .ok (.iconst 1, 1) := op4 (bA_at bd03_dec_X11_0_56 2 rfl rfl)
theorem dX11_hutLine_42 : decode cX11_hutLine 42 = .ok (.ireturn, 1) := op172 (bA_at bd03_dec_X11_0_56 3 rfl rfl)
theorem bd03_dec_X11_0_57 : ([(0, [42]), (1, [3]), (2, [2]), (3, [182, 0, 175]), (6, [153, 0, 28]), (9, [42]), (10, [4]), (11, [42]), (12, [180, 0, 41]), (15, [3]), (16, [46]), (17, [182, 0, 175])] : List (Nat × List UInt8)).all (fun x => prB x.2 ((cX11_wayLine.data.toList.drop 0).drop x.1)) = true := by decide +kernel
theorem dX11_wayLine_0 : decode cX11_wayLine 0 = .ok (.aload_n 0, 1) := op42 (bA_at bd03_dec_X11_0_57 0 rfl rfl)
theorem dX11_wayLine_1 : decode cX11_wayLine 1 = .ok (.iconst 0, 1) := op3 (bA_at bd03_dec_X11_0_57 1 rfl rfl)
theorem dX11_wayLine_2 : decode cX11_wayLine 2 = .ok (.iconst (-1), 1) := op2 (bA_at bd03_dec_X11_0_57 2 rfl rfl)
theorem dX11_wayLine_3 : decode cX11_wayLine 3 = .ok (.invokevirtual 175, 3) := op182 (bA_at bd03_dec_X11_0_57 3 rfl rfl) rfl
theorem dX11_wayLine_6 : decode cX11_wayLine 6 = .ok (.ifCond .eq 28, 3) := op153 (bA_at bd03_dec_X11_0_57 4 rfl rfl) (by decide +kernel)
theorem dX11_wayLine_9 : decode cX11_wayLine 9 = .ok (.aload_n 0, 1) := op42 (bA_at bd03_dec_X11_0_57 5 rfl rfl)
theorem dX11_wayLine_10 : decode cX11_wayLine 10 = .ok (.iconst 1, 1) := op4 (bA_at bd03_dec_X11_0_57 6 rfl rfl)
theorem dX11_wayLine_11 : decode cX11_wayLine 11 = .ok (.aload_n 0, 1) := op42 (bA_at bd03_dec_X11_0_57 7 rfl rfl)
theorem dX11_wayLine_12 : decode cX11_wayLine 12 = .ok (.getfield 41, 3) := op180 (bA_at bd03_dec_X11_0_57 8 rfl rfl) rfl
theorem dX11_wayLine_15 : decode cX11_wayLine 15 = .ok (.iconst 0, 1) := op3 (bA_at bd03_dec_X11_0_57 9 rfl rfl)
theorem dX11_wayLine_16 : decode cX11_wayLine 16 = .ok (.iaload, 1) := op46 (bA_at bd03_dec_X11_0_57 10 rfl rfl)
theorem dX11_wayLine_17 : decode cX11_wayLine 17 = .ok (.invokevirtual 175, 3) := op182 (bA_at bd03_dec_X11_0_57 11 rfl rfl) rfl
theorem bd03_dec_X11_0_58 : ([(0, [153, 0, 14]), (3, [42]), (4, [5]), (5, [4]), (6, [16, 9]), (8, [182, 0, 178]), (11, [154, 0, 5]), (14, [3]), (15, [172]), (16, [42]), (17, [180, 0, 157]), (20, [153, 0, 63])] : List (Nat × List UInt8)).all (fun x => prB x.2 ((cX11_wayLine.data.toList.drop 20).drop x.1)) = true := by decide +kernel
theorem dX11_wayLine_20 : decode cX11_wayLine 20 = .ok (.ifCond .eq 14, 3) := op153 (bA_at bd03_dec_X11_0_58 0 rfl rfl) (by decide +kernel)
theorem dX11_wayLine_23 : decode cX11_wayLine 23 = .ok (.aload_n 0, 1) := op42 (bA_at bd03_dec_X11_0_58 1 rfl rfl)
theorem dX11_wayLine_24 : decode cX11_wayLine 24 = .ok (.iconst 2, 1) := op5 (bA_at bd03_dec_X11_0_58 2 rfl rfl)
theorem dX11_wayLine_25 : decode cX11_wayLine 25 = .ok (.iconst 1, 1) := op4 (bA_at bd03_dec_X11_0_58 3 rfl rfl)
theorem dX11_wayLine_26 : decode cX11_wayLine 26 = .ok (.bipush 9, 2) := op16 (bA_at bd03_dec_X11_0_58 4 rfl rfl) (by decide +kernel)
theorem dX11_wayLine_28 : decode cX11_wayLine 28 = .ok (.invokevirtual 178, 3) := op182 (bA_at bd03_dec_X11_0_58 5 rfl rfl) rfl
theorem dX11_wayLine_31 : decode cX11_wayLine 31 = .ok (.ifCond .ne 5, 3) := op154 (bA_at bd03_dec_X11_0_58 6 rfl rfl) (by decide +kernel)
theorem dX11_wayLine_34 : decode cX11_wayLine 34 = .ok (.iconst 0, 1) := op3 (bA_at bd03_dec_X11_0_58 7 rfl rfl)
theorem dX11_wayLine_35 : decode cX11_wayLine 35 = .ok (.ireturn, 1) := op172 (bA_at bd03_dec_X11_0_58 8 rfl rfl)
theorem dX11_wayLine_36 : decode cX11_wayLine 36 = .ok (.aload_n 0, 1) := op42 (bA_at bd03_dec_X11_0_58 9 rfl rfl)
theorem dX11_wayLine_37 : decode cX11_wayLine 37 = .ok (.getfield 157, 3) := op180 (bA_at bd03_dec_X11_0_58 10 rfl rfl) rfl
theorem dX11_wayLine_40 : decode cX11_wayLine 40 = .ok (.ifCond .eq 63, 3) := op153 (bA_at bd03_dec_X11_0_58 11 rfl rfl) (by decide +kernel)
theorem bd03_dec_X11_0_59 : ([(0, [42]), (1, [180, 0, 38]), (4, [16, 51]), (6, [16, 9]), (8, [42]), (9, [180, 0, 41]), (12, [3]), (13, [46]), (14, [104]), (15, [96]), (16, [42]), (17, [180, 0, 41])] : List (Nat × List UInt8)).all (fun x => prB x.2 ((cX11_wayLine.data.toList.drop 43).drop x.1)) = true := by decide +kernel
theorem dX11_wayLine_43 : decode cX11_wayLine 43 = .ok (.aload_n 0, 1) := op42 (bA_at bd03_dec_X11_0_59 0 rfl rfl)
theorem dX11_wayLine_44 : decode cX11_wayLine 44 = .ok (.getfield 38, 3) := op180 (bA_at bd03_dec_X11_0_59 1 rfl rfl) rfl
theorem dX11_wayLine_47 : decode cX11_wayLine 47 = .ok (.bipush 51, 2) := op16 (bA_at bd03_dec_X11_0_59 2 rfl rfl) (by decide +kernel)
theorem dX11_wayLine_49 : decode cX11_wayLine 49 = .ok (.bipush 9, 2) := op16 (bA_at bd03_dec_X11_0_59 3 rfl rfl) (by decide +kernel)
theorem dX11_wayLine_51 : decode cX11_wayLine 51 = .ok (.aload_n 0, 1) := op42 (bA_at bd03_dec_X11_0_59 4 rfl rfl)
theorem dX11_wayLine_52 : decode cX11_wayLine 52 = .ok (.getfield 41, 3) := op180 (bA_at bd03_dec_X11_0_59 5 rfl rfl) rfl
theorem dX11_wayLine_55 : decode cX11_wayLine 55 = .ok (.iconst 0, 1) := op3 (bA_at bd03_dec_X11_0_59 6 rfl rfl)
theorem dX11_wayLine_56 : decode cX11_wayLine 56 = .ok (.iaload, 1) := op46 (bA_at bd03_dec_X11_0_59 7 rfl rfl)
theorem dX11_wayLine_57 : decode cX11_wayLine 57 = .ok (.imul, 1) := op104 (bA_at bd03_dec_X11_0_59 8 rfl rfl)
theorem dX11_wayLine_58 : decode cX11_wayLine 58 = .ok (.iadd, 1) := op96 (bA_at bd03_dec_X11_0_59 9 rfl rfl)
theorem dX11_wayLine_59 : decode cX11_wayLine 59 = .ok (.aload_n 0, 1) := op42 (bA_at bd03_dec_X11_0_59 10 rfl rfl)
theorem dX11_wayLine_60 : decode cX11_wayLine 60 = .ok (.getfield 41, 3) := op180 (bA_at bd03_dec_X11_0_59 11 rfl rfl) rfl
theorem bd03_dec_X11_0_60 : ([(0, [4]), (1, [46]), (2, [96]), (3, [42]), (4, [180, 0, 41]), (7, [5]), (8, [46]), (9, [79]), (10, [42]), (11, [180, 0, 38]), (14, [16, 51]), (16, [16, 9])] : List (Nat × List UInt8)).all (fun x => prB x.2 ((cX11_wayLine.data.toList.drop 63).drop x.1)) = true := by decide +kernel
theorem dX11_wayLine_63 : decode cX11_wayLine 63 = .ok (.iconst 1, 1) := op4 (bA_at bd03_dec_X11_0_60 0 rfl rfl)
theorem dX11_wayLine_64 : decode cX11_wayLine 64 = .ok (.iaload, 1) := op46 (bA_at bd03_dec_X11_0_60 1 rfl rfl)
theorem dX11_wayLine_65 : decode cX11_wayLine 65 = .ok (.iadd, 1) := op96 (bA_at bd03_dec_X11_0_60 2 rfl rfl)
theorem dX11_wayLine_66 : decode cX11_wayLine 66 = .ok (.aload_n 0, 1) := op42 (bA_at bd03_dec_X11_0_60 3 rfl rfl)
theorem dX11_wayLine_67 : decode cX11_wayLine 67 = .ok (.getfield 41, 3) := op180 (bA_at bd03_dec_X11_0_60 4 rfl rfl) rfl
theorem dX11_wayLine_70 : decode cX11_wayLine 70 = .ok (.iconst 2, 1) := op5 (bA_at bd03_dec_X11_0_60 5 rfl rfl)
theorem dX11_wayLine_71 : decode cX11_wayLine 71 = .ok (.iaload, 1) := op46 (bA_at bd03_dec_X11_0_60 6 rfl rfl)
theorem dX11_wayLine_72 : decode cX11_wayLine 72 = .ok (.iastore, 1) := op79 (bA_at bd03_dec_X11_0_60 7 rfl rfl)
theorem dX11_wayLine_73 : decode cX11_wayLine 73 = .ok (.aload_n 0, 1) := op42 (bA_at bd03_dec_X11_0_60 8 rfl rfl)
theorem dX11_wayLine_74 : decode cX11_wayLine 74 = .ok (.getfield 38, 3) := op180 (bA_at bd03_dec_X11_0_60 9 rfl rfl) rfl
theorem dX11_wayLine_77 : decode cX11_wayLine 77 = .ok (.bipush 51, 2) := op16 (bA_at bd03_dec_X11_0_60 10 rfl rfl) (by decide +kernel)
theorem dX11_wayLine_79 : decode cX11_wayLine 79 = .ok (.bipush 9, 2) := op16 (bA_at bd03_dec_X11_0_60 11 rfl rfl) (by decide +kernel)
theorem bd03_dec_X11_0_61 : ([(0, [42]), (1, [180, 0, 41]), (4, [4]), (5, [46]), (6, [104]), (7, [96]), (8, [42]), (9, [180, 0, 41]), (12, [3]), (13, [46]), (14, [96]), (15, [42])] : List (Nat × List UInt8)).all (fun x => prB x.2 ((cX11_wayLine.data.toList.drop 81).drop x.1)) = true := by decide +kernel
theorem dX11_wayLine_81 : decode cX11_wayLine 81 = .ok (.aload_n 0, 1) := op42 (bA_at bd03_dec_X11_0_61 0 rfl rfl)
theorem dX11_wayLine_82 : decode cX11_wayLine 82 = .ok (.getfield 41, 3) := op180 (bA_at bd03_dec_X11_0_61 1 rfl rfl) rfl
theorem dX11_wayLine_85 : decode cX11_wayLine 85 = .ok (.iconst 1, 1) := op4 (bA_at bd03_dec_X11_0_61 2 rfl rfl)
theorem dX11_wayLine_86 : decode cX11_wayLine 86 = .ok (.iaload, 1) := op46 (bA_at bd03_dec_X11_0_61 3 rfl rfl)
theorem dX11_wayLine_87 : decode cX11_wayLine 87 = .ok (.imul, 1) := op104 (bA_at bd03_dec_X11_0_61 4 rfl rfl)
theorem dX11_wayLine_88 : decode cX11_wayLine 88 = .ok (.iadd, 1) := op96 (bA_at bd03_dec_X11_0_61 5 rfl rfl)
theorem dX11_wayLine_89 : decode cX11_wayLine 89 = .ok (.aload_n 0, 1) := op42 (bA_at bd03_dec_X11_0_61 6 rfl rfl)
theorem dX11_wayLine_90 : decode cX11_wayLine 90 = .ok (.getfield 41, 3) := op180 (bA_at bd03_dec_X11_0_61 7 rfl rfl) rfl
theorem dX11_wayLine_93 : decode cX11_wayLine 93 = .ok (.iconst 0, 1) := op3 (bA_at bd03_dec_X11_0_61 8 rfl rfl)
theorem dX11_wayLine_94 : decode cX11_wayLine 94 = .ok (.iaload, 1) := op46 (bA_at bd03_dec_X11_0_61 9 rfl rfl)
theorem dX11_wayLine_95 : decode cX11_wayLine 95 = .ok (.iadd, 1) := op96 (bA_at bd03_dec_X11_0_61 10 rfl rfl)
theorem dX11_wayLine_96 : decode cX11_wayLine 96 = .ok (.aload_n 0, 1) := op42 (bA_at bd03_dec_X11_0_61 11 rfl rfl)
theorem bd03_dec_X11_0_62 : ([(0, [180, 0, 41]), (3, [5]), (4, [46]), (5, [79]), (6, [4]), (7, [172])] : List (Nat × List UInt8)).all (fun x => prB x.2 ((cX11_wayLine.data.toList.drop 97).drop x.1)) = true := by decide +kernel
theorem dX11_wayLine_97 : decode cX11_wayLine 97 = .ok (.getfield 41, 3) := op180 (bA_at bd03_dec_X11_0_62 0 rfl rfl) rfl
theorem dX11_wayLine_100 : decode cX11_wayLine 100 = .ok (.iconst 2, 1) := op5 (bA_at bd03_dec_X11_0_62 1 rfl rfl)
theorem dX11_wayLine_101 : decode cX11_wayLine 101 = .ok (.iaload, 1) := op46 (bA_at bd03_dec_X11_0_62 2 rfl rfl)
theorem dX11_wayLine_102 : decode cX11_wayLine 102 = .ok (.iastore, 1) := op79 (bA_at bd03_dec_X11_0_62 3 rfl rfl)
theorem dX11_wayLine_103 : decode cX11_wayLine 103 = .ok (.iconst 1, 1) := op4 (bA_at bd03_dec_X11_0_62 4 rfl rfl)
theorem dX11_wayLine_104 : decode cX11_wayLine 104 = .ok (.ireturn, 1) := op172 (bA_at bd03_dec_X11_0_62 5 rfl rfl)
theorem bd03_dec_X11_0_63 : ([(0, [42]), (1, [3]), (2, [2]), (3, [182, 0, 175]), (6, [153, 0, 17]), (9, [42]), (10, [4]), (11, [42]), (12, [180, 0, 41]), (15, [3]), (16, [46]), (17, [182, 0, 175])] : List (Nat × List UInt8)).all (fun x => prB x.2 ((cX11_echoLine.data.toList.drop 0).drop x.1)) = true := by decide +kernel
theorem dX11_echoLine_0 : decode cX11_echoLine 0 = .ok (.aload_n 0, 1) := op42 (bA_at bd03_dec_X11_0_63 0 rfl rfl)
theorem dX11_echoLine_1 : decode cX11_echoLine 1 = .ok (.iconst 0, 1) := op3 (bA_at bd03_dec_X11_0_63 1 rfl rfl)
theorem dX11_echoLine_2 : decode cX11_echoLine 2 = .ok (.iconst (-1), 1) := op2 (bA_at bd03_dec_X11_0_63 2 rfl rfl)
theorem dX11_echoLine_3 : decode cX11_echoLine 3 = .ok (.invokevirtual 175, 3) := op182 (bA_at bd03_dec_X11_0_63 3 rfl rfl) rfl
theorem dX11_echoLine_6 : decode cX11_echoLine 6 = .ok (.ifCond .eq 17, 3) := op153 (bA_at bd03_dec_X11_0_63 4 rfl rfl) (by decide +kernel)
theorem dX11_echoLine_9 : decode cX11_echoLine 9 = .ok (.aload_n 0, 1) := op42 (bA_at bd03_dec_X11_0_63 5 rfl rfl)
theorem dX11_echoLine_10 : decode cX11_echoLine 10 = .ok (.iconst 1, 1) := op4 (bA_at bd03_dec_X11_0_63 6 rfl rfl)
theorem dX11_echoLine_11 : decode cX11_echoLine 11 = .ok (.aload_n 0, 1) := op42 (bA_at bd03_dec_X11_0_63 7 rfl rfl)
theorem dX11_echoLine_12 : decode cX11_echoLine 12 = .ok (.getfield 41, 3) := op180 (bA_at bd03_dec_X11_0_63 8 rfl rfl) rfl
theorem dX11_echoLine_15 : decode cX11_echoLine 15 = .ok (.iconst 0, 1) := op3 (bA_at bd03_dec_X11_0_63 9 rfl rfl)
theorem dX11_echoLine_16 : decode cX11_echoLine 16 = .ok (.iaload, 1) := op46 (bA_at bd03_dec_X11_0_63 10 rfl rfl)
theorem dX11_echoLine_17 : decode cX11_echoLine 17 = .ok (.invokevirtual 175, 3) := op182 (bA_at bd03_dec_X11_0_63 11 rfl rfl) rfl
theorem bd03_dec_X11_0_64 : ([(0, [154, 0, 5]), (3, [3]), (4, [172]), (5, [42]), (6, [7]), (7, [7]), (8, [182, 0, 181]), (11, [60]), (12, [27]), (13, [2]), (14, [159, 0, 39]), (17, [42])] : List (Nat × List UInt8)).all (fun x => prB x.2 ((cX11_echoLine.data.toList.drop 20).drop x.1)) = true := by decide +kernel
theorem dX11_echoLine_20 : decode cX11_echoLine 20 = .ok (.ifCond .ne 5, 3) := op154 (bA_at bd03_dec_X11_0_64 0 rfl rfl) (by decide +kernel)
theorem dX11_echoLine_23 : decode cX11_echoLine 23 = .ok (.iconst 0, 1) := op3 (bA_at bd03_dec_X11_0_64 1 rfl rfl)
theorem dX11_echoLine_24 : decode cX11_echoLine 24 = .ok (.ireturn, 1) := op172 (bA_at bd03_dec_X11_0_64 2 rfl rfl)
theorem dX11_echoLine_25 : decode cX11_echoLine 25 = .ok (.aload_n 0, 1) := op42 (bA_at bd03_dec_X11_0_64 3 rfl rfl)
theorem dX11_echoLine_26 : decode cX11_echoLine 26 = .ok (.iconst 4, 1) := op7 (bA_at bd03_dec_X11_0_64 4 rfl rfl)
theorem dX11_echoLine_27 : decode cX11_echoLine 27 = .ok (.iconst 4, 1) := op7 (bA_at bd03_dec_X11_0_64 5 rfl rfl)
theorem dX11_echoLine_28 : decode cX11_echoLine 28 = .ok (.invokevirtual 181, 3) := op182 (bA_at bd03_dec_X11_0_64 6 rfl rfl) rfl
theorem dX11_echoLine_31 : decode cX11_echoLine 31 = .ok (.istore_n 1, 1) := op60 (bA_at bd03_dec_X11_0_64 7 rfl rfl)
theorem dX11_echoLine_32 : decode cX11_echoLine 32 = .ok (.iload_n 1, 1) := op27 (bA_at bd03_dec_X11_0_64 8 rfl rfl)
theorem dX11_echoLine_33 : decode cX11_echoLine 33 = .ok (.iconst (-1), 1) := op2 (bA_at bd03_dec_X11_0_64 9 rfl rfl)
theorem dX11_echoLine_34 : decode cX11_echoLine 34 = .ok (.if_icmp .eq 39, 3) := op159 (bA_at bd03_dec_X11_0_64 10 rfl rfl) (by decide +kernel)
theorem dX11_echoLine_37 : decode cX11_echoLine 37 = .ok (.aload_n 0, 1) := op42 (bA_at bd03_dec_X11_0_64 11 rfl rfl)
theorem bd03_dec_X11_0_65 : ([(0, [180, 0, 38]), (3, [16, 43]), (5, [5]), (6, [27]), (7, [104]), (8, [96]), (9, [42]), (10, [180, 0, 41]), (13, [3]), (14, [46]), (15, [79]), (16, [42])] : List (Nat × List UInt8)).all (fun x => prB x.2 ((cX11_echoLine.data.toList.drop 38).drop x.1)) = true := by decide +kernel
theorem dX11_echoLine_38 : decode cX11_echoLine 38 = .ok (.getfield 38, 3) := op180 (bA_at bd03_dec_X11_0_65 0 rfl rfl) rfl
theorem dX11_echoLine_41 : decode cX11_echoLine 41 = .ok (.bipush 43, 2) := op16 (bA_at bd03_dec_X11_0_65 1 rfl rfl) (by decide +kernel)
theorem dX11_echoLine_43 : decode cX11_echoLine 43 = .ok (.iconst 2, 1) := op5 (bA_at bd03_dec_X11_0_65 2 rfl rfl)
theorem dX11_echoLine_44 : decode cX11_echoLine 44 = .ok (.iload_n 1, 1) := op27 (bA_at bd03_dec_X11_0_65 3 rfl rfl)
theorem dX11_echoLine_45 : decode cX11_echoLine 45 = .ok (.imul, 1) := op104 (bA_at bd03_dec_X11_0_65 4 rfl rfl)
theorem dX11_echoLine_46 : decode cX11_echoLine 46 = .ok (.iadd, 1) := op96 (bA_at bd03_dec_X11_0_65 5 rfl rfl)
theorem dX11_echoLine_47 : decode cX11_echoLine 47 = .ok (.aload_n 0, 1) := op42 (bA_at bd03_dec_X11_0_65 6 rfl rfl)
theorem dX11_echoLine_48 : decode cX11_echoLine 48 = .ok (.getfield 41, 3) := op180 (bA_at bd03_dec_X11_0_65 7 rfl rfl) rfl
theorem dX11_echoLine_51 : decode cX11_echoLine 51 = .ok (.iconst 0, 1) := op3 (bA_at bd03_dec_X11_0_65 8 rfl rfl)
theorem dX11_echoLine_52 : decode cX11_echoLine 52 = .ok (.iaload, 1) := op46 (bA_at bd03_dec_X11_0_65 9 rfl rfl)
theorem dX11_echoLine_53 : decode cX11_echoLine 53 = .ok (.iastore, 1) := op79 (bA_at bd03_dec_X11_0_65 10 rfl rfl)
theorem dX11_echoLine_54 : decode cX11_echoLine 54 = .ok (.aload_n 0, 1) := op42 (bA_at bd03_dec_X11_0_65 11 rfl rfl)
theorem bd03_dec_X11_0_66 : ([(0, [180, 0, 38]), (3, [16, 43]), (5, [5]), (6, [27]), (7, [104]), (8, [96]), (9, [4]), (10, [96]), (11, [42]), (12, [180, 0, 41]), (15, [4]), (16, [46])] : List (Nat × List UInt8)).all (fun x => prB x.2 ((cX11_echoLine.data.toList.drop 55).drop x.1)) = true := by decide +kernel
theorem dX11_echoLine_55 : decode cX11_echoLine 55 = .ok (.getfield 38, 3) := op180 (bA_at bd03_dec_X11_0_66 0 rfl rfl) rfl
theorem dX11_echoLine_58 : decode cX11_echoLine 58 = .ok (.bipush 43, 2) := op16 (bA_at bd03_dec_X11_0_66 1 rfl rfl) (by decide +kernel)
theorem dX11_echoLine_60 : decode cX11_echoLine 60 = .ok (.iconst 2, 1) := op5 (bA_at bd03_dec_X11_0_66 2 rfl rfl)
theorem dX11_echoLine_61 : decode cX11_echoLine 61 = .ok (.iload_n 1, 1) := op27 (bA_at bd03_dec_X11_0_66 3 rfl rfl)
theorem dX11_echoLine_62 : decode cX11_echoLine 62 = .ok (.imul, 1) := op104 (bA_at bd03_dec_X11_0_66 4 rfl rfl)
theorem dX11_echoLine_63 : decode cX11_echoLine 63 = .ok (.iadd, 1) := op96 (bA_at bd03_dec_X11_0_66 5 rfl rfl)
theorem dX11_echoLine_64 : decode cX11_echoLine 64 = .ok (.iconst 1, 1) := op4 (bA_at bd03_dec_X11_0_66 6 rfl rfl)
theorem dX11_echoLine_65 : decode cX11_echoLine 65 = .ok (.iadd, 1) := op96 (bA_at bd03_dec_X11_0_66 7 rfl rfl)
theorem dX11_echoLine_66 : decode cX11_echoLine 66 = .ok (.aload_n 0, 1) := op42 (bA_at bd03_dec_X11_0_66 8 rfl rfl)
theorem dX11_echoLine_67 : decode cX11_echoLine 67 = .ok (.getfield 41, 3) := op180 (bA_at bd03_dec_X11_0_66 9 rfl rfl) rfl
theorem dX11_echoLine_70 : decode cX11_echoLine 70 = .ok (.iconst 1, 1) := op4 (bA_at bd03_dec_X11_0_66 10 rfl rfl)
theorem dX11_echoLine_71 : decode cX11_echoLine 71 = .ok (.iaload, 1) := op46 (bA_at bd03_dec_X11_0_66 11 rfl rfl)
theorem bd03_dec_X11_0_67 : ([(0, [79]), (1, [4]), (2, [172])] : List (Nat × List UInt8)).all (fun x => prB x.2 ((cX11_echoLine.data.toList.drop 72).drop x.1)) = true := by decide +kernel
theorem dX11_echoLine_72 : decode cX11_echoLine 72 = .ok (.iastore, 1) := op79 (bA_at bd03_dec_X11_0_67 0 rfl rfl)
theorem dX11_echoLine_73 : decode cX11_echoLine 73 = .ok (.iconst 1, 1) := op4 (bA_at bd03_dec_X11_0_67 1 rfl rfl)
theorem dX11_echoLine_74 : decode cX11_echoLine 74 = .ok (.ireturn, 1) := op172 (bA_at bd03_dec_X11_0_67 2 rfl rfl)
theorem bd03_dec_X11_0_68 : ([(0, [42]), (1, [3]), (2, [2]), (3, [182, 0, 175]), (6, [153, 0, 14]), (9, [42]), (10, [4]), (11, [3]), (12, [16, 9]), (14, [182, 0, 178]), (17, [154, 0, 5]), (20, [3])] : List (Nat × List UInt8)).all (fun x => prB x.2 ((cX11_ladderLine.data.toList.drop 0).drop x.1)) = true := by decide +kernel
theorem dX11_ladderLine_0 : decode cX11_ladderLine 0 = .ok (.aload_n 0, 1) := op42 (bA_at bd03_dec_X11_0_68 0 rfl rfl)
theorem dX11_ladderLine_1 : decode cX11_ladderLine 1 = .ok (.iconst 0, 1) := op3 (bA_at bd03_dec_X11_0_68 1 rfl rfl)
theorem dX11_ladderLine_2 : decode cX11_ladderLine 2 = .ok (.iconst (-1), 1) := op2 (bA_at bd03_dec_X11_0_68 2 rfl rfl)
theorem dX11_ladderLine_3 : decode cX11_ladderLine 3 = .ok (.invokevirtual 175, 3) := op182 (bA_at bd03_dec_X11_0_68 3 rfl rfl) rfl
theorem dX11_ladderLine_6 : decode cX11_ladderLine 6 = .ok (.ifCond .eq 14, 3) := op153 (bA_at bd03_dec_X11_0_68 4 rfl rfl) (by decide +kernel)
theorem dX11_ladderLine_9 : decode cX11_ladderLine 9 = .ok (.aload_n 0, 1) := op42 (bA_at bd03_dec_X11_0_68 5 rfl rfl)
theorem dX11_ladderLine_10 : decode cX11_ladderLine 10 = .ok (.iconst 1, 1) := op4 (bA_at bd03_dec_X11_0_68 6 rfl rfl)
theorem dX11_ladderLine_11 : decode cX11_ladderLine 11 = .ok (.iconst 0, 1) := op3 (bA_at bd03_dec_X11_0_68 7 rfl rfl)
theorem dX11_ladderLine_12 : decode cX11_ladderLine 12 = .ok (.bipush 9, 2) := op16 (bA_at bd03_dec_X11_0_68 8 rfl rfl) (by decide +kernel)
theorem dX11_ladderLine_14 : decode cX11_ladderLine 14 = .ok (.invokevirtual 178, 3) := op182 (bA_at bd03_dec_X11_0_68 9 rfl rfl) rfl
theorem dX11_ladderLine_17 : decode cX11_ladderLine 17 = .ok (.ifCond .ne 5, 3) := op154 (bA_at bd03_dec_X11_0_68 10 rfl rfl) (by decide +kernel)
theorem dX11_ladderLine_20 : decode cX11_ladderLine 20 = .ok (.iconst 0, 1) := op3 (bA_at bd03_dec_X11_0_68 11 rfl rfl)
theorem bd03_dec_X11_0_69 : ([(0, [172]), (1, [42]), (2, [180, 0, 157]), (5, [153, 0, 23]), (8, [42]), (9, [180, 0, 38]), (12, [16, 16]), (14, [42]), (15, [180, 0, 41]), (18, [3]), (19, [46]), (20, [96])] : List (Nat × List UInt8)).all (fun x => prB x.2 ((cX11_ladderLine.data.toList.drop 21).drop x.1)) = true := by decide +kernel
theorem dX11_ladderLine_21 : decode cX11_ladderLine 21 = .ok (.ireturn, 1) := op172 (bA_at bd03_dec_X11_0_69 0 rfl rfl)
theorem dX11_ladderLine_22 : decode cX11_ladderLine 22 = .ok (.aload_n 0, 1) := op42 (bA_at bd03_dec_X11_0_69 1 rfl rfl)
theorem dX11_ladderLine_23 : decode cX11_ladderLine 23 = .ok (.getfield 157, 3) := op180 (bA_at bd03_dec_X11_0_69 2 rfl rfl) rfl
theorem dX11_ladderLine_26 : decode cX11_ladderLine 26 = .ok (.ifCond .eq 23, 3) := op153 (bA_at bd03_dec_X11_0_69 3 rfl rfl) (by decide +kernel)
theorem dX11_ladderLine_29 : decode cX11_ladderLine 29 = .ok (.aload_n 0, 1) := op42 (bA_at bd03_dec_X11_0_69 4 rfl rfl)
theorem dX11_ladderLine_30 : decode cX11_ladderLine 30 = .ok (.getfield 38, 3) := op180 (bA_at bd03_dec_X11_0_69 5 rfl rfl) rfl
theorem dX11_ladderLine_33 : decode cX11_ladderLine 33 = .ok (.bipush 16, 2) := op16 (bA_at bd03_dec_X11_0_69 6 rfl rfl) (by decide +kernel)
theorem dX11_ladderLine_35 : decode cX11_ladderLine 35 = .ok (.aload_n 0, 1) := op42 (bA_at bd03_dec_X11_0_69 7 rfl rfl)
theorem dX11_ladderLine_36 : decode cX11_ladderLine 36 = .ok (.getfield 41, 3) := op180 (bA_at bd03_dec_X11_0_69 8 rfl rfl) rfl
theorem dX11_ladderLine_39 : decode cX11_ladderLine 39 = .ok (.iconst 0, 1) := op3 (bA_at bd03_dec_X11_0_69 9 rfl rfl)
theorem dX11_ladderLine_40 : decode cX11_ladderLine 40 = .ok (.iaload, 1) := op46 (bA_at bd03_dec_X11_0_69 10 rfl rfl)
theorem dX11_ladderLine_41 : decode cX11_ladderLine 41 = .ok (.iadd, 1) := op96 (bA_at bd03_dec_X11_0_69 11 rfl rfl)
theorem bd03_dec_X11_0_70 : ([(0, [42]), (1, [180, 0, 41]), (4, [4]), (5, [46]), (6, [79]), (7, [4]), (8, [172])] : List (Nat × List UInt8)).all (fun x => prB x.2 ((cX11_ladderLine.data.toList.drop 42).drop x.1)) = true := by decide +kernel
theorem dX11_ladderLine_42 : decode cX11_ladderLine 42 = .ok (.aload_n 0, 1) := op42 (bA_at bd03_dec_X11_0_70 0 rfl rfl)
theorem dX11_ladderLine_43 : decode cX11_ladderLine 43 = .ok (.getfield 41, 3) := op180 (bA_at bd03_dec_X11_0_70 1 rfl rfl) rfl
theorem dX11_ladderLine_46 : decode cX11_ladderLine 46 = .ok (.iconst 1, 1) := op4 (bA_at bd03_dec_X11_0_70 2 rfl rfl)
theorem dX11_ladderLine_47 : decode cX11_ladderLine 47 = .ok (.iaload, 1) := op46 (bA_at bd03_dec_X11_0_70 3 rfl rfl)
theorem dX11_ladderLine_48 : decode cX11_ladderLine 48 = .ok (.iastore, 1) := op79 (bA_at bd03_dec_X11_0_70 4 rfl rfl)
theorem dX11_ladderLine_49 : decode cX11_ladderLine 49 = .ok (.iconst 1, 1) := op4 (bA_at bd03_dec_X11_0_70 5 rfl rfl)
theorem dX11_ladderLine_50 : decode cX11_ladderLine 50 = .ok (.ireturn, 1) := op172 (bA_at bd03_dec_X11_0_70 6 rfl rfl)
theorem bd03_dec_X11_0_71 : ([(0, [42]), (1, [3]), (2, [2]), (3, [182, 0, 175]), (6, [153, 0, 14]), (9, [42]), (10, [4]), (11, [3]), (12, [16, 9]), (14, [182, 0, 178]), (17, [154, 0, 5]), (20, [3])] : List (Nat × List UInt8)).all (fun x => prB x.2 ((cX11_singerLine.data.toList.drop 0).drop x.1)) = true := by decide +kernel
theorem dX11_singerLine_0 : decode cX11_singerLine 0 = .ok (.aload_n 0, 1) := op42 (bA_at bd03_dec_X11_0_71 0 rfl rfl)
theorem dX11_singerLine_1 : decode cX11_singerLine 1 = .ok (.iconst 0, 1) := op3 (bA_at bd03_dec_X11_0_71 1 rfl rfl)
theorem dX11_singerLine_2 : decode cX11_singerLine 2 = .ok (.iconst (-1), 1) := op2 (bA_at bd03_dec_X11_0_71 2 rfl rfl)
theorem dX11_singerLine_3 : decode cX11_singerLine 3 = .ok (.invokevirtual 175, 3) := op182 (bA_at bd03_dec_X11_0_71 3 rfl rfl) rfl
theorem dX11_singerLine_6 : decode cX11_singerLine 6 = .ok (.ifCond .eq 14, 3) := op153 (bA_at bd03_dec_X11_0_71 4 rfl rfl) (by decide +kernel)
theorem dX11_singerLine_9 : decode cX11_singerLine 9 = .ok (.aload_n 0, 1) := op42 (bA_at bd03_dec_X11_0_71 5 rfl rfl)
theorem dX11_singerLine_10 : decode cX11_singerLine 10 = .ok (.iconst 1, 1) := op4 (bA_at bd03_dec_X11_0_71 6 rfl rfl)
theorem dX11_singerLine_11 : decode cX11_singerLine 11 = .ok (.iconst 0, 1) := op3 (bA_at bd03_dec_X11_0_71 7 rfl rfl)
theorem dX11_singerLine_12 : decode cX11_singerLine 12 = .ok (.bipush 9, 2) := op16 (bA_at bd03_dec_X11_0_71 8 rfl rfl) (by decide +kernel)
theorem dX11_singerLine_14 : decode cX11_singerLine 14 = .ok (.invokevirtual 178, 3) := op182 (bA_at bd03_dec_X11_0_71 9 rfl rfl) rfl
theorem dX11_singerLine_17 : decode cX11_singerLine 17 = .ok (.ifCond .ne 5, 3) := op154 (bA_at bd03_dec_X11_0_71 10 rfl rfl) (by decide +kernel)
theorem dX11_singerLine_20 : decode cX11_singerLine 20 = .ok (.iconst 0, 1) := op3 (bA_at bd03_dec_X11_0_71 11 rfl rfl)
theorem bd03_dec_X11_0_72 : ([(0, [172]), (1, [42]), (2, [4]), (3, [16, 6]), (5, [182, 0, 181]), (8, [60]), (9, [27]), (10, [2]), (11, [159, 0, 33]), (14, [42]), (15, [180, 0, 38]), (18, [16, 25])] : List (Nat × List UInt8)).all (fun x => prB x.2 ((cX11_singerLine.data.toList.drop 21).drop x.1)) = true := by decide +kernel
theorem dX11_singerLine_21 : decode cX11_singerLine 21 = .ok (.ireturn, 1) := op172 (bA_at bd03_dec_X11_0_72 0 rfl rfl)
theorem dX11_singerLine_22 : decode cX11_singerLine 22 = .ok (.aload_n 0, 1) := op42 (bA_at bd03_dec_X11_0_72 1 rfl rfl)
theorem dX11_singerLine_23 : decode cX11_singerLine 23 = .ok (.iconst 1, 1) := op4 (bA_at bd03_dec_X11_0_72 2 rfl rfl)
theorem dX11_singerLine_24 : decode cX11_singerLine 24 = .ok (.bipush 6, 2) := op16 (bA_at bd03_dec_X11_0_72 3 rfl rfl) (by decide +kernel)
theorem dX11_singerLine_26 : decode cX11_singerLine 26 = .ok (.invokevirtual 181, 3) := op182 (bA_at bd03_dec_X11_0_72 4 rfl rfl) rfl
theorem dX11_singerLine_29 : decode cX11_singerLine 29 = .ok (.istore_n 1, 1) := op60 (bA_at bd03_dec_X11_0_72 5 rfl rfl)
theorem dX11_singerLine_30 : decode cX11_singerLine 30 = .ok (.iload_n 1, 1) := op27 (bA_at bd03_dec_X11_0_72 6 rfl rfl)
theorem dX11_singerLine_31 : decode cX11_singerLine 31 = .ok (.iconst (-1), 1) := op2 (bA_at bd03_dec_X11_0_72 7 rfl rfl)
theorem dX11_singerLine_32 : decode cX11_singerLine 32 = .ok (.if_icmp .eq 33, 3) := op159 (bA_at bd03_dec_X11_0_72 8 rfl rfl) (by decide +kernel)
theorem dX11_singerLine_35 : decode cX11_singerLine 35 = .ok (.aload_n 0, 1) := op42 (bA_at bd03_dec_X11_0_72 9 rfl rfl)
theorem dX11_singerLine_36 : decode cX11_singerLine 36 = .ok (.getfield 38, 3) := op180 (bA_at bd03_dec_X11_0_72 10 rfl rfl) rfl
theorem dX11_singerLine_39 : decode cX11_singerLine 39 = .ok (.bipush 25, 2) := op16 (bA_at bd03_dec_X11_0_72 11 rfl rfl) (by decide +kernel)
theorem bd03_dec_X11_0_73 : ([(0, [27]), (1, [96]), (2, [42]), (3, [180, 0, 41]), (6, [3]), (7, [46]), (8, [79]), (9, [42]), (10, [180, 0, 38]), (13, [16, 31]), (15, [27]), (16, [96])] : List (Nat × List UInt8)).all (fun x => prB x.2 ((cX11_singerLine.data.toList.drop 41).drop x.1)) = true := by decide +kernel
theorem dX11_singerLine_41 : decode cX11_singerLine 41 = .ok (.iload_n 1, 1) := op27 (bA_at bd03_dec_X11_0_73 0 rfl rfl)
theorem dX11_singerLine_42 : decode cX11_singerLine 42 = .ok (.iadd, 1) := op96 (bA_at bd03_dec_X11_0_73 1 rfl rfl)
theorem dX11_singerLine_43 : decode cX11_singerLine 43 = .ok (.aload_n 0, 1) := op42 (bA_at bd03_dec_X11_0_73 2 rfl rfl)
theorem dX11_singerLine_44 : decode cX11_singerLine 44 = .ok (.getfield 41, 3) := op180 (bA_at bd03_dec_X11_0_73 3 rfl rfl) rfl
theorem dX11_singerLine_47 : decode cX11_singerLine 47 = .ok (.iconst 0, 1) := op3 (bA_at bd03_dec_X11_0_73 4 rfl rfl)
theorem dX11_singerLine_48 : decode cX11_singerLine 48 = .ok (.iaload, 1) := op46 (bA_at bd03_dec_X11_0_73 5 rfl rfl)
theorem dX11_singerLine_49 : decode cX11_singerLine 49 = .ok (.iastore, 1) := op79 (bA_at bd03_dec_X11_0_73 6 rfl rfl)
theorem dX11_singerLine_50 : decode cX11_singerLine 50 = .ok (.aload_n 0, 1) := op42 (bA_at bd03_dec_X11_0_73 7 rfl rfl)
theorem dX11_singerLine_51 : decode cX11_singerLine 51 = .ok (.getfield 38, 3) := op180 (bA_at bd03_dec_X11_0_73 8 rfl rfl) rfl
theorem dX11_singerLine_54 : decode cX11_singerLine 54 = .ok (.bipush 31, 2) := op16 (bA_at bd03_dec_X11_0_73 9 rfl rfl) (by decide +kernel)
theorem dX11_singerLine_56 : decode cX11_singerLine 56 = .ok (.iload_n 1, 1) := op27 (bA_at bd03_dec_X11_0_73 10 rfl rfl)
theorem dX11_singerLine_57 : decode cX11_singerLine 57 = .ok (.iadd, 1) := op96 (bA_at bd03_dec_X11_0_73 11 rfl rfl)
theorem bd03_dec_X11_0_74 : ([(0, [42]), (1, [180, 0, 41]), (4, [4]), (5, [46]), (6, [79]), (7, [4]), (8, [172])] : List (Nat × List UInt8)).all (fun x => prB x.2 ((cX11_singerLine.data.toList.drop 58).drop x.1)) = true := by decide +kernel
theorem dX11_singerLine_58 : decode cX11_singerLine 58 = .ok (.aload_n 0, 1) := op42 (bA_at bd03_dec_X11_0_74 0 rfl rfl)
theorem dX11_singerLine_59 : decode cX11_singerLine 59 = .ok (.getfield 41, 3) := op180 (bA_at bd03_dec_X11_0_74 1 rfl rfl) rfl
theorem dX11_singerLine_62 : decode cX11_singerLine 62 = .ok (.iconst 1, 1) := op4 (bA_at bd03_dec_X11_0_74 2 rfl rfl)
theorem dX11_singerLine_63 : decode cX11_singerLine 63 = .ok (.iaload, 1) := op46 (bA_at bd03_dec_X11_0_74 3 rfl rfl)
theorem dX11_singerLine_64 : decode cX11_singerLine 64 = .ok (.iastore, 1) := op79 (bA_at bd03_dec_X11_0_74 4 rfl rfl)
theorem dX11_singerLine_65 : decode cX11_singerLine 65 = .ok (.iconst 1, 1) := op4 (bA_at bd03_dec_X11_0_74 5 rfl rfl)
theorem dX11_singerLine_66 : decode cX11_singerLine 66 = .ok (.ireturn, 1) := op172 (bA_at bd03_dec_X11_0_74 6 rfl rfl)
theorem bd03_dec_X11_0_75 : ([(0, [42]), (1, [3]), (2, [3]), (3, [8]), (4, [182, 0, 178]), (7, [153, 0, 13]), (10, [42]), (11, [4]), (12, [3]), (13, [7]), (14, [182, 0, 178]), (17, [154, 0, 5])] : List (Nat × List UInt8)).all (fun x => prB x.2 ((cX11_knowsLine.data.toList.drop 0).drop x.1)) = true := by decide +kernel
theorem dX11_knowsLine_0 : decode cX11_knowsLine 0 = .ok (.aload_n 0, 1) := op42 (bA_at bd03_dec_X11_0_75 0 rfl rfl)
theorem dX11_knowsLine_1 : decode cX11_knowsLine 1 = .ok (.iconst 0, 1) := op3 (bA_at bd03_dec_X11_0_75 1 rfl rfl)
theorem dX11_knowsLine_2 : decode cX11_knowsLine 2 = .ok (.iconst 0, 1) := op3 (bA_at bd03_dec_X11_0_75 2 rfl rfl)
theorem dX11_knowsLine_3 : decode cX11_knowsLine 3 = .ok (.iconst 5, 1) := op8 (bA_at bd03_dec_X11_0_75 3 rfl rfl)
theorem dX11_knowsLine_4 : decode cX11_knowsLine 4 = .ok (.invokevirtual 178, 3) := op182 (bA_at bd03_dec_X11_0_75 4 rfl rfl) rfl
theorem dX11_knowsLine_7 : decode cX11_knowsLine 7 = .ok (.ifCond .eq 13, 3) := op153 (bA_at bd03_dec_X11_0_75 5 rfl rfl) (by decide +kernel)
theorem dX11_knowsLine_10 : decode cX11_knowsLine 10 = .ok (.aload_n 0, 1) := op42 (bA_at bd03_dec_X11_0_75 6 rfl rfl)
theorem dX11_knowsLine_11 : decode cX11_knowsLine 11 = .ok (.iconst 1, 1) := op4 (bA_at bd03_dec_X11_0_75 7 rfl rfl)
theorem dX11_knowsLine_12 : decode cX11_knowsLine 12 = .ok (.iconst 0, 1) := op3 (bA_at bd03_dec_X11_0_75 8 rfl rfl)
theorem dX11_knowsLine_13 : decode cX11_knowsLine 13 = .ok (.iconst 4, 1) := op7 (bA_at bd03_dec_X11_0_75 9 rfl rfl)
theorem dX11_knowsLine_14 : decode cX11_knowsLine 14 = .ok (.invokevirtual 178, 3) := op182 (bA_at bd03_dec_X11_0_75 10 rfl rfl) rfl
theorem dX11_knowsLine_17 : decode cX11_knowsLine 17 = .ok (.ifCond .ne 5, 3) := op154 (bA_at bd03_dec_X11_0_75 11 rfl rfl) (by decide +kernel)
theorem bd03_dec_X11_0_76 : ([(0, [3]), (1, [172]), (2, [42]), (3, [42]), (4, [180, 0, 184]), (7, [42]), (8, [180, 0, 41]), (11, [3]), (12, [46]), (13, [184, 0, 171]), (16, [181, 0, 184]), (19, [42])] : List (Nat × List UInt8)).all (fun x => prB x.2 ((cX11_knowsLine.data.toList.drop 20).drop x.1)) = true := by decide +kernel
theorem dX11_knowsLine_20 : decode cX11_knowsLine 20 = .ok (.iconst 0, 1) := op3 (bA_at bd03_dec_X11_0_76 0 rfl rfl)
theorem dX11_knowsLine_21 : decode cX11_knowsLine 21 = .ok (.ireturn, 1) := op172 (bA_at bd03_dec_X11_0_76 1 rfl rfl)
theorem dX11_knowsLine_22 : decode cX11_knowsLine 22 = .ok (.aload_n 0, 1) := op42 (bA_at bd03_dec_X11_0_76 2 rfl rfl)
theorem dX11_knowsLine_23 : decode cX11_knowsLine 23 = .ok (.aload_n 0, 1) := op42 (bA_at bd03_dec_X11_0_76 3 rfl rfl)
theorem dX11_knowsLine_24 : decode cX11_knowsLine 24 = .ok (.getfield 184, 3) := op180 (bA_at bd03_dec_X11_0_76 4 rfl rfl) rfl
theorem dX11_knowsLine_27 : decode cX11_knowsLine 27 = .ok (.aload_n 0, 1) := op42 (bA_at bd03_dec_X11_0_76 5 rfl rfl)
theorem dX11_knowsLine_28 : decode cX11_knowsLine 28 = .ok (.getfield 41, 3) := op180 (bA_at bd03_dec_X11_0_76 6 rfl rfl) rfl
theorem dX11_knowsLine_31 : decode cX11_knowsLine 31 = .ok (.iconst 0, 1) := op3 (bA_at bd03_dec_X11_0_76 7 rfl rfl)
theorem dX11_knowsLine_32 : decode cX11_knowsLine 32 = .ok (.iaload, 1) := op46 (bA_at bd03_dec_X11_0_76 8 rfl rfl)
theorem dX11_knowsLine_33 : decode cX11_knowsLine 33 = .ok (.invokestatic 171, 3) := op184 (bA_at bd03_dec_X11_0_76 9 rfl rfl) rfl
theorem dX11_knowsLine_36 : decode cX11_knowsLine 36 = .ok (.putfield 184, 3) := op181 (bA_at bd03_dec_X11_0_76 10 rfl rfl) rfl
theorem dX11_knowsLine_39 : decode cX11_knowsLine 39 = .ok (.aload_n 0, 1) := op42 (bA_at bd03_dec_X11_0_76 11 rfl rfl)
theorem bd03_dec_X11_0_77 : ([(0, [180, 0, 157]), (3, [153, 0, 28]), (6, [42]), (7, [180, 0, 38]), (10, [16, 37]), (12, [42]), (13, [180, 0, 41]), (16, [3]), (17, [46]), (18, [96]), (19, [92]), (20, [46])] : List (Nat × List UInt8)).all (fun x => prB x.2 ((cX11_knowsLine.data.toList.drop 40).drop x.1)) = true := by decide +kernel
theorem dX11_knowsLine_40 : decode cX11_knowsLine 40 = .ok (.getfield 157, 3) := op180 (bA_at bd03_dec_X11_0_77 0 rfl rfl) rfl
theorem dX11_knowsLine_43 : decode cX11_knowsLine 43 = .ok (.ifCond .eq 28, 3) := op153 (bA_at bd03_dec_X11_0_77 1 rfl rfl) (by decide +kernel)
theorem dX11_knowsLine_46 : decode cX11_knowsLine 46 = .ok (.aload_n 0, 1) := op42 (bA_at bd03_dec_X11_0_77 2 rfl rfl)
theorem dX11_knowsLine_47 : decode cX11_knowsLine 47 = .ok (.getfield 38, 3) := op180 (bA_at bd03_dec_X11_0_77 3 rfl rfl) rfl
theorem dX11_knowsLine_50 : decode cX11_knowsLine 50 = .ok (.bipush 37, 2) := op16 (bA_at bd03_dec_X11_0_77 4 rfl rfl) (by decide +kernel)
theorem dX11_knowsLine_52 : decode cX11_knowsLine 52 = .ok (.aload_n 0, 1) := op42 (bA_at bd03_dec_X11_0_77 5 rfl rfl)
theorem dX11_knowsLine_53 : decode cX11_knowsLine 53 = .ok (.getfield 41, 3) := op180 (bA_at bd03_dec_X11_0_77 6 rfl rfl) rfl
theorem dX11_knowsLine_56 : decode cX11_knowsLine 56 = .ok (.iconst 0, 1) := op3 (bA_at bd03_dec_X11_0_77 7 rfl rfl)
theorem dX11_knowsLine_57 : decode cX11_knowsLine 57 = .ok (.iaload, 1) := op46 (bA_at bd03_dec_X11_0_77 8 rfl rfl)
theorem dX11_knowsLine_58 : decode cX11_knowsLine 58 = .ok (.iadd, 1) := op96 (bA_at bd03_dec_X11_0_77 9 rfl rfl)
theorem dX11_knowsLine_59 : decode cX11_knowsLine 59 = .ok (.dup2, 1) := op92 (bA_at bd03_dec_X11_0_77 10 rfl rfl)
theorem dX11_knowsLine_60 : decode cX11_knowsLine 60 = .ok (.iaload, 1) := op46 (bA_at bd03_dec_X11_0_77 11 rfl rfl)
theorem bd03_dec_X11_0_78 : ([(0, [4]), (1, [42]), (2, [180, 0, 41]), (5, [4]), (6, [46]), (7, [120]), (8, [128]), (9, [79]), (10, [4]), (11, [172])] : List (Nat × List UInt8)).all (fun x => prB x.2 ((cX11_knowsLine.data.toList.drop 61).drop x.1)) = true := by decide +kernel
theorem dX11_knowsLine_61 : decode cX11_knowsLine 61 = .ok (.iconst 1, 1) := op4 (bA_at bd03_dec_X11_0_78 0 rfl rfl)
theorem dX11_knowsLine_62 : decode cX11_knowsLine 62 = .ok (.aload_n 0, 1) := op42 (bA_at bd03_dec_X11_0_78 1 rfl rfl)
theorem dX11_knowsLine_63 : decode cX11_knowsLine 63 = .ok (.getfield 41, 3) := op180 (bA_at bd03_dec_X11_0_78 2 rfl rfl) rfl
theorem dX11_knowsLine_66 : decode cX11_knowsLine 66 = .ok (.iconst 1, 1) := op4 (bA_at bd03_dec_X11_0_78 3 rfl rfl)
theorem dX11_knowsLine_67 : decode cX11_knowsLine 67 = .ok (.iaload, 1) := op46 (bA_at bd03_dec_X11_0_78 4 rfl rfl)
theorem dX11_knowsLine_68 : decode cX11_knowsLine 68 = .ok (.ishl, 1) := op120 (bA_at bd03_dec_X11_0_78 5 rfl rfl)
theorem dX11_knowsLine_69 : decode cX11_knowsLine 69 = .ok (.ior, 1) := op128 (bA_at bd03_dec_X11_0_78 6 rfl rfl)
theorem dX11_knowsLine_70 : decode cX11_knowsLine 70 = .ok (.iastore, 1) := op79 (bA_at bd03_dec_X11_0_78 7 rfl rfl)
theorem dX11_knowsLine_71 : decode cX11_knowsLine 71 = .ok (.iconst 1, 1) := op4 (bA_at bd03_dec_X11_0_78 8 rfl rfl)
theorem dX11_knowsLine_72 : decode cX11_knowsLine 72 = .ok (.ireturn, 1) := op172 (bA_at bd03_dec_X11_0_78 9 rfl rfl)
theorem bd03_dec_X11_0_79 : ([(0, [31]), (1, [20, 0, 187]), (4, [148]), (5, [153, 0, 75]), (8, [31]), (9, [20, 0, 189]), (12, [148]), (13, [153, 0, 67]), (16, [31]), (17, [20, 0, 191]), (20, [148]), (21, [153, 0, 59])] : List (Nat × List UInt8)).all (fun x => prB x.2 ((cX11_isLandWord.data.toList.drop 0).drop x.1)) = true := by decide +kernel
theorem dX11_isLandWord_0 : decode cX11_isLandWord 0 = .ok (.lload_n 1, 1) := op31 (bA_at bd03_dec_X11_0_79 0 rfl rfl)
theorem dX11_isLandWord_1 : decode cX11_isLandWord 1 = .ok (.ldc2_w 187, 3) := op20 (bA_at bd03_dec_X11_0_79 1 rfl rfl) rfl
theorem dX11_isLandWord_4 : decode cX11_isLandWord 4 = .ok (.lcmp, 1) := op148 (bA_at bd03_dec_X11_0_79 2 rfl rfl)
theorem dX11_isLandWord_5 : decode cX11_isLandWord 5 = .ok (.ifCond .eq 75, 3) := op153 (bA_at bd03_dec_X11_0_79 3 rfl rfl) (by decide +kernel)
theorem dX11_isLandWord_8 : decode cX11_isLandWord 8 = .ok (.lload_n 1, 1) := op31 (bA_at bd03_dec_X11_0_79 4 rfl rfl)
theorem dX11_isLandWord_9 : decode cX11_isLandWord 9 = .ok (.ldc2_w 189, 3) := op20 (bA_at bd03_dec_X11_0_79 5 rfl rfl) rfl
theorem dX11_isLandWord_12 : decode cX11_isLandWord 12 = .ok (.lcmp, 1) := op148 (bA_at bd03_dec_X11_0_79 6 rfl rfl)
theorem dX11_isLandWord_13 : decode cX11_isLandWord 13 = .ok (.ifCond .eq 67, 3) := op153 (bA_at bd03_dec_X11_0_79 7 rfl rfl) (by decide +kernel)
theorem dX11_isLandWord_16 : decode cX11_isLandWord 16 = .ok (.lload_n 1, 1) := op31 (bA_at bd03_dec_X11_0_79 8 rfl rfl)
theorem dX11_isLandWord_17 : decode cX11_isLandWord 17 = .ok (.ldc2_w 191, 3) := op20 (bA_at bd03_dec_X11_0_79 9 rfl rfl) rfl
theorem dX11_isLandWord_20 : decode cX11_isLandWord 20 = .ok (.lcmp, 1) := op148 (bA_at bd03_dec_X11_0_79 10 rfl rfl)
theorem dX11_isLandWord_21 : decode cX11_isLandWord 21 = .ok (.ifCond .eq 59, 3) := op153 (bA_at bd03_dec_X11_0_79 11 rfl rfl) (by decide +kernel)
theorem bd03_dec_X11_0_80 : ([(0, [31]), (1, [20, 0, 193]), (4, [148]), (5, [153, 0, 51]), (8, [31]), (9, [20, 0, 195]), (12, [148]), (13, [153, 0, 43]), (16, [31]), (17, [20, 0, 197]), (20, [148]), (21, [153, 0, 35])] : List (Nat × List UInt8)).all (fun x => prB x.2 ((cX11_isLandWord.data.toList.drop 24).drop x.1)) = true := by decide +kernel
theorem dX11_isLandWord_24 : decode cX11_isLandWord 24 = .ok (.lload_n 1, 1) := op31 (bA_at bd03_dec_X11_0_80 0 rfl rfl)
theorem dX11_isLandWord_25 : decode cX11_isLandWord 25 = .ok (.ldc2_w 193, 3) := op20 (bA_at bd03_dec_X11_0_80 1 rfl rfl) rfl
theorem dX11_isLandWord_28 : decode cX11_isLandWord 28 = .ok (.lcmp, 1) := op148 (bA_at bd03_dec_X11_0_80 2 rfl rfl)
theorem dX11_isLandWord_29 : decode cX11_isLandWord 29 = .ok (.ifCond .eq 51, 3) := op153 (bA_at bd03_dec_X11_0_80 3 rfl rfl) (by decide +kernel)
theorem dX11_isLandWord_32 : decode cX11_isLandWord 32 = .ok (.lload_n 1, 1) := op31 (bA_at bd03_dec_X11_0_80 4 rfl rfl)
theorem dX11_isLandWord_33 : decode cX11_isLandWord 33 = .ok (.ldc2_w 195, 3) := op20 (bA_at bd03_dec_X11_0_80 5 rfl rfl) rfl
theorem dX11_isLandWord_36 : decode cX11_isLandWord 36 = .ok (.lcmp, 1) := op148 (bA_at bd03_dec_X11_0_80 6 rfl rfl)
theorem dX11_isLandWord_37 : decode cX11_isLandWord 37 = .ok (.ifCond .eq 43, 3) := op153 (bA_at bd03_dec_X11_0_80 7 rfl rfl) (by decide +kernel)
theorem dX11_isLandWord_40 : decode cX11_isLandWord 40 = .ok (.lload_n 1, 1) := op31 (bA_at bd03_dec_X11_0_80 8 rfl rfl)
theorem dX11_isLandWord_41 : decode cX11_isLandWord 41 = .ok (.ldc2_w 197, 3) := op20 (bA_at bd03_dec_X11_0_80 9 rfl rfl) rfl
theorem dX11_isLandWord_44 : decode cX11_isLandWord 44 = .ok (.lcmp, 1) := op148 (bA_at bd03_dec_X11_0_80 10 rfl rfl)
theorem dX11_isLandWord_45 : decode cX11_isLandWord 45 = .ok (.ifCond .eq 35, 3) := op153 (bA_at bd03_dec_X11_0_80 11 rfl rfl) (by decide +kernel)
theorem bd03_dec_X11_0_81 : ([(0, [31]), (1, [20, 0, 199]), (4, [148]), (5, [153, 0, 27]), (8, [31]), (9, [20, 0, 201]), (12, [148]), (13, [153, 0, 19]), (16, [31]), (17, [20, 0, 203]), (20, [148]), (21, [153, 0, 11])] : List (Nat × List UInt8)).all (fun x => prB x.2 ((cX11_isLandWord.data.toList.drop 48).drop x.1)) = true := by decide +kernel
theorem dX11_isLandWord_48 : decode cX11_isLandWord 48 = .ok (.lload_n 1, 1) := op31 (bA_at bd03_dec_X11_0_81 0 rfl rfl)
theorem dX11_isLandWord_49 : decode cX11_isLandWord 49 = .ok (.ldc2_w 199, 3) := op20 (bA_at bd03_dec_X11_0_81 1 rfl rfl) rfl
theorem dX11_isLandWord_52 : decode cX11_isLandWord 52 = .ok (.lcmp, 1) := op148 (bA_at bd03_dec_X11_0_81 2 rfl rfl)
theorem dX11_isLandWord_53 : decode cX11_isLandWord 53 = .ok (.ifCond .eq 27, 3) := op153 (bA_at bd03_dec_X11_0_81 3 rfl rfl) (by decide +kernel)
theorem dX11_isLandWord_56 : decode cX11_isLandWord 56 = .ok (.lload_n 1, 1) := op31 (bA_at bd03_dec_X11_0_81 4 rfl rfl)
theorem dX11_isLandWord_57 : decode cX11_isLandWord 57 = .ok (.ldc2_w 201, 3) := op20 (bA_at bd03_dec_X11_0_81 5 rfl rfl) rfl
theorem dX11_isLandWord_60 : decode cX11_isLandWord 60 = .ok (.lcmp, 1) := op148 (bA_at bd03_dec_X11_0_81 6 rfl rfl)
theorem dX11_isLandWord_61 : decode cX11_isLandWord 61 = .ok (.ifCond .eq 19, 3) := op153 (bA_at bd03_dec_X11_0_81 7 rfl rfl) (by decide +kernel)
theorem dX11_isLandWord_64 : decode cX11_isLandWord 64 = .ok (.lload_n 1, 1) := op31 (bA_at bd03_dec_X11_0_81 8 rfl rfl)
theorem dX11_isLandWord_65 : decode cX11_isLandWord 65 = .ok (.ldc2_w 203, 3) := op20 (bA_at bd03_dec_X11_0_81 9 rfl rfl) rfl
theorem dX11_isLandWord_68 : decode cX11_isLandWord 68 = .ok (.lcmp, 1) := op148 (bA_at bd03_dec_X11_0_81 10 rfl rfl)
theorem dX11_isLandWord_69 : decode cX11_isLandWord 69 = .ok (.ifCond .eq 11, 3) := op153 (bA_at bd03_dec_X11_0_81 11 rfl rfl) (by decide +kernel)
theorem bd03_dec_X11_0_82 : ([(0, [31]), (1, [20, 0, 205]), (4, [148]), (5, [154, 0, 7]), (8, [4]), (9, [167, 0, 4]), (12, [3]), (13, [172])] : List (Nat × List UInt8)).all (fun x => prB x.2 ((cX11_isLandWord.data.toList.drop 72).drop x.1)) = true := by decide +kernel
theorem dX11_isLandWord_72 : decode cX11_isLandWord 72 = .ok (.lload_n 1, 1) := op31 (bA_at bd03_dec_X11_0_82 0 rfl rfl)
theorem dX11_isLandWord_73 : decode cX11_isLandWord 73 = .ok (.ldc2_w 205, 3) := op20 (bA_at bd03_dec_X11_0_82 1 rfl rfl) rfl
theorem dX11_isLandWord_76 : decode cX11_isLandWord 76 = .ok (.lcmp, 1) := op148 (bA_at bd03_dec_X11_0_82 2 rfl rfl)
theorem dX11_isLandWord_77 : decode cX11_isLandWord 77 = .ok (.ifCond .ne 7, 3) := op154 (bA_at bd03_dec_X11_0_82 3 rfl rfl) (by decide +kernel)
theorem dX11_isLandWord_80 : decode cX11_isLandWord 80 = .ok (.iconst 1, 1) := op4 (bA_at bd03_dec_X11_0_82 4 rfl rfl)
theorem dX11_isLandWord_81 : decode cX11_isLandWord 81 = .ok (.goto 4, 3) := op167 (bA_at bd03_dec_X11_0_82 5 rfl rfl) (by decide +kernel)
theorem dX11_isLandWord_84 : decode cX11_isLandWord 84 = .ok (.iconst 0, 1) := op3 (bA_at bd03_dec_X11_0_82 6 rfl rfl)
theorem dX11_isLandWord_85 : decode cX11_isLandWord 85 = .ok (.ireturn, 1) := op172 (bA_at bd03_dec_X11_0_82 7 rfl rfl)
theorem bd03_dec_X11_0_83 : ([(0, [42]), (1, [31]), (2, [182, 0, 207]), (5, [154, 0, 8]), (8, [42]), (9, [182, 0, 149]), (12, [172]), (13, [31]), (14, [20, 0, 187]), (17, [148]), (18, [154, 0, 11]), (21, [42])] : List (Nat × List UInt8)).all (fun x => prB x.2 ((cX11_landLine.data.toList.drop 0).drop x.1)) = true := by decide +kernel
theorem dX11_landLine_0 : decode cX11_landLine 0 = .ok (.aload_n 0, 1) := op42 (bA_at bd03_dec_X11_0_83 0 rfl rfl)
theorem dX11_landLine_1 : decode cX11_landLine 1 = .ok (.lload_n 1, 1) := op31 (bA_at bd03_dec_X11_0_83 1 rfl rfl)
theorem dX11_landLine_2 : decode cX11_landLine 2 = .ok (.invokevirtual 207, 3) := op182 (bA_at bd03_dec_X11_0_83 2 rfl rfl) rfl
theorem dX11_landLine_5 : decode cX11_landLine 5 = .ok (.ifCond .ne 8, 3) := op154 (bA_at bd03_dec_X11_0_83 3 rfl rfl) (by decide +kernel)
theorem dX11_landLine_8 : decode cX11_landLine 8 = .ok (.aload_n 0, 1) := op42 (bA_at bd03_dec_X11_0_83 4 rfl rfl)
theorem dX11_landLine_9 : decode cX11_landLine 9 = .ok (.invokevirtual 149, 3) := op182 (bA_at bd03_dec_X11_0_83 5 rfl rfl) rfl
theorem dX11_landLine_12 : decode cX11_landLine 12 = .ok (.ireturn, 1) := op172 (bA_at bd03_dec_X11_0_83 6 rfl rfl)
theorem dX11_landLine_13 : decode cX11_landLine 13 = .ok (.lload_n 1, 1) := op31 (bA_at bd03_dec_X11_0_83 7 rfl rfl)
theorem dX11_landLine_14 : decode cX11_landLine 14 = .ok (.ldc2_w 187, 3) := op20 (bA_at bd03_dec_X11_0_83 8 rfl rfl) rfl
theorem dX11_landLine_17 : decode cX11_landLine 17 = .ok (.lcmp, 1) := op148 (bA_at bd03_dec_X11_0_83 9 rfl rfl)
theorem dX11_landLine_18 : decode cX11_landLine 18 = .ok (.ifCond .ne 11, 3) := op154 (bA_at bd03_dec_X11_0_83 10 rfl rfl) (by decide +kernel)
theorem dX11_landLine_21 : decode cX11_landLine 21 = .ok (.aload_n 0, 1) := op42 (bA_at bd03_dec_X11_0_83 11 rfl rfl)
theorem bd03_dec_X11_0_84 : ([(0, [3]), (1, [16, 9]), (3, [29]), (4, [182, 0, 211]), (7, [31]), (8, [20, 0, 199]), (11, [148]), (12, [154, 0, 10]), (15, [42]), (16, [7]), (17, [7]), (18, [29])] : List (Nat × List UInt8)).all (fun x => prB x.2 ((cX11_landLine.data.toList.drop 22).drop x.1)) = true := by decide +kernel
theorem dX11_landLine_22 : decode cX11_landLine 22 = .ok (.iconst 0, 1) := op3 (bA_at bd03_dec_X11_0_84 0 rfl rfl)
theorem dX11_landLine_23 : decode cX11_landLine 23 = .ok (.bipush 9, 2) := op16 (bA_at bd03_dec_X11_0_84 1 rfl rfl) (by decide +kernel)
theorem dX11_landLine_25 : decode cX11_landLine 25 = .ok (.iload_n 3, 1) := op29 (bA_at bd03_dec_X11_0_84 2 rfl rfl)
theorem dX11_landLine_26 : decode cX11_landLine 26 = .ok (.invokevirtual 211, 3) := op182 (bA_at bd03_dec_X11_0_84 3 rfl rfl) rfl
theorem dX11_landLine_29 : decode cX11_landLine 29 = .ok (.lload_n 1, 1) := op31 (bA_at bd03_dec_X11_0_84 4 rfl rfl)
theorem dX11_landLine_30 : decode cX11_landLine 30 = .ok (.ldc2_w 199, 3) := op20 (bA_at bd03_dec_X11_0_84 5 rfl rfl) rfl
theorem dX11_landLine_33 : decode cX11_landLine 33 = .ok (.lcmp, 1) := op148 (bA_at bd03_dec_X11_0_84 6 rfl rfl)
theorem dX11_landLine_34 : decode cX11_landLine 34 = .ok (.ifCond .ne 10, 3) := op154 (bA_at bd03_dec_X11_0_84 7 rfl rfl) (by decide +kernel)
theorem dX11_landLine_37 : decode cX11_landLine 37 = .ok (.aload_n 0, 1) := op42 (bA_at bd03_dec_X11_0_84 8 rfl rfl)
theorem dX11_landLine_38 : decode cX11_landLine 38 = .ok (.iconst 4, 1) := op7 (bA_at bd03_dec_X11_0_84 9 rfl rfl)
theorem dX11_landLine_39 : decode cX11_landLine 39 = .ok (.iconst 4, 1) := op7 (bA_at bd03_dec_X11_0_84 10 rfl rfl)
theorem dX11_landLine_40 : decode cX11_landLine 40 = .ok (.iload_n 3, 1) := op29 (bA_at bd03_dec_X11_0_84 11 rfl rfl)
theorem bd03_dec_X11_0_85 : ([(0, [182, 0, 211]), (3, [31]), (4, [20, 0, 203]), (7, [148]), (8, [154, 0, 11]), (11, [42]), (12, [4]), (13, [16, 6]), (15, [29]), (16, [182, 0, 211]), (19, [42]), (20, [182, 0, 161])] : List (Nat × List UInt8)).all (fun x => prB x.2 ((cX11_landLine.data.toList.drop 41).drop x.1)) = true := by decide +kernel
theorem dX11_landLine_41 : decode cX11_landLine 41 = .ok (.invokevirtual 211, 3) := op182 (bA_at bd03_dec_X11_0_85 0 rfl rfl) rfl
theorem dX11_landLine_44 : decode cX11_landLine 44 = .ok (.lload_n 1, 1) := op31 (bA_at bd03_dec_X11_0_85 1 rfl rfl)
theorem dX11_landLine_45 : decode cX11_landLine 45 = .ok (.ldc2_w 203, 3) := op20 (bA_at bd03_dec_X11_0_85 2 rfl rfl) rfl
theorem dX11_landLine_48 : decode cX11_landLine 48 = .ok (.lcmp, 1) := op148 (bA_at bd03_dec_X11_0_85 3 rfl rfl)
theorem dX11_landLine_49 : decode cX11_landLine 49 = .ok (.ifCond .ne 11, 3) := op154 (bA_at bd03_dec_X11_0_85 4 rfl rfl) (by decide +kernel)
theorem dX11_landLine_52 : decode cX11_landLine 52 = .ok (.aload_n 0, 1) := op42 (bA_at bd03_dec_X11_0_85 5 rfl rfl)
theorem dX11_landLine_53 : decode cX11_landLine 53 = .ok (.iconst 1, 1) := op4 (bA_at bd03_dec_X11_0_85 6 rfl rfl)
theorem dX11_landLine_54 : decode cX11_landLine 54 = .ok (.bipush 6, 2) := op16 (bA_at bd03_dec_X11_0_85 7 rfl rfl) (by decide +kernel)
theorem dX11_landLine_56 : decode cX11_landLine 56 = .ok (.iload_n 3, 1) := op29 (bA_at bd03_dec_X11_0_85 8 rfl rfl)
theorem dX11_landLine_57 : decode cX11_landLine 57 = .ok (.invokevirtual 211, 3) := op182 (bA_at bd03_dec_X11_0_85 9 rfl rfl) rfl
theorem dX11_landLine_60 : decode cX11_landLine 60 = .ok (.aload_n 0, 1) := op42 (bA_at bd03_dec_X11_0_85 10 rfl rfl)
theorem dX11_landLine_61 : decode cX11_landLine 61 = .ok (.invokevirtual 161, 3) := op182 (bA_at bd03_dec_X11_0_85 11 rfl rfl) rfl
theorem bd03_dec_X11_0_86 : ([(0, [31]), (1, [20, 0, 187]), (4, [148]), (5, [154, 0, 8]), (8, [42]), (9, [182, 0, 215]), (12, [172]), (13, [31]), (14, [20, 0, 189]), (17, [148]), (18, [153, 0, 11]), (21, [31])] : List (Nat × List UInt8)).all (fun x => prB x.2 ((cX11_landLine.data.toList.drop 64).drop x.1)) = true := by decide +kernel
theorem dX11_landLine_64 : decode cX11_landLine 64 = .ok (.lload_n 1, 1) := op31 (bA_at bd03_dec_X11_0_86 0 rfl rfl)
theorem dX11_landLine_65 : decode cX11_landLine 65 = .ok (.ldc2_w 187, 3) := op20 (bA_at bd03_dec_X11_0_86 1 rfl rfl) rfl
theorem dX11_landLine_68 : decode cX11_landLine 68 = .ok (.lcmp, 1) := op148 (bA_at bd03_dec_X11_0_86 2 rfl rfl)
theorem dX11_landLine_69 : decode cX11_landLine 69 = .ok (.ifCond .ne 8, 3) := op154 (bA_at bd03_dec_X11_0_86 3 rfl rfl) (by decide +kernel)
theorem dX11_landLine_72 : decode cX11_landLine 72 = .ok (.aload_n 0, 1) := op42 (bA_at bd03_dec_X11_0_86 4 rfl rfl)
theorem dX11_landLine_73 : decode cX11_landLine 73 = .ok (.invokevirtual 215, 3) := op182 (bA_at bd03_dec_X11_0_86 5 rfl rfl) rfl
theorem dX11_landLine_76 : decode cX11_landLine 76 = .ok (.ireturn, 1) := op172 (bA_at bd03_dec_X11_0_86 6 rfl rfl)
theorem dX11_landLine_77 : decode cX11_landLine 77 = .ok (.lload_n 1, 1) := op31 (bA_at bd03_dec_X11_0_86 7 rfl rfl)
theorem dX11_landLine_78 : decode cX11_landLine 78 = .ok (.ldc2_w 189, 3) := op20 (bA_at bd03_dec_X11_0_86 8 rfl rfl) rfl
theorem dX11_landLine_81 : decode cX11_landLine 81 = .ok (.lcmp, 1) := op148 (bA_at bd03_dec_X11_0_86 9 rfl rfl)
theorem dX11_landLine_82 : decode cX11_landLine 82 = .ok (.ifCond .eq 11, 3) := op153 (bA_at bd03_dec_X11_0_86 10 rfl rfl) (by decide +kernel)
theorem dX11_landLine_85 : decode cX11_landLine 85 = .ok (.lload_n 1, 1) := op31 (bA_at bd03_dec_X11_0_86 11 rfl rfl)
theorem bd03_dec_X11_0_87 : ([(0, [20, 0, 191]), (3, [148]), (4, [154, 0, 21]), (7, [42]), (8, [31]), (9, [20, 0, 189]), (12, [148]), (13, [154, 0, 7]), (16, [5]), (17, [167, 0, 4]), (20, [6]), (21, [182, 0, 218])] : List (Nat × List UInt8)).all (fun x => prB x.2 ((cX11_landLine.data.toList.drop 86).drop x.1)) = true := by decide +kernel
theorem dX11_landLine_86 : decode cX11_landLine 86 = .ok (.ldc2_w 191, 3) := op20 (bA_at bd03_dec_X11_0_87 0 rfl rfl) rfl
theorem dX11_landLine_89 : decode cX11_landLine 89 = .ok (.lcmp, 1) := op148 (bA_at bd03_dec_X11_0_87 1 rfl rfl)
theorem dX11_landLine_90 : decode cX11_landLine 90 = .ok (.ifCond .ne 21, 3) := op154 (bA_at bd03_dec_X11_0_87 2 rfl rfl) (by decide +kernel)
theorem dX11_landLine_93 : decode cX11_landLine 93 = .ok (.aload_n 0, 1) := op42 (bA_at bd03_dec_X11_0_87 3 rfl rfl)
theorem dX11_landLine_94 : decode cX11_landLine 94 = .ok (.lload_n 1, 1) := op31 (bA_at bd03_dec_X11_0_87 4 rfl rfl)
theorem dX11_landLine_95 : decode cX11_landLine 95 = .ok (.ldc2_w 189, 3) := op20 (bA_at bd03_dec_X11_0_87 5 rfl rfl) rfl
theorem dX11_landLine_98 : decode cX11_landLine 98 = .ok (.lcmp, 1) := op148 (bA_at bd03_dec_X11_0_87 6 rfl rfl)
theorem dX11_landLine_99 : decode cX11_landLine 99 = .ok (.ifCond .ne 7, 3) := op154 (bA_at bd03_dec_X11_0_87 7 rfl rfl) (by decide +kernel)
theorem dX11_landLine_102 : decode cX11_landLine 102 = .ok (.iconst 2, 1) := op5 (bA_at bd03_dec_X11_0_87 8 rfl rfl)
theorem dX11_landLine_103 : decode cX11_landLine 103 = .ok (.goto 4, 3) := op167 (bA_at bd03_dec_X11_0_87 9 rfl rfl) (by decide +kernel)
theorem dX11_landLine_106 : decode cX11_landLine 106 = .ok (.iconst 3, 1) := op6 (bA_at bd03_dec_X11_0_87 10 rfl rfl)
theorem dX11_landLine_107 : decode cX11_landLine 107 = .ok (.invokevirtual 218, 3) := op182 (bA_at bd03_dec_X11_0_87 11 rfl rfl) rfl
theorem bd03_dec_X11_0_88 : ([(0, [172]), (1, [31]), (2, [20, 0, 193]), (5, [148]), (6, [154, 0, 12]), (9, [42]), (10, [8]), (11, [4]), (12, [16, 9]), (14, [182, 0, 222]), (17, [172]), (18, [31])] : List (Nat × List UInt8)).all (fun x => prB x.2 ((cX11_landLine.data.toList.drop 110).drop x.1)) = true := by decide +kernel
theorem dX11_landLine_110 : decode cX11_landLine 110 = .ok (.ireturn, 1) := op172 (bA_at bd03_dec_X11_0_88 0 rfl rfl)
theorem dX11_landLine_111 : decode cX11_landLine 111 = .ok (.lload_n 1, 1) := op31 (bA_at bd03_dec_X11_0_88 1 rfl rfl)
theorem dX11_landLine_112 : decode cX11_landLine 112 = .ok (.ldc2_w 193, 3) := op20 (bA_at bd03_dec_X11_0_88 2 rfl rfl) rfl
theorem dX11_landLine_115 : decode cX11_landLine 115 = .ok (.lcmp, 1) := op148 (bA_at bd03_dec_X11_0_88 3 rfl rfl)
theorem dX11_landLine_116 : decode cX11_landLine 116 = .ok (.ifCond .ne 12, 3) := op154 (bA_at bd03_dec_X11_0_88 4 rfl rfl) (by decide +kernel)
theorem dX11_landLine_119 : decode cX11_landLine 119 = .ok (.aload_n 0, 1) := op42 (bA_at bd03_dec_X11_0_88 5 rfl rfl)
theorem dX11_landLine_120 : decode cX11_landLine 120 = .ok (.iconst 5, 1) := op8 (bA_at bd03_dec_X11_0_88 6 rfl rfl)
theorem dX11_landLine_121 : decode cX11_landLine 121 = .ok (.iconst 1, 1) := op4 (bA_at bd03_dec_X11_0_88 7 rfl rfl)
theorem dX11_landLine_122 : decode cX11_landLine 122 = .ok (.bipush 9, 2) := op16 (bA_at bd03_dec_X11_0_88 8 rfl rfl) (by decide +kernel)
theorem dX11_landLine_124 : decode cX11_landLine 124 = .ok (.invokevirtual 222, 3) := op182 (bA_at bd03_dec_X11_0_88 9 rfl rfl) rfl
theorem dX11_landLine_127 : decode cX11_landLine 127 = .ok (.ireturn, 1) := op172 (bA_at bd03_dec_X11_0_88 10 rfl rfl)
theorem dX11_landLine_128 : decode cX11_landLine 128 = .ok (.lload_n 1, 1) := op31 (bA_at bd03_dec_X11_0_88 11 rfl rfl)
theorem bd03_dec_X11_0_89 : ([(0, [20, 0, 195]), (3, [148]), (4, [154, 0, 13]), (7, [42]), (8, [16, 6]), (10, [3]), (11, [16, 10]), (13, [182, 0, 222]), (16, [172]), (17, [31]), (18, [20, 0, 197]), (21, [148])] : List (Nat × List UInt8)).all (fun x => prB x.2 ((cX11_landLine.data.toList.drop 129).drop x.1)) = true := by decide +kernel
theorem dX11_landLine_129 : decode cX11_landLine 129 = .ok (.ldc2_w 195, 3) := op20 (bA_at bd03_dec_X11_0_89 0 rfl rfl) rfl
theorem dX11_landLine_132 : decode cX11_landLine 132 = .ok (.lcmp, 1) := op148 (bA_at bd03_dec_X11_0_89 1 rfl rfl)
theorem dX11_landLine_133 : decode cX11_landLine 133 = .ok (.ifCond .ne 13, 3) := op154 (bA_at bd03_dec_X11_0_89 2 rfl rfl) (by decide +kernel)
theorem dX11_landLine_136 : decode cX11_landLine 136 = .ok (.aload_n 0, 1) := op42 (bA_at bd03_dec_X11_0_89 3 rfl rfl)
theorem dX11_landLine_137 : decode cX11_landLine 137 = .ok (.bipush 6, 2) := op16 (bA_at bd03_dec_X11_0_89 4 rfl rfl) (by decide +kernel)
theorem dX11_landLine_139 : decode cX11_landLine 139 = .ok (.iconst 0, 1) := op3 (bA_at bd03_dec_X11_0_89 5 rfl rfl)
theorem dX11_landLine_140 : decode cX11_landLine 140 = .ok (.bipush 10, 2) := op16 (bA_at bd03_dec_X11_0_89 6 rfl rfl) (by decide +kernel)
theorem dX11_landLine_142 : decode cX11_landLine 142 = .ok (.invokevirtual 222, 3) := op182 (bA_at bd03_dec_X11_0_89 7 rfl rfl) rfl
theorem dX11_landLine_145 : decode cX11_landLine 145 = .ok (.ireturn, 1) := op172 (bA_at bd03_dec_X11_0_89 8 rfl rfl)
theorem dX11_landLine_146 : decode cX11_landLine 146 = .ok (.lload_n 1, 1) := op31 (bA_at bd03_dec_X11_0_89 9 rfl rfl)
theorem dX11_landLine_147 : decode cX11_landLine 147 = .ok (.ldc2_w 197, 3) := op20 (bA_at bd03_dec_X11_0_89 10 rfl rfl) rfl
theorem dX11_landLine_150 : decode cX11_landLine 150 = .ok (.lcmp, 1) := op148 (bA_at bd03_dec_X11_0_89 11 rfl rfl)
theorem bd03_dec_X11_0_90 : ([(0, [154, 0, 10]), (3, [42]), (4, [182, 0, 225]), (7, [167, 0, 52]), (10, [31]), (11, [20, 0, 199]), (14, [148]), (15, [154, 0, 10]), (18, [42]), (19, [182, 0, 228]), (22, [167, 0, 37]), (25, [31])] : List (Nat × List UInt8)).all (fun x => prB x.2 ((cX11_landLine.data.toList.drop 151).drop x.1)) = true := by decide +kernel
theorem dX11_landLine_151 : decode cX11_landLine 151 = .ok (.ifCond .ne 10, 3) := op154 (bA_at bd03_dec_X11_0_90 0 rfl rfl) (by decide +kernel)
theorem dX11_landLine_154 : decode cX11_landLine 154 = .ok (.aload_n 0, 1) := op42 (bA_at bd03_dec_X11_0_90 1 rfl rfl)
theorem dX11_landLine_155 : decode cX11_landLine 155 = .ok (.invokevirtual 225, 3) := op182 (bA_at bd03_dec_X11_0_90 2 rfl rfl) rfl
theorem dX11_landLine_158 : decode cX11_landLine 158 = .ok (.goto 52, 3) := op167 (bA_at bd03_dec_X11_0_90 3 rfl rfl) (by decide +kernel)
theorem dX11_landLine_161 : decode cX11_landLine 161 = .ok (.lload_n 1, 1) := op31 (bA_at bd03_dec_X11_0_90 4 rfl rfl)
theorem dX11_landLine_162 : decode cX11_landLine 162 = .ok (.ldc2_w 199, 3) := op20 (bA_at bd03_dec_X11_0_90 5 rfl rfl) rfl
theorem dX11_landLine_165 : decode cX11_landLine 165 = .ok (.lcmp, 1) := op148 (bA_at bd03_dec_X11_0_90 6 rfl rfl)
theorem dX11_landLine_166 : decode cX11_landLine 166 = .ok (.ifCond .ne 10, 3) := op154 (bA_at bd03_dec_X11_0_90 7 rfl rfl) (by decide +kernel)
theorem dX11_landLine_169 : decode cX11_landLine 169 = .ok (.aload_n 0, 1) := op42 (bA_at bd03_dec_X11_0_90 8 rfl rfl)
theorem dX11_landLine_170 : decode cX11_landLine 170 = .ok (.invokevirtual 228, 3) := op182 (bA_at bd03_dec_X11_0_90 9 rfl rfl) rfl
theorem dX11_landLine_173 : decode cX11_landLine 173 = .ok (.goto 37, 3) := op167 (bA_at bd03_dec_X11_0_90 10 rfl rfl) (by decide +kernel)
theorem dX11_landLine_176 : decode cX11_landLine 176 = .ok (.lload_n 1, 1) := op31 (bA_at bd03_dec_X11_0_90 11 rfl rfl)
theorem bd03_dec_X11_0_91 : ([(0, [20, 0, 201]), (3, [148]), (4, [154, 0, 10]), (7, [42]), (8, [182, 0, 231]), (11, [167, 0, 22]), (14, [31]), (15, [20, 0, 203]), (18, [148]), (19, [154, 0, 10]), (22, [42]), (23, [182, 0, 234])] : List (Nat × List UInt8)).all (fun x => prB x.2 ((cX11_landLine.data.toList.drop 177).drop x.1)) = true := by decide +kernel
theorem dX11_landLine_177 : decode cX11_landLine 177 = .ok (.ldc2_w 201, 3) := op20 (bA_at bd03_dec_X11_0_91 0 rfl rfl) rfl
theorem dX11_landLine_180 : decode cX11_landLine 180 = .ok (.lcmp, 1) := op148 (bA_at bd03_dec_X11_0_91 1 rfl rfl)
theorem dX11_landLine_181 : decode cX11_landLine 181 = .ok (.ifCond .ne 10, 3) := op154 (bA_at bd03_dec_X11_0_91 2 rfl rfl) (by decide +kernel)
theorem dX11_landLine_184 : decode cX11_landLine 184 = .ok (.aload_n 0, 1) := op42 (bA_at bd03_dec_X11_0_91 3 rfl rfl)
theorem dX11_landLine_185 : decode cX11_landLine 185 = .ok (.invokevirtual 231, 3) := op182 (bA_at bd03_dec_X11_0_91 4 rfl rfl) rfl
theorem dX11_landLine_188 : decode cX11_landLine 188 = .ok (.goto 22, 3) := op167 (bA_at bd03_dec_X11_0_91 5 rfl rfl) (by decide +kernel)
theorem dX11_landLine_191 : decode cX11_landLine 191 = .ok (.lload_n 1, 1) := op31 (bA_at bd03_dec_X11_0_91 6 rfl rfl)
theorem dX11_landLine_192 : decode cX11_landLine 192 = .ok (.ldc2_w 203, 3) := op20 (bA_at bd03_dec_X11_0_91 7 rfl rfl) rfl
theorem dX11_landLine_195 : decode cX11_landLine 195 = .ok (.lcmp, 1) := op148 (bA_at bd03_dec_X11_0_91 8 rfl rfl)
theorem dX11_landLine_196 : decode cX11_landLine 196 = .ok (.ifCond .ne 10, 3) := op154 (bA_at bd03_dec_X11_0_91 9 rfl rfl) (by decide +kernel)
theorem dX11_landLine_199 : decode cX11_landLine 199 = .ok (.aload_n 0, 1) := op42 (bA_at bd03_dec_X11_0_91 10 rfl rfl)
theorem dX11_landLine_200 : decode cX11_landLine 200 = .ok (.invokevirtual 234, 3) := op182 (bA_at bd03_dec_X11_0_91 11 rfl rfl) rfl
theorem bd03_dec_X11_0_92 : ([(0, [167, 0, 7]), (3, [42]), (4, [182, 0, 237]), (7, [172])] : List (Nat × List UInt8)).all (fun x => prB x.2 ((cX11_landLine.data.toList.drop 203).drop x.1)) = true := by decide +kernel
theorem dX11_landLine_203 : decode cX11_landLine 203 = .ok (.goto 7, 3) := op167 (bA_at bd03_dec_X11_0_92 0 rfl rfl) (by decide +kernel)
theorem dX11_landLine_206 : decode cX11_landLine 206 = .ok (.aload_n 0, 1) := op42 (bA_at bd03_dec_X11_0_92 1 rfl rfl)
theorem dX11_landLine_207 : decode cX11_landLine 207 = .ok (.invokevirtual 237, 3) := op182 (bA_at bd03_dec_X11_0_92 2 rfl rfl) rfl
theorem dX11_landLine_210 : decode cX11_landLine 210 = .ok (.ireturn, 1) := op172 (bA_at bd03_dec_X11_0_92 3 rfl rfl)
theorem bd03_dec_X11_0_93 : ([(0, [30]), (1, [20, 0, 240]), (4, [148]), (5, [154, 0, 7]), (8, [3]), (9, [167, 0, 64]), (12, [30]), (13, [20, 0, 242]), (16, [148]), (17, [154, 0, 7]), (20, [4]), (21, [167, 0, 52])] : List (Nat × List UInt8)).all (fun x => prB x.2 ((cX11_deedBy.data.toList.drop 0).drop x.1)) = true := by decide +kernel
theorem dX11_deedBy_0 : decode cX11_deedBy 0 = .ok (.lload_n 0, 1) := op30 (bA_at bd03_dec_X11_0_93 0 rfl rfl)
theorem dX11_deedBy_1 : decode cX11_deedBy 1 = .ok (.ldc2_w 240, 3) := op20 (bA_at bd03_dec_X11_0_93 1 rfl rfl) rfl
theorem dX11_deedBy_4 : decode cX11_deedBy 4 = .ok (.lcmp, 1) := op148 (bA_at bd03_dec_X11_0_93 2 rfl rfl)
theorem dX11_deedBy_5 : decode cX11_deedBy 5 = .ok (.ifCond .ne 7, 3) := op154 (bA_at bd03_dec_X11_0_93 3 rfl rfl) (by decide +kernel)
theorem dX11_deedBy_8 : decode cX11_deedBy 8 = .ok (.iconst 0, 1) := op3 (bA_at bd03_dec_X11_0_93 4 rfl rfl)
theorem dX11_deedBy_9 : decode cX11_deedBy 9 = .ok (.goto 64, 3) := op167 (bA_at bd03_dec_X11_0_93 5 rfl rfl) (by decide +kernel)
theorem dX11_deedBy_12 : decode cX11_deedBy 12 = .ok (.lload_n 0, 1) := op30 (bA_at bd03_dec_X11_0_93 6 rfl rfl)
theorem dX11_deedBy_13 : decode cX11_deedBy 13 = .ok (.ldc2_w 242, 3) := op20 (bA_at bd03_dec_X11_0_93 7 rfl rfl) rfl
theorem dX11_deedBy_16 : decode cX11_deedBy 16 = .ok (.lcmp, 1) := op148 (bA_at bd03_dec_X11_0_93 8 rfl rfl)
theorem dX11_deedBy_17 : decode cX11_deedBy 17 = .ok (.ifCond .ne 7, 3) := op154 (bA_at bd03_dec_X11_0_93 9 rfl rfl) (by decide +kernel)
theorem dX11_deedBy_20 : decode cX11_deedBy 20 = .ok (.iconst 1, 1) := op4 (bA_at bd03_dec_X11_0_93 10 rfl rfl)
theorem dX11_deedBy_21 : decode cX11_deedBy 21 = .ok (.goto 52, 3) := op167 (bA_at bd03_dec_X11_0_93 11 rfl rfl) (by decide +kernel)
theorem bd03_dec_X11_0_94 : ([(0, [30]), (1, [20, 0, 244]), (4, [148]), (5, [154, 0, 7]), (8, [5]), (9, [167, 0, 40]), (12, [30]), (13, [20, 0, 246]), (16, [148]), (17, [154, 0, 7]), (20, [6]), (21, [167, 0, 28])] : List (Nat × List UInt8)).all (fun x => prB x.2 ((cX11_deedBy.data.toList.drop 24).drop x.1)) = true := by decide +kernel
theorem dX11_deedBy_24 : decode cX11_deedBy 24 = .ok (.lload_n 0, 1) := op30 (bA_at bd03_dec_X11_0_94 0 rfl rfl)
theorem dX11_deedBy_25 : decode cX11_deedBy 25 = .ok (.ldc2_w 244, 3) := op20 (bA_at bd03_dec_X11_0_94 1 rfl rfl) rfl
theorem dX11_deedBy_28 : decode cX11_deedBy 28 = .ok (.lcmp, 1) := op148 (bA_at bd03_dec_X11_0_94 2 rfl rfl)
theorem dX11_deedBy_29 : decode cX11_deedBy 29 = .ok (.ifCond .ne 7, 3) := op154 (bA_at bd03_dec_X11_0_94 3 rfl rfl) (by decide +kernel)
theorem dX11_deedBy_32 : decode cX11_deedBy 32 = .ok (.iconst 2, 1) := op5 (bA_at bd03_dec_X11_0_94 4 rfl rfl)
theorem dX11_deedBy_33 : decode cX11_deedBy 33 = .ok (.goto 40, 3) := op167 (bA_at bd03_dec_X11_0_94 5 rfl rfl) (by decide +kernel)
theorem dX11_deedBy_36 : decode cX11_deedBy 36 = .ok (.lload_n 0, 1) := op30 (bA_at bd03_dec_X11_0_94 6 rfl rfl)
theorem dX11_deedBy_37 : decode cX11_deedBy 37 = .ok (.ldc2_w 246, 3) := op20 (bA_at bd03_dec_X11_0_94 7 rfl rfl) rfl
theorem dX11_deedBy_40 : decode cX11_deedBy 40 = .ok (.lcmp, 1) := op148 (bA_at bd03_dec_X11_0_94 8 rfl rfl)
theorem dX11_deedBy_41 : decode cX11_deedBy 41 = .ok (.ifCond .ne 7, 3) := op154 (bA_at bd03_dec_X11_0_94 9 rfl rfl) (by decide +kernel)
theorem dX11_deedBy_44 : decode cX11_deedBy 44 = .ok (.iconst 3, 1) := op6 (bA_at bd03_dec_X11_0_94 10 rfl rfl)
theorem dX11_deedBy_45 : decode cX11_deedBy 45 = .ok (.goto 28, 3) := op167 (bA_at bd03_dec_X11_0_94 11 rfl rfl) (by decide +kernel)
theorem bd03_dec_X11_0_95 : ([(0, [30]), (1, [20, 0, 248]), (4, [148]), (5, [154, 0, 7]), (8, [7]), (9, [167, 0, 16]), (12, [30]), (13, [20, 0, 250]), (16, [148]), (17, [154, 0, 7]), (20, [8]), (21, [167, 0, 4])] : List (Nat × List UInt8)).all (fun x => prB x.2 ((cX11_deedBy.data.toList.drop 48).drop x.1)) = true := by decide +kernel
theorem dX11_deedBy_48 : decode cX11_deedBy 48 = .ok (.lload_n 0, 1) := op30 (bA_at bd03_dec_X11_0_95 0 rfl rfl)
theorem dX11_deedBy_49 : decode cX11_deedBy 49 = .ok (.ldc2_w 248, 3) := op20 (bA_at bd03_dec_X11_0_95 1 rfl rfl) rfl
theorem dX11_deedBy_52 : decode cX11_deedBy 52 = .ok (.lcmp, 1) := op148 (bA_at bd03_dec_X11_0_95 2 rfl rfl)
theorem dX11_deedBy_53 : decode cX11_deedBy 53 = .ok (.ifCond .ne 7, 3) := op154 (bA_at bd03_dec_X11_0_95 3 rfl rfl) (by decide +kernel)
theorem dX11_deedBy_56 : decode cX11_deedBy 56 = .ok (.iconst 4, 1) := op7 (bA_at bd03_dec_X11_0_95 4 rfl rfl)
theorem dX11_deedBy_57 : decode cX11_deedBy 57 = .ok (.goto 16, 3) := op167 (bA_at bd03_dec_X11_0_95 5 rfl rfl) (by decide +kernel)
theorem dX11_deedBy_60 : decode cX11_deedBy 60 = .ok (.lload_n 0, 1) := op30 (bA_at bd03_dec_X11_0_95 6 rfl rfl)
theorem dX11_deedBy_61 : decode cX11_deedBy 61 = .ok (.ldc2_w 250, 3) := op20 (bA_at bd03_dec_X11_0_95 7 rfl rfl) rfl
theorem dX11_deedBy_64 : decode cX11_deedBy 64 = .ok (.lcmp, 1) := op148 (bA_at bd03_dec_X11_0_95 8 rfl rfl)
theorem dX11_deedBy_65 : decode cX11_deedBy 65 = .ok (.ifCond .ne 7, 3) := op154 (bA_at bd03_dec_X11_0_95 9 rfl rfl) (by decide +kernel)
theorem dX11_deedBy_68 : decode cX11_deedBy 68 = .ok (.iconst 5, 1) := op8 (bA_at bd03_dec_X11_0_95 10 rfl rfl)
theorem dX11_deedBy_69 : decode cX11_deedBy 69 = .ok (.goto 4, 3) := op167 (bA_at bd03_dec_X11_0_95 11 rfl rfl) (by decide +kernel)
theorem bd03_dec_X11_0_96 : ([(0, [2]), (1, [172])] : List (Nat × List UInt8)).all (fun x => prB x.2 ((cX11_deedBy.data.toList.drop 72).drop x.1)) = true := by decide +kernel
theorem dX11_deedBy_72 : decode cX11_deedBy 72 = .ok (.iconst (-1), 1) := op2 (bA_at bd03_dec_X11_0_96 0 rfl rfl)
theorem dX11_deedBy_73 : decode cX11_deedBy 73 = .ok (.ireturn, 1) := op172 (bA_at bd03_dec_X11_0_96 1 rfl rfl)
theorem bd03_dec_X11_0_97 : ([(0, [42]), (1, [3]), (2, [28]), (3, [182, 0, 181]), (6, [62]), (7, [3]), (8, [54, 4]), (10, [21, 4]), (12, [27]), (13, [162, 0, 34]), (16, [29]), (17, [2])] : List (Nat × List UInt8)).all (fun x => prB x.2 ((cX11_keep.data.toList.drop 0).drop x.1)) = true := by decide +kernel
theorem dX11_keep_0 : decode cX11_keep 0 = .ok (.aload_n 0, 1) := op42 (bA_at bd03_dec_X11_0_97 0 rfl rfl)
theorem dX11_keep_1 : decode cX11_keep 1 = .ok (.iconst 0, 1) := op3 (bA_at bd03_dec_X11_0_97 1 rfl rfl)
theorem dX11_keep_2 : decode cX11_keep 2 = .ok (.iload_n 2, 1) := op28 (bA_at bd03_dec_X11_0_97 2 rfl rfl)
theorem dX11_keep_3 : decode cX11_keep 3 = .ok (.invokevirtual 181, 3) := op182 (bA_at bd03_dec_X11_0_97 3 rfl rfl) rfl
theorem dX11_keep_6 : decode cX11_keep 6 = .ok (.istore_n 3, 1) := op62 (bA_at bd03_dec_X11_0_97 4 rfl rfl)
theorem dX11_keep_7 : decode cX11_keep 7 = .ok (.iconst 0, 1) := op3 (bA_at bd03_dec_X11_0_97 5 rfl rfl)
theorem dX11_keep_8 : decode cX11_keep 8 = .ok (.istore 4, 2) := op54 (bA_at bd03_dec_X11_0_97 6 rfl rfl) rfl
theorem dX11_keep_10 : decode cX11_keep 10 = .ok (.iload 4, 2) := op21 (bA_at bd03_dec_X11_0_97 7 rfl rfl) rfl
theorem dX11_keep_12 : decode cX11_keep 12 = .ok (.iload_n 1, 1) := op27 (bA_at bd03_dec_X11_0_97 8 rfl rfl)
theorem dX11_keep_13 : decode cX11_keep 13 = .ok (.if_icmp .ge 34, 3) := op162 (bA_at bd03_dec_X11_0_97 9 rfl rfl) (by decide +kernel)
theorem dX11_keep_16 : decode cX11_keep 16 = .ok (.iload_n 3, 1) := op29 (bA_at bd03_dec_X11_0_97 10 rfl rfl)
theorem dX11_keep_17 : decode cX11_keep 17 = .ok (.iconst (-1), 1) := op2 (bA_at bd03_dec_X11_0_97 11 rfl rfl)
theorem bd03_dec_X11_0_98 : ([(0, [159, 0, 29]), (3, [42]), (4, [180, 0, 38]), (7, [4]), (8, [27]), (9, [29]), (10, [104]), (11, [96]), (12, [21, 4]), (14, [96]), (15, [42]), (16, [180, 0, 41])] : List (Nat × List UInt8)).all (fun x => prB x.2 ((cX11_keep.data.toList.drop 18).drop x.1)) = true := by decide +kernel
theorem dX11_keep_18 : decode cX11_keep 18 = .ok (.if_icmp .eq 29, 3) := op159 (bA_at bd03_dec_X11_0_98 0 rfl rfl) (by decide +kernel)
theorem dX11_keep_21 : decode cX11_keep 21 = .ok (.aload_n 0, 1) := op42 (bA_at bd03_dec_X11_0_98 1 rfl rfl)
theorem dX11_keep_22 : decode cX11_keep 22 = .ok (.getfield 38, 3) := op180 (bA_at bd03_dec_X11_0_98 2 rfl rfl) rfl
theorem dX11_keep_25 : decode cX11_keep 25 = .ok (.iconst 1, 1) := op4 (bA_at bd03_dec_X11_0_98 3 rfl rfl)
theorem dX11_keep_26 : decode cX11_keep 26 = .ok (.iload_n 1, 1) := op27 (bA_at bd03_dec_X11_0_98 4 rfl rfl)
theorem dX11_keep_27 : decode cX11_keep 27 = .ok (.iload_n 3, 1) := op29 (bA_at bd03_dec_X11_0_98 5 rfl rfl)
theorem dX11_keep_28 : decode cX11_keep 28 = .ok (.imul, 1) := op104 (bA_at bd03_dec_X11_0_98 6 rfl rfl)
theorem dX11_keep_29 : decode cX11_keep 29 = .ok (.iadd, 1) := op96 (bA_at bd03_dec_X11_0_98 7 rfl rfl)
theorem dX11_keep_30 : decode cX11_keep 30 = .ok (.iload 4, 2) := op21 (bA_at bd03_dec_X11_0_98 8 rfl rfl) rfl
theorem dX11_keep_32 : decode cX11_keep 32 = .ok (.iadd, 1) := op96 (bA_at bd03_dec_X11_0_98 9 rfl rfl)
theorem dX11_keep_33 : decode cX11_keep 33 = .ok (.aload_n 0, 1) := op42 (bA_at bd03_dec_X11_0_98 10 rfl rfl)
theorem dX11_keep_34 : decode cX11_keep 34 = .ok (.getfield 41, 3) := op180 (bA_at bd03_dec_X11_0_98 11 rfl rfl) rfl
theorem bd03_dec_X11_0_99 : ([(0, [21, 4]), (2, [46]), (3, [79]), (4, [132, 4, 1]), (7, [167, 255, 222]), (10, [177])] : List (Nat × List UInt8)).all (fun x => prB x.2 ((cX11_keep.data.toList.drop 37).drop x.1)) = true := by decide +kernel
theorem dX11_keep_37 : decode cX11_keep 37 = .ok (.iload 4, 2) := op21 (bA_at bd03_dec_X11_0_99 0 rfl rfl) rfl
theorem dX11_keep_39 : decode cX11_keep 39 = .ok (.iaload, 1) := op46 (bA_at bd03_dec_X11_0_99 1 rfl rfl)
theorem dX11_keep_40 : decode cX11_keep 40 = .ok (.iastore, 1) := op79 (bA_at bd03_dec_X11_0_99 2 rfl rfl)
theorem dX11_keep_41 : decode cX11_keep 41 = .ok (.iinc 4 1, 3) := op132 (bA_at bd03_dec_X11_0_99 3 rfl rfl) rfl (by decide +kernel)
theorem dX11_keep_44 : decode cX11_keep 44 = .ok (.goto (-34), 3) := op167 (bA_at bd03_dec_X11_0_99 4 rfl rfl) (by decide +kernel)
theorem dX11_keep_47 : decode cX11_keep 47 = .ok (.return_, 1) := op177 (bA_at bd03_dec_X11_0_99 5 rfl rfl)
theorem bd03_dec_X11_0_100 : ([(0, [31]), (1, [184, 0, 252]), (4, [54, 4]), (6, [21, 4]), (8, [2]), (9, [160, 0, 8]), (12, [42]), (13, [182, 0, 149]), (16, [172]), (17, [42]), (18, [3]), (19, [16, 40])] : List (Nat × List UInt8)).all (fun x => prB x.2 ((cX11_eveningLine.data.toList.drop 0).drop x.1)) = true := by decide +kernel
theorem dX11_eveningLine_0 : decode cX11_eveningLine 0 = .ok (.lload_n 1, 1) := op31 (bA_at bd03_dec_X11_0_100 0 rfl rfl)
theorem dX11_eveningLine_1 : decode cX11_eveningLine 1 = .ok (.invokestatic 252, 3) := op184 (bA_at bd03_dec_X11_0_100 1 rfl rfl) rfl
theorem dX11_eveningLine_4 : decode cX11_eveningLine 4 = .ok (.istore 4, 2) := op54 (bA_at bd03_dec_X11_0_100 2 rfl rfl) rfl
theorem dX11_eveningLine_6 : decode cX11_eveningLine 6 = .ok (.iload 4, 2) := op21 (bA_at bd03_dec_X11_0_100 3 rfl rfl) rfl
theorem dX11_eveningLine_8 : decode cX11_eveningLine 8 = .ok (.iconst (-1), 1) := op2 (bA_at bd03_dec_X11_0_100 4 rfl rfl)
theorem dX11_eveningLine_9 : decode cX11_eveningLine 9 = .ok (.if_icmp .ne 8, 3) := op160 (bA_at bd03_dec_X11_0_100 5 rfl rfl) (by decide +kernel)
theorem dX11_eveningLine_12 : decode cX11_eveningLine 12 = .ok (.aload_n 0, 1) := op42 (bA_at bd03_dec_X11_0_100 6 rfl rfl)
theorem dX11_eveningLine_13 : decode cX11_eveningLine 13 = .ok (.invokevirtual 149, 3) := op182 (bA_at bd03_dec_X11_0_100 7 rfl rfl) rfl
theorem dX11_eveningLine_16 : decode cX11_eveningLine 16 = .ok (.ireturn, 1) := op172 (bA_at bd03_dec_X11_0_100 8 rfl rfl)
theorem dX11_eveningLine_17 : decode cX11_eveningLine 17 = .ok (.aload_n 0, 1) := op42 (bA_at bd03_dec_X11_0_100 9 rfl rfl)
theorem dX11_eveningLine_18 : decode cX11_eveningLine 18 = .ok (.iconst 0, 1) := op3 (bA_at bd03_dec_X11_0_100 10 rfl rfl)
theorem dX11_eveningLine_19 : decode cX11_eveningLine 19 = .ok (.bipush 40, 2) := op16 (bA_at bd03_dec_X11_0_100 11 rfl rfl) (by decide +kernel)
theorem bd03_dec_X11_0_101 : ([(0, [29]), (1, [182, 0, 211]), (4, [42]), (5, [182, 0, 161]), (8, [42]), (9, [180, 0, 41]), (12, [5]), (13, [2]), (14, [79]), (15, [42]), (16, [4]), (17, [3])] : List (Nat × List UInt8)).all (fun x => prB x.2 ((cX11_eveningLine.data.toList.drop 21).drop x.1)) = true := by decide +kernel
theorem dX11_eveningLine_21 : decode cX11_eveningLine 21 = .ok (.iload_n 3, 1) := op29 (bA_at bd03_dec_X11_0_101 0 rfl rfl)
theorem dX11_eveningLine_22 : decode cX11_eveningLine 22 = .ok (.invokevirtual 211, 3) := op182 (bA_at bd03_dec_X11_0_101 1 rfl rfl) rfl
theorem dX11_eveningLine_25 : decode cX11_eveningLine 25 = .ok (.aload_n 0, 1) := op42 (bA_at bd03_dec_X11_0_101 2 rfl rfl)
theorem dX11_eveningLine_26 : decode cX11_eveningLine 26 = .ok (.invokevirtual 161, 3) := op182 (bA_at bd03_dec_X11_0_101 3 rfl rfl) rfl
theorem dX11_eveningLine_29 : decode cX11_eveningLine 29 = .ok (.aload_n 0, 1) := op42 (bA_at bd03_dec_X11_0_101 4 rfl rfl)
theorem dX11_eveningLine_30 : decode cX11_eveningLine 30 = .ok (.getfield 41, 3) := op180 (bA_at bd03_dec_X11_0_101 5 rfl rfl) rfl
theorem dX11_eveningLine_33 : decode cX11_eveningLine 33 = .ok (.iconst 2, 1) := op5 (bA_at bd03_dec_X11_0_101 6 rfl rfl)
theorem dX11_eveningLine_34 : decode cX11_eveningLine 34 = .ok (.iconst (-1), 1) := op2 (bA_at bd03_dec_X11_0_101 7 rfl rfl)
theorem dX11_eveningLine_35 : decode cX11_eveningLine 35 = .ok (.iastore, 1) := op79 (bA_at bd03_dec_X11_0_101 8 rfl rfl)
theorem dX11_eveningLine_36 : decode cX11_eveningLine 36 = .ok (.aload_n 0, 1) := op42 (bA_at bd03_dec_X11_0_101 9 rfl rfl)
theorem dX11_eveningLine_37 : decode cX11_eveningLine 37 = .ok (.iconst 1, 1) := op4 (bA_at bd03_dec_X11_0_101 10 rfl rfl)
theorem dX11_eveningLine_38 : decode cX11_eveningLine 38 = .ok (.iconst 0, 1) := op3 (bA_at bd03_dec_X11_0_101 11 rfl rfl)
theorem bd03_dec_X11_0_102 : ([(0, [8]), (1, [182, 0, 178]), (4, [153, 0, 30]), (7, [21, 4]), (9, [7]), (10, [162, 0, 26]), (13, [42]), (14, [5]), (15, [3]), (16, [21, 4]), (18, [6]), (19, [160, 0, 8])] : List (Nat × List UInt8)).all (fun x => prB x.2 ((cX11_eveningLine.data.toList.drop 39).drop x.1)) = true := by decide +kernel
theorem dX11_eveningLine_39 : decode cX11_eveningLine 39 = .ok (.iconst 5, 1) := op8 (bA_at bd03_dec_X11_0_102 0 rfl rfl)
theorem dX11_eveningLine_40 : decode cX11_eveningLine 40 = .ok (.invokevirtual 178, 3) := op182 (bA_at bd03_dec_X11_0_102 1 rfl rfl) rfl
theorem dX11_eveningLine_43 : decode cX11_eveningLine 43 = .ok (.ifCond .eq 30, 3) := op153 (bA_at bd03_dec_X11_0_102 2 rfl rfl) (by decide +kernel)
theorem dX11_eveningLine_46 : decode cX11_eveningLine 46 = .ok (.iload 4, 2) := op21 (bA_at bd03_dec_X11_0_102 3 rfl rfl) rfl
theorem dX11_eveningLine_48 : decode cX11_eveningLine 48 = .ok (.iconst 4, 1) := op7 (bA_at bd03_dec_X11_0_102 4 rfl rfl)
theorem dX11_eveningLine_49 : decode cX11_eveningLine 49 = .ok (.if_icmp .ge 26, 3) := op162 (bA_at bd03_dec_X11_0_102 5 rfl rfl) (by decide +kernel)
theorem dX11_eveningLine_52 : decode cX11_eveningLine 52 = .ok (.aload_n 0, 1) := op42 (bA_at bd03_dec_X11_0_102 6 rfl rfl)
theorem dX11_eveningLine_53 : decode cX11_eveningLine 53 = .ok (.iconst 2, 1) := op5 (bA_at bd03_dec_X11_0_102 7 rfl rfl)
theorem dX11_eveningLine_54 : decode cX11_eveningLine 54 = .ok (.iconst 0, 1) := op3 (bA_at bd03_dec_X11_0_102 8 rfl rfl)
theorem dX11_eveningLine_55 : decode cX11_eveningLine 55 = .ok (.iload 4, 2) := op21 (bA_at bd03_dec_X11_0_102 9 rfl rfl) rfl
theorem dX11_eveningLine_57 : decode cX11_eveningLine 57 = .ok (.iconst 3, 1) := op6 (bA_at bd03_dec_X11_0_102 10 rfl rfl)
theorem dX11_eveningLine_58 : decode cX11_eveningLine 58 = .ok (.if_icmp .ne 8, 3) := op160 (bA_at bd03_dec_X11_0_102 11 rfl rfl) (by decide +kernel)
theorem bd03_dec_X11_0_103 : ([(0, [16, 8]), (2, [167, 0, 4]), (5, [7]), (6, [182, 0, 178]), (9, [154, 0, 5]), (12, [3]), (13, [172]), (14, [42]), (15, [180, 0, 41]), (18, [3]), (19, [21, 4]), (21, [79])] : List (Nat × List UInt8)).all (fun x => prB x.2 ((cX11_eveningLine.data.toList.drop 61).drop x.1)) = true := by decide +kernel
theorem dX11_eveningLine_61 : decode cX11_eveningLine 61 = .ok (.bipush 8, 2) := op16 (bA_at bd03_dec_X11_0_103 0 rfl rfl) (by decide +kernel)
theorem dX11_eveningLine_63 : decode cX11_eveningLine 63 = .ok (.goto 4, 3) := op167 (bA_at bd03_dec_X11_0_103 1 rfl rfl) (by decide +kernel)
theorem dX11_eveningLine_66 : decode cX11_eveningLine 66 = .ok (.iconst 4, 1) := op7 (bA_at bd03_dec_X11_0_103 2 rfl rfl)
theorem dX11_eveningLine_67 : decode cX11_eveningLine 67 = .ok (.invokevirtual 178, 3) := op182 (bA_at bd03_dec_X11_0_103 3 rfl rfl) rfl
theorem dX11_eveningLine_70 : decode cX11_eveningLine 70 = .ok (.ifCond .ne 5, 3) := op154 (bA_at bd03_dec_X11_0_103 4 rfl rfl) (by decide +kernel)
theorem dX11_eveningLine_73 : decode cX11_eveningLine 73 = .ok (.iconst 0, 1) := op3 (bA_at bd03_dec_X11_0_103 5 rfl rfl)
theorem dX11_eveningLine_74 : decode cX11_eveningLine 74 = .ok (.ireturn, 1) := op172 (bA_at bd03_dec_X11_0_103 6 rfl rfl)
theorem dX11_eveningLine_75 : decode cX11_eveningLine 75 = .ok (.aload_n 0, 1) := op42 (bA_at bd03_dec_X11_0_103 7 rfl rfl)
theorem dX11_eveningLine_76 : decode cX11_eveningLine 76 = .ok (.getfield 41, 3) := op180 (bA_at bd03_dec_X11_0_103 8 rfl rfl) rfl
theorem dX11_eveningLine_79 : decode cX11_eveningLine 79 = .ok (.iconst 0, 1) := op3 (bA_at bd03_dec_X11_0_103 9 rfl rfl)
theorem dX11_eveningLine_80 : decode cX11_eveningLine 80 = .ok (.iload 4, 2) := op21 (bA_at bd03_dec_X11_0_103 10 rfl rfl) rfl
theorem dX11_eveningLine_82 : decode cX11_eveningLine 82 = .ok (.iastore, 1) := op79 (bA_at bd03_dec_X11_0_103 11 rfl rfl)
theorem bd03_dec_X11_0_104 : ([(0, [42]), (1, [6]), (2, [16, 40]), (4, [182, 1, 0]), (7, [4]), (8, [172])] : List (Nat × List UInt8)).all (fun x => prB x.2 ((cX11_eveningLine.data.toList.drop 83).drop x.1)) = true := by decide +kernel
theorem dX11_eveningLine_83 : decode cX11_eveningLine 83 = .ok (.aload_n 0, 1) := op42 (bA_at bd03_dec_X11_0_104 0 rfl rfl)
theorem dX11_eveningLine_84 : decode cX11_eveningLine 84 = .ok (.iconst 3, 1) := op6 (bA_at bd03_dec_X11_0_104 1 rfl rfl)
theorem dX11_eveningLine_85 : decode cX11_eveningLine 85 = .ok (.bipush 40, 2) := op16 (bA_at bd03_dec_X11_0_104 2 rfl rfl) (by decide +kernel)
theorem dX11_eveningLine_87 : decode cX11_eveningLine 87 = .ok (.invokevirtual 256, 3) := op182 (bA_at bd03_dec_X11_0_104 3 rfl rfl) rfl
theorem dX11_eveningLine_90 : decode cX11_eveningLine 90 = .ok (.iconst 1, 1) := op4 (bA_at bd03_dec_X11_0_104 4 rfl rfl)
theorem dX11_eveningLine_91 : decode cX11_eveningLine 91 = .ok (.ireturn, 1) := op172 (bA_at bd03_dec_X11_0_104 5 rfl rfl)
theorem bd03_dec_X11_0_105 : ([(0, [31]), (1, [20, 1, 3]), (4, [148]), (5, [153, 0, 16]), (8, [31]), (9, [20, 1, 5]), (12, [148]), (13, [153, 0, 8]), (16, [42]), (17, [182, 0, 149]), (20, [172]), (21, [42])] : List (Nat × List UInt8)).all (fun x => prB x.2 ((cX11_sightLine.data.toList.drop 0).drop x.1)) = true := by decide +kernel
theorem dX11_sightLine_0 : decode cX11_sightLine 0 = .ok (.lload_n 1, 1) := op31 (bA_at bd03_dec_X11_0_105 0 rfl rfl)
theorem dX11_sightLine_1 : decode cX11_sightLine 1 = .ok (.ldc2_w 259, 3) := op20 (bA_at bd03_dec_X11_0_105 1 rfl rfl) rfl
theorem dX11_sightLine_4 : decode cX11_sightLine 4 = .ok (.lcmp, 1) := op148 (bA_at bd03_dec_X11_0_105 2 rfl rfl)
theorem dX11_sightLine_5 : decode cX11_sightLine 5 = .ok (.ifCond .eq 16, 3) := op153 (bA_at bd03_dec_X11_0_105 3 rfl rfl) (by decide +kernel)
theorem dX11_sightLine_8 : decode cX11_sightLine 8 = .ok (.lload_n 1, 1) := op31 (bA_at bd03_dec_X11_0_105 4 rfl rfl)
theorem dX11_sightLine_9 : decode cX11_sightLine 9 = .ok (.ldc2_w 261, 3) := op20 (bA_at bd03_dec_X11_0_105 5 rfl rfl) rfl
theorem dX11_sightLine_12 : decode cX11_sightLine 12 = .ok (.lcmp, 1) := op148 (bA_at bd03_dec_X11_0_105 6 rfl rfl)
theorem dX11_sightLine_13 : decode cX11_sightLine 13 = .ok (.ifCond .eq 8, 3) := op153 (bA_at bd03_dec_X11_0_105 7 rfl rfl) (by decide +kernel)
theorem dX11_sightLine_16 : decode cX11_sightLine 16 = .ok (.aload_n 0, 1) := op42 (bA_at bd03_dec_X11_0_105 8 rfl rfl)
theorem dX11_sightLine_17 : decode cX11_sightLine 17 = .ok (.invokevirtual 149, 3) := op182 (bA_at bd03_dec_X11_0_105 9 rfl rfl) rfl
theorem dX11_sightLine_20 : decode cX11_sightLine 20 = .ok (.ireturn, 1) := op172 (bA_at bd03_dec_X11_0_105 10 rfl rfl)
theorem dX11_sightLine_21 : decode cX11_sightLine 21 = .ok (.aload_n 0, 1) := op42 (bA_at bd03_dec_X11_0_105 11 rfl rfl)
theorem bd03_dec_X11_0_106 : ([(0, [3]), (1, [16, 10]), (3, [29]), (4, [182, 0, 211]), (7, [42]), (8, [182, 0, 161]), (11, [42]), (12, [4]), (13, [3]), (14, [16, 8]), (16, [182, 0, 178]), (19, [153, 0, 14])] : List (Nat × List UInt8)).all (fun x => prB x.2 ((cX11_sightLine.data.toList.drop 22).drop x.1)) = true := by decide +kernel
theorem dX11_sightLine_22 : decode cX11_sightLine 22 = .ok (.iconst 0, 1) := op3 (bA_at bd03_dec_X11_0_106 0 rfl rfl)
theorem dX11_sightLine_23 : decode cX11_sightLine 23 = .ok (.bipush 10, 2) := op16 (bA_at bd03_dec_X11_0_106 1 rfl rfl) (by decide +kernel)
theorem dX11_sightLine_25 : decode cX11_sightLine 25 = .ok (.iload_n 3, 1) := op29 (bA_at bd03_dec_X11_0_106 2 rfl rfl)
theorem dX11_sightLine_26 : decode cX11_sightLine 26 = .ok (.invokevirtual 211, 3) := op182 (bA_at bd03_dec_X11_0_106 3 rfl rfl) rfl
theorem dX11_sightLine_29 : decode cX11_sightLine 29 = .ok (.aload_n 0, 1) := op42 (bA_at bd03_dec_X11_0_106 4 rfl rfl)
theorem dX11_sightLine_30 : decode cX11_sightLine 30 = .ok (.invokevirtual 161, 3) := op182 (bA_at bd03_dec_X11_0_106 5 rfl rfl) rfl
theorem dX11_sightLine_33 : decode cX11_sightLine 33 = .ok (.aload_n 0, 1) := op42 (bA_at bd03_dec_X11_0_106 6 rfl rfl)
theorem dX11_sightLine_34 : decode cX11_sightLine 34 = .ok (.iconst 1, 1) := op4 (bA_at bd03_dec_X11_0_106 7 rfl rfl)
theorem dX11_sightLine_35 : decode cX11_sightLine 35 = .ok (.iconst 0, 1) := op3 (bA_at bd03_dec_X11_0_106 8 rfl rfl)
theorem dX11_sightLine_36 : decode cX11_sightLine 36 = .ok (.bipush 8, 2) := op16 (bA_at bd03_dec_X11_0_106 9 rfl rfl) (by decide +kernel)
theorem dX11_sightLine_38 : decode cX11_sightLine 38 = .ok (.invokevirtual 178, 3) := op182 (bA_at bd03_dec_X11_0_106 10 rfl rfl) rfl
theorem dX11_sightLine_41 : decode cX11_sightLine 41 = .ok (.ifCond .eq 14, 3) := op153 (bA_at bd03_dec_X11_0_106 11 rfl rfl) (by decide +kernel)
theorem bd03_dec_X11_0_107 : ([(0, [42]), (1, [5]), (2, [3]), (3, [16, 60]), (5, [182, 0, 178]), (8, [154, 0, 5]), (11, [3]), (12, [172]), (13, [42]), (14, [180, 0, 41]), (17, [3]), (18, [31])] : List (Nat × List UInt8)).all (fun x => prB x.2 ((cX11_sightLine.data.toList.drop 44).drop x.1)) = true := by decide +kernel
theorem dX11_sightLine_44 : decode cX11_sightLine 44 = .ok (.aload_n 0, 1) := op42 (bA_at bd03_dec_X11_0_107 0 rfl rfl)
theorem dX11_sightLine_45 : decode cX11_sightLine 45 = .ok (.iconst 2, 1) := op5 (bA_at bd03_dec_X11_0_107 1 rfl rfl)
theorem dX11_sightLine_46 : decode cX11_sightLine 46 = .ok (.iconst 0, 1) := op3 (bA_at bd03_dec_X11_0_107 2 rfl rfl)
theorem dX11_sightLine_47 : decode cX11_sightLine 47 = .ok (.bipush 60, 2) := op16 (bA_at bd03_dec_X11_0_107 3 rfl rfl) (by decide +kernel)
theorem dX11_sightLine_49 : decode cX11_sightLine 49 = .ok (.invokevirtual 178, 3) := op182 (bA_at bd03_dec_X11_0_107 4 rfl rfl) rfl
theorem dX11_sightLine_52 : decode cX11_sightLine 52 = .ok (.ifCond .ne 5, 3) := op154 (bA_at bd03_dec_X11_0_107 5 rfl rfl) (by decide +kernel)
theorem dX11_sightLine_55 : decode cX11_sightLine 55 = .ok (.iconst 0, 1) := op3 (bA_at bd03_dec_X11_0_107 6 rfl rfl)
theorem dX11_sightLine_56 : decode cX11_sightLine 56 = .ok (.ireturn, 1) := op172 (bA_at bd03_dec_X11_0_107 7 rfl rfl)
theorem dX11_sightLine_57 : decode cX11_sightLine 57 = .ok (.aload_n 0, 1) := op42 (bA_at bd03_dec_X11_0_107 8 rfl rfl)
theorem dX11_sightLine_58 : decode cX11_sightLine 58 = .ok (.getfield 41, 3) := op180 (bA_at bd03_dec_X11_0_107 9 rfl rfl) rfl
theorem dX11_sightLine_61 : decode cX11_sightLine 61 = .ok (.iconst 0, 1) := op3 (bA_at bd03_dec_X11_0_107 10 rfl rfl)
theorem dX11_sightLine_62 : decode cX11_sightLine 62 = .ok (.lload_n 1, 1) := op31 (bA_at bd03_dec_X11_0_107 11 rfl rfl)
theorem bd03_dec_X11_0_108 : ([(0, [20, 1, 3]), (3, [148]), (4, [154, 0, 7]), (7, [4]), (8, [167, 0, 4]), (11, [3]), (12, [79]), (13, [42]), (14, [6]), (15, [16, 10]), (17, [182, 1, 0]), (20, [4])] : List (Nat × List UInt8)).all (fun x => prB x.2 ((cX11_sightLine.data.toList.drop 63).drop x.1)) = true := by decide +kernel
theorem dX11_sightLine_63 : decode cX11_sightLine 63 = .ok (.ldc2_w 259, 3) := op20 (bA_at bd03_dec_X11_0_108 0 rfl rfl) rfl
theorem dX11_sightLine_66 : decode cX11_sightLine 66 = .ok (.lcmp, 1) := op148 (bA_at bd03_dec_X11_0_108 1 rfl rfl)
theorem dX11_sightLine_67 : decode cX11_sightLine 67 = .ok (.ifCond .ne 7, 3) := op154 (bA_at bd03_dec_X11_0_108 2 rfl rfl) (by decide +kernel)
theorem dX11_sightLine_70 : decode cX11_sightLine 70 = .ok (.iconst 1, 1) := op4 (bA_at bd03_dec_X11_0_108 3 rfl rfl)
theorem dX11_sightLine_71 : decode cX11_sightLine 71 = .ok (.goto 4, 3) := op167 (bA_at bd03_dec_X11_0_108 4 rfl rfl) (by decide +kernel)
theorem dX11_sightLine_74 : decode cX11_sightLine 74 = .ok (.iconst 0, 1) := op3 (bA_at bd03_dec_X11_0_108 5 rfl rfl)
theorem dX11_sightLine_75 : decode cX11_sightLine 75 = .ok (.iastore, 1) := op79 (bA_at bd03_dec_X11_0_108 6 rfl rfl)
theorem dX11_sightLine_76 : decode cX11_sightLine 76 = .ok (.aload_n 0, 1) := op42 (bA_at bd03_dec_X11_0_108 7 rfl rfl)
theorem dX11_sightLine_77 : decode cX11_sightLine 77 = .ok (.iconst 3, 1) := op6 (bA_at bd03_dec_X11_0_108 8 rfl rfl)
theorem dX11_sightLine_78 : decode cX11_sightLine 78 = .ok (.bipush 10, 2) := op16 (bA_at bd03_dec_X11_0_108 9 rfl rfl) (by decide +kernel)
theorem dX11_sightLine_80 : decode cX11_sightLine 80 = .ok (.invokevirtual 256, 3) := op182 (bA_at bd03_dec_X11_0_108 10 rfl rfl) rfl
theorem dX11_sightLine_83 : decode cX11_sightLine 83 = .ok (.iconst 1, 1) := op4 (bA_at bd03_dec_X11_0_108 11 rfl rfl)
theorem bd03_dec_X11_0_109 : ([(0, [172])] : List (Nat × List UInt8)).all (fun x => prB x.2 ((cX11_sightLine.data.toList.drop 84).drop x.1)) = true := by decide +kernel
theorem dX11_sightLine_84 : decode cX11_sightLine 84 = .ok (.ireturn, 1) := op172 (bA_at bd03_dec_X11_0_109 0 rfl rfl)
theorem bd03_dec_X11_0_110 : ([(0, [31]), (1, [20, 1, 7]), (4, [148]), (5, [153, 0, 16]), (8, [31]), (9, [20, 1, 9]), (12, [148]), (13, [153, 0, 8]), (16, [42]), (17, [182, 0, 149]), (20, [172]), (21, [31])] : List (Nat × List UInt8)).all (fun x => prB x.2 ((cX11_choirLine.data.toList.drop 0).drop x.1)) = true := by decide +kernel
theorem dX11_choirLine_0 : decode cX11_choirLine 0 = .ok (.lload_n 1, 1) := op31 (bA_at bd03_dec_X11_0_110 0 rfl rfl)
theorem dX11_choirLine_1 : decode cX11_choirLine 1 = .ok (.ldc2_w 263, 3) := op20 (bA_at bd03_dec_X11_0_110 1 rfl rfl) rfl
theorem dX11_choirLine_4 : decode cX11_choirLine 4 = .ok (.lcmp, 1) := op148 (bA_at bd03_dec_X11_0_110 2 rfl rfl)
theorem dX11_choirLine_5 : decode cX11_choirLine 5 = .ok (.ifCond .eq 16, 3) := op153 (bA_at bd03_dec_X11_0_110 3 rfl rfl) (by decide +kernel)
theorem dX11_choirLine_8 : decode cX11_choirLine 8 = .ok (.lload_n 1, 1) := op31 (bA_at bd03_dec_X11_0_110 4 rfl rfl)
theorem dX11_choirLine_9 : decode cX11_choirLine 9 = .ok (.ldc2_w 265, 3) := op20 (bA_at bd03_dec_X11_0_110 5 rfl rfl) rfl
theorem dX11_choirLine_12 : decode cX11_choirLine 12 = .ok (.lcmp, 1) := op148 (bA_at bd03_dec_X11_0_110 6 rfl rfl)
theorem dX11_choirLine_13 : decode cX11_choirLine 13 = .ok (.ifCond .eq 8, 3) := op153 (bA_at bd03_dec_X11_0_110 7 rfl rfl) (by decide +kernel)
theorem dX11_choirLine_16 : decode cX11_choirLine 16 = .ok (.aload_n 0, 1) := op42 (bA_at bd03_dec_X11_0_110 8 rfl rfl)
theorem dX11_choirLine_17 : decode cX11_choirLine 17 = .ok (.invokevirtual 149, 3) := op182 (bA_at bd03_dec_X11_0_110 9 rfl rfl) rfl
theorem dX11_choirLine_20 : decode cX11_choirLine 20 = .ok (.ireturn, 1) := op172 (bA_at bd03_dec_X11_0_110 10 rfl rfl)
theorem dX11_choirLine_21 : decode cX11_choirLine 21 = .ok (.lload_n 1, 1) := op31 (bA_at bd03_dec_X11_0_110 11 rfl rfl)
theorem bd03_dec_X11_0_111 : ([(0, [20, 1, 7]), (3, [148]), (4, [154, 0, 11]), (7, [42]), (8, [3]), (9, [16, 9]), (11, [29]), (12, [182, 0, 211]), (15, [42]), (16, [182, 0, 161]), (19, [31]), (20, [20, 1, 9])] : List (Nat × List UInt8)).all (fun x => prB x.2 ((cX11_choirLine.data.toList.drop 22).drop x.1)) = true := by decide +kernel
theorem dX11_choirLine_22 : decode cX11_choirLine 22 = .ok (.ldc2_w 263, 3) := op20 (bA_at bd03_dec_X11_0_111 0 rfl rfl) rfl
theorem dX11_choirLine_25 : decode cX11_choirLine 25 = .ok (.lcmp, 1) := op148 (bA_at bd03_dec_X11_0_111 1 rfl rfl)
theorem dX11_choirLine_26 : decode cX11_choirLine 26 = .ok (.ifCond .ne 11, 3) := op154 (bA_at bd03_dec_X11_0_111 2 rfl rfl) (by decide +kernel)
theorem dX11_choirLine_29 : decode cX11_choirLine 29 = .ok (.aload_n 0, 1) := op42 (bA_at bd03_dec_X11_0_111 3 rfl rfl)
theorem dX11_choirLine_30 : decode cX11_choirLine 30 = .ok (.iconst 0, 1) := op3 (bA_at bd03_dec_X11_0_111 4 rfl rfl)
theorem dX11_choirLine_31 : decode cX11_choirLine 31 = .ok (.bipush 9, 2) := op16 (bA_at bd03_dec_X11_0_111 5 rfl rfl) (by decide +kernel)
theorem dX11_choirLine_33 : decode cX11_choirLine 33 = .ok (.iload_n 3, 1) := op29 (bA_at bd03_dec_X11_0_111 6 rfl rfl)
theorem dX11_choirLine_34 : decode cX11_choirLine 34 = .ok (.invokevirtual 211, 3) := op182 (bA_at bd03_dec_X11_0_111 7 rfl rfl) rfl
theorem dX11_choirLine_37 : decode cX11_choirLine 37 = .ok (.aload_n 0, 1) := op42 (bA_at bd03_dec_X11_0_111 8 rfl rfl)
theorem dX11_choirLine_38 : decode cX11_choirLine 38 = .ok (.invokevirtual 161, 3) := op182 (bA_at bd03_dec_X11_0_111 9 rfl rfl) rfl
theorem dX11_choirLine_41 : decode cX11_choirLine 41 = .ok (.lload_n 1, 1) := op31 (bA_at bd03_dec_X11_0_111 10 rfl rfl)
theorem dX11_choirLine_42 : decode cX11_choirLine 42 = .ok (.ldc2_w 265, 3) := op20 (bA_at bd03_dec_X11_0_111 11 rfl rfl) rfl
theorem bd03_dec_X11_0_112 : ([(0, [148]), (1, [154, 0, 13]), (4, [42]), (5, [16, 19]), (7, [3]), (8, [16, 9]), (10, [182, 0, 222]), (13, [172]), (14, [42]), (15, [3]), (16, [3]), (17, [6])] : List (Nat × List UInt8)).all (fun x => prB x.2 ((cX11_choirLine.data.toList.drop 45).drop x.1)) = true := by decide +kernel
theorem dX11_choirLine_45 : decode cX11_choirLine 45 = .ok (.lcmp, 1) := op148 (bA_at bd03_dec_X11_0_112 0 rfl rfl)
theorem dX11_choirLine_46 : decode cX11_choirLine 46 = .ok (.ifCond .ne 13, 3) := op154 (bA_at bd03_dec_X11_0_112 1 rfl rfl) (by decide +kernel)
theorem dX11_choirLine_49 : decode cX11_choirLine 49 = .ok (.aload_n 0, 1) := op42 (bA_at bd03_dec_X11_0_112 2 rfl rfl)
theorem dX11_choirLine_50 : decode cX11_choirLine 50 = .ok (.bipush 19, 2) := op16 (bA_at bd03_dec_X11_0_112 3 rfl rfl) (by decide +kernel)
theorem dX11_choirLine_52 : decode cX11_choirLine 52 = .ok (.iconst 0, 1) := op3 (bA_at bd03_dec_X11_0_112 4 rfl rfl)
theorem dX11_choirLine_53 : decode cX11_choirLine 53 = .ok (.bipush 9, 2) := op16 (bA_at bd03_dec_X11_0_112 5 rfl rfl) (by decide +kernel)
theorem dX11_choirLine_55 : decode cX11_choirLine 55 = .ok (.invokevirtual 222, 3) := op182 (bA_at bd03_dec_X11_0_112 6 rfl rfl) rfl
theorem dX11_choirLine_58 : decode cX11_choirLine 58 = .ok (.ireturn, 1) := op172 (bA_at bd03_dec_X11_0_112 7 rfl rfl)
theorem dX11_choirLine_59 : decode cX11_choirLine 59 = .ok (.aload_n 0, 1) := op42 (bA_at bd03_dec_X11_0_112 8 rfl rfl)
theorem dX11_choirLine_60 : decode cX11_choirLine 60 = .ok (.iconst 0, 1) := op3 (bA_at bd03_dec_X11_0_112 9 rfl rfl)
theorem dX11_choirLine_61 : decode cX11_choirLine 61 = .ok (.iconst 0, 1) := op3 (bA_at bd03_dec_X11_0_112 10 rfl rfl)
theorem dX11_choirLine_62 : decode cX11_choirLine 62 = .ok (.iconst 3, 1) := op6 (bA_at bd03_dec_X11_0_112 11 rfl rfl)
theorem bd03_dec_X11_0_113 : ([(0, [182, 0, 178]), (3, [153, 0, 14]), (6, [42]), (7, [4]), (8, [3]), (9, [16, 9]), (11, [182, 0, 178]), (14, [154, 0, 5]), (17, [3]), (18, [172]), (19, [42]), (20, [5])] : List (Nat × List UInt8)).all (fun x => prB x.2 ((cX11_choirLine.data.toList.drop 63).drop x.1)) = true := by decide +kernel
theorem dX11_choirLine_63 : decode cX11_choirLine 63 = .ok (.invokevirtual 178, 3) := op182 (bA_at bd03_dec_X11_0_113 0 rfl rfl) rfl
theorem dX11_choirLine_66 : decode cX11_choirLine 66 = .ok (.ifCond .eq 14, 3) := op153 (bA_at bd03_dec_X11_0_113 1 rfl rfl) (by decide +kernel)
theorem dX11_choirLine_69 : decode cX11_choirLine 69 = .ok (.aload_n 0, 1) := op42 (bA_at bd03_dec_X11_0_113 2 rfl rfl)
theorem dX11_choirLine_70 : decode cX11_choirLine 70 = .ok (.iconst 1, 1) := op4 (bA_at bd03_dec_X11_0_113 3 rfl rfl)
theorem dX11_choirLine_71 : decode cX11_choirLine 71 = .ok (.iconst 0, 1) := op3 (bA_at bd03_dec_X11_0_113 4 rfl rfl)
theorem dX11_choirLine_72 : decode cX11_choirLine 72 = .ok (.bipush 9, 2) := op16 (bA_at bd03_dec_X11_0_113 5 rfl rfl) (by decide +kernel)
theorem dX11_choirLine_74 : decode cX11_choirLine 74 = .ok (.invokevirtual 178, 3) := op182 (bA_at bd03_dec_X11_0_113 6 rfl rfl) rfl
theorem dX11_choirLine_77 : decode cX11_choirLine 77 = .ok (.ifCond .ne 5, 3) := op154 (bA_at bd03_dec_X11_0_113 7 rfl rfl) (by decide +kernel)
theorem dX11_choirLine_80 : decode cX11_choirLine 80 = .ok (.iconst 0, 1) := op3 (bA_at bd03_dec_X11_0_113 8 rfl rfl)
theorem dX11_choirLine_81 : decode cX11_choirLine 81 = .ok (.ireturn, 1) := op172 (bA_at bd03_dec_X11_0_113 9 rfl rfl)
theorem dX11_choirLine_82 : decode cX11_choirLine 82 = .ok (.aload_n 0, 1) := op42 (bA_at bd03_dec_X11_0_113 10 rfl rfl)
theorem dX11_choirLine_83 : decode cX11_choirLine 83 = .ok (.iconst 2, 1) := op5 (bA_at bd03_dec_X11_0_113 11 rfl rfl)
theorem bd03_dec_X11_0_114 : ([(0, [16, 9]), (2, [182, 1, 0]), (5, [4]), (6, [172])] : List (Nat × List UInt8)).all (fun x => prB x.2 ((cX11_choirLine.data.toList.drop 84).drop x.1)) = true := by decide +kernel
theorem dX11_choirLine_84 : decode cX11_choirLine 84 = .ok (.bipush 9, 2) := op16 (bA_at bd03_dec_X11_0_114 0 rfl rfl) (by decide +kernel)
theorem dX11_choirLine_86 : decode cX11_choirLine 86 = .ok (.invokevirtual 256, 3) := op182 (bA_at bd03_dec_X11_0_114 1 rfl rfl) rfl
theorem dX11_choirLine_89 : decode cX11_choirLine 89 = .ok (.iconst 1, 1) := op4 (bA_at bd03_dec_X11_0_114 2 rfl rfl)
theorem dX11_choirLine_90 : decode cX11_choirLine 90 = .ok (.ireturn, 1) := op172 (bA_at bd03_dec_X11_0_114 3 rfl rfl)
theorem dX11_lineOf_1 : decode cX11_lineOf 1 = .ok (.tableswitch 51 0 2 #[27, 35, 43], 27) := by decide +kernel
theorem bd03_dec_X11_0_115 : ([(0, [27]), (28, [42]), (29, [32]), (30, [21, 4]), (32, [182, 1, 11]), (35, [172]), (36, [42]), (37, [32]), (38, [21, 4]), (40, [182, 1, 15]), (43, [172])] : List (Nat × List UInt8)).all (fun x => prB x.2 ((cX11_lineOf.data.toList.drop 0).drop x.1)) = true := by decide +kernel
theorem dX11_lineOf_0 : decode cX11_lineOf 0 = .ok (.iload_n 1, 1) := op27 (bA_at bd03_dec_X11_0_115 0 rfl rfl)
theorem dX11_lineOf_28 : decode cX11_lineOf 28 = .ok (.aload_n 0, 1) := op42 (bA_at bd03_dec_X11_0_115 1 rfl rfl)
theorem dX11_lineOf_29 : decode cX11_lineOf 29 = .ok (.lload_n 2, 1) := op32 (bA_at bd03_dec_X11_0_115 2 rfl rfl)
theorem dX11_lineOf_30 : decode cX11_lineOf 30 = .ok (.iload 4, 2) := op21 (bA_at bd03_dec_X11_0_115 3 rfl rfl) rfl
theorem dX11_lineOf_32 : decode cX11_lineOf 32 = .ok (.invokevirtual 267, 3) := op182 (bA_at bd03_dec_X11_0_115 4 rfl rfl) rfl
theorem dX11_lineOf_35 : decode cX11_lineOf 35 = .ok (.ireturn, 1) := op172 (bA_at bd03_dec_X11_0_115 5 rfl rfl)
theorem dX11_lineOf_36 : decode cX11_lineOf 36 = .ok (.aload_n 0, 1) := op42 (bA_at bd03_dec_X11_0_115 6 rfl rfl)
theorem dX11_lineOf_37 : decode cX11_lineOf 37 = .ok (.lload_n 2, 1) := op32 (bA_at bd03_dec_X11_0_115 7 rfl rfl)
theorem dX11_lineOf_38 : decode cX11_lineOf 38 = .ok (.iload 4, 2) := op21 (bA_at bd03_dec_X11_0_115 8 rfl rfl) rfl
theorem dX11_lineOf_40 : decode cX11_lineOf 40 = .ok (.invokevirtual 271, 3) := op182 (bA_at bd03_dec_X11_0_115 9 rfl rfl) rfl
theorem dX11_lineOf_43 : decode cX11_lineOf 43 = .ok (.ireturn, 1) := op172 (bA_at bd03_dec_X11_0_115 10 rfl rfl)
theorem bd03_dec_X11_0_116 : ([(0, [42]), (1, [32]), (2, [21, 4]), (4, [182, 1, 18]), (7, [172]), (8, [42]), (9, [32]), (10, [21, 4]), (12, [182, 1, 21]), (15, [172])] : List (Nat × List UInt8)).all (fun x => prB x.2 ((cX11_lineOf.data.toList.drop 44).drop x.1)) = true := by decide +kernel
theorem dX11_lineOf_44 : decode cX11_lineOf 44 = .ok (.aload_n 0, 1) := op42 (bA_at bd03_dec_X11_0_116 0 rfl rfl)
theorem dX11_lineOf_45 : decode cX11_lineOf 45 = .ok (.lload_n 2, 1) := op32 (bA_at bd03_dec_X11_0_116 1 rfl rfl)
theorem dX11_lineOf_46 : decode cX11_lineOf 46 = .ok (.iload 4, 2) := op21 (bA_at bd03_dec_X11_0_116 2 rfl rfl) rfl
theorem dX11_lineOf_48 : decode cX11_lineOf 48 = .ok (.invokevirtual 274, 3) := op182 (bA_at bd03_dec_X11_0_116 3 rfl rfl) rfl
theorem dX11_lineOf_51 : decode cX11_lineOf 51 = .ok (.ireturn, 1) := op172 (bA_at bd03_dec_X11_0_116 4 rfl rfl)
theorem dX11_lineOf_52 : decode cX11_lineOf 52 = .ok (.aload_n 0, 1) := op42 (bA_at bd03_dec_X11_0_116 5 rfl rfl)
theorem dX11_lineOf_53 : decode cX11_lineOf 53 = .ok (.lload_n 2, 1) := op32 (bA_at bd03_dec_X11_0_116 6 rfl rfl)
theorem dX11_lineOf_54 : decode cX11_lineOf 54 = .ok (.iload 4, 2) := op21 (bA_at bd03_dec_X11_0_116 7 rfl rfl) rfl
theorem dX11_lineOf_56 : decode cX11_lineOf 56 = .ok (.invokevirtual 277, 3) := op182 (bA_at bd03_dec_X11_0_116 8 rfl rfl) rfl
theorem dX11_lineOf_59 : decode cX11_lineOf 59 = .ok (.ireturn, 1) := op172 (bA_at bd03_dec_X11_0_116 9 rfl rfl)
theorem bd03_dec_X11_0_117 : ([(0, [4]), (1, [61]), (2, [28]), (3, [153, 0, 71]), (6, [42]), (7, [180, 0, 134]), (10, [153, 0, 64]), (13, [42]), (14, [180, 0, 127]), (17, [62]), (18, [42]), (19, [4])] : List (Nat × List UInt8)).all (fun x => prB x.2 ((cX11_lines.data.toList.drop 0).drop x.1)) = true := by decide +kernel
theorem dX11_lines_0 : decode cX11_lines 0 = .ok (.iconst 1, 1) := op4 (bA_at bd03_dec_X11_0_117 0 rfl rfl)
theorem dX11_lines_1 : decode cX11_lines 1 = .ok (.istore_n 2, 1) := op61 (bA_at bd03_dec_X11_0_117 1 rfl rfl)
theorem dX11_lines_2 : decode cX11_lines 2 = .ok (.iload_n 2, 1) := op28 (bA_at bd03_dec_X11_0_117 2 rfl rfl)
theorem dX11_lines_3 : decode cX11_lines 3 = .ok (.ifCond .eq 71, 3) := op153 (bA_at bd03_dec_X11_0_117 3 rfl rfl) (by decide +kernel)
theorem dX11_lines_6 : decode cX11_lines 6 = .ok (.aload_n 0, 1) := op42 (bA_at bd03_dec_X11_0_117 4 rfl rfl)
theorem dX11_lines_7 : decode cX11_lines 7 = .ok (.getfield 134, 3) := op180 (bA_at bd03_dec_X11_0_117 5 rfl rfl) rfl
theorem dX11_lines_10 : decode cX11_lines 10 = .ok (.ifCond .eq 64, 3) := op153 (bA_at bd03_dec_X11_0_117 6 rfl rfl) (by decide +kernel)
theorem dX11_lines_13 : decode cX11_lines 13 = .ok (.aload_n 0, 1) := op42 (bA_at bd03_dec_X11_0_117 7 rfl rfl)
theorem dX11_lines_14 : decode cX11_lines 14 = .ok (.getfield 127, 3) := op180 (bA_at bd03_dec_X11_0_117 8 rfl rfl) rfl
theorem dX11_lines_17 : decode cX11_lines 17 = .ok (.istore_n 3, 1) := op62 (bA_at bd03_dec_X11_0_117 9 rfl rfl)
theorem dX11_lines_18 : decode cX11_lines 18 = .ok (.aload_n 0, 1) := op42 (bA_at bd03_dec_X11_0_117 10 rfl rfl)
theorem dX11_lines_19 : decode cX11_lines 19 = .ok (.iconst 1, 1) := op4 (bA_at bd03_dec_X11_0_117 11 rfl rfl)
theorem bd03_dec_X11_0_118 : ([(0, [181, 0, 157]), (3, [42]), (4, [27]), (5, [42]), (6, [180, 0, 134]), (9, [5]), (10, [160, 0, 10]), (13, [42]), (14, [180, 0, 130]), (17, [167, 0, 4]), (20, [9]), (21, [29])] : List (Nat × List UInt8)).all (fun x => prB x.2 ((cX11_lines.data.toList.drop 20).drop x.1)) = true := by decide +kernel
theorem dX11_lines_20 : decode cX11_lines 20 = .ok (.putfield 157, 3) := op181 (bA_at bd03_dec_X11_0_118 0 rfl rfl) rfl
theorem dX11_lines_23 : decode cX11_lines 23 = .ok (.aload_n 0, 1) := op42 (bA_at bd03_dec_X11_0_118 1 rfl rfl)
theorem dX11_lines_24 : decode cX11_lines 24 = .ok (.iload_n 1, 1) := op27 (bA_at bd03_dec_X11_0_118 2 rfl rfl)
theorem dX11_lines_25 : decode cX11_lines 25 = .ok (.aload_n 0, 1) := op42 (bA_at bd03_dec_X11_0_118 3 rfl rfl)
theorem dX11_lines_26 : decode cX11_lines 26 = .ok (.getfield 134, 3) := op180 (bA_at bd03_dec_X11_0_118 4 rfl rfl) rfl
theorem dX11_lines_29 : decode cX11_lines 29 = .ok (.iconst 2, 1) := op5 (bA_at bd03_dec_X11_0_118 5 rfl rfl)
theorem dX11_lines_30 : decode cX11_lines 30 = .ok (.if_icmp .ne 10, 3) := op160 (bA_at bd03_dec_X11_0_118 6 rfl rfl) (by decide +kernel)
theorem dX11_lines_33 : decode cX11_lines 33 = .ok (.aload_n 0, 1) := op42 (bA_at bd03_dec_X11_0_118 7 rfl rfl)
theorem dX11_lines_34 : decode cX11_lines 34 = .ok (.getfield 130, 3) := op180 (bA_at bd03_dec_X11_0_118 8 rfl rfl) rfl
theorem dX11_lines_37 : decode cX11_lines 37 = .ok (.goto 4, 3) := op167 (bA_at bd03_dec_X11_0_118 9 rfl rfl) (by decide +kernel)
theorem dX11_lines_40 : decode cX11_lines 40 = .ok (.lconst 0, 1) := op9 (bA_at bd03_dec_X11_0_118 10 rfl rfl)
theorem dX11_lines_41 : decode cX11_lines 41 = .ok (.iload_n 3, 1) := op29 (bA_at bd03_dec_X11_0_118 11 rfl rfl)
theorem bd03_dec_X11_0_119 : ([(0, [182, 1, 24]), (3, [61]), (4, [28]), (5, [153, 0, 16]), (8, [42]), (9, [180, 0, 134]), (12, [7]), (13, [159, 0, 8]), (16, [42]), (17, [182, 0, 149]), (20, [61]), (21, [28])] : List (Nat × List UInt8)).all (fun x => prB x.2 ((cX11_lines.data.toList.drop 42).drop x.1)) = true := by decide +kernel
theorem dX11_lines_42 : decode cX11_lines 42 = .ok (.invokevirtual 280, 3) := op182 (bA_at bd03_dec_X11_0_119 0 rfl rfl) rfl
theorem dX11_lines_45 : decode cX11_lines 45 = .ok (.istore_n 2, 1) := op61 (bA_at bd03_dec_X11_0_119 1 rfl rfl)
theorem dX11_lines_46 : decode cX11_lines 46 = .ok (.iload_n 2, 1) := op28 (bA_at bd03_dec_X11_0_119 2 rfl rfl)
theorem dX11_lines_47 : decode cX11_lines 47 = .ok (.ifCond .eq 16, 3) := op153 (bA_at bd03_dec_X11_0_119 3 rfl rfl) (by decide +kernel)
theorem dX11_lines_50 : decode cX11_lines 50 = .ok (.aload_n 0, 1) := op42 (bA_at bd03_dec_X11_0_119 4 rfl rfl)
theorem dX11_lines_51 : decode cX11_lines 51 = .ok (.getfield 134, 3) := op180 (bA_at bd03_dec_X11_0_119 5 rfl rfl) rfl
theorem dX11_lines_54 : decode cX11_lines 54 = .ok (.iconst 4, 1) := op7 (bA_at bd03_dec_X11_0_119 6 rfl rfl)
theorem dX11_lines_55 : decode cX11_lines 55 = .ok (.if_icmp .eq 8, 3) := op159 (bA_at bd03_dec_X11_0_119 7 rfl rfl) (by decide +kernel)
theorem dX11_lines_58 : decode cX11_lines 58 = .ok (.aload_n 0, 1) := op42 (bA_at bd03_dec_X11_0_119 8 rfl rfl)
theorem dX11_lines_59 : decode cX11_lines 59 = .ok (.invokevirtual 149, 3) := op182 (bA_at bd03_dec_X11_0_119 9 rfl rfl) rfl
theorem dX11_lines_62 : decode cX11_lines 62 = .ok (.istore_n 2, 1) := op61 (bA_at bd03_dec_X11_0_119 10 rfl rfl)
theorem dX11_lines_63 : decode cX11_lines 63 = .ok (.iload_n 2, 1) := op28 (bA_at bd03_dec_X11_0_119 11 rfl rfl)
theorem bd03_dec_X11_0_120 : ([(0, [153, 0, 7]), (3, [42]), (4, [182, 0, 161]), (7, [167, 255, 187]), (10, [28]), (11, [172])] : List (Nat × List UInt8)).all (fun x => prB x.2 ((cX11_lines.data.toList.drop 64).drop x.1)) = true := by decide +kernel
theorem dX11_lines_64 : decode cX11_lines 64 = .ok (.ifCond .eq 7, 3) := op153 (bA_at bd03_dec_X11_0_120 0 rfl rfl) (by decide +kernel)
theorem dX11_lines_67 : decode cX11_lines 67 = .ok (.aload_n 0, 1) := op42 (bA_at bd03_dec_X11_0_120 1 rfl rfl)
theorem dX11_lines_68 : decode cX11_lines 68 = .ok (.invokevirtual 161, 3) := op182 (bA_at bd03_dec_X11_0_120 2 rfl rfl) rfl
theorem dX11_lines_71 : decode cX11_lines 71 = .ok (.goto (-69), 3) := op167 (bA_at bd03_dec_X11_0_120 3 rfl rfl) (by decide +kernel)
theorem dX11_lines_74 : decode cX11_lines 74 = .ok (.iload_n 2, 1) := op28 (bA_at bd03_dec_X11_0_120 4 rfl rfl)
theorem dX11_lines_75 : decode cX11_lines 75 = .ok (.ireturn, 1) := op172 (bA_at bd03_dec_X11_0_120 5 rfl rfl)
theorem bd03_dec_X11_0_121 : ([(0, [3]), (1, [61]), (2, [28]), (3, [17, 0, 132]), (6, [162, 0, 16]), (9, [42]), (10, [180, 0, 38]), (13, [28]), (14, [3]), (15, [79]), (16, [132, 2, 1]), (19, [167, 255, 239])] : List (Nat × List UInt8)).all (fun x => prB x.2 ((cX11_readText.data.toList.drop 0).drop x.1)) = true := by decide +kernel
theorem dX11_readText_0 : decode cX11_readText 0 = .ok (.iconst 0, 1) := op3 (bA_at bd03_dec_X11_0_121 0 rfl rfl)
theorem dX11_readText_1 : decode cX11_readText 1 = .ok (.istore_n 2, 1) := op61 (bA_at bd03_dec_X11_0_121 1 rfl rfl)
theorem dX11_readText_2 : decode cX11_readText 2 = .ok (.iload_n 2, 1) := op28 (bA_at bd03_dec_X11_0_121 2 rfl rfl)
theorem dX11_readText_3 : decode cX11_readText 3 = .ok (.sipush 132, 3) := op17 (bA_at bd03_dec_X11_0_121 3 rfl rfl) (by decide +kernel)
theorem dX11_readText_6 : decode cX11_readText 6 = .ok (.if_icmp .ge 16, 3) := op162 (bA_at bd03_dec_X11_0_121 4 rfl rfl) (by decide +kernel)
theorem dX11_readText_9 : decode cX11_readText 9 = .ok (.aload_n 0, 1) := op42 (bA_at bd03_dec_X11_0_121 5 rfl rfl)
theorem dX11_readText_10 : decode cX11_readText 10 = .ok (.getfield 38, 3) := op180 (bA_at bd03_dec_X11_0_121 6 rfl rfl) rfl
theorem dX11_readText_13 : decode cX11_readText 13 = .ok (.iload_n 2, 1) := op28 (bA_at bd03_dec_X11_0_121 7 rfl rfl)
theorem dX11_readText_14 : decode cX11_readText 14 = .ok (.iconst 0, 1) := op3 (bA_at bd03_dec_X11_0_121 8 rfl rfl)
theorem dX11_readText_15 : decode cX11_readText 15 = .ok (.iastore, 1) := op79 (bA_at bd03_dec_X11_0_121 9 rfl rfl)
theorem dX11_readText_16 : decode cX11_readText 16 = .ok (.iinc 2 1, 3) := op132 (bA_at bd03_dec_X11_0_121 10 rfl rfl) rfl (by decide +kernel)
theorem dX11_readText_19 : decode cX11_readText 19 = .ok (.goto (-17), 3) := op167 (bA_at bd03_dec_X11_0_121 11 rfl rfl) (by decide +kernel)
theorem bd03_dec_X11_0_122 : ([(0, [27]), (1, [154, 0, 18]), (4, [42]), (5, [180, 0, 38]), (8, [8]), (9, [5]), (10, [79]), (11, [42]), (12, [180, 0, 38]), (15, [16, 6]), (17, [8]), (18, [79])] : List (Nat × List UInt8)).all (fun x => prB x.2 ((cX11_readText.data.toList.drop 22).drop x.1)) = true := by decide +kernel
theorem dX11_readText_22 : decode cX11_readText 22 = .ok (.iload_n 1, 1) := op27 (bA_at bd03_dec_X11_0_122 0 rfl rfl)
theorem dX11_readText_23 : decode cX11_readText 23 = .ok (.ifCond .ne 18, 3) := op154 (bA_at bd03_dec_X11_0_122 1 rfl rfl) (by decide +kernel)
theorem dX11_readText_26 : decode cX11_readText 26 = .ok (.aload_n 0, 1) := op42 (bA_at bd03_dec_X11_0_122 2 rfl rfl)
theorem dX11_readText_27 : decode cX11_readText 27 = .ok (.getfield 38, 3) := op180 (bA_at bd03_dec_X11_0_122 3 rfl rfl) rfl
theorem dX11_readText_30 : decode cX11_readText 30 = .ok (.iconst 5, 1) := op8 (bA_at bd03_dec_X11_0_122 4 rfl rfl)
theorem dX11_readText_31 : decode cX11_readText 31 = .ok (.iconst 2, 1) := op5 (bA_at bd03_dec_X11_0_122 5 rfl rfl)
theorem dX11_readText_32 : decode cX11_readText 32 = .ok (.iastore, 1) := op79 (bA_at bd03_dec_X11_0_122 6 rfl rfl)
theorem dX11_readText_33 : decode cX11_readText 33 = .ok (.aload_n 0, 1) := op42 (bA_at bd03_dec_X11_0_122 7 rfl rfl)
theorem dX11_readText_34 : decode cX11_readText 34 = .ok (.getfield 38, 3) := op180 (bA_at bd03_dec_X11_0_122 8 rfl rfl) rfl
theorem dX11_readText_37 : decode cX11_readText 37 = .ok (.bipush 6, 2) := op16 (bA_at bd03_dec_X11_0_122 9 rfl rfl) (by decide +kernel)
theorem dX11_readText_39 : decode cX11_readText 39 = .ok (.iconst 5, 1) := op8 (bA_at bd03_dec_X11_0_122 10 rfl rfl)
theorem dX11_readText_40 : decode cX11_readText 40 = .ok (.iastore, 1) := op79 (bA_at bd03_dec_X11_0_122 11 rfl rfl)
theorem bd03_dec_X11_0_123 : ([(0, [42]), (1, [2]), (2, [181, 0, 168]), (5, [42]), (6, [2]), (7, [181, 0, 184]), (10, [42]), (11, [3]), (12, [181, 0, 117]), (15, [42]), (16, [3]), (17, [181, 0, 143])] : List (Nat × List UInt8)).all (fun x => prB x.2 ((cX11_readText.data.toList.drop 41).drop x.1)) = true := by decide +kernel
theorem dX11_readText_41 : decode cX11_readText 41 = .ok (.aload_n 0, 1) := op42 (bA_at bd03_dec_X11_0_123 0 rfl rfl)
theorem dX11_readText_42 : decode cX11_readText 42 = .ok (.iconst (-1), 1) := op2 (bA_at bd03_dec_X11_0_123 1 rfl rfl)
theorem dX11_readText_43 : decode cX11_readText 43 = .ok (.putfield 168, 3) := op181 (bA_at bd03_dec_X11_0_123 2 rfl rfl) rfl
theorem dX11_readText_46 : decode cX11_readText 46 = .ok (.aload_n 0, 1) := op42 (bA_at bd03_dec_X11_0_123 3 rfl rfl)
theorem dX11_readText_47 : decode cX11_readText 47 = .ok (.iconst (-1), 1) := op2 (bA_at bd03_dec_X11_0_123 4 rfl rfl)
theorem dX11_readText_48 : decode cX11_readText 48 = .ok (.putfield 184, 3) := op181 (bA_at bd03_dec_X11_0_123 5 rfl rfl) rfl
theorem dX11_readText_51 : decode cX11_readText 51 = .ok (.aload_n 0, 1) := op42 (bA_at bd03_dec_X11_0_123 6 rfl rfl)
theorem dX11_readText_52 : decode cX11_readText 52 = .ok (.iconst 0, 1) := op3 (bA_at bd03_dec_X11_0_123 7 rfl rfl)
theorem dX11_readText_53 : decode cX11_readText 53 = .ok (.putfield 117, 3) := op181 (bA_at bd03_dec_X11_0_123 8 rfl rfl) rfl
theorem dX11_readText_56 : decode cX11_readText 56 = .ok (.aload_n 0, 1) := op42 (bA_at bd03_dec_X11_0_123 9 rfl rfl)
theorem dX11_readText_57 : decode cX11_readText 57 = .ok (.iconst 0, 1) := op3 (bA_at bd03_dec_X11_0_123 10 rfl rfl)
theorem dX11_readText_58 : decode cX11_readText 58 = .ok (.putfield 143, 3) := op181 (bA_at bd03_dec_X11_0_123 11 rfl rfl) rfl
theorem bd03_dec_X11_0_124 : ([(0, [42]), (1, [182, 0, 161]), (4, [42]), (5, [27]), (6, [182, 1, 28]), (9, [61]), (10, [28]), (11, [153, 0, 49]), (14, [27]), (15, [154, 0, 45]), (18, [42]), (19, [180, 0, 143])] : List (Nat × List UInt8)).all (fun x => prB x.2 ((cX11_readText.data.toList.drop 61).drop x.1)) = true := by decide +kernel
theorem dX11_readText_61 : decode cX11_readText 61 = .ok (.aload_n 0, 1) := op42 (bA_at bd03_dec_X11_0_124 0 rfl rfl)
theorem dX11_readText_62 : decode cX11_readText 62 = .ok (.invokevirtual 161, 3) := op182 (bA_at bd03_dec_X11_0_124 1 rfl rfl) rfl
theorem dX11_readText_65 : decode cX11_readText 65 = .ok (.aload_n 0, 1) := op42 (bA_at bd03_dec_X11_0_124 2 rfl rfl)
theorem dX11_readText_66 : decode cX11_readText 66 = .ok (.iload_n 1, 1) := op27 (bA_at bd03_dec_X11_0_124 3 rfl rfl)
theorem dX11_readText_67 : decode cX11_readText 67 = .ok (.invokevirtual 284, 3) := op182 (bA_at bd03_dec_X11_0_124 4 rfl rfl) rfl
theorem dX11_readText_70 : decode cX11_readText 70 = .ok (.istore_n 2, 1) := op61 (bA_at bd03_dec_X11_0_124 5 rfl rfl)
theorem dX11_readText_71 : decode cX11_readText 71 = .ok (.iload_n 2, 1) := op28 (bA_at bd03_dec_X11_0_124 6 rfl rfl)
theorem dX11_readText_72 : decode cX11_readText 72 = .ok (.ifCond .eq 49, 3) := op153 (bA_at bd03_dec_X11_0_124 7 rfl rfl) (by decide +kernel)
theorem dX11_readText_75 : decode cX11_readText 75 = .ok (.iload_n 1, 1) := op27 (bA_at bd03_dec_X11_0_124 8 rfl rfl)
theorem dX11_readText_76 : decode cX11_readText 76 = .ok (.ifCond .ne 45, 3) := op154 (bA_at bd03_dec_X11_0_124 9 rfl rfl) (by decide +kernel)
theorem dX11_readText_79 : decode cX11_readText 79 = .ok (.aload_n 0, 1) := op42 (bA_at bd03_dec_X11_0_124 10 rfl rfl)
theorem dX11_readText_80 : decode cX11_readText 80 = .ok (.getfield 143, 3) := op180 (bA_at bd03_dec_X11_0_124 11 rfl rfl) rfl
theorem bd03_dec_X11_0_125 : ([(0, [154, 0, 38]), (3, [42]), (4, [180, 0, 168]), (7, [42]), (8, [180, 0, 38]), (11, [3]), (12, [46]), (13, [162, 0, 16]), (16, [42]), (17, [180, 0, 184]), (20, [42]), (21, [180, 0, 38])] : List (Nat × List UInt8)).all (fun x => prB x.2 ((cX11_readText.data.toList.drop 83).drop x.1)) = true := by decide +kernel
theorem dX11_readText_83 : decode cX11_readText 83 = .ok (.ifCond .ne 38, 3) := op154 (bA_at bd03_dec_X11_0_125 0 rfl rfl) (by decide +kernel)
theorem dX11_readText_86 : decode cX11_readText 86 = .ok (.aload_n 0, 1) := op42 (bA_at bd03_dec_X11_0_125 1 rfl rfl)
theorem dX11_readText_87 : decode cX11_readText 87 = .ok (.getfield 168, 3) := op180 (bA_at bd03_dec_X11_0_125 2 rfl rfl) rfl
theorem dX11_readText_90 : decode cX11_readText 90 = .ok (.aload_n 0, 1) := op42 (bA_at bd03_dec_X11_0_125 3 rfl rfl)
theorem dX11_readText_91 : decode cX11_readText 91 = .ok (.getfield 38, 3) := op180 (bA_at bd03_dec_X11_0_125 4 rfl rfl) rfl
theorem dX11_readText_94 : decode cX11_readText 94 = .ok (.iconst 0, 1) := op3 (bA_at bd03_dec_X11_0_125 5 rfl rfl)
theorem dX11_readText_95 : decode cX11_readText 95 = .ok (.iaload, 1) := op46 (bA_at bd03_dec_X11_0_125 6 rfl rfl)
theorem dX11_readText_96 : decode cX11_readText 96 = .ok (.if_icmp .ge 16, 3) := op162 (bA_at bd03_dec_X11_0_125 7 rfl rfl) (by decide +kernel)
theorem dX11_readText_99 : decode cX11_readText 99 = .ok (.aload_n 0, 1) := op42 (bA_at bd03_dec_X11_0_125 8 rfl rfl)
theorem dX11_readText_100 : decode cX11_readText 100 = .ok (.getfield 184, 3) := op180 (bA_at bd03_dec_X11_0_125 9 rfl rfl) rfl
theorem dX11_readText_103 : decode cX11_readText 103 = .ok (.aload_n 0, 1) := op42 (bA_at bd03_dec_X11_0_125 10 rfl rfl)
theorem dX11_readText_104 : decode cX11_readText 104 = .ok (.getfield 38, 3) := op180 (bA_at bd03_dec_X11_0_125 11 rfl rfl) rfl
theorem bd03_dec_X11_0_126 : ([(0, [4]), (1, [46]), (2, [161, 0, 12]), (5, [42]), (6, [7]), (7, [42]), (8, [180, 0, 127]), (11, [182, 0, 153]), (14, [42]), (15, [180, 0, 17]), (18, [3]), (19, [28])] : List (Nat × List UInt8)).all (fun x => prB x.2 ((cX11_readText.data.toList.drop 107).drop x.1)) = true := by decide +kernel
theorem dX11_readText_107 : decode cX11_readText 107 = .ok (.iconst 1, 1) := op4 (bA_at bd03_dec_X11_0_126 0 rfl rfl)
theorem dX11_readText_108 : decode cX11_readText 108 = .ok (.iaload, 1) := op46 (bA_at bd03_dec_X11_0_126 1 rfl rfl)
theorem dX11_readText_109 : decode cX11_readText 109 = .ok (.if_icmp .lt 12, 3) := op161 (bA_at bd03_dec_X11_0_126 2 rfl rfl) (by decide +kernel)
theorem dX11_readText_112 : decode cX11_readText 112 = .ok (.aload_n 0, 1) := op42 (bA_at bd03_dec_X11_0_126 3 rfl rfl)
theorem dX11_readText_113 : decode cX11_readText 113 = .ok (.iconst 4, 1) := op7 (bA_at bd03_dec_X11_0_126 4 rfl rfl)
theorem dX11_readText_114 : decode cX11_readText 114 = .ok (.aload_n 0, 1) := op42 (bA_at bd03_dec_X11_0_126 5 rfl rfl)
theorem dX11_readText_115 : decode cX11_readText 115 = .ok (.getfield 127, 3) := op180 (bA_at bd03_dec_X11_0_126 6 rfl rfl) rfl
theorem dX11_readText_118 : decode cX11_readText 118 = .ok (.invokevirtual 153, 3) := op182 (bA_at bd03_dec_X11_0_126 7 rfl rfl) rfl
theorem dX11_readText_121 : decode cX11_readText 121 = .ok (.aload_n 0, 1) := op42 (bA_at bd03_dec_X11_0_126 8 rfl rfl)
theorem dX11_readText_122 : decode cX11_readText 122 = .ok (.getfield 17, 3) := op180 (bA_at bd03_dec_X11_0_126 9 rfl rfl) rfl
theorem dX11_readText_125 : decode cX11_readText 125 = .ok (.iconst 0, 1) := op3 (bA_at bd03_dec_X11_0_126 10 rfl rfl)
theorem dX11_readText_126 : decode cX11_readText 126 = .ok (.iload_n 2, 1) := op28 (bA_at bd03_dec_X11_0_126 11 rfl rfl)
theorem bd03_dec_X11_0_127 : ([(0, [153, 0, 10]), (3, [42]), (4, [180, 0, 143]), (7, [167, 0, 4]), (10, [4]), (11, [79]), (12, [42]), (13, [180, 0, 20]), (16, [3]), (17, [28]), (18, [154, 0, 10]), (21, [42])] : List (Nat × List UInt8)).all (fun x => prB x.2 ((cX11_readText.data.toList.drop 127).drop x.1)) = true := by decide +kernel
theorem dX11_readText_127 : decode cX11_readText 127 = .ok (.ifCond .eq 10, 3) := op153 (bA_at bd03_dec_X11_0_127 0 rfl rfl) (by decide +kernel)
theorem dX11_readText_130 : decode cX11_readText 130 = .ok (.aload_n 0, 1) := op42 (bA_at bd03_dec_X11_0_127 1 rfl rfl)
theorem dX11_readText_131 : decode cX11_readText 131 = .ok (.getfield 143, 3) := op180 (bA_at bd03_dec_X11_0_127 2 rfl rfl) rfl
theorem dX11_readText_134 : decode cX11_readText 134 = .ok (.goto 4, 3) := op167 (bA_at bd03_dec_X11_0_127 3 rfl rfl) (by decide +kernel)
theorem dX11_readText_137 : decode cX11_readText 137 = .ok (.iconst 1, 1) := op4 (bA_at bd03_dec_X11_0_127 4 rfl rfl)
theorem dX11_readText_138 : decode cX11_readText 138 = .ok (.iastore, 1) := op79 (bA_at bd03_dec_X11_0_127 5 rfl rfl)
theorem dX11_readText_139 : decode cX11_readText 139 = .ok (.aload_n 0, 1) := op42 (bA_at bd03_dec_X11_0_127 6 rfl rfl)
theorem dX11_readText_140 : decode cX11_readText 140 = .ok (.getfield 20, 3) := op180 (bA_at bd03_dec_X11_0_127 7 rfl rfl) rfl
theorem dX11_readText_143 : decode cX11_readText 143 = .ok (.iconst 0, 1) := op3 (bA_at bd03_dec_X11_0_127 8 rfl rfl)
theorem dX11_readText_144 : decode cX11_readText 144 = .ok (.iload_n 2, 1) := op28 (bA_at bd03_dec_X11_0_127 9 rfl rfl)
theorem dX11_readText_145 : decode cX11_readText 145 = .ok (.ifCond .ne 10, 3) := op154 (bA_at bd03_dec_X11_0_127 10 rfl rfl) (by decide +kernel)
theorem dX11_readText_148 : decode cX11_readText 148 = .ok (.aload_n 0, 1) := op42 (bA_at bd03_dec_X11_0_127 11 rfl rfl)
theorem bd03_dec_X11_0_128 : ([(0, [180, 0, 140]), (3, [167, 0, 18]), (6, [42]), (7, [180, 0, 143]), (10, [158, 0, 10]), (13, [42]), (14, [180, 0, 146]), (17, [167, 0, 4]), (20, [2]), (21, [79]), (22, [42]), (23, [180, 0, 17])] : List (Nat × List UInt8)).all (fun x => prB x.2 ((cX11_readText.data.toList.drop 149).drop x.1)) = true := by decide +kernel
theorem dX11_readText_149 : decode cX11_readText 149 = .ok (.getfield 140, 3) := op180 (bA_at bd03_dec_X11_0_128 0 rfl rfl) rfl
theorem dX11_readText_152 : decode cX11_readText 152 = .ok (.goto 18, 3) := op167 (bA_at bd03_dec_X11_0_128 1 rfl rfl) (by decide +kernel)
theorem dX11_readText_155 : decode cX11_readText 155 = .ok (.aload_n 0, 1) := op42 (bA_at bd03_dec_X11_0_128 2 rfl rfl)
theorem dX11_readText_156 : decode cX11_readText 156 = .ok (.getfield 143, 3) := op180 (bA_at bd03_dec_X11_0_128 3 rfl rfl) rfl
theorem dX11_readText_159 : decode cX11_readText 159 = .ok (.ifCond .le 10, 3) := op158 (bA_at bd03_dec_X11_0_128 4 rfl rfl) (by decide +kernel)
theorem dX11_readText_162 : decode cX11_readText 162 = .ok (.aload_n 0, 1) := op42 (bA_at bd03_dec_X11_0_128 5 rfl rfl)
theorem dX11_readText_163 : decode cX11_readText 163 = .ok (.getfield 146, 3) := op180 (bA_at bd03_dec_X11_0_128 6 rfl rfl) rfl
theorem dX11_readText_166 : decode cX11_readText 166 = .ok (.goto 4, 3) := op167 (bA_at bd03_dec_X11_0_128 7 rfl rfl) (by decide +kernel)
theorem dX11_readText_169 : decode cX11_readText 169 = .ok (.iconst (-1), 1) := op2 (bA_at bd03_dec_X11_0_128 8 rfl rfl)
theorem dX11_readText_170 : decode cX11_readText 170 = .ok (.iastore, 1) := op79 (bA_at bd03_dec_X11_0_128 9 rfl rfl)
theorem dX11_readText_171 : decode cX11_readText 171 = .ok (.aload_n 0, 1) := op42 (bA_at bd03_dec_X11_0_128 10 rfl rfl)
theorem dX11_readText_172 : decode cX11_readText 172 = .ok (.getfield 17, 3) := op180 (bA_at bd03_dec_X11_0_128 11 rfl rfl) rfl
theorem bd03_dec_X11_0_129 : ([(0, [3]), (1, [46]), (2, [154, 0, 7]), (5, [4]), (6, [167, 0, 4]), (9, [3]), (10, [172])] : List (Nat × List UInt8)).all (fun x => prB x.2 ((cX11_readText.data.toList.drop 175).drop x.1)) = true := by decide +kernel
theorem dX11_readText_175 : decode cX11_readText 175 = .ok (.iconst 0, 1) := op3 (bA_at bd03_dec_X11_0_129 0 rfl rfl)
theorem dX11_readText_176 : decode cX11_readText 176 = .ok (.iaload, 1) := op46 (bA_at bd03_dec_X11_0_129 1 rfl rfl)
theorem dX11_readText_177 : decode cX11_readText 177 = .ok (.ifCond .ne 7, 3) := op154 (bA_at bd03_dec_X11_0_129 2 rfl rfl) (by decide +kernel)
theorem dX11_readText_180 : decode cX11_readText 180 = .ok (.iconst 1, 1) := op4 (bA_at bd03_dec_X11_0_129 3 rfl rfl)
theorem dX11_readText_181 : decode cX11_readText 181 = .ok (.goto 4, 3) := op167 (bA_at bd03_dec_X11_0_129 4 rfl rfl) (by decide +kernel)
theorem dX11_readText_184 : decode cX11_readText 184 = .ok (.iconst 0, 1) := op3 (bA_at bd03_dec_X11_0_129 5 rfl rfl)
theorem dX11_readText_185 : decode cX11_readText 185 = .ok (.ireturn, 1) := op172 (bA_at bd03_dec_X11_0_129 6 rfl rfl)
theorem bd03_dec_X11_0_130 : ([(0, [3]), (1, [54, 4]), (3, [21, 4]), (5, [28]), (6, [162, 0, 24]), (9, [43]), (10, [28]), (11, [29]), (12, [104]), (13, [21, 4]), (15, [96])] : List (Nat × List UInt8)).all (fun x => prB x.2 ((cX11_store.data.toList.drop 0).drop x.1)) = true := by decide +kernel
theorem dX11_store_0 : decode cX11_store 0 = .ok (.iconst 0, 1) := op3 (bA_at bd03_dec_X11_0_130 0 rfl rfl)
theorem dX11_store_1 : decode cX11_store 1 = .ok (.istore 4, 2) := op54 (bA_at bd03_dec_X11_0_130 1 rfl rfl) rfl
theorem dX11_store_3 : decode cX11_store 3 = .ok (.iload 4, 2) := op21 (bA_at bd03_dec_X11_0_130 2 rfl rfl) rfl
theorem dX11_store_5 : decode cX11_store 5 = .ok (.iload_n 2, 1) := op28 (bA_at bd03_dec_X11_0_130 3 rfl rfl)
theorem dX11_store_6 : decode cX11_store 6 = .ok (.if_icmp .ge 24, 3) := op162 (bA_at bd03_dec_X11_0_130 4 rfl rfl) (by decide +kernel)
theorem dX11_store_9 : decode cX11_store 9 = .ok (.aload_n 1, 1) := op43 (bA_at bd03_dec_X11_0_130 5 rfl rfl)
theorem dX11_store_10 : decode cX11_store 10 = .ok (.iload_n 2, 1) := op28 (bA_at bd03_dec_X11_0_130 6 rfl rfl)
theorem dX11_store_11 : decode cX11_store 11 = .ok (.iload_n 3, 1) := op29 (bA_at bd03_dec_X11_0_130 7 rfl rfl)
theorem dX11_store_12 : decode cX11_store 12 = .ok (.imul, 1) := op104 (bA_at bd03_dec_X11_0_130 8 rfl rfl)
theorem dX11_store_13 : decode cX11_store 13 = .ok (.iload 4, 2) := op21 (bA_at bd03_dec_X11_0_130 9 rfl rfl) rfl
theorem dX11_store_15 : decode cX11_store 15 = .ok (.iadd, 1) := op96 (bA_at bd03_dec_X11_0_130 10 rfl rfl)
end
section
theorem bd03_dec_X11_1_0 : ([(0, [42]), (1, [180, 0, 38]), (4, [21, 4]), (6, [46]), (7, [79]), (8, [132, 4, 1]), (11, [167, 255, 232]), (14, [177])] : List (Nat × List UInt8)).all (fun x => prB x.2 ((cX11_store.data.toList.drop 16).drop x.1)) = true := by decide +kernel
theorem dX11_store_16 : decode cX11_store 16 = .ok (.aload_n 0, 1) := op42 (bA_at bd03_dec_X11_1_0 0 rfl rfl)
theorem dX11_store_17 : decode cX11_store 17 = .ok (.getfield 38, 3) := op180 (bA_at bd03_dec_X11_1_0 1 rfl rfl) rfl
theorem dX11_store_20 : decode cX11_store 20 = .ok (.iload 4, 2) := op21 (bA_at bd03_dec_X11_1_0 2 rfl rfl) rfl
theorem dX11_store_22 : decode cX11_store 22 = .ok (.iaload, 1) := op46 (bA_at bd03_dec_X11_1_0 3 rfl rfl)
theorem dX11_store_23 : decode cX11_store 23 = .ok (.iastore, 1) := op79 (bA_at bd03_dec_X11_1_0 4 rfl rfl)
theorem dX11_store_24 : decode cX11_store 24 = .ok (.iinc 4 1, 3) := op132 (bA_at bd03_dec_X11_1_0 5 rfl rfl) rfl (by decide +kernel)
theorem dX11_store_27 : decode cX11_store 27 = .ok (.goto (-24), 3) := op167 (bA_at bd03_dec_X11_1_0 6 rfl rfl) (by decide +kernel)
theorem dX11_store_30 : decode cX11_store 30 = .ok (.return_, 1) := op177 (bA_at bd03_dec_X11_1_0 7 rfl rfl)
theorem dX11_storeAll_1 : decode cX11_storeAll 1 = .ok (.tableswitch 64 0 2 #[27, 40, 52], 27) := by decide +kernel
theorem bd03_dec_X11_1_1 : ([(0, [27]), (28, [42]), (29, [42]), (30, [180, 0, 26]), (33, [17, 0, 132]), (36, [28]), (37, [182, 1, 31]), (40, [177]), (41, [42]), (42, [42]), (43, [180, 0, 29])] : List (Nat × List UInt8)).all (fun x => prB x.2 ((cX11_storeAll.data.toList.drop 0).drop x.1)) = true := by decide +kernel
theorem dX11_storeAll_0 : decode cX11_storeAll 0 = .ok (.iload_n 1, 1) := op27 (bA_at bd03_dec_X11_1_1 0 rfl rfl)
theorem dX11_storeAll_28 : decode cX11_storeAll 28 = .ok (.aload_n 0, 1) := op42 (bA_at bd03_dec_X11_1_1 1 rfl rfl)
theorem dX11_storeAll_29 : decode cX11_storeAll 29 = .ok (.aload_n 0, 1) := op42 (bA_at bd03_dec_X11_1_1 2 rfl rfl)
theorem dX11_storeAll_30 : decode cX11_storeAll 30 = .ok (.getfield 26, 3) := op180 (bA_at bd03_dec_X11_1_1 3 rfl rfl) rfl
theorem dX11_storeAll_33 : decode cX11_storeAll 33 = .ok (.sipush 132, 3) := op17 (bA_at bd03_dec_X11_1_1 4 rfl rfl) (by decide +kernel)
theorem dX11_storeAll_36 : decode cX11_storeAll 36 = .ok (.iload_n 2, 1) := op28 (bA_at bd03_dec_X11_1_1 5 rfl rfl)
theorem dX11_storeAll_37 : decode cX11_storeAll 37 = .ok (.invokevirtual 287, 3) := op182 (bA_at bd03_dec_X11_1_1 6 rfl rfl) rfl
theorem dX11_storeAll_40 : decode cX11_storeAll 40 = .ok (.return_, 1) := op177 (bA_at bd03_dec_X11_1_1 7 rfl rfl)
theorem dX11_storeAll_41 : decode cX11_storeAll 41 = .ok (.aload_n 0, 1) := op42 (bA_at bd03_dec_X11_1_1 8 rfl rfl)
theorem dX11_storeAll_42 : decode cX11_storeAll 42 = .ok (.aload_n 0, 1) := op42 (bA_at bd03_dec_X11_1_1 9 rfl rfl)
theorem dX11_storeAll_43 : decode cX11_storeAll 43 = .ok (.getfield 29, 3) := op180 (bA_at bd03_dec_X11_1_1 10 rfl rfl) rfl
theorem bd03_dec_X11_1_2 : ([(0, [16, 121]), (2, [28]), (3, [182, 1, 31]), (6, [177]), (7, [42]), (8, [42]), (9, [180, 0, 32]), (12, [16, 31]), (14, [28]), (15, [182, 1, 31]), (18, [177]), (19, [42])] : List (Nat × List UInt8)).all (fun x => prB x.2 ((cX11_storeAll.data.toList.drop 46).drop x.1)) = true := by decide +kernel
theorem dX11_storeAll_46 : decode cX11_storeAll 46 = .ok (.bipush 121, 2) := op16 (bA_at bd03_dec_X11_1_2 0 rfl rfl) (by decide +kernel)
theorem dX11_storeAll_48 : decode cX11_storeAll 48 = .ok (.iload_n 2, 1) := op28 (bA_at bd03_dec_X11_1_2 1 rfl rfl)
theorem dX11_storeAll_49 : decode cX11_storeAll 49 = .ok (.invokevirtual 287, 3) := op182 (bA_at bd03_dec_X11_1_2 2 rfl rfl) rfl
theorem dX11_storeAll_52 : decode cX11_storeAll 52 = .ok (.return_, 1) := op177 (bA_at bd03_dec_X11_1_2 3 rfl rfl)
theorem dX11_storeAll_53 : decode cX11_storeAll 53 = .ok (.aload_n 0, 1) := op42 (bA_at bd03_dec_X11_1_2 4 rfl rfl)
theorem dX11_storeAll_54 : decode cX11_storeAll 54 = .ok (.aload_n 0, 1) := op42 (bA_at bd03_dec_X11_1_2 5 rfl rfl)
theorem dX11_storeAll_55 : decode cX11_storeAll 55 = .ok (.getfield 32, 3) := op180 (bA_at bd03_dec_X11_1_2 6 rfl rfl) rfl
theorem dX11_storeAll_58 : decode cX11_storeAll 58 = .ok (.bipush 31, 2) := op16 (bA_at bd03_dec_X11_1_2 7 rfl rfl) (by decide +kernel)
theorem dX11_storeAll_60 : decode cX11_storeAll 60 = .ok (.iload_n 2, 1) := op28 (bA_at bd03_dec_X11_1_2 8 rfl rfl)
theorem dX11_storeAll_61 : decode cX11_storeAll 61 = .ok (.invokevirtual 287, 3) := op182 (bA_at bd03_dec_X11_1_2 9 rfl rfl) rfl
theorem dX11_storeAll_64 : decode cX11_storeAll 64 = .ok (.return_, 1) := op177 (bA_at bd03_dec_X11_1_2 10 rfl rfl)
theorem dX11_storeAll_65 : decode cX11_storeAll 65 = .ok (.aload_n 0, 1) := op42 (bA_at bd03_dec_X11_1_2 11 rfl rfl)
theorem bd03_dec_X11_1_3 : ([(0, [42]), (1, [180, 0, 35]), (4, [16, 20]), (6, [28]), (7, [182, 1, 31]), (10, [177])] : List (Nat × List UInt8)).all (fun x => prB x.2 ((cX11_storeAll.data.toList.drop 66).drop x.1)) = true := by decide +kernel
theorem dX11_storeAll_66 : decode cX11_storeAll 66 = .ok (.aload_n 0, 1) := op42 (bA_at bd03_dec_X11_1_3 0 rfl rfl)
theorem dX11_storeAll_67 : decode cX11_storeAll 67 = .ok (.getfield 35, 3) := op180 (bA_at bd03_dec_X11_1_3 1 rfl rfl) rfl
theorem dX11_storeAll_70 : decode cX11_storeAll 70 = .ok (.bipush 20, 2) := op16 (bA_at bd03_dec_X11_1_3 2 rfl rfl) (by decide +kernel)
theorem dX11_storeAll_72 : decode cX11_storeAll 72 = .ok (.iload_n 2, 1) := op28 (bA_at bd03_dec_X11_1_3 3 rfl rfl)
theorem dX11_storeAll_73 : decode cX11_storeAll 73 = .ok (.invokevirtual 287, 3) := op182 (bA_at bd03_dec_X11_1_3 4 rfl rfl) rfl
theorem dX11_storeAll_76 : decode cX11_storeAll 76 = .ok (.return_, 1) := op177 (bA_at bd03_dec_X11_1_3 5 rfl rfl)
theorem bd03_dec_X11_1_4 : ([(0, [42]), (1, [3]), (2, [181, 0, 97]), (5, [42]), (6, [42]), (7, [180, 0, 13]), (10, [3]), (11, [46]), (12, [181, 0, 120]), (15, [42]), (16, [180, 0, 13]), (19, [3])] : List (Nat × List UInt8)).all (fun x => prB x.2 ((cX11_text.data.toList.drop 0).drop x.1)) = true := by decide +kernel
theorem dX11_text_0 : decode cX11_text 0 = .ok (.aload_n 0, 1) := op42 (bA_at bd03_dec_X11_1_4 0 rfl rfl)
theorem dX11_text_1 : decode cX11_text 1 = .ok (.iconst 0, 1) := op3 (bA_at bd03_dec_X11_1_4 1 rfl rfl)
theorem dX11_text_2 : decode cX11_text 2 = .ok (.putfield 97, 3) := op181 (bA_at bd03_dec_X11_1_4 2 rfl rfl) rfl
theorem dX11_text_5 : decode cX11_text 5 = .ok (.aload_n 0, 1) := op42 (bA_at bd03_dec_X11_1_4 3 rfl rfl)
theorem dX11_text_6 : decode cX11_text 6 = .ok (.aload_n 0, 1) := op42 (bA_at bd03_dec_X11_1_4 4 rfl rfl)
theorem dX11_text_7 : decode cX11_text 7 = .ok (.getfield 13, 3) := op180 (bA_at bd03_dec_X11_1_4 5 rfl rfl) rfl
theorem dX11_text_10 : decode cX11_text 10 = .ok (.iconst 0, 1) := op3 (bA_at bd03_dec_X11_1_4 6 rfl rfl)
theorem dX11_text_11 : decode cX11_text 11 = .ok (.iaload, 1) := op46 (bA_at bd03_dec_X11_1_4 7 rfl rfl)
theorem dX11_text_12 : decode cX11_text 12 = .ok (.putfield 120, 3) := op181 (bA_at bd03_dec_X11_1_4 8 rfl rfl) rfl
theorem dX11_text_15 : decode cX11_text 15 = .ok (.aload_n 0, 1) := op42 (bA_at bd03_dec_X11_1_4 9 rfl rfl)
theorem dX11_text_16 : decode cX11_text 16 = .ok (.getfield 13, 3) := op180 (bA_at bd03_dec_X11_1_4 10 rfl rfl) rfl
theorem dX11_text_19 : decode cX11_text 19 = .ok (.iconst 0, 1) := op3 (bA_at bd03_dec_X11_1_4 11 rfl rfl)
theorem bd03_dec_X11_1_5 : ([(0, [3]), (1, [79]), (2, [42]), (3, [180, 0, 17]), (6, [3]), (7, [3]), (8, [79]), (9, [42]), (10, [180, 0, 20]), (13, [3]), (14, [2]), (15, [79])] : List (Nat × List UInt8)).all (fun x => prB x.2 ((cX11_text.data.toList.drop 20).drop x.1)) = true := by decide +kernel
theorem dX11_text_20 : decode cX11_text 20 = .ok (.iconst 0, 1) := op3 (bA_at bd03_dec_X11_1_5 0 rfl rfl)
theorem dX11_text_21 : decode cX11_text 21 = .ok (.iastore, 1) := op79 (bA_at bd03_dec_X11_1_5 1 rfl rfl)
theorem dX11_text_22 : decode cX11_text 22 = .ok (.aload_n 0, 1) := op42 (bA_at bd03_dec_X11_1_5 2 rfl rfl)
theorem dX11_text_23 : decode cX11_text 23 = .ok (.getfield 17, 3) := op180 (bA_at bd03_dec_X11_1_5 3 rfl rfl) rfl
theorem dX11_text_26 : decode cX11_text 26 = .ok (.iconst 0, 1) := op3 (bA_at bd03_dec_X11_1_5 4 rfl rfl)
theorem dX11_text_27 : decode cX11_text 27 = .ok (.iconst 0, 1) := op3 (bA_at bd03_dec_X11_1_5 5 rfl rfl)
theorem dX11_text_28 : decode cX11_text 28 = .ok (.iastore, 1) := op79 (bA_at bd03_dec_X11_1_5 6 rfl rfl)
theorem dX11_text_29 : decode cX11_text 29 = .ok (.aload_n 0, 1) := op42 (bA_at bd03_dec_X11_1_5 7 rfl rfl)
theorem dX11_text_30 : decode cX11_text 30 = .ok (.getfield 20, 3) := op180 (bA_at bd03_dec_X11_1_5 8 rfl rfl) rfl
theorem dX11_text_33 : decode cX11_text 33 = .ok (.iconst 0, 1) := op3 (bA_at bd03_dec_X11_1_5 9 rfl rfl)
theorem dX11_text_34 : decode cX11_text 34 = .ok (.iconst (-1), 1) := op2 (bA_at bd03_dec_X11_1_5 10 rfl rfl)
theorem dX11_text_35 : decode cX11_text 35 = .ok (.iastore, 1) := op79 (bA_at bd03_dec_X11_1_5 11 rfl rfl)
theorem bd03_dec_X11_1_6 : ([(0, [27]), (1, [3]), (2, [6]), (3, [184, 0, 109]), (6, [153, 0, 30]), (9, [28]), (10, [2]), (11, [160, 0, 16]), (14, [42]), (15, [180, 0, 23]), (18, [27]), (19, [46])] : List (Nat × List UInt8)).all (fun x => prB x.2 ((cX11_text.data.toList.drop 36).drop x.1)) = true := by decide +kernel
theorem dX11_text_36 : decode cX11_text 36 = .ok (.iload_n 1, 1) := op27 (bA_at bd03_dec_X11_1_6 0 rfl rfl)
theorem dX11_text_37 : decode cX11_text 37 = .ok (.iconst 0, 1) := op3 (bA_at bd03_dec_X11_1_6 1 rfl rfl)
theorem dX11_text_38 : decode cX11_text 38 = .ok (.iconst 3, 1) := op6 (bA_at bd03_dec_X11_1_6 2 rfl rfl)
theorem dX11_text_39 : decode cX11_text 39 = .ok (.invokestatic 109, 3) := op184 (bA_at bd03_dec_X11_1_6 3 rfl rfl) rfl
theorem dX11_text_42 : decode cX11_text 42 = .ok (.ifCond .eq 30, 3) := op153 (bA_at bd03_dec_X11_1_6 4 rfl rfl) (by decide +kernel)
theorem dX11_text_45 : decode cX11_text 45 = .ok (.iload_n 2, 1) := op28 (bA_at bd03_dec_X11_1_6 5 rfl rfl)
theorem dX11_text_46 : decode cX11_text 46 = .ok (.iconst (-1), 1) := op2 (bA_at bd03_dec_X11_1_6 6 rfl rfl)
theorem dX11_text_47 : decode cX11_text 47 = .ok (.if_icmp .ne 16, 3) := op160 (bA_at bd03_dec_X11_1_6 7 rfl rfl) (by decide +kernel)
theorem dX11_text_50 : decode cX11_text 50 = .ok (.aload_n 0, 1) := op42 (bA_at bd03_dec_X11_1_6 8 rfl rfl)
theorem dX11_text_51 : decode cX11_text 51 = .ok (.getfield 23, 3) := op180 (bA_at bd03_dec_X11_1_6 9 rfl rfl) rfl
theorem dX11_text_54 : decode cX11_text 54 = .ok (.iload_n 1, 1) := op27 (bA_at bd03_dec_X11_1_6 10 rfl rfl)
theorem dX11_text_55 : decode cX11_text 55 = .ok (.iaload, 1) := op46 (bA_at bd03_dec_X11_1_6 11 rfl rfl)
theorem bd03_dec_X11_1_7 : ([(0, [5]), (1, [160, 0, 18]), (4, [167, 0, 12]), (7, [42]), (8, [27]), (9, [28]), (10, [182, 1, 35]), (13, [154, 0, 6]), (16, [16, 254]), (18, [172]), (19, [42]), (20, [27])] : List (Nat × List UInt8)).all (fun x => prB x.2 ((cX11_text.data.toList.drop 56).drop x.1)) = true := by decide +kernel
theorem dX11_text_56 : decode cX11_text 56 = .ok (.iconst 2, 1) := op5 (bA_at bd03_dec_X11_1_7 0 rfl rfl)
theorem dX11_text_57 : decode cX11_text 57 = .ok (.if_icmp .ne 18, 3) := op160 (bA_at bd03_dec_X11_1_7 1 rfl rfl) (by decide +kernel)
theorem dX11_text_60 : decode cX11_text 60 = .ok (.goto 12, 3) := op167 (bA_at bd03_dec_X11_1_7 2 rfl rfl) (by decide +kernel)
theorem dX11_text_63 : decode cX11_text 63 = .ok (.aload_n 0, 1) := op42 (bA_at bd03_dec_X11_1_7 3 rfl rfl)
theorem dX11_text_64 : decode cX11_text 64 = .ok (.iload_n 1, 1) := op27 (bA_at bd03_dec_X11_1_7 4 rfl rfl)
theorem dX11_text_65 : decode cX11_text 65 = .ok (.iload_n 2, 1) := op28 (bA_at bd03_dec_X11_1_7 5 rfl rfl)
theorem dX11_text_66 : decode cX11_text 66 = .ok (.invokevirtual 291, 3) := op182 (bA_at bd03_dec_X11_1_7 6 rfl rfl) rfl
theorem dX11_text_69 : decode cX11_text 69 = .ok (.ifCond .ne 6, 3) := op154 (bA_at bd03_dec_X11_1_7 7 rfl rfl) (by decide +kernel)
theorem dX11_text_72 : decode cX11_text 72 = .ok (.bipush (-2), 2) := op16 (bA_at bd03_dec_X11_1_7 8 rfl rfl) (by decide +kernel)
theorem dX11_text_74 : decode cX11_text 74 = .ok (.ireturn, 1) := op172 (bA_at bd03_dec_X11_1_7 9 rfl rfl)
theorem dX11_text_75 : decode cX11_text 75 = .ok (.aload_n 0, 1) := op42 (bA_at bd03_dec_X11_1_7 10 rfl rfl)
theorem dX11_text_76 : decode cX11_text 76 = .ok (.iload_n 1, 1) := op27 (bA_at bd03_dec_X11_1_7 11 rfl rfl)
theorem bd03_dec_X11_1_8 : ([(0, [182, 1, 38]), (3, [154, 0, 5]), (6, [2]), (7, [172]), (8, [28]), (9, [2]), (10, [160, 0, 12]), (13, [42]), (14, [180, 0, 23]), (17, [27]), (18, [46]), (19, [167, 0, 4])] : List (Nat × List UInt8)).all (fun x => prB x.2 ((cX11_text.data.toList.drop 77).drop x.1)) = true := by decide +kernel
theorem dX11_text_77 : decode cX11_text 77 = .ok (.invokevirtual 294, 3) := op182 (bA_at bd03_dec_X11_1_8 0 rfl rfl) rfl
theorem dX11_text_80 : decode cX11_text 80 = .ok (.ifCond .ne 5, 3) := op154 (bA_at bd03_dec_X11_1_8 1 rfl rfl) (by decide +kernel)
theorem dX11_text_83 : decode cX11_text 83 = .ok (.iconst (-1), 1) := op2 (bA_at bd03_dec_X11_1_8 2 rfl rfl)
theorem dX11_text_84 : decode cX11_text 84 = .ok (.ireturn, 1) := op172 (bA_at bd03_dec_X11_1_8 3 rfl rfl)
theorem dX11_text_85 : decode cX11_text 85 = .ok (.iload_n 2, 1) := op28 (bA_at bd03_dec_X11_1_8 4 rfl rfl)
theorem dX11_text_86 : decode cX11_text 86 = .ok (.iconst (-1), 1) := op2 (bA_at bd03_dec_X11_1_8 5 rfl rfl)
theorem dX11_text_87 : decode cX11_text 87 = .ok (.if_icmp .ne 12, 3) := op160 (bA_at bd03_dec_X11_1_8 6 rfl rfl) (by decide +kernel)
theorem dX11_text_90 : decode cX11_text 90 = .ok (.aload_n 0, 1) := op42 (bA_at bd03_dec_X11_1_8 7 rfl rfl)
theorem dX11_text_91 : decode cX11_text 91 = .ok (.getfield 23, 3) := op180 (bA_at bd03_dec_X11_1_8 8 rfl rfl) rfl
theorem dX11_text_94 : decode cX11_text 94 = .ok (.iload_n 1, 1) := op27 (bA_at bd03_dec_X11_1_8 9 rfl rfl)
theorem dX11_text_95 : decode cX11_text 95 = .ok (.iaload, 1) := op46 (bA_at bd03_dec_X11_1_8 10 rfl rfl)
theorem dX11_text_96 : decode cX11_text 96 = .ok (.goto 4, 3) := op167 (bA_at bd03_dec_X11_1_8 11 rfl rfl) (by decide +kernel)
theorem bd03_dec_X11_1_9 : ([(0, [28]), (1, [62]), (2, [42]), (3, [180, 0, 23]), (6, [27]), (7, [92]), (8, [46]), (9, [28]), (10, [2]), (11, [160, 0, 7]), (14, [4]), (15, [167, 0, 4])] : List (Nat × List UInt8)).all (fun x => prB x.2 ((cX11_text.data.toList.drop 99).drop x.1)) = true := by decide +kernel
theorem dX11_text_99 : decode cX11_text 99 = .ok (.iload_n 2, 1) := op28 (bA_at bd03_dec_X11_1_9 0 rfl rfl)
theorem dX11_text_100 : decode cX11_text 100 = .ok (.istore_n 3, 1) := op62 (bA_at bd03_dec_X11_1_9 1 rfl rfl)
theorem dX11_text_101 : decode cX11_text 101 = .ok (.aload_n 0, 1) := op42 (bA_at bd03_dec_X11_1_9 2 rfl rfl)
theorem dX11_text_102 : decode cX11_text 102 = .ok (.getfield 23, 3) := op180 (bA_at bd03_dec_X11_1_9 3 rfl rfl) rfl
theorem dX11_text_105 : decode cX11_text 105 = .ok (.iload_n 1, 1) := op27 (bA_at bd03_dec_X11_1_9 4 rfl rfl)
theorem dX11_text_106 : decode cX11_text 106 = .ok (.dup2, 1) := op92 (bA_at bd03_dec_X11_1_9 5 rfl rfl)
theorem dX11_text_107 : decode cX11_text 107 = .ok (.iaload, 1) := op46 (bA_at bd03_dec_X11_1_9 6 rfl rfl)
theorem dX11_text_108 : decode cX11_text 108 = .ok (.iload_n 2, 1) := op28 (bA_at bd03_dec_X11_1_9 7 rfl rfl)
theorem dX11_text_109 : decode cX11_text 109 = .ok (.iconst (-1), 1) := op2 (bA_at bd03_dec_X11_1_9 8 rfl rfl)
theorem dX11_text_110 : decode cX11_text 110 = .ok (.if_icmp .ne 7, 3) := op160 (bA_at bd03_dec_X11_1_9 9 rfl rfl) (by decide +kernel)
theorem dX11_text_113 : decode cX11_text 113 = .ok (.iconst 1, 1) := op4 (bA_at bd03_dec_X11_1_9 10 rfl rfl)
theorem dX11_text_114 : decode cX11_text 114 = .ok (.goto 4, 3) := op167 (bA_at bd03_dec_X11_1_9 11 rfl rfl) (by decide +kernel)
theorem bd03_dec_X11_1_10 : ([(0, [3]), (1, [96]), (2, [79]), (3, [42]), (4, [27]), (5, [29]), (6, [182, 1, 41]), (9, [29]), (10, [172])] : List (Nat × List UInt8)).all (fun x => prB x.2 ((cX11_text.data.toList.drop 117).drop x.1)) = true := by decide +kernel
theorem dX11_text_117 : decode cX11_text 117 = .ok (.iconst 0, 1) := op3 (bA_at bd03_dec_X11_1_10 0 rfl rfl)
theorem dX11_text_118 : decode cX11_text 118 = .ok (.iadd, 1) := op96 (bA_at bd03_dec_X11_1_10 1 rfl rfl)
theorem dX11_text_119 : decode cX11_text 119 = .ok (.iastore, 1) := op79 (bA_at bd03_dec_X11_1_10 2 rfl rfl)
theorem dX11_text_120 : decode cX11_text 120 = .ok (.aload_n 0, 1) := op42 (bA_at bd03_dec_X11_1_10 3 rfl rfl)
theorem dX11_text_121 : decode cX11_text 121 = .ok (.iload_n 1, 1) := op27 (bA_at bd03_dec_X11_1_10 4 rfl rfl)
theorem dX11_text_122 : decode cX11_text 122 = .ok (.iload_n 3, 1) := op29 (bA_at bd03_dec_X11_1_10 5 rfl rfl)
theorem dX11_text_123 : decode cX11_text 123 = .ok (.invokevirtual 297, 3) := op182 (bA_at bd03_dec_X11_1_10 6 rfl rfl) rfl
theorem dX11_text_126 : decode cX11_text 126 = .ok (.iload_n 3, 1) := op29 (bA_at bd03_dec_X11_1_10 7 rfl rfl)
theorem dX11_text_127 : decode cX11_text 127 = .ok (.ireturn, 1) := op172 (bA_at bd03_dec_X11_1_10 8 rfl rfl)
theorem bd03_dec_X11_1_11 : ([(0, [42]), (1, [3]), (2, [181, 0, 97]), (5, [27]), (6, [154, 0, 12]), (9, [42]), (10, [180, 0, 17]), (13, [3]), (14, [46]), (15, [167, 0, 18]), (18, [27]), (19, [4])] : List (Nat × List UInt8)).all (fun x => prB x.2 ((cX11_fault.data.toList.drop 0).drop x.1)) = true := by decide +kernel
theorem dX11_fault_0 : decode cX11_fault 0 = .ok (.aload_n 0, 1) := op42 (bA_at bd03_dec_X11_1_11 0 rfl rfl)
theorem dX11_fault_1 : decode cX11_fault 1 = .ok (.iconst 0, 1) := op3 (bA_at bd03_dec_X11_1_11 1 rfl rfl)
theorem dX11_fault_2 : decode cX11_fault 2 = .ok (.putfield 97, 3) := op181 (bA_at bd03_dec_X11_1_11 2 rfl rfl) rfl
theorem dX11_fault_5 : decode cX11_fault 5 = .ok (.iload_n 1, 1) := op27 (bA_at bd03_dec_X11_1_11 3 rfl rfl)
theorem dX11_fault_6 : decode cX11_fault 6 = .ok (.ifCond .ne 12, 3) := op154 (bA_at bd03_dec_X11_1_11 4 rfl rfl) (by decide +kernel)
theorem dX11_fault_9 : decode cX11_fault 9 = .ok (.aload_n 0, 1) := op42 (bA_at bd03_dec_X11_1_11 5 rfl rfl)
theorem dX11_fault_10 : decode cX11_fault 10 = .ok (.getfield 17, 3) := op180 (bA_at bd03_dec_X11_1_11 6 rfl rfl) rfl
theorem dX11_fault_13 : decode cX11_fault 13 = .ok (.iconst 0, 1) := op3 (bA_at bd03_dec_X11_1_11 7 rfl rfl)
theorem dX11_fault_14 : decode cX11_fault 14 = .ok (.iaload, 1) := op46 (bA_at bd03_dec_X11_1_11 8 rfl rfl)
theorem dX11_fault_15 : decode cX11_fault 15 = .ok (.goto 18, 3) := op167 (bA_at bd03_dec_X11_1_11 9 rfl rfl) (by decide +kernel)
theorem dX11_fault_18 : decode cX11_fault 18 = .ok (.iload_n 1, 1) := op27 (bA_at bd03_dec_X11_1_11 10 rfl rfl)
theorem dX11_fault_19 : decode cX11_fault 19 = .ok (.iconst 1, 1) := op4 (bA_at bd03_dec_X11_1_11 11 rfl rfl)
theorem bd03_dec_X11_1_12 : ([(0, [160, 0, 12]), (3, [42]), (4, [180, 0, 20]), (7, [3]), (8, [46]), (9, [167, 0, 4]), (12, [2]), (13, [172])] : List (Nat × List UInt8)).all (fun x => prB x.2 ((cX11_fault.data.toList.drop 20).drop x.1)) = true := by decide +kernel
theorem dX11_fault_20 : decode cX11_fault 20 = .ok (.if_icmp .ne 12, 3) := op160 (bA_at bd03_dec_X11_1_12 0 rfl rfl) (by decide +kernel)
theorem dX11_fault_23 : decode cX11_fault 23 = .ok (.aload_n 0, 1) := op42 (bA_at bd03_dec_X11_1_12 1 rfl rfl)
theorem dX11_fault_24 : decode cX11_fault 24 = .ok (.getfield 20, 3) := op180 (bA_at bd03_dec_X11_1_12 2 rfl rfl) rfl
theorem dX11_fault_27 : decode cX11_fault 27 = .ok (.iconst 0, 1) := op3 (bA_at bd03_dec_X11_1_12 3 rfl rfl)
theorem dX11_fault_28 : decode cX11_fault 28 = .ok (.iaload, 1) := op46 (bA_at bd03_dec_X11_1_12 4 rfl rfl)
theorem dX11_fault_29 : decode cX11_fault 29 = .ok (.goto 4, 3) := op167 (bA_at bd03_dec_X11_1_12 5 rfl rfl) (by decide +kernel)
theorem dX11_fault_32 : decode cX11_fault 32 = .ok (.iconst (-1), 1) := op2 (bA_at bd03_dec_X11_1_12 6 rfl rfl)
theorem dX11_fault_33 : decode cX11_fault 33 = .ok (.ireturn, 1) := op172 (bA_at bd03_dec_X11_1_12 7 rfl rfl)
theorem bd03_dec_X11_1_13 : ([(0, [42]), (1, [180, 0, 26]), (4, [17, 0, 132]), (7, [42]), (8, [180, 1, 44]), (11, [104]), (12, [27]), (13, [96]), (14, [46]), (15, [172])] : List (Nat × List UInt8)).all (fun x => prB x.2 ((cX11_of.data.toList.drop 0).drop x.1)) = true := by decide +kernel
theorem dX11_of_0 : decode cX11_of 0 = .ok (.aload_n 0, 1) := op42 (bA_at bd03_dec_X11_1_13 0 rfl rfl)
theorem dX11_of_1 : decode cX11_of 1 = .ok (.getfield 26, 3) := op180 (bA_at bd03_dec_X11_1_13 1 rfl rfl) rfl
theorem dX11_of_4 : decode cX11_of 4 = .ok (.sipush 132, 3) := op17 (bA_at bd03_dec_X11_1_13 2 rfl rfl) (by decide +kernel)
theorem dX11_of_7 : decode cX11_of 7 = .ok (.aload_n 0, 1) := op42 (bA_at bd03_dec_X11_1_13 3 rfl rfl)
theorem dX11_of_8 : decode cX11_of 8 = .ok (.getfield 300, 3) := op180 (bA_at bd03_dec_X11_1_13 4 rfl rfl) rfl
theorem dX11_of_11 : decode cX11_of 11 = .ok (.imul, 1) := op104 (bA_at bd03_dec_X11_1_13 5 rfl rfl)
theorem dX11_of_12 : decode cX11_of 12 = .ok (.iload_n 1, 1) := op27 (bA_at bd03_dec_X11_1_13 6 rfl rfl)
theorem dX11_of_13 : decode cX11_of 13 = .ok (.iadd, 1) := op96 (bA_at bd03_dec_X11_1_13 7 rfl rfl)
theorem dX11_of_14 : decode cX11_of 14 = .ok (.iaload, 1) := op46 (bA_at bd03_dec_X11_1_13 8 rfl rfl)
theorem dX11_of_15 : decode cX11_of 15 = .ok (.ireturn, 1) := op172 (bA_at bd03_dec_X11_1_13 9 rfl rfl)
theorem bd03_dec_X11_1_14 : ([(0, [42]), (1, [3]), (2, [27]), (3, [182, 1, 35]), (6, [154, 0, 5]), (9, [3]), (10, [172]), (11, [42]), (12, [27]), (13, [181, 1, 44]), (16, [42]), (17, [42])] : List (Nat × List UInt8)).all (fun x => prB x.2 ((cX11_hand.data.toList.drop 0).drop x.1)) = true := by decide +kernel
theorem dX11_hand_0 : decode cX11_hand 0 = .ok (.aload_n 0, 1) := op42 (bA_at bd03_dec_X11_1_14 0 rfl rfl)
theorem dX11_hand_1 : decode cX11_hand 1 = .ok (.iconst 0, 1) := op3 (bA_at bd03_dec_X11_1_14 1 rfl rfl)
theorem dX11_hand_2 : decode cX11_hand 2 = .ok (.iload_n 1, 1) := op27 (bA_at bd03_dec_X11_1_14 2 rfl rfl)
theorem dX11_hand_3 : decode cX11_hand 3 = .ok (.invokevirtual 291, 3) := op182 (bA_at bd03_dec_X11_1_14 3 rfl rfl) rfl
theorem dX11_hand_6 : decode cX11_hand 6 = .ok (.ifCond .ne 5, 3) := op154 (bA_at bd03_dec_X11_1_14 4 rfl rfl) (by decide +kernel)
theorem dX11_hand_9 : decode cX11_hand 9 = .ok (.iconst 0, 1) := op3 (bA_at bd03_dec_X11_1_14 5 rfl rfl)
theorem dX11_hand_10 : decode cX11_hand 10 = .ok (.ireturn, 1) := op172 (bA_at bd03_dec_X11_1_14 6 rfl rfl)
theorem dX11_hand_11 : decode cX11_hand 11 = .ok (.aload_n 0, 1) := op42 (bA_at bd03_dec_X11_1_14 7 rfl rfl)
theorem dX11_hand_12 : decode cX11_hand 12 = .ok (.iload_n 1, 1) := op27 (bA_at bd03_dec_X11_1_14 8 rfl rfl)
theorem dX11_hand_13 : decode cX11_hand 13 = .ok (.putfield 300, 3) := op181 (bA_at bd03_dec_X11_1_14 9 rfl rfl) rfl
theorem dX11_hand_16 : decode cX11_hand 16 = .ok (.aload_n 0, 1) := op42 (bA_at bd03_dec_X11_1_14 10 rfl rfl)
theorem dX11_hand_17 : decode cX11_hand 17 = .ok (.aload_n 0, 1) := op42 (bA_at bd03_dec_X11_1_14 11 rfl rfl)
theorem bd03_dec_X11_1_15 : ([(0, [3]), (1, [182, 1, 47]), (4, [181, 1, 51]), (7, [42]), (8, [42]), (9, [4]), (10, [182, 1, 47]), (13, [181, 1, 54]), (16, [4]), (17, [172])] : List (Nat × List UInt8)).all (fun x => prB x.2 ((cX11_hand.data.toList.drop 18).drop x.1)) = true := by decide +kernel
theorem dX11_hand_18 : decode cX11_hand 18 = .ok (.iconst 0, 1) := op3 (bA_at bd03_dec_X11_1_15 0 rfl rfl)
theorem dX11_hand_19 : decode cX11_hand 19 = .ok (.invokevirtual 303, 3) := op182 (bA_at bd03_dec_X11_1_15 1 rfl rfl) rfl
theorem dX11_hand_22 : decode cX11_hand 22 = .ok (.putfield 307, 3) := op181 (bA_at bd03_dec_X11_1_15 2 rfl rfl) rfl
theorem dX11_hand_25 : decode cX11_hand 25 = .ok (.aload_n 0, 1) := op42 (bA_at bd03_dec_X11_1_15 3 rfl rfl)
theorem dX11_hand_26 : decode cX11_hand 26 = .ok (.aload_n 0, 1) := op42 (bA_at bd03_dec_X11_1_15 4 rfl rfl)
theorem dX11_hand_27 : decode cX11_hand 27 = .ok (.iconst 1, 1) := op4 (bA_at bd03_dec_X11_1_15 5 rfl rfl)
theorem dX11_hand_28 : decode cX11_hand 28 = .ok (.invokevirtual 303, 3) := op182 (bA_at bd03_dec_X11_1_15 6 rfl rfl) rfl
theorem dX11_hand_31 : decode cX11_hand 31 = .ok (.putfield 310, 3) := op181 (bA_at bd03_dec_X11_1_15 7 rfl rfl) rfl
theorem dX11_hand_34 : decode cX11_hand 34 = .ok (.iconst 1, 1) := op4 (bA_at bd03_dec_X11_1_15 8 rfl rfl)
theorem dX11_hand_35 : decode cX11_hand 35 = .ok (.ireturn, 1) := op172 (bA_at bd03_dec_X11_1_15 9 rfl rfl)
theorem bd03_dec_X11_1_16 : ([(0, [27]), (1, [3]), (2, [42]), (3, [180, 1, 51]), (6, [4]), (7, [100]), (8, [184, 0, 109]), (11, [172])] : List (Nat × List UInt8)).all (fun x => prB x.2 ((cX11_isHut.data.toList.drop 0).drop x.1)) = true := by decide +kernel
theorem dX11_isHut_0 : decode cX11_isHut 0 = .ok (.iload_n 1, 1) := op27 (bA_at bd03_dec_X11_1_16 0 rfl rfl)
theorem dX11_isHut_1 : decode cX11_isHut 1 = .ok (.iconst 0, 1) := op3 (bA_at bd03_dec_X11_1_16 1 rfl rfl)
theorem dX11_isHut_2 : decode cX11_isHut 2 = .ok (.aload_n 0, 1) := op42 (bA_at bd03_dec_X11_1_16 2 rfl rfl)
theorem dX11_isHut_3 : decode cX11_isHut 3 = .ok (.getfield 307, 3) := op180 (bA_at bd03_dec_X11_1_16 3 rfl rfl) rfl
theorem dX11_isHut_6 : decode cX11_isHut 6 = .ok (.iconst 1, 1) := op4 (bA_at bd03_dec_X11_1_16 4 rfl rfl)
theorem dX11_isHut_7 : decode cX11_isHut 7 = .ok (.isub, 1) := op100 (bA_at bd03_dec_X11_1_16 5 rfl rfl)
theorem dX11_isHut_8 : decode cX11_isHut 8 = .ok (.invokestatic 109, 3) := op184 (bA_at bd03_dec_X11_1_16 6 rfl rfl) rfl
theorem dX11_isHut_11 : decode cX11_isHut 11 = .ok (.ireturn, 1) := op172 (bA_at bd03_dec_X11_1_16 7 rfl rfl)
theorem bd03_dec_X11_1_17 : ([(0, [27]), (1, [3]), (2, [42]), (3, [180, 1, 54]), (6, [4]), (7, [100]), (8, [184, 0, 109]), (11, [172])] : List (Nat × List UInt8)).all (fun x => prB x.2 ((cX11_isSinger.data.toList.drop 0).drop x.1)) = true := by decide +kernel
theorem dX11_isSinger_0 : decode cX11_isSinger 0 = .ok (.iload_n 1, 1) := op27 (bA_at bd03_dec_X11_1_17 0 rfl rfl)
theorem dX11_isSinger_1 : decode cX11_isSinger 1 = .ok (.iconst 0, 1) := op3 (bA_at bd03_dec_X11_1_17 1 rfl rfl)
theorem dX11_isSinger_2 : decode cX11_isSinger 2 = .ok (.aload_n 0, 1) := op42 (bA_at bd03_dec_X11_1_17 2 rfl rfl)
theorem dX11_isSinger_3 : decode cX11_isSinger 3 = .ok (.getfield 310, 3) := op180 (bA_at bd03_dec_X11_1_17 3 rfl rfl) rfl
theorem dX11_isSinger_6 : decode cX11_isSinger 6 = .ok (.iconst 1, 1) := op4 (bA_at bd03_dec_X11_1_17 4 rfl rfl)
theorem dX11_isSinger_7 : decode cX11_isSinger 7 = .ok (.isub, 1) := op100 (bA_at bd03_dec_X11_1_17 5 rfl rfl)
theorem dX11_isSinger_8 : decode cX11_isSinger 8 = .ok (.invokestatic 109, 3) := op184 (bA_at bd03_dec_X11_1_17 6 rfl rfl) rfl
theorem dX11_isSinger_11 : decode cX11_isSinger 11 = .ok (.ireturn, 1) := op172 (bA_at bd03_dec_X11_1_17 7 rfl rfl)
theorem bd03_dec_X11_1_18 : ([(0, [42]), (1, [6]), (2, [182, 1, 47]), (5, [27]), (6, [184, 0, 101]), (9, [172])] : List (Nat × List UInt8)).all (fun x => prB x.2 ((cX11_isDam.data.toList.drop 0).drop x.1)) = true := by decide +kernel
theorem dX11_isDam_0 : decode cX11_isDam 0 = .ok (.aload_n 0, 1) := op42 (bA_at bd03_dec_X11_1_18 0 rfl rfl)
theorem dX11_isDam_1 : decode cX11_isDam 1 = .ok (.iconst 3, 1) := op6 (bA_at bd03_dec_X11_1_18 1 rfl rfl)
theorem dX11_isDam_2 : decode cX11_isDam 2 = .ok (.invokevirtual 303, 3) := op182 (bA_at bd03_dec_X11_1_18 2 rfl rfl) rfl
theorem dX11_isDam_5 : decode cX11_isDam 5 = .ok (.iload_n 1, 1) := op27 (bA_at bd03_dec_X11_1_18 3 rfl rfl)
theorem dX11_isDam_6 : decode cX11_isDam 6 = .ok (.invokestatic 101, 3) := op184 (bA_at bd03_dec_X11_1_18 4 rfl rfl) rfl
theorem dX11_isDam_9 : decode cX11_isDam 9 = .ok (.ireturn, 1) := op172 (bA_at bd03_dec_X11_1_18 5 rfl rfl)
theorem bd03_dec_X11_1_19 : ([(0, [42]), (1, [16, 7]), (3, [27]), (4, [96]), (5, [182, 1, 47]), (8, [172])] : List (Nat × List UInt8)).all (fun x => prB x.2 ((cX11_height.data.toList.drop 0).drop x.1)) = true := by decide +kernel
theorem dX11_height_0 : decode cX11_height 0 = .ok (.aload_n 0, 1) := op42 (bA_at bd03_dec_X11_1_19 0 rfl rfl)
theorem dX11_height_1 : decode cX11_height 1 = .ok (.bipush 7, 2) := op16 (bA_at bd03_dec_X11_1_19 1 rfl rfl) (by decide +kernel)
theorem dX11_height_3 : decode cX11_height 3 = .ok (.iload_n 1, 1) := op27 (bA_at bd03_dec_X11_1_19 2 rfl rfl)
theorem dX11_height_4 : decode cX11_height 4 = .ok (.iadd, 1) := op96 (bA_at bd03_dec_X11_1_19 3 rfl rfl)
theorem dX11_height_5 : decode cX11_height 5 = .ok (.invokevirtual 303, 3) := op182 (bA_at bd03_dec_X11_1_19 4 rfl rfl) rfl
theorem dX11_height_8 : decode cX11_height 8 = .ok (.ireturn, 1) := op172 (bA_at bd03_dec_X11_1_19 5 rfl rfl)
theorem bd03_dec_X11_1_20 : ([(0, [42]), (1, [16, 51]), (3, [16, 9]), (5, [27]), (6, [104]), (7, [96]), (8, [28]), (9, [96]), (10, [182, 1, 47]), (13, [172])] : List (Nat × List UInt8)).all (fun x => prB x.2 ((cX11_way.data.toList.drop 0).drop x.1)) = true := by decide +kernel
theorem dX11_way_0 : decode cX11_way 0 = .ok (.aload_n 0, 1) := op42 (bA_at bd03_dec_X11_1_20 0 rfl rfl)
theorem dX11_way_1 : decode cX11_way 1 = .ok (.bipush 51, 2) := op16 (bA_at bd03_dec_X11_1_20 1 rfl rfl) (by decide +kernel)
theorem dX11_way_3 : decode cX11_way 3 = .ok (.bipush 9, 2) := op16 (bA_at bd03_dec_X11_1_20 2 rfl rfl) (by decide +kernel)
theorem dX11_way_5 : decode cX11_way 5 = .ok (.iload_n 1, 1) := op27 (bA_at bd03_dec_X11_1_20 3 rfl rfl)
theorem dX11_way_6 : decode cX11_way 6 = .ok (.imul, 1) := op104 (bA_at bd03_dec_X11_1_20 4 rfl rfl)
theorem dX11_way_7 : decode cX11_way 7 = .ok (.iadd, 1) := op96 (bA_at bd03_dec_X11_1_20 5 rfl rfl)
theorem dX11_way_8 : decode cX11_way 8 = .ok (.iload_n 2, 1) := op28 (bA_at bd03_dec_X11_1_20 6 rfl rfl)
theorem dX11_way_9 : decode cX11_way 9 = .ok (.iadd, 1) := op96 (bA_at bd03_dec_X11_1_20 7 rfl rfl)
theorem dX11_way_10 : decode cX11_way 10 = .ok (.invokevirtual 303, 3) := op182 (bA_at bd03_dec_X11_1_20 8 rfl rfl) rfl
theorem dX11_way_13 : decode cX11_way 13 = .ok (.ireturn, 1) := op172 (bA_at bd03_dec_X11_1_20 9 rfl rfl)
theorem bd03_dec_X11_1_21 : ([(0, [42]), (1, [3]), (2, [181, 0, 97]), (5, [42]), (6, [27]), (7, [182, 1, 57]), (10, [154, 0, 5]), (13, [2]), (14, [172]), (15, [28]), (16, [16, 60]), (18, [17, 0, 140])] : List (Nat × List UInt8)).all (fun x => prB x.2 ((cX11_land.data.toList.drop 0).drop x.1)) = true := by decide +kernel
theorem dX11_land_0 : decode cX11_land 0 = .ok (.aload_n 0, 1) := op42 (bA_at bd03_dec_X11_1_21 0 rfl rfl)
theorem dX11_land_1 : decode cX11_land 1 = .ok (.iconst 0, 1) := op3 (bA_at bd03_dec_X11_1_21 1 rfl rfl)
theorem dX11_land_2 : decode cX11_land 2 = .ok (.putfield 97, 3) := op181 (bA_at bd03_dec_X11_1_21 2 rfl rfl) rfl
theorem dX11_land_5 : decode cX11_land 5 = .ok (.aload_n 0, 1) := op42 (bA_at bd03_dec_X11_1_21 3 rfl rfl)
theorem dX11_land_6 : decode cX11_land 6 = .ok (.iload_n 1, 1) := op27 (bA_at bd03_dec_X11_1_21 4 rfl rfl)
theorem dX11_land_7 : decode cX11_land 7 = .ok (.invokevirtual 313, 3) := op182 (bA_at bd03_dec_X11_1_21 5 rfl rfl) rfl
theorem dX11_land_10 : decode cX11_land 10 = .ok (.ifCond .ne 5, 3) := op154 (bA_at bd03_dec_X11_1_21 6 rfl rfl) (by decide +kernel)
theorem dX11_land_13 : decode cX11_land 13 = .ok (.iconst (-1), 1) := op2 (bA_at bd03_dec_X11_1_21 7 rfl rfl)
theorem dX11_land_14 : decode cX11_land 14 = .ok (.ireturn, 1) := op172 (bA_at bd03_dec_X11_1_21 8 rfl rfl)
theorem dX11_land_15 : decode cX11_land 15 = .ok (.iload_n 2, 1) := op28 (bA_at bd03_dec_X11_1_21 9 rfl rfl)
theorem dX11_land_16 : decode cX11_land 16 = .ok (.bipush 60, 2) := op16 (bA_at bd03_dec_X11_1_21 10 rfl rfl) (by decide +kernel)
theorem dX11_land_18 : decode cX11_land 18 = .ok (.sipush 140, 3) := op17 (bA_at bd03_dec_X11_1_21 11 rfl rfl) (by decide +kernel)
theorem bd03_dec_X11_1_22 : ([(0, [184, 0, 109]), (3, [153, 0, 49]), (6, [28]), (7, [16, 60]), (9, [100]), (10, [16, 9]), (12, [108]), (13, [62]), (14, [28]), (15, [16, 60]), (17, [100]), (18, [16, 9])] : List (Nat × List UInt8)).all (fun x => prB x.2 ((cX11_land.data.toList.drop 21).drop x.1)) = true := by decide +kernel
theorem dX11_land_21 : decode cX11_land 21 = .ok (.invokestatic 109, 3) := op184 (bA_at bd03_dec_X11_1_22 0 rfl rfl) rfl
theorem dX11_land_24 : decode cX11_land 24 = .ok (.ifCond .eq 49, 3) := op153 (bA_at bd03_dec_X11_1_22 1 rfl rfl) (by decide +kernel)
theorem dX11_land_27 : decode cX11_land 27 = .ok (.iload_n 2, 1) := op28 (bA_at bd03_dec_X11_1_22 2 rfl rfl)
theorem dX11_land_28 : decode cX11_land 28 = .ok (.bipush 60, 2) := op16 (bA_at bd03_dec_X11_1_22 3 rfl rfl) (by decide +kernel)
theorem dX11_land_30 : decode cX11_land 30 = .ok (.isub, 1) := op100 (bA_at bd03_dec_X11_1_22 4 rfl rfl)
theorem dX11_land_31 : decode cX11_land 31 = .ok (.bipush 9, 2) := op16 (bA_at bd03_dec_X11_1_22 5 rfl rfl) (by decide +kernel)
theorem dX11_land_33 : decode cX11_land 33 = .ok (.idiv, 1) := op108 (bA_at bd03_dec_X11_1_22 6 rfl rfl)
theorem dX11_land_34 : decode cX11_land 34 = .ok (.istore_n 3, 1) := op62 (bA_at bd03_dec_X11_1_22 7 rfl rfl)
theorem dX11_land_35 : decode cX11_land 35 = .ok (.iload_n 2, 1) := op28 (bA_at bd03_dec_X11_1_22 8 rfl rfl)
theorem dX11_land_36 : decode cX11_land 36 = .ok (.bipush 60, 2) := op16 (bA_at bd03_dec_X11_1_22 9 rfl rfl) (by decide +kernel)
theorem dX11_land_38 : decode cX11_land 38 = .ok (.isub, 1) := op100 (bA_at bd03_dec_X11_1_22 10 rfl rfl)
theorem dX11_land_39 : decode cX11_land 39 = .ok (.bipush 9, 2) := op16 (bA_at bd03_dec_X11_1_22 11 rfl rfl) (by decide +kernel)
theorem bd03_dec_X11_1_23 : ([(0, [112]), (1, [54, 4]), (3, [42]), (4, [29]), (5, [182, 1, 60]), (8, [153, 0, 22]), (11, [42]), (12, [21, 4]), (14, [182, 1, 60]), (17, [153, 0, 13]), (20, [42]), (21, [29])] : List (Nat × List UInt8)).all (fun x => prB x.2 ((cX11_land.data.toList.drop 41).drop x.1)) = true := by decide +kernel
theorem dX11_land_41 : decode cX11_land 41 = .ok (.irem, 1) := op112 (bA_at bd03_dec_X11_1_23 0 rfl rfl)
theorem dX11_land_42 : decode cX11_land 42 = .ok (.istore 4, 2) := op54 (bA_at bd03_dec_X11_1_23 1 rfl rfl) rfl
theorem dX11_land_44 : decode cX11_land 44 = .ok (.aload_n 0, 1) := op42 (bA_at bd03_dec_X11_1_23 2 rfl rfl)
theorem dX11_land_45 : decode cX11_land 45 = .ok (.iload_n 3, 1) := op29 (bA_at bd03_dec_X11_1_23 3 rfl rfl)
theorem dX11_land_46 : decode cX11_land 46 = .ok (.invokevirtual 316, 3) := op182 (bA_at bd03_dec_X11_1_23 4 rfl rfl) rfl
theorem dX11_land_49 : decode cX11_land 49 = .ok (.ifCond .eq 22, 3) := op153 (bA_at bd03_dec_X11_1_23 5 rfl rfl) (by decide +kernel)
theorem dX11_land_52 : decode cX11_land 52 = .ok (.aload_n 0, 1) := op42 (bA_at bd03_dec_X11_1_23 6 rfl rfl)
theorem dX11_land_53 : decode cX11_land 53 = .ok (.iload 4, 2) := op21 (bA_at bd03_dec_X11_1_23 7 rfl rfl) rfl
theorem dX11_land_55 : decode cX11_land 55 = .ok (.invokevirtual 316, 3) := op182 (bA_at bd03_dec_X11_1_23 8 rfl rfl) rfl
theorem dX11_land_58 : decode cX11_land 58 = .ok (.ifCond .eq 13, 3) := op153 (bA_at bd03_dec_X11_1_23 9 rfl rfl) (by decide +kernel)
theorem dX11_land_61 : decode cX11_land 61 = .ok (.aload_n 0, 1) := op42 (bA_at bd03_dec_X11_1_23 10 rfl rfl)
theorem dX11_land_62 : decode cX11_land 62 = .ok (.iload_n 3, 1) := op29 (bA_at bd03_dec_X11_1_23 11 rfl rfl)
theorem bd03_dec_X11_1_24 : ([(0, [21, 4]), (2, [182, 1, 63]), (5, [167, 0, 4]), (8, [2]), (9, [172]), (10, [28]), (11, [16, 10]), (13, [112]), (14, [62]), (15, [28]), (16, [16, 10]), (18, [108])] : List (Nat × List UInt8)).all (fun x => prB x.2 ((cX11_land.data.toList.drop 63).drop x.1)) = true := by decide +kernel
theorem dX11_land_63 : decode cX11_land 63 = .ok (.iload 4, 2) := op21 (bA_at bd03_dec_X11_1_24 0 rfl rfl) rfl
theorem dX11_land_65 : decode cX11_land 65 = .ok (.invokevirtual 319, 3) := op182 (bA_at bd03_dec_X11_1_24 1 rfl rfl) rfl
theorem dX11_land_68 : decode cX11_land 68 = .ok (.goto 4, 3) := op167 (bA_at bd03_dec_X11_1_24 2 rfl rfl) (by decide +kernel)
theorem dX11_land_71 : decode cX11_land 71 = .ok (.iconst (-1), 1) := op2 (bA_at bd03_dec_X11_1_24 3 rfl rfl)
theorem dX11_land_72 : decode cX11_land 72 = .ok (.ireturn, 1) := op172 (bA_at bd03_dec_X11_1_24 4 rfl rfl)
theorem dX11_land_73 : decode cX11_land 73 = .ok (.iload_n 2, 1) := op28 (bA_at bd03_dec_X11_1_24 5 rfl rfl)
theorem dX11_land_74 : decode cX11_land 74 = .ok (.bipush 10, 2) := op16 (bA_at bd03_dec_X11_1_24 6 rfl rfl) (by decide +kernel)
theorem dX11_land_76 : decode cX11_land 76 = .ok (.irem, 1) := op112 (bA_at bd03_dec_X11_1_24 7 rfl rfl)
theorem dX11_land_77 : decode cX11_land 77 = .ok (.istore_n 3, 1) := op62 (bA_at bd03_dec_X11_1_24 8 rfl rfl)
theorem dX11_land_78 : decode cX11_land 78 = .ok (.iload_n 2, 1) := op28 (bA_at bd03_dec_X11_1_24 9 rfl rfl)
theorem dX11_land_79 : decode cX11_land 79 = .ok (.bipush 10, 2) := op16 (bA_at bd03_dec_X11_1_24 10 rfl rfl) (by decide +kernel)
theorem dX11_land_81 : decode cX11_land 81 = .ok (.idiv, 1) := op108 (bA_at bd03_dec_X11_1_24 11 rfl rfl)
theorem dX11_land_82 : decode cX11_land 82 = .ok (.tableswitch 136 1 5 #[34, 52, 73, 94, 115], 34) := by decide +kernel
theorem bd03_dec_X11_1_25 : ([(0, [42]), (1, [29]), (2, [182, 1, 60]), (5, [153, 0, 11]), (8, [42]), (9, [29]), (10, [182, 1, 66]), (13, [167, 0, 4]), (16, [2]), (17, [172]), (18, [42])] : List (Nat × List UInt8)).all (fun x => prB x.2 ((cX11_land.data.toList.drop 116).drop x.1)) = true := by decide +kernel
theorem dX11_land_116 : decode cX11_land 116 = .ok (.aload_n 0, 1) := op42 (bA_at bd03_dec_X11_1_25 0 rfl rfl)
theorem dX11_land_117 : decode cX11_land 117 = .ok (.iload_n 3, 1) := op29 (bA_at bd03_dec_X11_1_25 1 rfl rfl)
theorem dX11_land_118 : decode cX11_land 118 = .ok (.invokevirtual 316, 3) := op182 (bA_at bd03_dec_X11_1_25 2 rfl rfl) rfl
theorem dX11_land_121 : decode cX11_land 121 = .ok (.ifCond .eq 11, 3) := op153 (bA_at bd03_dec_X11_1_25 3 rfl rfl) (by decide +kernel)
theorem dX11_land_124 : decode cX11_land 124 = .ok (.aload_n 0, 1) := op42 (bA_at bd03_dec_X11_1_25 4 rfl rfl)
theorem dX11_land_125 : decode cX11_land 125 = .ok (.iload_n 3, 1) := op29 (bA_at bd03_dec_X11_1_25 5 rfl rfl)
theorem dX11_land_126 : decode cX11_land 126 = .ok (.invokevirtual 322, 3) := op182 (bA_at bd03_dec_X11_1_25 6 rfl rfl) rfl
theorem dX11_land_129 : decode cX11_land 129 = .ok (.goto 4, 3) := op167 (bA_at bd03_dec_X11_1_25 7 rfl rfl) (by decide +kernel)
theorem dX11_land_132 : decode cX11_land 132 = .ok (.iconst (-1), 1) := op2 (bA_at bd03_dec_X11_1_25 8 rfl rfl)
theorem dX11_land_133 : decode cX11_land 133 = .ok (.ireturn, 1) := op172 (bA_at bd03_dec_X11_1_25 9 rfl rfl)
theorem dX11_land_134 : decode cX11_land 134 = .ok (.aload_n 0, 1) := op42 (bA_at bd03_dec_X11_1_25 10 rfl rfl)
theorem bd03_dec_X11_1_26 : ([(0, [29]), (1, [182, 1, 60]), (4, [153, 0, 14]), (7, [42]), (8, [16, 16]), (10, [29]), (11, [96]), (12, [182, 1, 47]), (15, [167, 0, 4]), (18, [2]), (19, [172]), (20, [42])] : List (Nat × List UInt8)).all (fun x => prB x.2 ((cX11_land.data.toList.drop 135).drop x.1)) = true := by decide +kernel
theorem dX11_land_135 : decode cX11_land 135 = .ok (.iload_n 3, 1) := op29 (bA_at bd03_dec_X11_1_26 0 rfl rfl)
theorem dX11_land_136 : decode cX11_land 136 = .ok (.invokevirtual 316, 3) := op182 (bA_at bd03_dec_X11_1_26 1 rfl rfl) rfl
theorem dX11_land_139 : decode cX11_land 139 = .ok (.ifCond .eq 14, 3) := op153 (bA_at bd03_dec_X11_1_26 2 rfl rfl) (by decide +kernel)
theorem dX11_land_142 : decode cX11_land 142 = .ok (.aload_n 0, 1) := op42 (bA_at bd03_dec_X11_1_26 3 rfl rfl)
theorem dX11_land_143 : decode cX11_land 143 = .ok (.bipush 16, 2) := op16 (bA_at bd03_dec_X11_1_26 4 rfl rfl) (by decide +kernel)
theorem dX11_land_145 : decode cX11_land 145 = .ok (.iload_n 3, 1) := op29 (bA_at bd03_dec_X11_1_26 5 rfl rfl)
theorem dX11_land_146 : decode cX11_land 146 = .ok (.iadd, 1) := op96 (bA_at bd03_dec_X11_1_26 6 rfl rfl)
theorem dX11_land_147 : decode cX11_land 147 = .ok (.invokevirtual 303, 3) := op182 (bA_at bd03_dec_X11_1_26 7 rfl rfl) rfl
theorem dX11_land_150 : decode cX11_land 150 = .ok (.goto 4, 3) := op167 (bA_at bd03_dec_X11_1_26 8 rfl rfl) (by decide +kernel)
theorem dX11_land_153 : decode cX11_land 153 = .ok (.iconst (-1), 1) := op2 (bA_at bd03_dec_X11_1_26 9 rfl rfl)
theorem dX11_land_154 : decode cX11_land 154 = .ok (.ireturn, 1) := op172 (bA_at bd03_dec_X11_1_26 10 rfl rfl)
theorem dX11_land_155 : decode cX11_land 155 = .ok (.aload_n 0, 1) := op42 (bA_at bd03_dec_X11_1_26 11 rfl rfl)
theorem bd03_dec_X11_1_27 : ([(0, [29]), (1, [182, 1, 69]), (4, [153, 0, 14]), (7, [42]), (8, [16, 25]), (10, [29]), (11, [96]), (12, [182, 1, 47]), (15, [167, 0, 4]), (18, [2]), (19, [172]), (20, [42])] : List (Nat × List UInt8)).all (fun x => prB x.2 ((cX11_land.data.toList.drop 156).drop x.1)) = true := by decide +kernel
theorem dX11_land_156 : decode cX11_land 156 = .ok (.iload_n 3, 1) := op29 (bA_at bd03_dec_X11_1_27 0 rfl rfl)
theorem dX11_land_157 : decode cX11_land 157 = .ok (.invokevirtual 325, 3) := op182 (bA_at bd03_dec_X11_1_27 1 rfl rfl) rfl
theorem dX11_land_160 : decode cX11_land 160 = .ok (.ifCond .eq 14, 3) := op153 (bA_at bd03_dec_X11_1_27 2 rfl rfl) (by decide +kernel)
theorem dX11_land_163 : decode cX11_land 163 = .ok (.aload_n 0, 1) := op42 (bA_at bd03_dec_X11_1_27 3 rfl rfl)
theorem dX11_land_164 : decode cX11_land 164 = .ok (.bipush 25, 2) := op16 (bA_at bd03_dec_X11_1_27 4 rfl rfl) (by decide +kernel)
theorem dX11_land_166 : decode cX11_land 166 = .ok (.iload_n 3, 1) := op29 (bA_at bd03_dec_X11_1_27 5 rfl rfl)
theorem dX11_land_167 : decode cX11_land 167 = .ok (.iadd, 1) := op96 (bA_at bd03_dec_X11_1_27 6 rfl rfl)
theorem dX11_land_168 : decode cX11_land 168 = .ok (.invokevirtual 303, 3) := op182 (bA_at bd03_dec_X11_1_27 7 rfl rfl) rfl
theorem dX11_land_171 : decode cX11_land 171 = .ok (.goto 4, 3) := op167 (bA_at bd03_dec_X11_1_27 8 rfl rfl) (by decide +kernel)
theorem dX11_land_174 : decode cX11_land 174 = .ok (.iconst (-1), 1) := op2 (bA_at bd03_dec_X11_1_27 9 rfl rfl)
theorem dX11_land_175 : decode cX11_land 175 = .ok (.ireturn, 1) := op172 (bA_at bd03_dec_X11_1_27 10 rfl rfl)
theorem dX11_land_176 : decode cX11_land 176 = .ok (.aload_n 0, 1) := op42 (bA_at bd03_dec_X11_1_27 11 rfl rfl)
theorem bd03_dec_X11_1_28 : ([(0, [29]), (1, [182, 1, 69]), (4, [153, 0, 14]), (7, [42]), (8, [16, 31]), (10, [29]), (11, [96]), (12, [182, 1, 47]), (15, [167, 0, 4]), (18, [2]), (19, [172]), (20, [42])] : List (Nat × List UInt8)).all (fun x => prB x.2 ((cX11_land.data.toList.drop 177).drop x.1)) = true := by decide +kernel
theorem dX11_land_177 : decode cX11_land 177 = .ok (.iload_n 3, 1) := op29 (bA_at bd03_dec_X11_1_28 0 rfl rfl)
theorem dX11_land_178 : decode cX11_land 178 = .ok (.invokevirtual 325, 3) := op182 (bA_at bd03_dec_X11_1_28 1 rfl rfl) rfl
theorem dX11_land_181 : decode cX11_land 181 = .ok (.ifCond .eq 14, 3) := op153 (bA_at bd03_dec_X11_1_28 2 rfl rfl) (by decide +kernel)
theorem dX11_land_184 : decode cX11_land 184 = .ok (.aload_n 0, 1) := op42 (bA_at bd03_dec_X11_1_28 3 rfl rfl)
theorem dX11_land_185 : decode cX11_land 185 = .ok (.bipush 31, 2) := op16 (bA_at bd03_dec_X11_1_28 4 rfl rfl) (by decide +kernel)
theorem dX11_land_187 : decode cX11_land 187 = .ok (.iload_n 3, 1) := op29 (bA_at bd03_dec_X11_1_28 5 rfl rfl)
theorem dX11_land_188 : decode cX11_land 188 = .ok (.iadd, 1) := op96 (bA_at bd03_dec_X11_1_28 6 rfl rfl)
theorem dX11_land_189 : decode cX11_land 189 = .ok (.invokevirtual 303, 3) := op182 (bA_at bd03_dec_X11_1_28 7 rfl rfl) rfl
theorem dX11_land_192 : decode cX11_land 192 = .ok (.goto 4, 3) := op167 (bA_at bd03_dec_X11_1_28 8 rfl rfl) (by decide +kernel)
theorem dX11_land_195 : decode cX11_land 195 = .ok (.iconst (-1), 1) := op2 (bA_at bd03_dec_X11_1_28 9 rfl rfl)
theorem dX11_land_196 : decode cX11_land 196 = .ok (.ireturn, 1) := op172 (bA_at bd03_dec_X11_1_28 10 rfl rfl)
theorem dX11_land_197 : decode cX11_land 197 = .ok (.aload_n 0, 1) := op42 (bA_at bd03_dec_X11_1_28 11 rfl rfl)
theorem bd03_dec_X11_1_29 : ([(0, [29]), (1, [182, 1, 69]), (4, [153, 0, 14]), (7, [42]), (8, [16, 37]), (10, [29]), (11, [96]), (12, [182, 1, 47]), (15, [167, 0, 4]), (18, [2]), (19, [172]), (20, [28])] : List (Nat × List UInt8)).all (fun x => prB x.2 ((cX11_land.data.toList.drop 198).drop x.1)) = true := by decide +kernel
theorem dX11_land_198 : decode cX11_land 198 = .ok (.iload_n 3, 1) := op29 (bA_at bd03_dec_X11_1_29 0 rfl rfl)
theorem dX11_land_199 : decode cX11_land 199 = .ok (.invokevirtual 325, 3) := op182 (bA_at bd03_dec_X11_1_29 1 rfl rfl) rfl
theorem dX11_land_202 : decode cX11_land 202 = .ok (.ifCond .eq 14, 3) := op153 (bA_at bd03_dec_X11_1_29 2 rfl rfl) (by decide +kernel)
theorem dX11_land_205 : decode cX11_land 205 = .ok (.aload_n 0, 1) := op42 (bA_at bd03_dec_X11_1_29 3 rfl rfl)
theorem dX11_land_206 : decode cX11_land 206 = .ok (.bipush 37, 2) := op16 (bA_at bd03_dec_X11_1_29 4 rfl rfl) (by decide +kernel)
theorem dX11_land_208 : decode cX11_land 208 = .ok (.iload_n 3, 1) := op29 (bA_at bd03_dec_X11_1_29 5 rfl rfl)
theorem dX11_land_209 : decode cX11_land 209 = .ok (.iadd, 1) := op96 (bA_at bd03_dec_X11_1_29 6 rfl rfl)
theorem dX11_land_210 : decode cX11_land 210 = .ok (.invokevirtual 303, 3) := op182 (bA_at bd03_dec_X11_1_29 7 rfl rfl) rfl
theorem dX11_land_213 : decode cX11_land 213 = .ok (.goto 4, 3) := op167 (bA_at bd03_dec_X11_1_29 8 rfl rfl) (by decide +kernel)
theorem dX11_land_216 : decode cX11_land 216 = .ok (.iconst (-1), 1) := op2 (bA_at bd03_dec_X11_1_29 9 rfl rfl)
theorem dX11_land_217 : decode cX11_land 217 = .ok (.ireturn, 1) := op172 (bA_at bd03_dec_X11_1_29 10 rfl rfl)
theorem dX11_land_218 : decode cX11_land 218 = .ok (.iload_n 2, 1) := op28 (bA_at bd03_dec_X11_1_29 11 rfl rfl)
theorem bd03_dec_X11_1_30 : ([(0, [3]), (1, [16, 6]), (3, [184, 0, 109]), (6, [153, 0, 11]), (9, [42]), (10, [28]), (11, [182, 1, 47]), (14, [167, 0, 4]), (17, [2]), (18, [172])] : List (Nat × List UInt8)).all (fun x => prB x.2 ((cX11_land.data.toList.drop 219).drop x.1)) = true := by decide +kernel
theorem dX11_land_219 : decode cX11_land 219 = .ok (.iconst 0, 1) := op3 (bA_at bd03_dec_X11_1_30 0 rfl rfl)
theorem dX11_land_220 : decode cX11_land 220 = .ok (.bipush 6, 2) := op16 (bA_at bd03_dec_X11_1_30 1 rfl rfl) (by decide +kernel)
theorem dX11_land_222 : decode cX11_land 222 = .ok (.invokestatic 109, 3) := op184 (bA_at bd03_dec_X11_1_30 2 rfl rfl) rfl
theorem dX11_land_225 : decode cX11_land 225 = .ok (.ifCond .eq 11, 3) := op153 (bA_at bd03_dec_X11_1_30 3 rfl rfl) (by decide +kernel)
theorem dX11_land_228 : decode cX11_land 228 = .ok (.aload_n 0, 1) := op42 (bA_at bd03_dec_X11_1_30 4 rfl rfl)
theorem dX11_land_229 : decode cX11_land 229 = .ok (.iload_n 2, 1) := op28 (bA_at bd03_dec_X11_1_30 5 rfl rfl)
theorem dX11_land_230 : decode cX11_land 230 = .ok (.invokevirtual 303, 3) := op182 (bA_at bd03_dec_X11_1_30 6 rfl rfl) rfl
theorem dX11_land_233 : decode cX11_land 233 = .ok (.goto 4, 3) := op167 (bA_at bd03_dec_X11_1_30 7 rfl rfl) (by decide +kernel)
theorem dX11_land_236 : decode cX11_land 236 = .ok (.iconst (-1), 1) := op2 (bA_at bd03_dec_X11_1_30 8 rfl rfl)
theorem dX11_land_237 : decode cX11_land 237 = .ok (.ireturn, 1) := op172 (bA_at bd03_dec_X11_1_30 9 rfl rfl)
theorem bd03_dec_X11_1_31 : ([(0, [42]), (1, [3]), (2, [181, 0, 97]), (5, [42]), (6, [27]), (7, [182, 1, 57]), (10, [153, 0, 42]), (13, [28]), (14, [3]), (15, [42]), (16, [7]), (17, [182, 1, 47])] : List (Nat × List UInt8)).all (fun x => prB x.2 ((cX11_echo.data.toList.drop 0).drop x.1)) = true := by decide +kernel
theorem dX11_echo_0 : decode cX11_echo 0 = .ok (.aload_n 0, 1) := op42 (bA_at bd03_dec_X11_1_31 0 rfl rfl)
theorem dX11_echo_1 : decode cX11_echo 1 = .ok (.iconst 0, 1) := op3 (bA_at bd03_dec_X11_1_31 1 rfl rfl)
theorem dX11_echo_2 : decode cX11_echo 2 = .ok (.putfield 97, 3) := op181 (bA_at bd03_dec_X11_1_31 2 rfl rfl) rfl
theorem dX11_echo_5 : decode cX11_echo 5 = .ok (.aload_n 0, 1) := op42 (bA_at bd03_dec_X11_1_31 3 rfl rfl)
theorem dX11_echo_6 : decode cX11_echo 6 = .ok (.iload_n 1, 1) := op27 (bA_at bd03_dec_X11_1_31 4 rfl rfl)
theorem dX11_echo_7 : decode cX11_echo 7 = .ok (.invokevirtual 313, 3) := op182 (bA_at bd03_dec_X11_1_31 5 rfl rfl) rfl
theorem dX11_echo_10 : decode cX11_echo 10 = .ok (.ifCond .eq 42, 3) := op153 (bA_at bd03_dec_X11_1_31 6 rfl rfl) (by decide +kernel)
theorem dX11_echo_13 : decode cX11_echo 13 = .ok (.iload_n 2, 1) := op28 (bA_at bd03_dec_X11_1_31 7 rfl rfl)
theorem dX11_echo_14 : decode cX11_echo 14 = .ok (.iconst 0, 1) := op3 (bA_at bd03_dec_X11_1_31 8 rfl rfl)
theorem dX11_echo_15 : decode cX11_echo 15 = .ok (.aload_n 0, 1) := op42 (bA_at bd03_dec_X11_1_31 9 rfl rfl)
theorem dX11_echo_16 : decode cX11_echo 16 = .ok (.iconst 4, 1) := op7 (bA_at bd03_dec_X11_1_31 10 rfl rfl)
theorem dX11_echo_17 : decode cX11_echo 17 = .ok (.invokevirtual 303, 3) := op182 (bA_at bd03_dec_X11_1_31 11 rfl rfl) rfl
theorem bd03_dec_X11_1_32 : ([(0, [4]), (1, [100]), (2, [184, 0, 109]), (5, [153, 0, 27]), (8, [29]), (9, [3]), (10, [4]), (11, [184, 0, 109]), (14, [153, 0, 18]), (17, [42]), (18, [16, 43]), (20, [5])] : List (Nat × List UInt8)).all (fun x => prB x.2 ((cX11_echo.data.toList.drop 20).drop x.1)) = true := by decide +kernel
theorem dX11_echo_20 : decode cX11_echo 20 = .ok (.iconst 1, 1) := op4 (bA_at bd03_dec_X11_1_32 0 rfl rfl)
theorem dX11_echo_21 : decode cX11_echo 21 = .ok (.isub, 1) := op100 (bA_at bd03_dec_X11_1_32 1 rfl rfl)
theorem dX11_echo_22 : decode cX11_echo 22 = .ok (.invokestatic 109, 3) := op184 (bA_at bd03_dec_X11_1_32 2 rfl rfl) rfl
theorem dX11_echo_25 : decode cX11_echo 25 = .ok (.ifCond .eq 27, 3) := op153 (bA_at bd03_dec_X11_1_32 3 rfl rfl) (by decide +kernel)
theorem dX11_echo_28 : decode cX11_echo 28 = .ok (.iload_n 3, 1) := op29 (bA_at bd03_dec_X11_1_32 4 rfl rfl)
theorem dX11_echo_29 : decode cX11_echo 29 = .ok (.iconst 0, 1) := op3 (bA_at bd03_dec_X11_1_32 5 rfl rfl)
theorem dX11_echo_30 : decode cX11_echo 30 = .ok (.iconst 1, 1) := op4 (bA_at bd03_dec_X11_1_32 6 rfl rfl)
theorem dX11_echo_31 : decode cX11_echo 31 = .ok (.invokestatic 109, 3) := op184 (bA_at bd03_dec_X11_1_32 7 rfl rfl) rfl
theorem dX11_echo_34 : decode cX11_echo 34 = .ok (.ifCond .eq 18, 3) := op153 (bA_at bd03_dec_X11_1_32 8 rfl rfl) (by decide +kernel)
theorem dX11_echo_37 : decode cX11_echo 37 = .ok (.aload_n 0, 1) := op42 (bA_at bd03_dec_X11_1_32 9 rfl rfl)
theorem dX11_echo_38 : decode cX11_echo 38 = .ok (.bipush 43, 2) := op16 (bA_at bd03_dec_X11_1_32 10 rfl rfl) (by decide +kernel)
theorem dX11_echo_40 : decode cX11_echo 40 = .ok (.iconst 2, 1) := op5 (bA_at bd03_dec_X11_1_32 11 rfl rfl)
theorem bd03_dec_X11_1_33 : ([(0, [28]), (1, [104]), (2, [96]), (3, [29]), (4, [96]), (5, [182, 1, 47]), (8, [167, 0, 4]), (11, [2]), (12, [172])] : List (Nat × List UInt8)).all (fun x => prB x.2 ((cX11_echo.data.toList.drop 41).drop x.1)) = true := by decide +kernel
theorem dX11_echo_41 : decode cX11_echo 41 = .ok (.iload_n 2, 1) := op28 (bA_at bd03_dec_X11_1_33 0 rfl rfl)
theorem dX11_echo_42 : decode cX11_echo 42 = .ok (.imul, 1) := op104 (bA_at bd03_dec_X11_1_33 1 rfl rfl)
theorem dX11_echo_43 : decode cX11_echo 43 = .ok (.iadd, 1) := op96 (bA_at bd03_dec_X11_1_33 2 rfl rfl)
theorem dX11_echo_44 : decode cX11_echo 44 = .ok (.iload_n 3, 1) := op29 (bA_at bd03_dec_X11_1_33 3 rfl rfl)
theorem dX11_echo_45 : decode cX11_echo 45 = .ok (.iadd, 1) := op96 (bA_at bd03_dec_X11_1_33 4 rfl rfl)
theorem dX11_echo_46 : decode cX11_echo 46 = .ok (.invokevirtual 303, 3) := op182 (bA_at bd03_dec_X11_1_33 5 rfl rfl) rfl
theorem dX11_echo_49 : decode cX11_echo 49 = .ok (.goto 4, 3) := op167 (bA_at bd03_dec_X11_1_33 6 rfl rfl) (by decide +kernel)
theorem dX11_echo_52 : decode cX11_echo 52 = .ok (.iconst (-1), 1) := op2 (bA_at bd03_dec_X11_1_33 7 rfl rfl)
theorem dX11_echo_53 : decode cX11_echo 53 = .ok (.ireturn, 1) := op172 (bA_at bd03_dec_X11_1_33 8 rfl rfl)
theorem bd03_dec_X11_1_34 : ([(0, [42]), (1, [180, 0, 29]), (4, [16, 121]), (6, [42]), (7, [180, 1, 72]), (10, [104]), (11, [46]), (12, [172])] : List (Nat × List UInt8)).all (fun x => prB x.2 ((cX11_deeds.data.toList.drop 0).drop x.1)) = true := by decide +kernel
theorem dX11_deeds_0 : decode cX11_deeds 0 = .ok (.aload_n 0, 1) := op42 (bA_at bd03_dec_X11_1_34 0 rfl rfl)
theorem dX11_deeds_1 : decode cX11_deeds 1 = .ok (.getfield 29, 3) := op180 (bA_at bd03_dec_X11_1_34 1 rfl rfl) rfl
theorem dX11_deeds_4 : decode cX11_deeds 4 = .ok (.bipush 121, 2) := op16 (bA_at bd03_dec_X11_1_34 2 rfl rfl) (by decide +kernel)
theorem dX11_deeds_6 : decode cX11_deeds 6 = .ok (.aload_n 0, 1) := op42 (bA_at bd03_dec_X11_1_34 3 rfl rfl)
theorem dX11_deeds_7 : decode cX11_deeds 7 = .ok (.getfield 328, 3) := op180 (bA_at bd03_dec_X11_1_34 4 rfl rfl) rfl
theorem dX11_deeds_10 : decode cX11_deeds 10 = .ok (.imul, 1) := op104 (bA_at bd03_dec_X11_1_34 5 rfl rfl)
theorem dX11_deeds_11 : decode cX11_deeds 11 = .ok (.iaload, 1) := op46 (bA_at bd03_dec_X11_1_34 6 rfl rfl)
theorem dX11_deeds_12 : decode cX11_deeds 12 = .ok (.ireturn, 1) := op172 (bA_at bd03_dec_X11_1_34 7 rfl rfl)
theorem bd03_dec_X11_1_35 : ([(0, [42]), (1, [180, 0, 29]), (4, [16, 121]), (6, [42]), (7, [180, 1, 72]), (10, [104]), (11, [4]), (12, [96]), (13, [6]), (14, [27]), (15, [104]), (16, [96])] : List (Nat × List UInt8)).all (fun x => prB x.2 ((cX11_deedOf.data.toList.drop 0).drop x.1)) = true := by decide +kernel
theorem dX11_deedOf_0 : decode cX11_deedOf 0 = .ok (.aload_n 0, 1) := op42 (bA_at bd03_dec_X11_1_35 0 rfl rfl)
theorem dX11_deedOf_1 : decode cX11_deedOf 1 = .ok (.getfield 29, 3) := op180 (bA_at bd03_dec_X11_1_35 1 rfl rfl) rfl
theorem dX11_deedOf_4 : decode cX11_deedOf 4 = .ok (.bipush 121, 2) := op16 (bA_at bd03_dec_X11_1_35 2 rfl rfl) (by decide +kernel)
theorem dX11_deedOf_6 : decode cX11_deedOf 6 = .ok (.aload_n 0, 1) := op42 (bA_at bd03_dec_X11_1_35 3 rfl rfl)
theorem dX11_deedOf_7 : decode cX11_deedOf 7 = .ok (.getfield 328, 3) := op180 (bA_at bd03_dec_X11_1_35 4 rfl rfl) rfl
theorem dX11_deedOf_10 : decode cX11_deedOf 10 = .ok (.imul, 1) := op104 (bA_at bd03_dec_X11_1_35 5 rfl rfl)
theorem dX11_deedOf_11 : decode cX11_deedOf 11 = .ok (.iconst 1, 1) := op4 (bA_at bd03_dec_X11_1_35 6 rfl rfl)
theorem dX11_deedOf_12 : decode cX11_deedOf 12 = .ok (.iadd, 1) := op96 (bA_at bd03_dec_X11_1_35 7 rfl rfl)
theorem dX11_deedOf_13 : decode cX11_deedOf 13 = .ok (.iconst 3, 1) := op6 (bA_at bd03_dec_X11_1_35 8 rfl rfl)
theorem dX11_deedOf_14 : decode cX11_deedOf 14 = .ok (.iload_n 1, 1) := op27 (bA_at bd03_dec_X11_1_35 9 rfl rfl)
theorem dX11_deedOf_15 : decode cX11_deedOf 15 = .ok (.imul, 1) := op104 (bA_at bd03_dec_X11_1_35 10 rfl rfl)
theorem dX11_deedOf_16 : decode cX11_deedOf 16 = .ok (.iadd, 1) := op96 (bA_at bd03_dec_X11_1_35 11 rfl rfl)
theorem bd03_dec_X11_1_36 : ([(0, [28]), (1, [96]), (2, [46]), (3, [172])] : List (Nat × List UInt8)).all (fun x => prB x.2 ((cX11_deedOf.data.toList.drop 17).drop x.1)) = true := by decide +kernel
theorem dX11_deedOf_17 : decode cX11_deedOf 17 = .ok (.iload_n 2, 1) := op28 (bA_at bd03_dec_X11_1_36 0 rfl rfl)
theorem dX11_deedOf_18 : decode cX11_deedOf 18 = .ok (.iadd, 1) := op96 (bA_at bd03_dec_X11_1_36 1 rfl rfl)
theorem dX11_deedOf_19 : decode cX11_deedOf 19 = .ok (.iaload, 1) := op46 (bA_at bd03_dec_X11_1_36 2 rfl rfl)
theorem dX11_deedOf_20 : decode cX11_deedOf 20 = .ok (.ireturn, 1) := op172 (bA_at bd03_dec_X11_1_36 3 rfl rfl)
theorem bd03_dec_X11_1_37 : ([(0, [42]), (1, [27]), (2, [181, 1, 72]), (5, [42]), (6, [4]), (7, [27]), (8, [182, 1, 35]), (11, [172])] : List (Nat × List UInt8)).all (fun x => prB x.2 ((cX11_hasEvening.data.toList.drop 0).drop x.1)) = true := by decide +kernel
theorem dX11_hasEvening_0 : decode cX11_hasEvening 0 = .ok (.aload_n 0, 1) := op42 (bA_at bd03_dec_X11_1_37 0 rfl rfl)
theorem dX11_hasEvening_1 : decode cX11_hasEvening 1 = .ok (.iload_n 1, 1) := op27 (bA_at bd03_dec_X11_1_37 1 rfl rfl)
theorem dX11_hasEvening_2 : decode cX11_hasEvening 2 = .ok (.putfield 328, 3) := op181 (bA_at bd03_dec_X11_1_37 2 rfl rfl) rfl
theorem dX11_hasEvening_5 : decode cX11_hasEvening 5 = .ok (.aload_n 0, 1) := op42 (bA_at bd03_dec_X11_1_37 3 rfl rfl)
theorem dX11_hasEvening_6 : decode cX11_hasEvening 6 = .ok (.iconst 1, 1) := op4 (bA_at bd03_dec_X11_1_37 4 rfl rfl)
theorem dX11_hasEvening_7 : decode cX11_hasEvening 7 = .ok (.iload_n 1, 1) := op27 (bA_at bd03_dec_X11_1_37 5 rfl rfl)
theorem dX11_hasEvening_8 : decode cX11_hasEvening 8 = .ok (.invokevirtual 291, 3) := op182 (bA_at bd03_dec_X11_1_37 6 rfl rfl) rfl
theorem dX11_hasEvening_11 : decode cX11_hasEvening 11 = .ok (.ireturn, 1) := op172 (bA_at bd03_dec_X11_1_37 7 rfl rfl)
theorem bd03_dec_X11_1_38 : ([(0, [42]), (1, [3]), (2, [181, 0, 97]), (5, [42]), (6, [27]), (7, [182, 1, 75]), (10, [154, 0, 6]), (13, [16, 254]), (15, [172]), (16, [28]), (17, [2]), (18, [160, 0, 17])] : List (Nat × List UInt8)).all (fun x => prB x.2 ((cX11_deed.data.toList.drop 0).drop x.1)) = true := by decide +kernel
theorem dX11_deed_0 : decode cX11_deed 0 = .ok (.aload_n 0, 1) := op42 (bA_at bd03_dec_X11_1_38 0 rfl rfl)
theorem dX11_deed_1 : decode cX11_deed 1 = .ok (.iconst 0, 1) := op3 (bA_at bd03_dec_X11_1_38 1 rfl rfl)
theorem dX11_deed_2 : decode cX11_deed 2 = .ok (.putfield 97, 3) := op181 (bA_at bd03_dec_X11_1_38 2 rfl rfl) rfl
theorem dX11_deed_5 : decode cX11_deed 5 = .ok (.aload_n 0, 1) := op42 (bA_at bd03_dec_X11_1_38 3 rfl rfl)
theorem dX11_deed_6 : decode cX11_deed 6 = .ok (.iload_n 1, 1) := op27 (bA_at bd03_dec_X11_1_38 4 rfl rfl)
theorem dX11_deed_7 : decode cX11_deed 7 = .ok (.invokevirtual 331, 3) := op182 (bA_at bd03_dec_X11_1_38 5 rfl rfl) rfl
theorem dX11_deed_10 : decode cX11_deed 10 = .ok (.ifCond .ne 6, 3) := op154 (bA_at bd03_dec_X11_1_38 6 rfl rfl) (by decide +kernel)
theorem dX11_deed_13 : decode cX11_deed 13 = .ok (.bipush (-2), 2) := op16 (bA_at bd03_dec_X11_1_38 7 rfl rfl) (by decide +kernel)
theorem dX11_deed_15 : decode cX11_deed 15 = .ok (.ireturn, 1) := op172 (bA_at bd03_dec_X11_1_38 8 rfl rfl)
theorem dX11_deed_16 : decode cX11_deed 16 = .ok (.iload_n 2, 1) := op28 (bA_at bd03_dec_X11_1_38 9 rfl rfl)
theorem dX11_deed_17 : decode cX11_deed 17 = .ok (.iconst (-1), 1) := op2 (bA_at bd03_dec_X11_1_38 10 rfl rfl)
theorem dX11_deed_18 : decode cX11_deed 18 = .ok (.if_icmp .ne 17, 3) := op160 (bA_at bd03_dec_X11_1_38 11 rfl rfl) (by decide +kernel)
theorem bd03_dec_X11_1_39 : ([(0, [29]), (1, [154, 0, 10]), (4, [42]), (5, [182, 1, 78]), (8, [167, 0, 5]), (11, [16, 254]), (13, [172]), (14, [28]), (15, [3]), (16, [42]), (17, [182, 1, 78]), (20, [4])] : List (Nat × List UInt8)).all (fun x => prB x.2 ((cX11_deed.data.toList.drop 21).drop x.1)) = true := by decide +kernel
theorem dX11_deed_21 : decode cX11_deed 21 = .ok (.iload_n 3, 1) := op29 (bA_at bd03_dec_X11_1_39 0 rfl rfl)
theorem dX11_deed_22 : decode cX11_deed 22 = .ok (.ifCond .ne 10, 3) := op154 (bA_at bd03_dec_X11_1_39 1 rfl rfl) (by decide +kernel)
theorem dX11_deed_25 : decode cX11_deed 25 = .ok (.aload_n 0, 1) := op42 (bA_at bd03_dec_X11_1_39 2 rfl rfl)
theorem dX11_deed_26 : decode cX11_deed 26 = .ok (.invokevirtual 334, 3) := op182 (bA_at bd03_dec_X11_1_39 3 rfl rfl) rfl
theorem dX11_deed_29 : decode cX11_deed 29 = .ok (.goto 5, 3) := op167 (bA_at bd03_dec_X11_1_39 4 rfl rfl) (by decide +kernel)
theorem dX11_deed_32 : decode cX11_deed 32 = .ok (.bipush (-2), 2) := op16 (bA_at bd03_dec_X11_1_39 5 rfl rfl) (by decide +kernel)
theorem dX11_deed_34 : decode cX11_deed 34 = .ok (.ireturn, 1) := op172 (bA_at bd03_dec_X11_1_39 6 rfl rfl)
theorem dX11_deed_35 : decode cX11_deed 35 = .ok (.iload_n 2, 1) := op28 (bA_at bd03_dec_X11_1_39 7 rfl rfl)
theorem dX11_deed_36 : decode cX11_deed 36 = .ok (.iconst 0, 1) := op3 (bA_at bd03_dec_X11_1_39 8 rfl rfl)
theorem dX11_deed_37 : decode cX11_deed 37 = .ok (.aload_n 0, 1) := op42 (bA_at bd03_dec_X11_1_39 9 rfl rfl)
theorem dX11_deed_38 : decode cX11_deed 38 = .ok (.invokevirtual 334, 3) := op182 (bA_at bd03_dec_X11_1_39 10 rfl rfl) rfl
theorem dX11_deed_41 : decode cX11_deed 41 = .ok (.iconst 1, 1) := op4 (bA_at bd03_dec_X11_1_39 11 rfl rfl)
theorem bd03_dec_X11_1_40 : ([(0, [100]), (1, [184, 0, 109]), (4, [153, 0, 21]), (7, [29]), (8, [3]), (9, [5]), (10, [184, 0, 109]), (13, [153, 0, 12]), (16, [42]), (17, [28]), (18, [29]), (19, [182, 1, 81])] : List (Nat × List UInt8)).all (fun x => prB x.2 ((cX11_deed.data.toList.drop 42).drop x.1)) = true := by decide +kernel
theorem dX11_deed_42 : decode cX11_deed 42 = .ok (.isub, 1) := op100 (bA_at bd03_dec_X11_1_40 0 rfl rfl)
theorem dX11_deed_43 : decode cX11_deed 43 = .ok (.invokestatic 109, 3) := op184 (bA_at bd03_dec_X11_1_40 1 rfl rfl) rfl
theorem dX11_deed_46 : decode cX11_deed 46 = .ok (.ifCond .eq 21, 3) := op153 (bA_at bd03_dec_X11_1_40 2 rfl rfl) (by decide +kernel)
theorem dX11_deed_49 : decode cX11_deed 49 = .ok (.iload_n 3, 1) := op29 (bA_at bd03_dec_X11_1_40 3 rfl rfl)
theorem dX11_deed_50 : decode cX11_deed 50 = .ok (.iconst 0, 1) := op3 (bA_at bd03_dec_X11_1_40 4 rfl rfl)
theorem dX11_deed_51 : decode cX11_deed 51 = .ok (.iconst 2, 1) := op5 (bA_at bd03_dec_X11_1_40 5 rfl rfl)
theorem dX11_deed_52 : decode cX11_deed 52 = .ok (.invokestatic 109, 3) := op184 (bA_at bd03_dec_X11_1_40 6 rfl rfl) rfl
theorem dX11_deed_55 : decode cX11_deed 55 = .ok (.ifCond .eq 12, 3) := op153 (bA_at bd03_dec_X11_1_40 7 rfl rfl) (by decide +kernel)
theorem dX11_deed_58 : decode cX11_deed 58 = .ok (.aload_n 0, 1) := op42 (bA_at bd03_dec_X11_1_40 8 rfl rfl)
theorem dX11_deed_59 : decode cX11_deed 59 = .ok (.iload_n 2, 1) := op28 (bA_at bd03_dec_X11_1_40 9 rfl rfl)
theorem dX11_deed_60 : decode cX11_deed 60 = .ok (.iload_n 3, 1) := op29 (bA_at bd03_dec_X11_1_40 10 rfl rfl)
theorem dX11_deed_61 : decode cX11_deed 61 = .ok (.invokevirtual 337, 3) := op182 (bA_at bd03_dec_X11_1_40 11 rfl rfl) rfl
theorem bd03_dec_X11_1_41 : ([(0, [167, 0, 5]), (3, [16, 254]), (5, [172])] : List (Nat × List UInt8)).all (fun x => prB x.2 ((cX11_deed.data.toList.drop 64).drop x.1)) = true := by decide +kernel
theorem dX11_deed_64 : decode cX11_deed 64 = .ok (.goto 5, 3) := op167 (bA_at bd03_dec_X11_1_41 0 rfl rfl) (by decide +kernel)
theorem dX11_deed_67 : decode cX11_deed 67 = .ok (.bipush (-2), 2) := op16 (bA_at bd03_dec_X11_1_41 1 rfl rfl) (by decide +kernel)
theorem dX11_deed_69 : decode cX11_deed 69 = .ok (.ireturn, 1) := op172 (bA_at bd03_dec_X11_1_41 2 rfl rfl)
theorem bd03_dec_X11_1_42 : ([(0, [3]), (1, [60]), (2, [27]), (3, [16, 6]), (5, [162, 0, 44]), (8, [42]), (9, [180, 0, 44]), (12, [27]), (13, [42]), (14, [16, 25]), (16, [27]), (17, [96])] : List (Nat × List UInt8)).all (fun x => prB x.2 ((cX11_begin.data.toList.drop 0).drop x.1)) = true := by decide +kernel
theorem dX11_begin_0 : decode cX11_begin 0 = .ok (.iconst 0, 1) := op3 (bA_at bd03_dec_X11_1_42 0 rfl rfl)
theorem dX11_begin_1 : decode cX11_begin 1 = .ok (.istore_n 1, 1) := op60 (bA_at bd03_dec_X11_1_42 1 rfl rfl)
theorem dX11_begin_2 : decode cX11_begin 2 = .ok (.iload_n 1, 1) := op27 (bA_at bd03_dec_X11_1_42 2 rfl rfl)
theorem dX11_begin_3 : decode cX11_begin 3 = .ok (.bipush 6, 2) := op16 (bA_at bd03_dec_X11_1_42 3 rfl rfl) (by decide +kernel)
theorem dX11_begin_5 : decode cX11_begin 5 = .ok (.if_icmp .ge 44, 3) := op162 (bA_at bd03_dec_X11_1_42 4 rfl rfl) (by decide +kernel)
theorem dX11_begin_8 : decode cX11_begin 8 = .ok (.aload_n 0, 1) := op42 (bA_at bd03_dec_X11_1_42 5 rfl rfl)
theorem dX11_begin_9 : decode cX11_begin 9 = .ok (.getfield 44, 3) := op180 (bA_at bd03_dec_X11_1_42 6 rfl rfl) rfl
theorem dX11_begin_12 : decode cX11_begin 12 = .ok (.iload_n 1, 1) := op27 (bA_at bd03_dec_X11_1_42 7 rfl rfl)
theorem dX11_begin_13 : decode cX11_begin 13 = .ok (.aload_n 0, 1) := op42 (bA_at bd03_dec_X11_1_42 8 rfl rfl)
theorem dX11_begin_14 : decode cX11_begin 14 = .ok (.bipush 25, 2) := op16 (bA_at bd03_dec_X11_1_42 9 rfl rfl) (by decide +kernel)
theorem dX11_begin_16 : decode cX11_begin 16 = .ok (.iload_n 1, 1) := op27 (bA_at bd03_dec_X11_1_42 10 rfl rfl)
theorem dX11_begin_17 : decode cX11_begin 17 = .ok (.iadd, 1) := op96 (bA_at bd03_dec_X11_1_42 11 rfl rfl)
theorem bd03_dec_X11_1_43 : ([(0, [182, 1, 47]), (3, [79]), (4, [42]), (5, [180, 0, 47]), (8, [27]), (9, [42]), (10, [16, 37]), (12, [27]), (13, [96]), (14, [182, 1, 47]), (17, [79]), (18, [42])] : List (Nat × List UInt8)).all (fun x => prB x.2 ((cX11_begin.data.toList.drop 18).drop x.1)) = true := by decide +kernel
theorem dX11_begin_18 : decode cX11_begin 18 = .ok (.invokevirtual 303, 3) := op182 (bA_at bd03_dec_X11_1_43 0 rfl rfl) rfl
theorem dX11_begin_21 : decode cX11_begin 21 = .ok (.iastore, 1) := op79 (bA_at bd03_dec_X11_1_43 1 rfl rfl)
theorem dX11_begin_22 : decode cX11_begin 22 = .ok (.aload_n 0, 1) := op42 (bA_at bd03_dec_X11_1_43 2 rfl rfl)
theorem dX11_begin_23 : decode cX11_begin 23 = .ok (.getfield 47, 3) := op180 (bA_at bd03_dec_X11_1_43 3 rfl rfl) rfl
theorem dX11_begin_26 : decode cX11_begin 26 = .ok (.iload_n 1, 1) := op27 (bA_at bd03_dec_X11_1_43 4 rfl rfl)
theorem dX11_begin_27 : decode cX11_begin 27 = .ok (.aload_n 0, 1) := op42 (bA_at bd03_dec_X11_1_43 5 rfl rfl)
theorem dX11_begin_28 : decode cX11_begin 28 = .ok (.bipush 37, 2) := op16 (bA_at bd03_dec_X11_1_43 6 rfl rfl) (by decide +kernel)
theorem dX11_begin_30 : decode cX11_begin 30 = .ok (.iload_n 1, 1) := op27 (bA_at bd03_dec_X11_1_43 7 rfl rfl)
theorem dX11_begin_31 : decode cX11_begin 31 = .ok (.iadd, 1) := op96 (bA_at bd03_dec_X11_1_43 8 rfl rfl)
theorem dX11_begin_32 : decode cX11_begin 32 = .ok (.invokevirtual 303, 3) := op182 (bA_at bd03_dec_X11_1_43 9 rfl rfl) rfl
theorem dX11_begin_35 : decode cX11_begin 35 = .ok (.iastore, 1) := op79 (bA_at bd03_dec_X11_1_43 10 rfl rfl)
theorem dX11_begin_36 : decode cX11_begin 36 = .ok (.aload_n 0, 1) := op42 (bA_at bd03_dec_X11_1_43 11 rfl rfl)
theorem bd03_dec_X11_1_44 : ([(0, [180, 0, 50]), (3, [27]), (4, [3]), (5, [79]), (6, [132, 1, 1]), (9, [167, 255, 212]), (12, [3]), (13, [60]), (14, [27]), (15, [16, 9]), (17, [162, 0, 16]), (20, [42])] : List (Nat × List UInt8)).all (fun x => prB x.2 ((cX11_begin.data.toList.drop 37).drop x.1)) = true := by decide +kernel
theorem dX11_begin_37 : decode cX11_begin 37 = .ok (.getfield 50, 3) := op180 (bA_at bd03_dec_X11_1_44 0 rfl rfl) rfl
theorem dX11_begin_40 : decode cX11_begin 40 = .ok (.iload_n 1, 1) := op27 (bA_at bd03_dec_X11_1_44 1 rfl rfl)
theorem dX11_begin_41 : decode cX11_begin 41 = .ok (.iconst 0, 1) := op3 (bA_at bd03_dec_X11_1_44 2 rfl rfl)
theorem dX11_begin_42 : decode cX11_begin 42 = .ok (.iastore, 1) := op79 (bA_at bd03_dec_X11_1_44 3 rfl rfl)
theorem dX11_begin_43 : decode cX11_begin 43 = .ok (.iinc 1 1, 3) := op132 (bA_at bd03_dec_X11_1_44 4 rfl rfl) rfl (by decide +kernel)
theorem dX11_begin_46 : decode cX11_begin 46 = .ok (.goto (-44), 3) := op167 (bA_at bd03_dec_X11_1_44 5 rfl rfl) (by decide +kernel)
theorem dX11_begin_49 : decode cX11_begin 49 = .ok (.iconst 0, 1) := op3 (bA_at bd03_dec_X11_1_44 6 rfl rfl)
theorem dX11_begin_50 : decode cX11_begin 50 = .ok (.istore_n 1, 1) := op60 (bA_at bd03_dec_X11_1_44 7 rfl rfl)
theorem dX11_begin_51 : decode cX11_begin 51 = .ok (.iload_n 1, 1) := op27 (bA_at bd03_dec_X11_1_44 8 rfl rfl)
theorem dX11_begin_52 : decode cX11_begin 52 = .ok (.bipush 9, 2) := op16 (bA_at bd03_dec_X11_1_44 9 rfl rfl) (by decide +kernel)
theorem dX11_begin_54 : decode cX11_begin 54 = .ok (.if_icmp .ge 16, 3) := op162 (bA_at bd03_dec_X11_1_44 10 rfl rfl) (by decide +kernel)
theorem dX11_begin_57 : decode cX11_begin 57 = .ok (.aload_n 0, 1) := op42 (bA_at bd03_dec_X11_1_44 11 rfl rfl)
theorem bd03_dec_X11_1_45 : ([(0, [180, 0, 53]), (3, [27]), (4, [3]), (5, [79]), (6, [132, 1, 1]), (9, [167, 255, 240]), (12, [42]), (13, [3]), (14, [181, 1, 84]), (17, [42]), (18, [3]), (19, [181, 1, 87])] : List (Nat × List UInt8)).all (fun x => prB x.2 ((cX11_begin.data.toList.drop 58).drop x.1)) = true := by decide +kernel
theorem dX11_begin_58 : decode cX11_begin 58 = .ok (.getfield 53, 3) := op180 (bA_at bd03_dec_X11_1_45 0 rfl rfl) rfl
theorem dX11_begin_61 : decode cX11_begin 61 = .ok (.iload_n 1, 1) := op27 (bA_at bd03_dec_X11_1_45 1 rfl rfl)
theorem dX11_begin_62 : decode cX11_begin 62 = .ok (.iconst 0, 1) := op3 (bA_at bd03_dec_X11_1_45 2 rfl rfl)
theorem dX11_begin_63 : decode cX11_begin 63 = .ok (.iastore, 1) := op79 (bA_at bd03_dec_X11_1_45 3 rfl rfl)
theorem dX11_begin_64 : decode cX11_begin 64 = .ok (.iinc 1 1, 3) := op132 (bA_at bd03_dec_X11_1_45 4 rfl rfl) rfl (by decide +kernel)
theorem dX11_begin_67 : decode cX11_begin 67 = .ok (.goto (-16), 3) := op167 (bA_at bd03_dec_X11_1_45 5 rfl rfl) (by decide +kernel)
theorem dX11_begin_70 : decode cX11_begin 70 = .ok (.aload_n 0, 1) := op42 (bA_at bd03_dec_X11_1_45 6 rfl rfl)
theorem dX11_begin_71 : decode cX11_begin 71 = .ok (.iconst 0, 1) := op3 (bA_at bd03_dec_X11_1_45 7 rfl rfl)
theorem dX11_begin_72 : decode cX11_begin 72 = .ok (.putfield 340, 3) := op181 (bA_at bd03_dec_X11_1_45 8 rfl rfl) rfl
theorem dX11_begin_75 : decode cX11_begin 75 = .ok (.aload_n 0, 1) := op42 (bA_at bd03_dec_X11_1_45 9 rfl rfl)
theorem dX11_begin_76 : decode cX11_begin 76 = .ok (.iconst 0, 1) := op3 (bA_at bd03_dec_X11_1_45 10 rfl rfl)
theorem dX11_begin_77 : decode cX11_begin 77 = .ok (.putfield 343, 3) := op181 (bA_at bd03_dec_X11_1_45 11 rfl rfl) rfl
theorem bd03_dec_X11_1_46 : ([(0, [42]), (1, [3]), (2, [181, 1, 90]), (5, [177])] : List (Nat × List UInt8)).all (fun x => prB x.2 ((cX11_begin.data.toList.drop 80).drop x.1)) = true := by decide +kernel
theorem dX11_begin_80 : decode cX11_begin 80 = .ok (.aload_n 0, 1) := op42 (bA_at bd03_dec_X11_1_46 0 rfl rfl)
theorem dX11_begin_81 : decode cX11_begin 81 = .ok (.iconst 0, 1) := op3 (bA_at bd03_dec_X11_1_46 1 rfl rfl)
theorem dX11_begin_82 : decode cX11_begin 82 = .ok (.putfield 346, 3) := op181 (bA_at bd03_dec_X11_1_46 2 rfl rfl) rfl
theorem dX11_begin_85 : decode cX11_begin 85 = .ok (.return_, 1) := op177 (bA_at bd03_dec_X11_1_46 3 rfl rfl)
theorem bd03_dec_X11_1_47 : ([(0, [42]), (1, [42]), (2, [180, 0, 44]), (5, [27]), (6, [46]), (7, [182, 1, 66]), (10, [42]), (11, [16, 31]), (13, [27]), (14, [96]), (15, [182, 1, 47]), (18, [100])] : List (Nat × List UInt8)).all (fun x => prB x.2 ((cX11_high.data.toList.drop 0).drop x.1)) = true := by decide +kernel
theorem dX11_high_0 : decode cX11_high 0 = .ok (.aload_n 0, 1) := op42 (bA_at bd03_dec_X11_1_47 0 rfl rfl)
theorem dX11_high_1 : decode cX11_high 1 = .ok (.aload_n 0, 1) := op42 (bA_at bd03_dec_X11_1_47 1 rfl rfl)
theorem dX11_high_2 : decode cX11_high 2 = .ok (.getfield 44, 3) := op180 (bA_at bd03_dec_X11_1_47 2 rfl rfl) rfl
theorem dX11_high_5 : decode cX11_high 5 = .ok (.iload_n 1, 1) := op27 (bA_at bd03_dec_X11_1_47 3 rfl rfl)
theorem dX11_high_6 : decode cX11_high 6 = .ok (.iaload, 1) := op46 (bA_at bd03_dec_X11_1_47 4 rfl rfl)
theorem dX11_high_7 : decode cX11_high 7 = .ok (.invokevirtual 322, 3) := op182 (bA_at bd03_dec_X11_1_47 5 rfl rfl) rfl
theorem dX11_high_10 : decode cX11_high 10 = .ok (.aload_n 0, 1) := op42 (bA_at bd03_dec_X11_1_47 6 rfl rfl)
theorem dX11_high_11 : decode cX11_high 11 = .ok (.bipush 31, 2) := op16 (bA_at bd03_dec_X11_1_47 7 rfl rfl) (by decide +kernel)
theorem dX11_high_13 : decode cX11_high 13 = .ok (.iload_n 1, 1) := op27 (bA_at bd03_dec_X11_1_47 8 rfl rfl)
theorem dX11_high_14 : decode cX11_high 14 = .ok (.iadd, 1) := op96 (bA_at bd03_dec_X11_1_47 9 rfl rfl)
theorem dX11_high_15 : decode cX11_high 15 = .ok (.invokevirtual 303, 3) := op182 (bA_at bd03_dec_X11_1_47 10 rfl rfl) rfl
theorem dX11_high_18 : decode cX11_high 18 = .ok (.isub, 1) := op100 (bA_at bd03_dec_X11_1_47 11 rfl rfl)
theorem bd03_dec_X11_1_48 : ([(0, [42]), (1, [180, 0, 50]), (4, [27]), (5, [46]), (6, [42]), (7, [16, 16]), (9, [42]), (10, [180, 0, 44]), (13, [27]), (14, [46]), (15, [96]), (16, [182, 1, 47])] : List (Nat × List UInt8)).all (fun x => prB x.2 ((cX11_high.data.toList.drop 19).drop x.1)) = true := by decide +kernel
theorem dX11_high_19 : decode cX11_high 19 = .ok (.aload_n 0, 1) := op42 (bA_at bd03_dec_X11_1_48 0 rfl rfl)
theorem dX11_high_20 : decode cX11_high 20 = .ok (.getfield 50, 3) := op180 (bA_at bd03_dec_X11_1_48 1 rfl rfl) rfl
theorem dX11_high_23 : decode cX11_high 23 = .ok (.iload_n 1, 1) := op27 (bA_at bd03_dec_X11_1_48 2 rfl rfl)
theorem dX11_high_24 : decode cX11_high 24 = .ok (.iaload, 1) := op46 (bA_at bd03_dec_X11_1_48 3 rfl rfl)
theorem dX11_high_25 : decode cX11_high 25 = .ok (.aload_n 0, 1) := op42 (bA_at bd03_dec_X11_1_48 4 rfl rfl)
theorem dX11_high_26 : decode cX11_high 26 = .ok (.bipush 16, 2) := op16 (bA_at bd03_dec_X11_1_48 5 rfl rfl) (by decide +kernel)
theorem dX11_high_28 : decode cX11_high 28 = .ok (.aload_n 0, 1) := op42 (bA_at bd03_dec_X11_1_48 6 rfl rfl)
theorem dX11_high_29 : decode cX11_high 29 = .ok (.getfield 44, 3) := op180 (bA_at bd03_dec_X11_1_48 7 rfl rfl) rfl
theorem dX11_high_32 : decode cX11_high 32 = .ok (.iload_n 1, 1) := op27 (bA_at bd03_dec_X11_1_48 8 rfl rfl)
theorem dX11_high_33 : decode cX11_high 33 = .ok (.iaload, 1) := op46 (bA_at bd03_dec_X11_1_48 9 rfl rfl)
theorem dX11_high_34 : decode cX11_high 34 = .ok (.iadd, 1) := op96 (bA_at bd03_dec_X11_1_48 10 rfl rfl)
theorem dX11_high_35 : decode cX11_high 35 = .ok (.invokevirtual 303, 3) := op182 (bA_at bd03_dec_X11_1_48 11 rfl rfl) rfl
theorem bd03_dec_X11_1_49 : ([(0, [104]), (1, [96]), (2, [172])] : List (Nat × List UInt8)).all (fun x => prB x.2 ((cX11_high.data.toList.drop 38).drop x.1)) = true := by decide +kernel
theorem dX11_high_38 : decode cX11_high 38 = .ok (.imul, 1) := op104 (bA_at bd03_dec_X11_1_49 0 rfl rfl)
theorem dX11_high_39 : decode cX11_high 39 = .ok (.iadd, 1) := op96 (bA_at bd03_dec_X11_1_49 1 rfl rfl)
theorem dX11_high_40 : decode cX11_high 40 = .ok (.ireturn, 1) := op172 (bA_at bd03_dec_X11_1_49 2 rfl rfl)
theorem bd03_dec_X11_1_50 : ([(0, [42]), (1, [180, 0, 53]), (4, [27]), (5, [46]), (6, [42]), (7, [8]), (8, [182, 1, 47]), (11, [161, 0, 7]), (14, [4]), (15, [167, 0, 4]), (18, [3]), (19, [172])] : List (Nat × List UInt8)).all (fun x => prB x.2 ((cX11_isCut.data.toList.drop 0).drop x.1)) = true := by decide +kernel
theorem dX11_isCut_0 : decode cX11_isCut 0 = .ok (.aload_n 0, 1) := op42 (bA_at bd03_dec_X11_1_50 0 rfl rfl)
theorem dX11_isCut_1 : decode cX11_isCut 1 = .ok (.getfield 53, 3) := op180 (bA_at bd03_dec_X11_1_50 1 rfl rfl) rfl
theorem dX11_isCut_4 : decode cX11_isCut 4 = .ok (.iload_n 1, 1) := op27 (bA_at bd03_dec_X11_1_50 2 rfl rfl)
theorem dX11_isCut_5 : decode cX11_isCut 5 = .ok (.iaload, 1) := op46 (bA_at bd03_dec_X11_1_50 3 rfl rfl)
theorem dX11_isCut_6 : decode cX11_isCut 6 = .ok (.aload_n 0, 1) := op42 (bA_at bd03_dec_X11_1_50 4 rfl rfl)
theorem dX11_isCut_7 : decode cX11_isCut 7 = .ok (.iconst 5, 1) := op8 (bA_at bd03_dec_X11_1_50 5 rfl rfl)
theorem dX11_isCut_8 : decode cX11_isCut 8 = .ok (.invokevirtual 303, 3) := op182 (bA_at bd03_dec_X11_1_50 6 rfl rfl) rfl
theorem dX11_isCut_11 : decode cX11_isCut 11 = .ok (.if_icmp .lt 7, 3) := op161 (bA_at bd03_dec_X11_1_50 7 rfl rfl) (by decide +kernel)
theorem dX11_isCut_14 : decode cX11_isCut 14 = .ok (.iconst 1, 1) := op4 (bA_at bd03_dec_X11_1_50 8 rfl rfl)
theorem dX11_isCut_15 : decode cX11_isCut 15 = .ok (.goto 4, 3) := op167 (bA_at bd03_dec_X11_1_50 9 rfl rfl) (by decide +kernel)
theorem dX11_isCut_18 : decode cX11_isCut 18 = .ok (.iconst 0, 1) := op3 (bA_at bd03_dec_X11_1_50 10 rfl rfl)
theorem dX11_isCut_19 : decode cX11_isCut 19 = .ok (.ireturn, 1) := op172 (bA_at bd03_dec_X11_1_50 11 rfl rfl)
theorem bd03_dec_X11_1_51 : ([(0, [4]), (1, [27]), (2, [120]), (3, [61]), (4, [3]), (5, [62]), (6, [29]), (7, [42]), (8, [7]), (9, [182, 1, 47]), (12, [162, 0, 44]), (15, [28])] : List (Nat × List UInt8)).all (fun x => prB x.2 ((cX11_hearing.data.toList.drop 0).drop x.1)) = true := by decide +kernel
theorem dX11_hearing_0 : decode cX11_hearing 0 = .ok (.iconst 1, 1) := op4 (bA_at bd03_dec_X11_1_51 0 rfl rfl)
theorem dX11_hearing_1 : decode cX11_hearing 1 = .ok (.iload_n 1, 1) := op27 (bA_at bd03_dec_X11_1_51 1 rfl rfl)
theorem dX11_hearing_2 : decode cX11_hearing 2 = .ok (.ishl, 1) := op120 (bA_at bd03_dec_X11_1_51 2 rfl rfl)
theorem dX11_hearing_3 : decode cX11_hearing 3 = .ok (.istore_n 2, 1) := op61 (bA_at bd03_dec_X11_1_51 3 rfl rfl)
theorem dX11_hearing_4 : decode cX11_hearing 4 = .ok (.iconst 0, 1) := op3 (bA_at bd03_dec_X11_1_51 4 rfl rfl)
theorem dX11_hearing_5 : decode cX11_hearing 5 = .ok (.istore_n 3, 1) := op62 (bA_at bd03_dec_X11_1_51 5 rfl rfl)
theorem dX11_hearing_6 : decode cX11_hearing 6 = .ok (.iload_n 3, 1) := op29 (bA_at bd03_dec_X11_1_51 6 rfl rfl)
theorem dX11_hearing_7 : decode cX11_hearing 7 = .ok (.aload_n 0, 1) := op42 (bA_at bd03_dec_X11_1_51 7 rfl rfl)
theorem dX11_hearing_8 : decode cX11_hearing 8 = .ok (.iconst 4, 1) := op7 (bA_at bd03_dec_X11_1_51 8 rfl rfl)
theorem dX11_hearing_9 : decode cX11_hearing 9 = .ok (.invokevirtual 303, 3) := op182 (bA_at bd03_dec_X11_1_51 9 rfl rfl) rfl
theorem dX11_hearing_12 : decode cX11_hearing 12 = .ok (.if_icmp .ge 44, 3) := op162 (bA_at bd03_dec_X11_1_51 10 rfl rfl) (by decide +kernel)
theorem dX11_hearing_15 : decode cX11_hearing 15 = .ok (.iload_n 2, 1) := op28 (bA_at bd03_dec_X11_1_51 11 rfl rfl)
theorem bd03_dec_X11_1_52 : ([(0, [42]), (1, [16, 43]), (3, [5]), (4, [29]), (5, [104]), (6, [96]), (7, [182, 1, 47]), (10, [27]), (11, [160, 0, 20]), (14, [4]), (15, [42]), (16, [16, 43])] : List (Nat × List UInt8)).all (fun x => prB x.2 ((cX11_hearing.data.toList.drop 16).drop x.1)) = true := by decide +kernel
theorem dX11_hearing_16 : decode cX11_hearing 16 = .ok (.aload_n 0, 1) := op42 (bA_at bd03_dec_X11_1_52 0 rfl rfl)
theorem dX11_hearing_17 : decode cX11_hearing 17 = .ok (.bipush 43, 2) := op16 (bA_at bd03_dec_X11_1_52 1 rfl rfl) (by decide +kernel)
theorem dX11_hearing_19 : decode cX11_hearing 19 = .ok (.iconst 2, 1) := op5 (bA_at bd03_dec_X11_1_52 2 rfl rfl)
theorem dX11_hearing_20 : decode cX11_hearing 20 = .ok (.iload_n 3, 1) := op29 (bA_at bd03_dec_X11_1_52 3 rfl rfl)
theorem dX11_hearing_21 : decode cX11_hearing 21 = .ok (.imul, 1) := op104 (bA_at bd03_dec_X11_1_52 4 rfl rfl)
theorem dX11_hearing_22 : decode cX11_hearing 22 = .ok (.iadd, 1) := op96 (bA_at bd03_dec_X11_1_52 5 rfl rfl)
theorem dX11_hearing_23 : decode cX11_hearing 23 = .ok (.invokevirtual 303, 3) := op182 (bA_at bd03_dec_X11_1_52 6 rfl rfl) rfl
theorem dX11_hearing_26 : decode cX11_hearing 26 = .ok (.iload_n 1, 1) := op27 (bA_at bd03_dec_X11_1_52 7 rfl rfl)
theorem dX11_hearing_27 : decode cX11_hearing 27 = .ok (.if_icmp .ne 20, 3) := op160 (bA_at bd03_dec_X11_1_52 8 rfl rfl) (by decide +kernel)
theorem dX11_hearing_30 : decode cX11_hearing 30 = .ok (.iconst 1, 1) := op4 (bA_at bd03_dec_X11_1_52 9 rfl rfl)
theorem dX11_hearing_31 : decode cX11_hearing 31 = .ok (.aload_n 0, 1) := op42 (bA_at bd03_dec_X11_1_52 10 rfl rfl)
theorem dX11_hearing_32 : decode cX11_hearing 32 = .ok (.bipush 43, 2) := op16 (bA_at bd03_dec_X11_1_52 11 rfl rfl) (by decide +kernel)
theorem bd03_dec_X11_1_53 : ([(0, [5]), (1, [29]), (2, [104]), (3, [96]), (4, [4]), (5, [96]), (6, [182, 1, 47]), (9, [120]), (10, [167, 0, 4]), (13, [3]), (14, [128]), (15, [61])] : List (Nat × List UInt8)).all (fun x => prB x.2 ((cX11_hearing.data.toList.drop 34).drop x.1)) = true := by decide +kernel
theorem dX11_hearing_34 : decode cX11_hearing 34 = .ok (.iconst 2, 1) := op5 (bA_at bd03_dec_X11_1_53 0 rfl rfl)
theorem dX11_hearing_35 : decode cX11_hearing 35 = .ok (.iload_n 3, 1) := op29 (bA_at bd03_dec_X11_1_53 1 rfl rfl)
theorem dX11_hearing_36 : decode cX11_hearing 36 = .ok (.imul, 1) := op104 (bA_at bd03_dec_X11_1_53 2 rfl rfl)
theorem dX11_hearing_37 : decode cX11_hearing 37 = .ok (.iadd, 1) := op96 (bA_at bd03_dec_X11_1_53 3 rfl rfl)
theorem dX11_hearing_38 : decode cX11_hearing 38 = .ok (.iconst 1, 1) := op4 (bA_at bd03_dec_X11_1_53 4 rfl rfl)
theorem dX11_hearing_39 : decode cX11_hearing 39 = .ok (.iadd, 1) := op96 (bA_at bd03_dec_X11_1_53 5 rfl rfl)
theorem dX11_hearing_40 : decode cX11_hearing 40 = .ok (.invokevirtual 303, 3) := op182 (bA_at bd03_dec_X11_1_53 6 rfl rfl) rfl
theorem dX11_hearing_43 : decode cX11_hearing 43 = .ok (.ishl, 1) := op120 (bA_at bd03_dec_X11_1_53 7 rfl rfl)
theorem dX11_hearing_44 : decode cX11_hearing 44 = .ok (.goto 4, 3) := op167 (bA_at bd03_dec_X11_1_53 8 rfl rfl) (by decide +kernel)
theorem dX11_hearing_47 : decode cX11_hearing 47 = .ok (.iconst 0, 1) := op3 (bA_at bd03_dec_X11_1_53 9 rfl rfl)
theorem dX11_hearing_48 : decode cX11_hearing 48 = .ok (.ior, 1) := op128 (bA_at bd03_dec_X11_1_53 10 rfl rfl)
theorem dX11_hearing_49 : decode cX11_hearing 49 = .ok (.istore_n 2, 1) := op61 (bA_at bd03_dec_X11_1_53 11 rfl rfl)
theorem bd03_dec_X11_1_54 : ([(0, [132, 3, 1]), (3, [167, 255, 209]), (6, [28]), (7, [42]), (8, [6]), (9, [182, 1, 47]), (12, [2]), (13, [130]), (14, [126]), (15, [172])] : List (Nat × List UInt8)).all (fun x => prB x.2 ((cX11_hearing.data.toList.drop 50).drop x.1)) = true := by decide +kernel
theorem dX11_hearing_50 : decode cX11_hearing 50 = .ok (.iinc 3 1, 3) := op132 (bA_at bd03_dec_X11_1_54 0 rfl rfl) rfl (by decide +kernel)
theorem dX11_hearing_53 : decode cX11_hearing 53 = .ok (.goto (-47), 3) := op167 (bA_at bd03_dec_X11_1_54 1 rfl rfl) (by decide +kernel)
theorem dX11_hearing_56 : decode cX11_hearing 56 = .ok (.iload_n 2, 1) := op28 (bA_at bd03_dec_X11_1_54 2 rfl rfl)
theorem dX11_hearing_57 : decode cX11_hearing 57 = .ok (.aload_n 0, 1) := op42 (bA_at bd03_dec_X11_1_54 3 rfl rfl)
theorem dX11_hearing_58 : decode cX11_hearing 58 = .ok (.iconst 3, 1) := op6 (bA_at bd03_dec_X11_1_54 4 rfl rfl)
theorem dX11_hearing_59 : decode cX11_hearing 59 = .ok (.invokevirtual 303, 3) := op182 (bA_at bd03_dec_X11_1_54 5 rfl rfl) rfl
theorem dX11_hearing_62 : decode cX11_hearing 62 = .ok (.iconst (-1), 1) := op2 (bA_at bd03_dec_X11_1_54 6 rfl rfl)
theorem dX11_hearing_63 : decode cX11_hearing 63 = .ok (.ixor, 1) := op130 (bA_at bd03_dec_X11_1_54 7 rfl rfl)
theorem dX11_hearing_64 : decode cX11_hearing 64 = .ok (.iand, 1) := op126 (bA_at bd03_dec_X11_1_54 8 rfl rfl)
theorem dX11_hearing_65 : decode cX11_hearing 65 = .ok (.ireturn, 1) := op172 (bA_at bd03_dec_X11_1_54 9 rfl rfl)
theorem bd03_dec_X11_1_55 : ([(0, [42]), (1, [42]), (2, [180, 0, 44]), (5, [27]), (6, [46]), (7, [182, 1, 93]), (10, [62]), (11, [42]), (12, [180, 0, 56]), (15, [28]), (16, [42]), (17, [27])] : List (Nat × List UInt8)).all (fun x => prB x.2 ((cX11_sounds.data.toList.drop 0).drop x.1)) = true := by decide +kernel
theorem dX11_sounds_0 : decode cX11_sounds 0 = .ok (.aload_n 0, 1) := op42 (bA_at bd03_dec_X11_1_55 0 rfl rfl)
theorem dX11_sounds_1 : decode cX11_sounds 1 = .ok (.aload_n 0, 1) := op42 (bA_at bd03_dec_X11_1_55 1 rfl rfl)
theorem dX11_sounds_2 : decode cX11_sounds 2 = .ok (.getfield 44, 3) := op180 (bA_at bd03_dec_X11_1_55 2 rfl rfl) rfl
theorem dX11_sounds_5 : decode cX11_sounds 5 = .ok (.iload_n 1, 1) := op27 (bA_at bd03_dec_X11_1_55 3 rfl rfl)
theorem dX11_sounds_6 : decode cX11_sounds 6 = .ok (.iaload, 1) := op46 (bA_at bd03_dec_X11_1_55 4 rfl rfl)
theorem dX11_sounds_7 : decode cX11_sounds 7 = .ok (.invokevirtual 349, 3) := op182 (bA_at bd03_dec_X11_1_55 5 rfl rfl) rfl
theorem dX11_sounds_10 : decode cX11_sounds 10 = .ok (.istore_n 3, 1) := op62 (bA_at bd03_dec_X11_1_55 6 rfl rfl)
theorem dX11_sounds_11 : decode cX11_sounds 11 = .ok (.aload_n 0, 1) := op42 (bA_at bd03_dec_X11_1_55 7 rfl rfl)
theorem dX11_sounds_12 : decode cX11_sounds 12 = .ok (.getfield 56, 3) := op180 (bA_at bd03_dec_X11_1_55 8 rfl rfl) rfl
theorem dX11_sounds_15 : decode cX11_sounds 15 = .ok (.iload_n 2, 1) := op28 (bA_at bd03_dec_X11_1_55 9 rfl rfl)
theorem dX11_sounds_16 : decode cX11_sounds 16 = .ok (.aload_n 0, 1) := op42 (bA_at bd03_dec_X11_1_55 10 rfl rfl)
theorem dX11_sounds_17 : decode cX11_sounds 17 = .ok (.iload_n 1, 1) := op27 (bA_at bd03_dec_X11_1_55 11 rfl rfl)
theorem bd03_dec_X11_1_56 : ([(0, [182, 1, 96]), (3, [79]), (4, [42]), (5, [89]), (6, [180, 1, 84]), (9, [4]), (10, [28]), (11, [120]), (12, [128]), (13, [181, 1, 84]), (16, [3]), (17, [54, 4])] : List (Nat × List UInt8)).all (fun x => prB x.2 ((cX11_sounds.data.toList.drop 18).drop x.1)) = true := by decide +kernel
theorem dX11_sounds_18 : decode cX11_sounds 18 = .ok (.invokevirtual 352, 3) := op182 (bA_at bd03_dec_X11_1_56 0 rfl rfl) rfl
theorem dX11_sounds_21 : decode cX11_sounds 21 = .ok (.iastore, 1) := op79 (bA_at bd03_dec_X11_1_56 1 rfl rfl)
theorem dX11_sounds_22 : decode cX11_sounds 22 = .ok (.aload_n 0, 1) := op42 (bA_at bd03_dec_X11_1_56 2 rfl rfl)
theorem dX11_sounds_23 : decode cX11_sounds 23 = .ok (.dup, 1) := op89 (bA_at bd03_dec_X11_1_56 3 rfl rfl)
theorem dX11_sounds_24 : decode cX11_sounds 24 = .ok (.getfield 340, 3) := op180 (bA_at bd03_dec_X11_1_56 4 rfl rfl) rfl
theorem dX11_sounds_27 : decode cX11_sounds 27 = .ok (.iconst 1, 1) := op4 (bA_at bd03_dec_X11_1_56 5 rfl rfl)
theorem dX11_sounds_28 : decode cX11_sounds 28 = .ok (.iload_n 2, 1) := op28 (bA_at bd03_dec_X11_1_56 6 rfl rfl)
theorem dX11_sounds_29 : decode cX11_sounds 29 = .ok (.ishl, 1) := op120 (bA_at bd03_dec_X11_1_56 7 rfl rfl)
theorem dX11_sounds_30 : decode cX11_sounds 30 = .ok (.ior, 1) := op128 (bA_at bd03_dec_X11_1_56 8 rfl rfl)
theorem dX11_sounds_31 : decode cX11_sounds 31 = .ok (.putfield 340, 3) := op181 (bA_at bd03_dec_X11_1_56 9 rfl rfl) rfl
theorem dX11_sounds_34 : decode cX11_sounds 34 = .ok (.iconst 0, 1) := op3 (bA_at bd03_dec_X11_1_56 10 rfl rfl)
theorem dX11_sounds_35 : decode cX11_sounds 35 = .ok (.istore 4, 2) := op54 (bA_at bd03_dec_X11_1_56 11 rfl rfl) rfl
theorem bd03_dec_X11_1_57 : ([(0, [21, 4]), (2, [42]), (3, [180, 1, 54]), (6, [162, 0, 40]), (9, [42]), (10, [180, 0, 47]), (13, [21, 4]), (15, [92]), (16, [46]), (17, [29]), (18, [42]), (19, [180, 0, 44])] : List (Nat × List UInt8)).all (fun x => prB x.2 ((cX11_sounds.data.toList.drop 37).drop x.1)) = true := by decide +kernel
theorem dX11_sounds_37 : decode cX11_sounds 37 = .ok (.iload 4, 2) := op21 (bA_at bd03_dec_X11_1_57 0 rfl rfl) rfl
theorem dX11_sounds_39 : decode cX11_sounds 39 = .ok (.aload_n 0, 1) := op42 (bA_at bd03_dec_X11_1_57 1 rfl rfl)
theorem dX11_sounds_40 : decode cX11_sounds 40 = .ok (.getfield 310, 3) := op180 (bA_at bd03_dec_X11_1_57 2 rfl rfl) rfl
theorem dX11_sounds_43 : decode cX11_sounds 43 = .ok (.if_icmp .ge 40, 3) := op162 (bA_at bd03_dec_X11_1_57 3 rfl rfl) (by decide +kernel)
theorem dX11_sounds_46 : decode cX11_sounds 46 = .ok (.aload_n 0, 1) := op42 (bA_at bd03_dec_X11_1_57 4 rfl rfl)
theorem dX11_sounds_47 : decode cX11_sounds 47 = .ok (.getfield 47, 3) := op180 (bA_at bd03_dec_X11_1_57 5 rfl rfl) rfl
theorem dX11_sounds_50 : decode cX11_sounds 50 = .ok (.iload 4, 2) := op21 (bA_at bd03_dec_X11_1_57 6 rfl rfl) rfl
theorem dX11_sounds_52 : decode cX11_sounds 52 = .ok (.dup2, 1) := op92 (bA_at bd03_dec_X11_1_57 7 rfl rfl)
theorem dX11_sounds_53 : decode cX11_sounds 53 = .ok (.iaload, 1) := op46 (bA_at bd03_dec_X11_1_57 8 rfl rfl)
theorem dX11_sounds_54 : decode cX11_sounds 54 = .ok (.iload_n 3, 1) := op29 (bA_at bd03_dec_X11_1_57 9 rfl rfl)
theorem dX11_sounds_55 : decode cX11_sounds 55 = .ok (.aload_n 0, 1) := op42 (bA_at bd03_dec_X11_1_57 10 rfl rfl)
theorem dX11_sounds_56 : decode cX11_sounds 56 = .ok (.getfield 44, 3) := op180 (bA_at bd03_dec_X11_1_57 11 rfl rfl) rfl
theorem bd03_dec_X11_1_58 : ([(0, [21, 4]), (2, [46]), (3, [184, 0, 101]), (6, [153, 0, 9]), (9, [4]), (10, [28]), (11, [120]), (12, [167, 0, 4]), (15, [3]), (16, [128]), (17, [79]), (18, [132, 4, 1])] : List (Nat × List UInt8)).all (fun x => prB x.2 ((cX11_sounds.data.toList.drop 59).drop x.1)) = true := by decide +kernel
theorem dX11_sounds_59 : decode cX11_sounds 59 = .ok (.iload 4, 2) := op21 (bA_at bd03_dec_X11_1_58 0 rfl rfl) rfl
theorem dX11_sounds_61 : decode cX11_sounds 61 = .ok (.iaload, 1) := op46 (bA_at bd03_dec_X11_1_58 1 rfl rfl)
theorem dX11_sounds_62 : decode cX11_sounds 62 = .ok (.invokestatic 101, 3) := op184 (bA_at bd03_dec_X11_1_58 2 rfl rfl) rfl
theorem dX11_sounds_65 : decode cX11_sounds 65 = .ok (.ifCond .eq 9, 3) := op153 (bA_at bd03_dec_X11_1_58 3 rfl rfl) (by decide +kernel)
theorem dX11_sounds_68 : decode cX11_sounds 68 = .ok (.iconst 1, 1) := op4 (bA_at bd03_dec_X11_1_58 4 rfl rfl)
theorem dX11_sounds_69 : decode cX11_sounds 69 = .ok (.iload_n 2, 1) := op28 (bA_at bd03_dec_X11_1_58 5 rfl rfl)
theorem dX11_sounds_70 : decode cX11_sounds 70 = .ok (.ishl, 1) := op120 (bA_at bd03_dec_X11_1_58 6 rfl rfl)
theorem dX11_sounds_71 : decode cX11_sounds 71 = .ok (.goto 4, 3) := op167 (bA_at bd03_dec_X11_1_58 7 rfl rfl) (by decide +kernel)
theorem dX11_sounds_74 : decode cX11_sounds 74 = .ok (.iconst 0, 1) := op3 (bA_at bd03_dec_X11_1_58 8 rfl rfl)
theorem dX11_sounds_75 : decode cX11_sounds 75 = .ok (.ior, 1) := op128 (bA_at bd03_dec_X11_1_58 9 rfl rfl)
theorem dX11_sounds_76 : decode cX11_sounds 76 = .ok (.iastore, 1) := op79 (bA_at bd03_dec_X11_1_58 10 rfl rfl)
theorem dX11_sounds_77 : decode cX11_sounds 77 = .ok (.iinc 4 1, 3) := op132 (bA_at bd03_dec_X11_1_58 11 rfl rfl) rfl (by decide +kernel)
theorem bd03_dec_X11_1_59 : ([(0, [167, 255, 213]), (3, [177])] : List (Nat × List UInt8)).all (fun x => prB x.2 ((cX11_sounds.data.toList.drop 80).drop x.1)) = true := by decide +kernel
theorem dX11_sounds_80 : decode cX11_sounds 80 = .ok (.goto (-43), 3) := op167 (bA_at bd03_dec_X11_1_59 0 rfl rfl) (by decide +kernel)
theorem dX11_sounds_83 : decode cX11_sounds 83 = .ok (.return_, 1) := op177 (bA_at bd03_dec_X11_1_59 1 rfl rfl)
theorem bd03_dec_X11_1_60 : ([(0, [42]), (1, [180, 0, 47]), (4, [27]), (5, [46]), (6, [28]), (7, [184, 0, 101]), (10, [153, 0, 31]), (13, [42]), (14, [180, 1, 84]), (17, [28]), (18, [184, 0, 101]), (21, [154, 0, 20])] : List (Nat × List UInt8)).all (fun x => prB x.2 ((cX11_mayBegin.data.toList.drop 0).drop x.1)) = true := by decide +kernel
theorem dX11_mayBegin_0 : decode cX11_mayBegin 0 = .ok (.aload_n 0, 1) := op42 (bA_at bd03_dec_X11_1_60 0 rfl rfl)
theorem dX11_mayBegin_1 : decode cX11_mayBegin 1 = .ok (.getfield 47, 3) := op180 (bA_at bd03_dec_X11_1_60 1 rfl rfl) rfl
theorem dX11_mayBegin_4 : decode cX11_mayBegin 4 = .ok (.iload_n 1, 1) := op27 (bA_at bd03_dec_X11_1_60 2 rfl rfl)
theorem dX11_mayBegin_5 : decode cX11_mayBegin 5 = .ok (.iaload, 1) := op46 (bA_at bd03_dec_X11_1_60 3 rfl rfl)
theorem dX11_mayBegin_6 : decode cX11_mayBegin 6 = .ok (.iload_n 2, 1) := op28 (bA_at bd03_dec_X11_1_60 4 rfl rfl)
theorem dX11_mayBegin_7 : decode cX11_mayBegin 7 = .ok (.invokestatic 101, 3) := op184 (bA_at bd03_dec_X11_1_60 5 rfl rfl) rfl
theorem dX11_mayBegin_10 : decode cX11_mayBegin 10 = .ok (.ifCond .eq 31, 3) := op153 (bA_at bd03_dec_X11_1_60 6 rfl rfl) (by decide +kernel)
theorem dX11_mayBegin_13 : decode cX11_mayBegin 13 = .ok (.aload_n 0, 1) := op42 (bA_at bd03_dec_X11_1_60 7 rfl rfl)
theorem dX11_mayBegin_14 : decode cX11_mayBegin 14 = .ok (.getfield 340, 3) := op180 (bA_at bd03_dec_X11_1_60 8 rfl rfl) rfl
theorem dX11_mayBegin_17 : decode cX11_mayBegin 17 = .ok (.iload_n 2, 1) := op28 (bA_at bd03_dec_X11_1_60 9 rfl rfl)
theorem dX11_mayBegin_18 : decode cX11_mayBegin 18 = .ok (.invokestatic 101, 3) := op184 (bA_at bd03_dec_X11_1_60 10 rfl rfl) rfl
theorem dX11_mayBegin_21 : decode cX11_mayBegin 21 = .ok (.ifCond .ne 20, 3) := op154 (bA_at bd03_dec_X11_1_60 11 rfl rfl) (by decide +kernel)
theorem bd03_dec_X11_1_61 : ([(0, [42]), (1, [42]), (2, [180, 0, 44]), (5, [27]), (6, [46]), (7, [182, 1, 99]), (10, [154, 0, 7]), (13, [4]), (14, [167, 0, 4]), (17, [3]), (18, [172])] : List (Nat × List UInt8)).all (fun x => prB x.2 ((cX11_mayBegin.data.toList.drop 24).drop x.1)) = true := by decide +kernel
theorem dX11_mayBegin_24 : decode cX11_mayBegin 24 = .ok (.aload_n 0, 1) := op42 (bA_at bd03_dec_X11_1_61 0 rfl rfl)
theorem dX11_mayBegin_25 : decode cX11_mayBegin 25 = .ok (.aload_n 0, 1) := op42 (bA_at bd03_dec_X11_1_61 1 rfl rfl)
theorem dX11_mayBegin_26 : decode cX11_mayBegin 26 = .ok (.getfield 44, 3) := op180 (bA_at bd03_dec_X11_1_61 2 rfl rfl) rfl
theorem dX11_mayBegin_29 : decode cX11_mayBegin 29 = .ok (.iload_n 1, 1) := op27 (bA_at bd03_dec_X11_1_61 3 rfl rfl)
theorem dX11_mayBegin_30 : decode cX11_mayBegin 30 = .ok (.iaload, 1) := op46 (bA_at bd03_dec_X11_1_61 4 rfl rfl)
theorem dX11_mayBegin_31 : decode cX11_mayBegin 31 = .ok (.invokevirtual 355, 3) := op182 (bA_at bd03_dec_X11_1_61 5 rfl rfl) rfl
theorem dX11_mayBegin_34 : decode cX11_mayBegin 34 = .ok (.ifCond .ne 7, 3) := op154 (bA_at bd03_dec_X11_1_61 6 rfl rfl) (by decide +kernel)
theorem dX11_mayBegin_37 : decode cX11_mayBegin 37 = .ok (.iconst 1, 1) := op4 (bA_at bd03_dec_X11_1_61 7 rfl rfl)
theorem dX11_mayBegin_38 : decode cX11_mayBegin 38 = .ok (.goto 4, 3) := op167 (bA_at bd03_dec_X11_1_61 8 rfl rfl) (by decide +kernel)
theorem dX11_mayBegin_41 : decode cX11_mayBegin 41 = .ok (.iconst 0, 1) := op3 (bA_at bd03_dec_X11_1_61 9 rfl rfl)
theorem dX11_mayBegin_42 : decode cX11_mayBegin 42 = .ok (.ireturn, 1) := op172 (bA_at bd03_dec_X11_1_61 10 rfl rfl)
theorem bd03_dec_X11_1_62 : ([(0, [42]), (1, [180, 0, 47]), (4, [27]), (5, [46]), (6, [28]), (7, [184, 0, 101]), (10, [153, 0, 31]), (13, [42]), (14, [180, 1, 84]), (17, [28]), (18, [184, 0, 101]), (21, [153, 0, 20])] : List (Nat × List UInt8)).all (fun x => prB x.2 ((cX11_maySing.data.toList.drop 0).drop x.1)) = true := by decide +kernel
theorem dX11_maySing_0 : decode cX11_maySing 0 = .ok (.aload_n 0, 1) := op42 (bA_at bd03_dec_X11_1_62 0 rfl rfl)
theorem dX11_maySing_1 : decode cX11_maySing 1 = .ok (.getfield 47, 3) := op180 (bA_at bd03_dec_X11_1_62 1 rfl rfl) rfl
theorem dX11_maySing_4 : decode cX11_maySing 4 = .ok (.iload_n 1, 1) := op27 (bA_at bd03_dec_X11_1_62 2 rfl rfl)
theorem dX11_maySing_5 : decode cX11_maySing 5 = .ok (.iaload, 1) := op46 (bA_at bd03_dec_X11_1_62 3 rfl rfl)
theorem dX11_maySing_6 : decode cX11_maySing 6 = .ok (.iload_n 2, 1) := op28 (bA_at bd03_dec_X11_1_62 4 rfl rfl)
theorem dX11_maySing_7 : decode cX11_maySing 7 = .ok (.invokestatic 101, 3) := op184 (bA_at bd03_dec_X11_1_62 5 rfl rfl) rfl
theorem dX11_maySing_10 : decode cX11_maySing 10 = .ok (.ifCond .eq 31, 3) := op153 (bA_at bd03_dec_X11_1_62 6 rfl rfl) (by decide +kernel)
theorem dX11_maySing_13 : decode cX11_maySing 13 = .ok (.aload_n 0, 1) := op42 (bA_at bd03_dec_X11_1_62 7 rfl rfl)
theorem dX11_maySing_14 : decode cX11_maySing 14 = .ok (.getfield 340, 3) := op180 (bA_at bd03_dec_X11_1_62 8 rfl rfl) rfl
theorem dX11_maySing_17 : decode cX11_maySing 17 = .ok (.iload_n 2, 1) := op28 (bA_at bd03_dec_X11_1_62 9 rfl rfl)
theorem dX11_maySing_18 : decode cX11_maySing 18 = .ok (.invokestatic 101, 3) := op184 (bA_at bd03_dec_X11_1_62 10 rfl rfl) rfl
theorem dX11_maySing_21 : decode cX11_maySing 21 = .ok (.ifCond .eq 20, 3) := op153 (bA_at bd03_dec_X11_1_62 11 rfl rfl) (by decide +kernel)
theorem bd03_dec_X11_1_63 : ([(0, [42]), (1, [42]), (2, [180, 0, 44]), (5, [27]), (6, [46]), (7, [182, 1, 99]), (10, [154, 0, 7]), (13, [4]), (14, [167, 0, 4]), (17, [3]), (18, [172])] : List (Nat × List UInt8)).all (fun x => prB x.2 ((cX11_maySing.data.toList.drop 24).drop x.1)) = true := by decide +kernel
theorem dX11_maySing_24 : decode cX11_maySing 24 = .ok (.aload_n 0, 1) := op42 (bA_at bd03_dec_X11_1_63 0 rfl rfl)
theorem dX11_maySing_25 : decode cX11_maySing 25 = .ok (.aload_n 0, 1) := op42 (bA_at bd03_dec_X11_1_63 1 rfl rfl)
theorem dX11_maySing_26 : decode cX11_maySing 26 = .ok (.getfield 44, 3) := op180 (bA_at bd03_dec_X11_1_63 2 rfl rfl) rfl
theorem dX11_maySing_29 : decode cX11_maySing 29 = .ok (.iload_n 1, 1) := op27 (bA_at bd03_dec_X11_1_63 3 rfl rfl)
theorem dX11_maySing_30 : decode cX11_maySing 30 = .ok (.iaload, 1) := op46 (bA_at bd03_dec_X11_1_63 4 rfl rfl)
theorem dX11_maySing_31 : decode cX11_maySing 31 = .ok (.invokevirtual 355, 3) := op182 (bA_at bd03_dec_X11_1_63 5 rfl rfl) rfl
theorem dX11_maySing_34 : decode cX11_maySing 34 = .ok (.ifCond .ne 7, 3) := op154 (bA_at bd03_dec_X11_1_63 6 rfl rfl) (by decide +kernel)
theorem dX11_maySing_37 : decode cX11_maySing 37 = .ok (.iconst 1, 1) := op4 (bA_at bd03_dec_X11_1_63 7 rfl rfl)
theorem dX11_maySing_38 : decode cX11_maySing 38 = .ok (.goto 4, 3) := op167 (bA_at bd03_dec_X11_1_63 8 rfl rfl) (by decide +kernel)
theorem dX11_maySing_41 : decode cX11_maySing 41 = .ok (.iconst 0, 1) := op3 (bA_at bd03_dec_X11_1_63 9 rfl rfl)
theorem dX11_maySing_42 : decode cX11_maySing 42 = .ok (.ireturn, 1) := op172 (bA_at bd03_dec_X11_1_63 10 rfl rfl)
theorem bd03_dec_X11_1_64 : ([(0, [42]), (1, [27]), (2, [182, 1, 96]), (5, [42]), (6, [180, 0, 56]), (9, [28]), (10, [46]), (11, [163, 0, 21]), (14, [29]), (15, [154, 0, 21]), (18, [42]), (19, [27])] : List (Nat × List UInt8)).all (fun x => prB x.2 ((cX11_sings.data.toList.drop 0).drop x.1)) = true := by decide +kernel
theorem dX11_sings_0 : decode cX11_sings 0 = .ok (.aload_n 0, 1) := op42 (bA_at bd03_dec_X11_1_64 0 rfl rfl)
theorem dX11_sings_1 : decode cX11_sings 1 = .ok (.iload_n 1, 1) := op27 (bA_at bd03_dec_X11_1_64 1 rfl rfl)
theorem dX11_sings_2 : decode cX11_sings 2 = .ok (.invokevirtual 352, 3) := op182 (bA_at bd03_dec_X11_1_64 2 rfl rfl) rfl
theorem dX11_sings_5 : decode cX11_sings 5 = .ok (.aload_n 0, 1) := op42 (bA_at bd03_dec_X11_1_64 3 rfl rfl)
theorem dX11_sings_6 : decode cX11_sings 6 = .ok (.getfield 56, 3) := op180 (bA_at bd03_dec_X11_1_64 4 rfl rfl) rfl
theorem dX11_sings_9 : decode cX11_sings 9 = .ok (.iload_n 2, 1) := op28 (bA_at bd03_dec_X11_1_64 5 rfl rfl)
theorem dX11_sings_10 : decode cX11_sings 10 = .ok (.iaload, 1) := op46 (bA_at bd03_dec_X11_1_64 6 rfl rfl)
theorem dX11_sings_11 : decode cX11_sings 11 = .ok (.if_icmp .gt 21, 3) := op163 (bA_at bd03_dec_X11_1_64 7 rfl rfl) (by decide +kernel)
theorem dX11_sings_14 : decode cX11_sings 14 = .ok (.iload_n 3, 1) := op29 (bA_at bd03_dec_X11_1_64 8 rfl rfl)
theorem dX11_sings_15 : decode cX11_sings 15 = .ok (.ifCond .ne 21, 3) := op154 (bA_at bd03_dec_X11_1_64 9 rfl rfl) (by decide +kernel)
theorem dX11_sings_18 : decode cX11_sings 18 = .ok (.aload_n 0, 1) := op42 (bA_at bd03_dec_X11_1_64 10 rfl rfl)
theorem dX11_sings_19 : decode cX11_sings 19 = .ok (.iload_n 1, 1) := op27 (bA_at bd03_dec_X11_1_64 11 rfl rfl)
theorem bd03_dec_X11_1_65 : ([(0, [182, 1, 96]), (3, [42]), (4, [180, 0, 56]), (7, [28]), (8, [46]), (9, [160, 0, 7]), (12, [4]), (13, [167, 0, 4]), (16, [3]), (17, [54, 4]), (19, [42]), (20, [180, 0, 53])] : List (Nat × List UInt8)).all (fun x => prB x.2 ((cX11_sings.data.toList.drop 20).drop x.1)) = true := by decide +kernel
theorem dX11_sings_20 : decode cX11_sings 20 = .ok (.invokevirtual 352, 3) := op182 (bA_at bd03_dec_X11_1_65 0 rfl rfl) rfl
theorem dX11_sings_23 : decode cX11_sings 23 = .ok (.aload_n 0, 1) := op42 (bA_at bd03_dec_X11_1_65 1 rfl rfl)
theorem dX11_sings_24 : decode cX11_sings 24 = .ok (.getfield 56, 3) := op180 (bA_at bd03_dec_X11_1_65 2 rfl rfl) rfl
theorem dX11_sings_27 : decode cX11_sings 27 = .ok (.iload_n 2, 1) := op28 (bA_at bd03_dec_X11_1_65 3 rfl rfl)
theorem dX11_sings_28 : decode cX11_sings 28 = .ok (.iaload, 1) := op46 (bA_at bd03_dec_X11_1_65 4 rfl rfl)
theorem dX11_sings_29 : decode cX11_sings 29 = .ok (.if_icmp .ne 7, 3) := op160 (bA_at bd03_dec_X11_1_65 5 rfl rfl) (by decide +kernel)
theorem dX11_sings_32 : decode cX11_sings 32 = .ok (.iconst 1, 1) := op4 (bA_at bd03_dec_X11_1_65 6 rfl rfl)
theorem dX11_sings_33 : decode cX11_sings 33 = .ok (.goto 4, 3) := op167 (bA_at bd03_dec_X11_1_65 7 rfl rfl) (by decide +kernel)
theorem dX11_sings_36 : decode cX11_sings 36 = .ok (.iconst 0, 1) := op3 (bA_at bd03_dec_X11_1_65 8 rfl rfl)
theorem dX11_sings_37 : decode cX11_sings 37 = .ok (.istore 4, 2) := op54 (bA_at bd03_dec_X11_1_65 9 rfl rfl) rfl
theorem dX11_sings_39 : decode cX11_sings 39 = .ok (.aload_n 0, 1) := op42 (bA_at bd03_dec_X11_1_65 10 rfl rfl)
theorem dX11_sings_40 : decode cX11_sings 40 = .ok (.getfield 53, 3) := op180 (bA_at bd03_dec_X11_1_65 11 rfl rfl) rfl
theorem bd03_dec_X11_1_66 : ([(0, [42]), (1, [180, 0, 44]), (4, [27]), (5, [46]), (6, [92]), (7, [46]), (8, [21, 4]), (10, [153, 0, 7]), (13, [4]), (14, [167, 0, 4]), (17, [3]), (18, [96])] : List (Nat × List UInt8)).all (fun x => prB x.2 ((cX11_sings.data.toList.drop 43).drop x.1)) = true := by decide +kernel
theorem dX11_sings_43 : decode cX11_sings 43 = .ok (.aload_n 0, 1) := op42 (bA_at bd03_dec_X11_1_66 0 rfl rfl)
theorem dX11_sings_44 : decode cX11_sings 44 = .ok (.getfield 44, 3) := op180 (bA_at bd03_dec_X11_1_66 1 rfl rfl) rfl
theorem dX11_sings_47 : decode cX11_sings 47 = .ok (.iload_n 1, 1) := op27 (bA_at bd03_dec_X11_1_66 2 rfl rfl)
theorem dX11_sings_48 : decode cX11_sings 48 = .ok (.iaload, 1) := op46 (bA_at bd03_dec_X11_1_66 3 rfl rfl)
theorem dX11_sings_49 : decode cX11_sings 49 = .ok (.dup2, 1) := op92 (bA_at bd03_dec_X11_1_66 4 rfl rfl)
theorem dX11_sings_50 : decode cX11_sings 50 = .ok (.iaload, 1) := op46 (bA_at bd03_dec_X11_1_66 5 rfl rfl)
theorem dX11_sings_51 : decode cX11_sings 51 = .ok (.iload 4, 2) := op21 (bA_at bd03_dec_X11_1_66 6 rfl rfl) rfl
theorem dX11_sings_53 : decode cX11_sings 53 = .ok (.ifCond .eq 7, 3) := op153 (bA_at bd03_dec_X11_1_66 7 rfl rfl) (by decide +kernel)
theorem dX11_sings_56 : decode cX11_sings 56 = .ok (.iconst 1, 1) := op4 (bA_at bd03_dec_X11_1_66 8 rfl rfl)
theorem dX11_sings_57 : decode cX11_sings 57 = .ok (.goto 4, 3) := op167 (bA_at bd03_dec_X11_1_66 9 rfl rfl) (by decide +kernel)
theorem dX11_sings_60 : decode cX11_sings 60 = .ok (.iconst 0, 1) := op3 (bA_at bd03_dec_X11_1_66 10 rfl rfl)
theorem dX11_sings_61 : decode cX11_sings 61 = .ok (.iadd, 1) := op96 (bA_at bd03_dec_X11_1_66 11 rfl rfl)
theorem bd03_dec_X11_1_67 : ([(0, [79]), (1, [42]), (2, [89]), (3, [180, 1, 90]), (6, [21, 4]), (8, [153, 0, 7]), (11, [4]), (12, [167, 0, 4]), (15, [3]), (16, [96]), (17, [181, 1, 90]), (20, [42])] : List (Nat × List UInt8)).all (fun x => prB x.2 ((cX11_sings.data.toList.drop 62).drop x.1)) = true := by decide +kernel
theorem dX11_sings_62 : decode cX11_sings 62 = .ok (.iastore, 1) := op79 (bA_at bd03_dec_X11_1_67 0 rfl rfl)
theorem dX11_sings_63 : decode cX11_sings 63 = .ok (.aload_n 0, 1) := op42 (bA_at bd03_dec_X11_1_67 1 rfl rfl)
theorem dX11_sings_64 : decode cX11_sings 64 = .ok (.dup, 1) := op89 (bA_at bd03_dec_X11_1_67 2 rfl rfl)
theorem dX11_sings_65 : decode cX11_sings 65 = .ok (.getfield 346, 3) := op180 (bA_at bd03_dec_X11_1_67 3 rfl rfl) rfl
theorem dX11_sings_68 : decode cX11_sings 68 = .ok (.iload 4, 2) := op21 (bA_at bd03_dec_X11_1_67 4 rfl rfl) rfl
theorem dX11_sings_70 : decode cX11_sings 70 = .ok (.ifCond .eq 7, 3) := op153 (bA_at bd03_dec_X11_1_67 5 rfl rfl) (by decide +kernel)
theorem dX11_sings_73 : decode cX11_sings 73 = .ok (.iconst 1, 1) := op4 (bA_at bd03_dec_X11_1_67 6 rfl rfl)
theorem dX11_sings_74 : decode cX11_sings 74 = .ok (.goto 4, 3) := op167 (bA_at bd03_dec_X11_1_67 7 rfl rfl) (by decide +kernel)
theorem dX11_sings_77 : decode cX11_sings 77 = .ok (.iconst 0, 1) := op3 (bA_at bd03_dec_X11_1_67 8 rfl rfl)
theorem dX11_sings_78 : decode cX11_sings 78 = .ok (.iadd, 1) := op96 (bA_at bd03_dec_X11_1_67 9 rfl rfl)
theorem dX11_sings_79 : decode cX11_sings 79 = .ok (.putfield 346, 3) := op181 (bA_at bd03_dec_X11_1_67 10 rfl rfl) rfl
theorem dX11_sings_82 : decode cX11_sings 82 = .ok (.aload_n 0, 1) := op42 (bA_at bd03_dec_X11_1_67 11 rfl rfl)
theorem bd03_dec_X11_1_68 : ([(0, [27]), (1, [28]), (2, [182, 1, 102]), (5, [177])] : List (Nat × List UInt8)).all (fun x => prB x.2 ((cX11_sings.data.toList.drop 83).drop x.1)) = true := by decide +kernel
theorem dX11_sings_83 : decode cX11_sings 83 = .ok (.iload_n 1, 1) := op27 (bA_at bd03_dec_X11_1_68 0 rfl rfl)
theorem dX11_sings_84 : decode cX11_sings 84 = .ok (.iload_n 2, 1) := op28 (bA_at bd03_dec_X11_1_68 1 rfl rfl)
theorem dX11_sings_85 : decode cX11_sings 85 = .ok (.invokevirtual 358, 3) := op182 (bA_at bd03_dec_X11_1_68 2 rfl rfl) rfl
theorem dX11_sings_88 : decode cX11_sings 88 = .ok (.return_, 1) := op177 (bA_at bd03_dec_X11_1_68 3 rfl rfl)
theorem bd03_dec_X11_1_69 : ([(0, [42]), (1, [28]), (2, [182, 1, 60]), (5, [153, 0, 17]), (8, [42]), (9, [42]), (10, [180, 0, 44]), (13, [27]), (14, [46]), (15, [28]), (16, [182, 1, 63]), (19, [167, 0, 4])] : List (Nat × List UInt8)).all (fun x => prB x.2 ((cX11_walks.data.toList.drop 0).drop x.1)) = true := by decide +kernel
theorem dX11_walks_0 : decode cX11_walks 0 = .ok (.aload_n 0, 1) := op42 (bA_at bd03_dec_X11_1_69 0 rfl rfl)
theorem dX11_walks_1 : decode cX11_walks 1 = .ok (.iload_n 2, 1) := op28 (bA_at bd03_dec_X11_1_69 1 rfl rfl)
theorem dX11_walks_2 : decode cX11_walks 2 = .ok (.invokevirtual 316, 3) := op182 (bA_at bd03_dec_X11_1_69 2 rfl rfl) rfl
theorem dX11_walks_5 : decode cX11_walks 5 = .ok (.ifCond .eq 17, 3) := op153 (bA_at bd03_dec_X11_1_69 3 rfl rfl) (by decide +kernel)
theorem dX11_walks_8 : decode cX11_walks 8 = .ok (.aload_n 0, 1) := op42 (bA_at bd03_dec_X11_1_69 4 rfl rfl)
theorem dX11_walks_9 : decode cX11_walks 9 = .ok (.aload_n 0, 1) := op42 (bA_at bd03_dec_X11_1_69 5 rfl rfl)
theorem dX11_walks_10 : decode cX11_walks 10 = .ok (.getfield 44, 3) := op180 (bA_at bd03_dec_X11_1_69 6 rfl rfl) rfl
theorem dX11_walks_13 : decode cX11_walks 13 = .ok (.iload_n 1, 1) := op27 (bA_at bd03_dec_X11_1_69 7 rfl rfl)
theorem dX11_walks_14 : decode cX11_walks 14 = .ok (.iaload, 1) := op46 (bA_at bd03_dec_X11_1_69 8 rfl rfl)
theorem dX11_walks_15 : decode cX11_walks 15 = .ok (.iload_n 2, 1) := op28 (bA_at bd03_dec_X11_1_69 9 rfl rfl)
theorem dX11_walks_16 : decode cX11_walks 16 = .ok (.invokevirtual 319, 3) := op182 (bA_at bd03_dec_X11_1_69 10 rfl rfl) rfl
theorem dX11_walks_19 : decode cX11_walks 19 = .ok (.goto 4, 3) := op167 (bA_at bd03_dec_X11_1_69 11 rfl rfl) (by decide +kernel)
theorem bd03_dec_X11_1_70 : ([(0, [3]), (1, [62]), (2, [29]), (3, [153, 0, 34]), (6, [42]), (7, [180, 0, 50]), (10, [27]), (11, [46]), (12, [4]), (13, [159, 0, 24]), (16, [42]), (17, [42])] : List (Nat × List UInt8)).all (fun x => prB x.2 ((cX11_walks.data.toList.drop 22).drop x.1)) = true := by decide +kernel
theorem dX11_walks_22 : decode cX11_walks 22 = .ok (.iconst 0, 1) := op3 (bA_at bd03_dec_X11_1_70 0 rfl rfl)
theorem dX11_walks_23 : decode cX11_walks 23 = .ok (.istore_n 3, 1) := op62 (bA_at bd03_dec_X11_1_70 1 rfl rfl)
theorem dX11_walks_24 : decode cX11_walks 24 = .ok (.iload_n 3, 1) := op29 (bA_at bd03_dec_X11_1_70 2 rfl rfl)
theorem dX11_walks_25 : decode cX11_walks 25 = .ok (.ifCond .eq 34, 3) := op153 (bA_at bd03_dec_X11_1_70 3 rfl rfl) (by decide +kernel)
theorem dX11_walks_28 : decode cX11_walks 28 = .ok (.aload_n 0, 1) := op42 (bA_at bd03_dec_X11_1_70 4 rfl rfl)
theorem dX11_walks_29 : decode cX11_walks 29 = .ok (.getfield 50, 3) := op180 (bA_at bd03_dec_X11_1_70 5 rfl rfl) rfl
theorem dX11_walks_32 : decode cX11_walks 32 = .ok (.iload_n 1, 1) := op27 (bA_at bd03_dec_X11_1_70 6 rfl rfl)
theorem dX11_walks_33 : decode cX11_walks 33 = .ok (.iaload, 1) := op46 (bA_at bd03_dec_X11_1_70 7 rfl rfl)
theorem dX11_walks_34 : decode cX11_walks 34 = .ok (.iconst 1, 1) := op4 (bA_at bd03_dec_X11_1_70 8 rfl rfl)
theorem dX11_walks_35 : decode cX11_walks 35 = .ok (.if_icmp .eq 24, 3) := op159 (bA_at bd03_dec_X11_1_70 9 rfl rfl) (by decide +kernel)
theorem dX11_walks_38 : decode cX11_walks 38 = .ok (.aload_n 0, 1) := op42 (bA_at bd03_dec_X11_1_70 10 rfl rfl)
theorem dX11_walks_39 : decode cX11_walks 39 = .ok (.aload_n 0, 1) := op42 (bA_at bd03_dec_X11_1_70 11 rfl rfl)
theorem bd03_dec_X11_1_71 : ([(0, [180, 0, 44]), (3, [27]), (4, [46]), (5, [182, 1, 105]), (8, [154, 0, 11]), (11, [42]), (12, [28]), (13, [182, 1, 105]), (16, [153, 0, 5]), (19, [3]), (20, [172]), (21, [42])] : List (Nat × List UInt8)).all (fun x => prB x.2 ((cX11_walks.data.toList.drop 40).drop x.1)) = true := by decide +kernel
theorem dX11_walks_40 : decode cX11_walks 40 = .ok (.getfield 44, 3) := op180 (bA_at bd03_dec_X11_1_71 0 rfl rfl) rfl
theorem dX11_walks_43 : decode cX11_walks 43 = .ok (.iload_n 1, 1) := op27 (bA_at bd03_dec_X11_1_71 1 rfl rfl)
theorem dX11_walks_44 : decode cX11_walks 44 = .ok (.iaload, 1) := op46 (bA_at bd03_dec_X11_1_71 2 rfl rfl)
theorem dX11_walks_45 : decode cX11_walks 45 = .ok (.invokevirtual 361, 3) := op182 (bA_at bd03_dec_X11_1_71 3 rfl rfl) rfl
theorem dX11_walks_48 : decode cX11_walks 48 = .ok (.ifCond .ne 11, 3) := op154 (bA_at bd03_dec_X11_1_71 4 rfl rfl) (by decide +kernel)
theorem dX11_walks_51 : decode cX11_walks 51 = .ok (.aload_n 0, 1) := op42 (bA_at bd03_dec_X11_1_71 5 rfl rfl)
theorem dX11_walks_52 : decode cX11_walks 52 = .ok (.iload_n 2, 1) := op28 (bA_at bd03_dec_X11_1_71 6 rfl rfl)
theorem dX11_walks_53 : decode cX11_walks 53 = .ok (.invokevirtual 361, 3) := op182 (bA_at bd03_dec_X11_1_71 7 rfl rfl) rfl
theorem dX11_walks_56 : decode cX11_walks 56 = .ok (.ifCond .eq 5, 3) := op153 (bA_at bd03_dec_X11_1_71 8 rfl rfl) (by decide +kernel)
theorem dX11_walks_59 : decode cX11_walks 59 = .ok (.iconst 0, 1) := op3 (bA_at bd03_dec_X11_1_71 9 rfl rfl)
theorem dX11_walks_60 : decode cX11_walks 60 = .ok (.ireturn, 1) := op172 (bA_at bd03_dec_X11_1_71 10 rfl rfl)
theorem dX11_walks_61 : decode cX11_walks 61 = .ok (.aload_n 0, 1) := op42 (bA_at bd03_dec_X11_1_71 11 rfl rfl)
theorem bd03_dec_X11_1_72 : ([(0, [180, 0, 44]), (3, [27]), (4, [28]), (5, [79]), (6, [42]), (7, [89]), (8, [180, 1, 87]), (11, [29]), (12, [96]), (13, [181, 1, 87]), (16, [4]), (17, [172])] : List (Nat × List UInt8)).all (fun x => prB x.2 ((cX11_walks.data.toList.drop 62).drop x.1)) = true := by decide +kernel
theorem dX11_walks_62 : decode cX11_walks 62 = .ok (.getfield 44, 3) := op180 (bA_at bd03_dec_X11_1_72 0 rfl rfl) rfl
theorem dX11_walks_65 : decode cX11_walks 65 = .ok (.iload_n 1, 1) := op27 (bA_at bd03_dec_X11_1_72 1 rfl rfl)
theorem dX11_walks_66 : decode cX11_walks 66 = .ok (.iload_n 2, 1) := op28 (bA_at bd03_dec_X11_1_72 2 rfl rfl)
theorem dX11_walks_67 : decode cX11_walks 67 = .ok (.iastore, 1) := op79 (bA_at bd03_dec_X11_1_72 3 rfl rfl)
theorem dX11_walks_68 : decode cX11_walks 68 = .ok (.aload_n 0, 1) := op42 (bA_at bd03_dec_X11_1_72 4 rfl rfl)
theorem dX11_walks_69 : decode cX11_walks 69 = .ok (.dup, 1) := op89 (bA_at bd03_dec_X11_1_72 5 rfl rfl)
theorem dX11_walks_70 : decode cX11_walks 70 = .ok (.getfield 343, 3) := op180 (bA_at bd03_dec_X11_1_72 6 rfl rfl) rfl
theorem dX11_walks_73 : decode cX11_walks 73 = .ok (.iload_n 3, 1) := op29 (bA_at bd03_dec_X11_1_72 7 rfl rfl)
theorem dX11_walks_74 : decode cX11_walks 74 = .ok (.iadd, 1) := op96 (bA_at bd03_dec_X11_1_72 8 rfl rfl)
theorem dX11_walks_75 : decode cX11_walks 75 = .ok (.putfield 343, 3) := op181 (bA_at bd03_dec_X11_1_72 9 rfl rfl) rfl
theorem dX11_walks_78 : decode cX11_walks 78 = .ok (.iconst 1, 1) := op4 (bA_at bd03_dec_X11_1_72 10 rfl rfl)
theorem dX11_walks_79 : decode cX11_walks 79 = .ok (.ireturn, 1) := op172 (bA_at bd03_dec_X11_1_72 11 rfl rfl)
theorem bd03_dec_X11_1_73 : ([(0, [42]), (1, [27]), (2, [4]), (3, [182, 1, 81]), (6, [61]), (7, [42]), (8, [27]), (9, [5]), (10, [182, 1, 81]), (13, [62]), (14, [42]), (15, [28])] : List (Nat × List UInt8)).all (fun x => prB x.2 ((cX11_does.data.toList.drop 0).drop x.1)) = true := by decide +kernel
theorem dX11_does_0 : decode cX11_does 0 = .ok (.aload_n 0, 1) := op42 (bA_at bd03_dec_X11_1_73 0 rfl rfl)
theorem dX11_does_1 : decode cX11_does 1 = .ok (.iload_n 1, 1) := op27 (bA_at bd03_dec_X11_1_73 1 rfl rfl)
theorem dX11_does_2 : decode cX11_does 2 = .ok (.iconst 1, 1) := op4 (bA_at bd03_dec_X11_1_73 2 rfl rfl)
theorem dX11_does_3 : decode cX11_does 3 = .ok (.invokevirtual 337, 3) := op182 (bA_at bd03_dec_X11_1_73 3 rfl rfl) rfl
theorem dX11_does_6 : decode cX11_does 6 = .ok (.istore_n 2, 1) := op61 (bA_at bd03_dec_X11_1_73 4 rfl rfl)
theorem dX11_does_7 : decode cX11_does 7 = .ok (.aload_n 0, 1) := op42 (bA_at bd03_dec_X11_1_73 5 rfl rfl)
theorem dX11_does_8 : decode cX11_does 8 = .ok (.iload_n 1, 1) := op27 (bA_at bd03_dec_X11_1_73 6 rfl rfl)
theorem dX11_does_9 : decode cX11_does 9 = .ok (.iconst 2, 1) := op5 (bA_at bd03_dec_X11_1_73 7 rfl rfl)
theorem dX11_does_10 : decode cX11_does 10 = .ok (.invokevirtual 337, 3) := op182 (bA_at bd03_dec_X11_1_73 8 rfl rfl) rfl
theorem dX11_does_13 : decode cX11_does 13 = .ok (.istore_n 3, 1) := op62 (bA_at bd03_dec_X11_1_73 9 rfl rfl)
theorem dX11_does_14 : decode cX11_does 14 = .ok (.aload_n 0, 1) := op42 (bA_at bd03_dec_X11_1_73 10 rfl rfl)
theorem dX11_does_15 : decode cX11_does 15 = .ok (.iload_n 2, 1) := op28 (bA_at bd03_dec_X11_1_73 11 rfl rfl)
theorem dX11_does_30 : decode cX11_does 30 = .ok (.tableswitch 131 0 4 #[34, 53, 53, 87, 94], 34) := by decide +kernel
theorem bd03_dec_X11_1_74 : ([(0, [182, 1, 69]), (3, [154, 0, 5]), (6, [3]), (7, [172]), (8, [42]), (9, [27]), (10, [3]), (11, [182, 1, 81]), (48, [42]), (49, [28]), (50, [29])] : List (Nat × List UInt8)).all (fun x => prB x.2 ((cX11_does.data.toList.drop 16).drop x.1)) = true := by decide +kernel
theorem dX11_does_16 : decode cX11_does 16 = .ok (.invokevirtual 325, 3) := op182 (bA_at bd03_dec_X11_1_74 0 rfl rfl) rfl
theorem dX11_does_19 : decode cX11_does 19 = .ok (.ifCond .ne 5, 3) := op154 (bA_at bd03_dec_X11_1_74 1 rfl rfl) (by decide +kernel)
theorem dX11_does_22 : decode cX11_does 22 = .ok (.iconst 0, 1) := op3 (bA_at bd03_dec_X11_1_74 2 rfl rfl)
theorem dX11_does_23 : decode cX11_does 23 = .ok (.ireturn, 1) := op172 (bA_at bd03_dec_X11_1_74 3 rfl rfl)
theorem dX11_does_24 : decode cX11_does 24 = .ok (.aload_n 0, 1) := op42 (bA_at bd03_dec_X11_1_74 4 rfl rfl)
theorem dX11_does_25 : decode cX11_does 25 = .ok (.iload_n 1, 1) := op27 (bA_at bd03_dec_X11_1_74 5 rfl rfl)
theorem dX11_does_26 : decode cX11_does 26 = .ok (.iconst 0, 1) := op3 (bA_at bd03_dec_X11_1_74 6 rfl rfl)
theorem dX11_does_27 : decode cX11_does 27 = .ok (.invokevirtual 337, 3) := op182 (bA_at bd03_dec_X11_1_74 7 rfl rfl) rfl
theorem dX11_does_64 : decode cX11_does 64 = .ok (.aload_n 0, 1) := op42 (bA_at bd03_dec_X11_1_74 8 rfl rfl)
theorem dX11_does_65 : decode cX11_does 65 = .ok (.iload_n 2, 1) := op28 (bA_at bd03_dec_X11_1_74 9 rfl rfl)
theorem dX11_does_66 : decode cX11_does 66 = .ok (.iload_n 3, 1) := op29 (bA_at bd03_dec_X11_1_74 10 rfl rfl)
theorem bd03_dec_X11_1_75 : ([(0, [182, 1, 108]), (3, [154, 0, 5]), (6, [3]), (7, [172]), (8, [42]), (9, [28]), (10, [29]), (11, [182, 1, 102]), (14, [4]), (15, [172]), (16, [42]), (17, [28])] : List (Nat × List UInt8)).all (fun x => prB x.2 ((cX11_does.data.toList.drop 67).drop x.1)) = true := by decide +kernel
theorem dX11_does_67 : decode cX11_does 67 = .ok (.invokevirtual 364, 3) := op182 (bA_at bd03_dec_X11_1_75 0 rfl rfl) rfl
theorem dX11_does_70 : decode cX11_does 70 = .ok (.ifCond .ne 5, 3) := op154 (bA_at bd03_dec_X11_1_75 1 rfl rfl) (by decide +kernel)
theorem dX11_does_73 : decode cX11_does 73 = .ok (.iconst 0, 1) := op3 (bA_at bd03_dec_X11_1_75 2 rfl rfl)
theorem dX11_does_74 : decode cX11_does 74 = .ok (.ireturn, 1) := op172 (bA_at bd03_dec_X11_1_75 3 rfl rfl)
theorem dX11_does_75 : decode cX11_does 75 = .ok (.aload_n 0, 1) := op42 (bA_at bd03_dec_X11_1_75 4 rfl rfl)
theorem dX11_does_76 : decode cX11_does 76 = .ok (.iload_n 2, 1) := op28 (bA_at bd03_dec_X11_1_75 5 rfl rfl)
theorem dX11_does_77 : decode cX11_does 77 = .ok (.iload_n 3, 1) := op29 (bA_at bd03_dec_X11_1_75 6 rfl rfl)
theorem dX11_does_78 : decode cX11_does 78 = .ok (.invokevirtual 358, 3) := op182 (bA_at bd03_dec_X11_1_75 7 rfl rfl) rfl
theorem dX11_does_81 : decode cX11_does 81 = .ok (.iconst 1, 1) := op4 (bA_at bd03_dec_X11_1_75 8 rfl rfl)
theorem dX11_does_82 : decode cX11_does 82 = .ok (.ireturn, 1) := op172 (bA_at bd03_dec_X11_1_75 9 rfl rfl)
theorem dX11_does_83 : decode cX11_does 83 = .ok (.aload_n 0, 1) := op42 (bA_at bd03_dec_X11_1_75 10 rfl rfl)
theorem dX11_does_84 : decode cX11_does 84 = .ok (.iload_n 2, 1) := op28 (bA_at bd03_dec_X11_1_75 11 rfl rfl)
theorem bd03_dec_X11_1_76 : ([(0, [29]), (1, [182, 1, 111]), (4, [154, 0, 5]), (7, [3]), (8, [172]), (9, [42]), (10, [28]), (11, [29]), (12, [42]), (13, [27]), (14, [3]), (15, [182, 1, 81])] : List (Nat × List UInt8)).all (fun x => prB x.2 ((cX11_does.data.toList.drop 85).drop x.1)) = true := by decide +kernel
theorem dX11_does_85 : decode cX11_does 85 = .ok (.iload_n 3, 1) := op29 (bA_at bd03_dec_X11_1_76 0 rfl rfl)
theorem dX11_does_86 : decode cX11_does 86 = .ok (.invokevirtual 367, 3) := op182 (bA_at bd03_dec_X11_1_76 1 rfl rfl) rfl
theorem dX11_does_89 : decode cX11_does 89 = .ok (.ifCond .ne 5, 3) := op154 (bA_at bd03_dec_X11_1_76 2 rfl rfl) (by decide +kernel)
theorem dX11_does_92 : decode cX11_does 92 = .ok (.iconst 0, 1) := op3 (bA_at bd03_dec_X11_1_76 3 rfl rfl)
theorem dX11_does_93 : decode cX11_does 93 = .ok (.ireturn, 1) := op172 (bA_at bd03_dec_X11_1_76 4 rfl rfl)
theorem dX11_does_94 : decode cX11_does 94 = .ok (.aload_n 0, 1) := op42 (bA_at bd03_dec_X11_1_76 5 rfl rfl)
theorem dX11_does_95 : decode cX11_does 95 = .ok (.iload_n 2, 1) := op28 (bA_at bd03_dec_X11_1_76 6 rfl rfl)
theorem dX11_does_96 : decode cX11_does 96 = .ok (.iload_n 3, 1) := op29 (bA_at bd03_dec_X11_1_76 7 rfl rfl)
theorem dX11_does_97 : decode cX11_does 97 = .ok (.aload_n 0, 1) := op42 (bA_at bd03_dec_X11_1_76 8 rfl rfl)
theorem dX11_does_98 : decode cX11_does 98 = .ok (.iload_n 1, 1) := op27 (bA_at bd03_dec_X11_1_76 9 rfl rfl)
theorem dX11_does_99 : decode cX11_does 99 = .ok (.iconst 0, 1) := op3 (bA_at bd03_dec_X11_1_76 10 rfl rfl)
theorem dX11_does_100 : decode cX11_does 100 = .ok (.invokevirtual 337, 3) := op182 (bA_at bd03_dec_X11_1_76 11 rfl rfl) rfl
theorem bd03_dec_X11_1_77 : ([(0, [5]), (1, [160, 0, 7]), (4, [4]), (5, [167, 0, 4]), (8, [3]), (9, [182, 1, 114]), (12, [4]), (13, [172]), (14, [42]), (15, [28]), (16, [29]), (17, [182, 1, 118])] : List (Nat × List UInt8)).all (fun x => prB x.2 ((cX11_does.data.toList.drop 103).drop x.1)) = true := by decide +kernel
theorem dX11_does_103 : decode cX11_does 103 = .ok (.iconst 2, 1) := op5 (bA_at bd03_dec_X11_1_77 0 rfl rfl)
theorem dX11_does_104 : decode cX11_does 104 = .ok (.if_icmp .ne 7, 3) := op160 (bA_at bd03_dec_X11_1_77 1 rfl rfl) (by decide +kernel)
theorem dX11_does_107 : decode cX11_does 107 = .ok (.iconst 1, 1) := op4 (bA_at bd03_dec_X11_1_77 2 rfl rfl)
theorem dX11_does_108 : decode cX11_does 108 = .ok (.goto 4, 3) := op167 (bA_at bd03_dec_X11_1_77 3 rfl rfl) (by decide +kernel)
theorem dX11_does_111 : decode cX11_does 111 = .ok (.iconst 0, 1) := op3 (bA_at bd03_dec_X11_1_77 4 rfl rfl)
theorem dX11_does_112 : decode cX11_does 112 = .ok (.invokevirtual 370, 3) := op182 (bA_at bd03_dec_X11_1_77 5 rfl rfl) rfl
theorem dX11_does_115 : decode cX11_does 115 = .ok (.iconst 1, 1) := op4 (bA_at bd03_dec_X11_1_77 6 rfl rfl)
theorem dX11_does_116 : decode cX11_does 116 = .ok (.ireturn, 1) := op172 (bA_at bd03_dec_X11_1_77 7 rfl rfl)
theorem dX11_does_117 : decode cX11_does 117 = .ok (.aload_n 0, 1) := op42 (bA_at bd03_dec_X11_1_77 8 rfl rfl)
theorem dX11_does_118 : decode cX11_does 118 = .ok (.iload_n 2, 1) := op28 (bA_at bd03_dec_X11_1_77 9 rfl rfl)
theorem dX11_does_119 : decode cX11_does 119 = .ok (.iload_n 3, 1) := op29 (bA_at bd03_dec_X11_1_77 10 rfl rfl)
theorem dX11_does_120 : decode cX11_does 120 = .ok (.invokevirtual 374, 3) := op182 (bA_at bd03_dec_X11_1_77 11 rfl rfl) rfl
theorem bd03_dec_X11_1_78 : ([(0, [172]), (1, [42]), (2, [16, 16]), (4, [42]), (5, [180, 0, 44]), (8, [28]), (9, [46]), (10, [96]), (11, [182, 1, 47]), (14, [153, 0, 13]), (17, [42]), (18, [180, 0, 50])] : List (Nat × List UInt8)).all (fun x => prB x.2 ((cX11_does.data.toList.drop 123).drop x.1)) = true := by decide +kernel
theorem dX11_does_123 : decode cX11_does 123 = .ok (.ireturn, 1) := op172 (bA_at bd03_dec_X11_1_78 0 rfl rfl)
theorem dX11_does_124 : decode cX11_does 124 = .ok (.aload_n 0, 1) := op42 (bA_at bd03_dec_X11_1_78 1 rfl rfl)
theorem dX11_does_125 : decode cX11_does 125 = .ok (.bipush 16, 2) := op16 (bA_at bd03_dec_X11_1_78 2 rfl rfl) (by decide +kernel)
theorem dX11_does_127 : decode cX11_does 127 = .ok (.aload_n 0, 1) := op42 (bA_at bd03_dec_X11_1_78 3 rfl rfl)
theorem dX11_does_128 : decode cX11_does 128 = .ok (.getfield 44, 3) := op180 (bA_at bd03_dec_X11_1_78 4 rfl rfl) rfl
theorem dX11_does_131 : decode cX11_does 131 = .ok (.iload_n 2, 1) := op28 (bA_at bd03_dec_X11_1_78 5 rfl rfl)
theorem dX11_does_132 : decode cX11_does 132 = .ok (.iaload, 1) := op46 (bA_at bd03_dec_X11_1_78 6 rfl rfl)
theorem dX11_does_133 : decode cX11_does 133 = .ok (.iadd, 1) := op96 (bA_at bd03_dec_X11_1_78 7 rfl rfl)
theorem dX11_does_134 : decode cX11_does 134 = .ok (.invokevirtual 303, 3) := op182 (bA_at bd03_dec_X11_1_78 8 rfl rfl) rfl
theorem dX11_does_137 : decode cX11_does 137 = .ok (.ifCond .eq 13, 3) := op153 (bA_at bd03_dec_X11_1_78 9 rfl rfl) (by decide +kernel)
theorem dX11_does_140 : decode cX11_does 140 = .ok (.aload_n 0, 1) := op42 (bA_at bd03_dec_X11_1_78 10 rfl rfl)
theorem dX11_does_141 : decode cX11_does 141 = .ok (.getfield 50, 3) := op180 (bA_at bd03_dec_X11_1_78 11 rfl rfl) rfl
theorem bd03_dec_X11_1_79 : ([(0, [28]), (1, [46]), (2, [4]), (3, [160, 0, 5]), (6, [3]), (7, [172]), (8, [42]), (9, [180, 0, 50]), (12, [28]), (13, [4]), (14, [79]), (15, [4])] : List (Nat × List UInt8)).all (fun x => prB x.2 ((cX11_does.data.toList.drop 144).drop x.1)) = true := by decide +kernel
theorem dX11_does_144 : decode cX11_does 144 = .ok (.iload_n 2, 1) := op28 (bA_at bd03_dec_X11_1_79 0 rfl rfl)
theorem dX11_does_145 : decode cX11_does 145 = .ok (.iaload, 1) := op46 (bA_at bd03_dec_X11_1_79 1 rfl rfl)
theorem dX11_does_146 : decode cX11_does 146 = .ok (.iconst 1, 1) := op4 (bA_at bd03_dec_X11_1_79 2 rfl rfl)
theorem dX11_does_147 : decode cX11_does 147 = .ok (.if_icmp .ne 5, 3) := op160 (bA_at bd03_dec_X11_1_79 3 rfl rfl) (by decide +kernel)
theorem dX11_does_150 : decode cX11_does 150 = .ok (.iconst 0, 1) := op3 (bA_at bd03_dec_X11_1_79 4 rfl rfl)
theorem dX11_does_151 : decode cX11_does 151 = .ok (.ireturn, 1) := op172 (bA_at bd03_dec_X11_1_79 5 rfl rfl)
theorem dX11_does_152 : decode cX11_does 152 = .ok (.aload_n 0, 1) := op42 (bA_at bd03_dec_X11_1_79 6 rfl rfl)
theorem dX11_does_153 : decode cX11_does 153 = .ok (.getfield 50, 3) := op180 (bA_at bd03_dec_X11_1_79 7 rfl rfl) rfl
theorem dX11_does_156 : decode cX11_does 156 = .ok (.iload_n 2, 1) := op28 (bA_at bd03_dec_X11_1_79 8 rfl rfl)
theorem dX11_does_157 : decode cX11_does 157 = .ok (.iconst 1, 1) := op4 (bA_at bd03_dec_X11_1_79 9 rfl rfl)
theorem dX11_does_158 : decode cX11_does 158 = .ok (.iastore, 1) := op79 (bA_at bd03_dec_X11_1_79 10 rfl rfl)
theorem dX11_does_159 : decode cX11_does 159 = .ok (.iconst 1, 1) := op4 (bA_at bd03_dec_X11_1_79 11 rfl rfl)
theorem bd03_dec_X11_1_80 : ([(0, [172]), (1, [42]), (2, [180, 0, 50]), (5, [28]), (6, [46]), (7, [154, 0, 5]), (10, [3]), (11, [172]), (12, [42]), (13, [180, 0, 50]), (16, [28]), (17, [3])] : List (Nat × List UInt8)).all (fun x => prB x.2 ((cX11_does.data.toList.drop 160).drop x.1)) = true := by decide +kernel
theorem dX11_does_160 : decode cX11_does 160 = .ok (.ireturn, 1) := op172 (bA_at bd03_dec_X11_1_80 0 rfl rfl)
theorem dX11_does_161 : decode cX11_does 161 = .ok (.aload_n 0, 1) := op42 (bA_at bd03_dec_X11_1_80 1 rfl rfl)
theorem dX11_does_162 : decode cX11_does 162 = .ok (.getfield 50, 3) := op180 (bA_at bd03_dec_X11_1_80 2 rfl rfl) rfl
theorem dX11_does_165 : decode cX11_does 165 = .ok (.iload_n 2, 1) := op28 (bA_at bd03_dec_X11_1_80 3 rfl rfl)
theorem dX11_does_166 : decode cX11_does 166 = .ok (.iaload, 1) := op46 (bA_at bd03_dec_X11_1_80 4 rfl rfl)
theorem dX11_does_167 : decode cX11_does 167 = .ok (.ifCond .ne 5, 3) := op154 (bA_at bd03_dec_X11_1_80 5 rfl rfl) (by decide +kernel)
theorem dX11_does_170 : decode cX11_does 170 = .ok (.iconst 0, 1) := op3 (bA_at bd03_dec_X11_1_80 6 rfl rfl)
theorem dX11_does_171 : decode cX11_does 171 = .ok (.ireturn, 1) := op172 (bA_at bd03_dec_X11_1_80 7 rfl rfl)
theorem dX11_does_172 : decode cX11_does 172 = .ok (.aload_n 0, 1) := op42 (bA_at bd03_dec_X11_1_80 8 rfl rfl)
theorem dX11_does_173 : decode cX11_does 173 = .ok (.getfield 50, 3) := op180 (bA_at bd03_dec_X11_1_80 9 rfl rfl) rfl
theorem dX11_does_176 : decode cX11_does 176 = .ok (.iload_n 2, 1) := op28 (bA_at bd03_dec_X11_1_80 10 rfl rfl)
theorem dX11_does_177 : decode cX11_does 177 = .ok (.iconst 0, 1) := op3 (bA_at bd03_dec_X11_1_80 11 rfl rfl)
theorem bd03_dec_X11_1_81 : ([(0, [79]), (1, [4]), (2, [172])] : List (Nat × List UInt8)).all (fun x => prB x.2 ((cX11_does.data.toList.drop 178).drop x.1)) = true := by decide +kernel
theorem dX11_does_178 : decode cX11_does 178 = .ok (.iastore, 1) := op79 (bA_at bd03_dec_X11_1_81 0 rfl rfl)
theorem dX11_does_179 : decode cX11_does 179 = .ok (.iconst 1, 1) := op4 (bA_at bd03_dec_X11_1_81 1 rfl rfl)
theorem dX11_does_180 : decode cX11_does 180 = .ok (.ireturn, 1) := op172 (bA_at bd03_dec_X11_1_81 2 rfl rfl)
theorem bd03_dec_X11_1_82 : ([(0, [42]), (1, [182, 1, 121]), (4, [3]), (5, [61]), (6, [28]), (7, [27]), (8, [162, 0, 17]), (11, [42]), (12, [28]), (13, [182, 1, 124]), (16, [153, 0, 9]), (19, [132, 2, 1])] : List (Nat × List UInt8)).all (fun x => prB x.2 ((cX11_play.data.toList.drop 0).drop x.1)) = true := by decide +kernel
theorem dX11_play_0 : decode cX11_play 0 = .ok (.aload_n 0, 1) := op42 (bA_at bd03_dec_X11_1_82 0 rfl rfl)
theorem dX11_play_1 : decode cX11_play 1 = .ok (.invokevirtual 377, 3) := op182 (bA_at bd03_dec_X11_1_82 1 rfl rfl) rfl
theorem dX11_play_4 : decode cX11_play 4 = .ok (.iconst 0, 1) := op3 (bA_at bd03_dec_X11_1_82 2 rfl rfl)
theorem dX11_play_5 : decode cX11_play 5 = .ok (.istore_n 2, 1) := op61 (bA_at bd03_dec_X11_1_82 3 rfl rfl)
theorem dX11_play_6 : decode cX11_play 6 = .ok (.iload_n 2, 1) := op28 (bA_at bd03_dec_X11_1_82 4 rfl rfl)
theorem dX11_play_7 : decode cX11_play 7 = .ok (.iload_n 1, 1) := op27 (bA_at bd03_dec_X11_1_82 5 rfl rfl)
theorem dX11_play_8 : decode cX11_play 8 = .ok (.if_icmp .ge 17, 3) := op162 (bA_at bd03_dec_X11_1_82 6 rfl rfl) (by decide +kernel)
theorem dX11_play_11 : decode cX11_play 11 = .ok (.aload_n 0, 1) := op42 (bA_at bd03_dec_X11_1_82 7 rfl rfl)
theorem dX11_play_12 : decode cX11_play 12 = .ok (.iload_n 2, 1) := op28 (bA_at bd03_dec_X11_1_82 8 rfl rfl)
theorem dX11_play_13 : decode cX11_play 13 = .ok (.invokevirtual 380, 3) := op182 (bA_at bd03_dec_X11_1_82 9 rfl rfl) rfl
theorem dX11_play_16 : decode cX11_play 16 = .ok (.ifCond .eq 9, 3) := op153 (bA_at bd03_dec_X11_1_82 10 rfl rfl) (by decide +kernel)
theorem dX11_play_19 : decode cX11_play 19 = .ok (.iinc 2 1, 3) := op132 (bA_at bd03_dec_X11_1_82 11 rfl rfl) rfl (by decide +kernel)
theorem bd03_dec_X11_1_83 : ([(0, [167, 255, 240]), (3, [28]), (4, [172])] : List (Nat × List UInt8)).all (fun x => prB x.2 ((cX11_play.data.toList.drop 22).drop x.1)) = true := by decide +kernel
theorem dX11_play_22 : decode cX11_play 22 = .ok (.goto (-16), 3) := op167 (bA_at bd03_dec_X11_1_83 0 rfl rfl) (by decide +kernel)
theorem dX11_play_25 : decode cX11_play 25 = .ok (.iload_n 2, 1) := op28 (bA_at bd03_dec_X11_1_83 1 rfl rfl)
theorem dX11_play_26 : decode cX11_play 26 = .ok (.ireturn, 1) := op172 (bA_at bd03_dec_X11_1_83 2 rfl rfl)
theorem bd03_dec_X11_1_84 : ([(0, [42]), (1, [28]), (2, [182, 1, 75]), (5, [153, 0, 15]), (8, [42]), (9, [27]), (10, [182, 1, 57]), (13, [153, 0, 7]), (16, [4]), (17, [167, 0, 4]), (20, [3]), (21, [172])] : List (Nat × List UInt8)).all (fun x => prB x.2 ((cX11_layAll.data.toList.drop 0).drop x.1)) = true := by decide +kernel
theorem dX11_layAll_0 : decode cX11_layAll 0 = .ok (.aload_n 0, 1) := op42 (bA_at bd03_dec_X11_1_84 0 rfl rfl)
theorem dX11_layAll_1 : decode cX11_layAll 1 = .ok (.iload_n 2, 1) := op28 (bA_at bd03_dec_X11_1_84 1 rfl rfl)
theorem dX11_layAll_2 : decode cX11_layAll 2 = .ok (.invokevirtual 331, 3) := op182 (bA_at bd03_dec_X11_1_84 2 rfl rfl) rfl
theorem dX11_layAll_5 : decode cX11_layAll 5 = .ok (.ifCond .eq 15, 3) := op153 (bA_at bd03_dec_X11_1_84 3 rfl rfl) (by decide +kernel)
theorem dX11_layAll_8 : decode cX11_layAll 8 = .ok (.aload_n 0, 1) := op42 (bA_at bd03_dec_X11_1_84 4 rfl rfl)
theorem dX11_layAll_9 : decode cX11_layAll 9 = .ok (.iload_n 1, 1) := op27 (bA_at bd03_dec_X11_1_84 5 rfl rfl)
theorem dX11_layAll_10 : decode cX11_layAll 10 = .ok (.invokevirtual 313, 3) := op182 (bA_at bd03_dec_X11_1_84 6 rfl rfl) rfl
theorem dX11_layAll_13 : decode cX11_layAll 13 = .ok (.ifCond .eq 7, 3) := op153 (bA_at bd03_dec_X11_1_84 7 rfl rfl) (by decide +kernel)
theorem dX11_layAll_16 : decode cX11_layAll 16 = .ok (.iconst 1, 1) := op4 (bA_at bd03_dec_X11_1_84 8 rfl rfl)
theorem dX11_layAll_17 : decode cX11_layAll 17 = .ok (.goto 4, 3) := op167 (bA_at bd03_dec_X11_1_84 9 rfl rfl) (by decide +kernel)
theorem dX11_layAll_20 : decode cX11_layAll 20 = .ok (.iconst 0, 1) := op3 (bA_at bd03_dec_X11_1_84 10 rfl rfl)
theorem dX11_layAll_21 : decode cX11_layAll 21 = .ok (.ireturn, 1) := op172 (bA_at bd03_dec_X11_1_84 11 rfl rfl)
theorem bd03_dec_X11_1_85 : ([(0, [42]), (1, [3]), (2, [181, 0, 97]), (5, [42]), (6, [27]), (7, [28]), (8, [182, 1, 127]), (11, [153, 0, 14]), (14, [42]), (15, [42]), (16, [182, 1, 78]), (19, [182, 1, 130])] : List (Nat × List UInt8)).all (fun x => prB x.2 ((cX11_stop.data.toList.drop 0).drop x.1)) = true := by decide +kernel
theorem dX11_stop_0 : decode cX11_stop 0 = .ok (.aload_n 0, 1) := op42 (bA_at bd03_dec_X11_1_85 0 rfl rfl)
theorem dX11_stop_1 : decode cX11_stop 1 = .ok (.iconst 0, 1) := op3 (bA_at bd03_dec_X11_1_85 1 rfl rfl)
theorem dX11_stop_2 : decode cX11_stop 2 = .ok (.putfield 97, 3) := op181 (bA_at bd03_dec_X11_1_85 2 rfl rfl) rfl
theorem dX11_stop_5 : decode cX11_stop 5 = .ok (.aload_n 0, 1) := op42 (bA_at bd03_dec_X11_1_85 3 rfl rfl)
theorem dX11_stop_6 : decode cX11_stop 6 = .ok (.iload_n 1, 1) := op27 (bA_at bd03_dec_X11_1_85 4 rfl rfl)
theorem dX11_stop_7 : decode cX11_stop 7 = .ok (.iload_n 2, 1) := op28 (bA_at bd03_dec_X11_1_85 5 rfl rfl)
theorem dX11_stop_8 : decode cX11_stop 8 = .ok (.invokevirtual 383, 3) := op182 (bA_at bd03_dec_X11_1_85 6 rfl rfl) rfl
theorem dX11_stop_11 : decode cX11_stop 11 = .ok (.ifCond .eq 14, 3) := op153 (bA_at bd03_dec_X11_1_85 7 rfl rfl) (by decide +kernel)
theorem dX11_stop_14 : decode cX11_stop 14 = .ok (.aload_n 0, 1) := op42 (bA_at bd03_dec_X11_1_85 8 rfl rfl)
theorem dX11_stop_15 : decode cX11_stop 15 = .ok (.aload_n 0, 1) := op42 (bA_at bd03_dec_X11_1_85 9 rfl rfl)
theorem dX11_stop_16 : decode cX11_stop 16 = .ok (.invokevirtual 334, 3) := op182 (bA_at bd03_dec_X11_1_85 10 rfl rfl) rfl
theorem dX11_stop_19 : decode cX11_stop 19 = .ok (.invokevirtual 386, 3) := op182 (bA_at bd03_dec_X11_1_85 11 rfl rfl) rfl
theorem bd03_dec_X11_1_86 : ([(0, [167, 0, 4]), (3, [2]), (4, [172])] : List (Nat × List UInt8)).all (fun x => prB x.2 ((cX11_stop.data.toList.drop 22).drop x.1)) = true := by decide +kernel
theorem dX11_stop_22 : decode cX11_stop 22 = .ok (.goto 4, 3) := op167 (bA_at bd03_dec_X11_1_86 0 rfl rfl) (by decide +kernel)
theorem dX11_stop_25 : decode cX11_stop 25 = .ok (.iconst (-1), 1) := op2 (bA_at bd03_dec_X11_1_86 1 rfl rfl)
theorem dX11_stop_26 : decode cX11_stop 26 = .ok (.ireturn, 1) := op172 (bA_at bd03_dec_X11_1_86 2 rfl rfl)
theorem bd03_dec_X11_1_87 : ([(0, [4]), (1, [42]), (2, [180, 0, 44]), (5, [27]), (6, [46]), (7, [120]), (8, [61]), (9, [3]), (10, [62]), (11, [29]), (12, [16, 9]), (14, [162, 0, 98])] : List (Nat × List UInt8)).all (fun x => prB x.2 ((cX11_reach.data.toList.drop 0).drop x.1)) = true := by decide +kernel
theorem dX11_reach_0 : decode cX11_reach 0 = .ok (.iconst 1, 1) := op4 (bA_at bd03_dec_X11_1_87 0 rfl rfl)
theorem dX11_reach_1 : decode cX11_reach 1 = .ok (.aload_n 0, 1) := op42 (bA_at bd03_dec_X11_1_87 1 rfl rfl)
theorem dX11_reach_2 : decode cX11_reach 2 = .ok (.getfield 44, 3) := op180 (bA_at bd03_dec_X11_1_87 2 rfl rfl) rfl
theorem dX11_reach_5 : decode cX11_reach 5 = .ok (.iload_n 1, 1) := op27 (bA_at bd03_dec_X11_1_87 3 rfl rfl)
theorem dX11_reach_6 : decode cX11_reach 6 = .ok (.iaload, 1) := op46 (bA_at bd03_dec_X11_1_87 4 rfl rfl)
theorem dX11_reach_7 : decode cX11_reach 7 = .ok (.ishl, 1) := op120 (bA_at bd03_dec_X11_1_87 5 rfl rfl)
theorem dX11_reach_8 : decode cX11_reach 8 = .ok (.istore_n 2, 1) := op61 (bA_at bd03_dec_X11_1_87 6 rfl rfl)
theorem dX11_reach_9 : decode cX11_reach 9 = .ok (.iconst 0, 1) := op3 (bA_at bd03_dec_X11_1_87 7 rfl rfl)
theorem dX11_reach_10 : decode cX11_reach 10 = .ok (.istore_n 3, 1) := op62 (bA_at bd03_dec_X11_1_87 8 rfl rfl)
theorem dX11_reach_11 : decode cX11_reach 11 = .ok (.iload_n 3, 1) := op29 (bA_at bd03_dec_X11_1_87 9 rfl rfl)
theorem dX11_reach_12 : decode cX11_reach 12 = .ok (.bipush 9, 2) := op16 (bA_at bd03_dec_X11_1_87 10 rfl rfl) (by decide +kernel)
theorem dX11_reach_14 : decode cX11_reach 14 = .ok (.if_icmp .ge 98, 3) := op162 (bA_at bd03_dec_X11_1_87 11 rfl rfl) (by decide +kernel)
theorem bd03_dec_X11_1_88 : ([(0, [42]), (1, [42]), (2, [180, 0, 44]), (5, [27]), (6, [46]), (7, [182, 1, 105]), (10, [154, 0, 85]), (13, [3]), (14, [54, 4]), (16, [21, 4]), (18, [42]), (19, [180, 1, 51])] : List (Nat × List UInt8)).all (fun x => prB x.2 ((cX11_reach.data.toList.drop 17).drop x.1)) = true := by decide +kernel
theorem dX11_reach_17 : decode cX11_reach 17 = .ok (.aload_n 0, 1) := op42 (bA_at bd03_dec_X11_1_88 0 rfl rfl)
theorem dX11_reach_18 : decode cX11_reach 18 = .ok (.aload_n 0, 1) := op42 (bA_at bd03_dec_X11_1_88 1 rfl rfl)
theorem dX11_reach_19 : decode cX11_reach 19 = .ok (.getfield 44, 3) := op180 (bA_at bd03_dec_X11_1_88 2 rfl rfl) rfl
theorem dX11_reach_22 : decode cX11_reach 22 = .ok (.iload_n 1, 1) := op27 (bA_at bd03_dec_X11_1_88 3 rfl rfl)
theorem dX11_reach_23 : decode cX11_reach 23 = .ok (.iaload, 1) := op46 (bA_at bd03_dec_X11_1_88 4 rfl rfl)
theorem dX11_reach_24 : decode cX11_reach 24 = .ok (.invokevirtual 361, 3) := op182 (bA_at bd03_dec_X11_1_88 5 rfl rfl) rfl
theorem dX11_reach_27 : decode cX11_reach 27 = .ok (.ifCond .ne 85, 3) := op154 (bA_at bd03_dec_X11_1_88 6 rfl rfl) (by decide +kernel)
theorem dX11_reach_30 : decode cX11_reach 30 = .ok (.iconst 0, 1) := op3 (bA_at bd03_dec_X11_1_88 7 rfl rfl)
theorem dX11_reach_31 : decode cX11_reach 31 = .ok (.istore 4, 2) := op54 (bA_at bd03_dec_X11_1_88 8 rfl rfl) rfl
theorem dX11_reach_33 : decode cX11_reach 33 = .ok (.iload 4, 2) := op21 (bA_at bd03_dec_X11_1_88 9 rfl rfl) rfl
theorem dX11_reach_35 : decode cX11_reach 35 = .ok (.aload_n 0, 1) := op42 (bA_at bd03_dec_X11_1_88 10 rfl rfl)
theorem dX11_reach_36 : decode cX11_reach 36 = .ok (.getfield 307, 3) := op180 (bA_at bd03_dec_X11_1_88 11 rfl rfl) rfl
theorem bd03_dec_X11_1_89 : ([(0, [162, 0, 67]), (3, [3]), (4, [54, 5]), (6, [21, 5]), (8, [42]), (9, [180, 1, 51]), (12, [162, 0, 49]), (15, [28]), (16, [28]), (17, [21, 4]), (19, [184, 0, 101]), (22, [153, 0, 30])] : List (Nat × List UInt8)).all (fun x => prB x.2 ((cX11_reach.data.toList.drop 39).drop x.1)) = true := by decide +kernel
theorem dX11_reach_39 : decode cX11_reach 39 = .ok (.if_icmp .ge 67, 3) := op162 (bA_at bd03_dec_X11_1_89 0 rfl rfl) (by decide +kernel)
theorem dX11_reach_42 : decode cX11_reach 42 = .ok (.iconst 0, 1) := op3 (bA_at bd03_dec_X11_1_89 1 rfl rfl)
theorem dX11_reach_43 : decode cX11_reach 43 = .ok (.istore 5, 2) := op54 (bA_at bd03_dec_X11_1_89 2 rfl rfl) rfl
theorem dX11_reach_45 : decode cX11_reach 45 = .ok (.iload 5, 2) := op21 (bA_at bd03_dec_X11_1_89 3 rfl rfl) rfl
theorem dX11_reach_47 : decode cX11_reach 47 = .ok (.aload_n 0, 1) := op42 (bA_at bd03_dec_X11_1_89 4 rfl rfl)
theorem dX11_reach_48 : decode cX11_reach 48 = .ok (.getfield 307, 3) := op180 (bA_at bd03_dec_X11_1_89 5 rfl rfl) rfl
theorem dX11_reach_51 : decode cX11_reach 51 = .ok (.if_icmp .ge 49, 3) := op162 (bA_at bd03_dec_X11_1_89 6 rfl rfl) (by decide +kernel)
theorem dX11_reach_54 : decode cX11_reach 54 = .ok (.iload_n 2, 1) := op28 (bA_at bd03_dec_X11_1_89 7 rfl rfl)
theorem dX11_reach_55 : decode cX11_reach 55 = .ok (.iload_n 2, 1) := op28 (bA_at bd03_dec_X11_1_89 8 rfl rfl)
theorem dX11_reach_56 : decode cX11_reach 56 = .ok (.iload 4, 2) := op21 (bA_at bd03_dec_X11_1_89 9 rfl rfl) rfl
theorem dX11_reach_58 : decode cX11_reach 58 = .ok (.invokestatic 101, 3) := op184 (bA_at bd03_dec_X11_1_89 10 rfl rfl) rfl
theorem dX11_reach_61 : decode cX11_reach 61 = .ok (.ifCond .eq 30, 3) := op153 (bA_at bd03_dec_X11_1_89 11 rfl rfl) (by decide +kernel)
theorem bd03_dec_X11_1_90 : ([(0, [42]), (1, [21, 4]), (3, [21, 5]), (5, [182, 1, 63]), (8, [158, 0, 19]), (11, [42]), (12, [21, 5]), (14, [182, 1, 105]), (17, [154, 0, 10]), (20, [4]), (21, [21, 5]), (23, [120])] : List (Nat × List UInt8)).all (fun x => prB x.2 ((cX11_reach.data.toList.drop 64).drop x.1)) = true := by decide +kernel
theorem dX11_reach_64 : decode cX11_reach 64 = .ok (.aload_n 0, 1) := op42 (bA_at bd03_dec_X11_1_90 0 rfl rfl)
theorem dX11_reach_65 : decode cX11_reach 65 = .ok (.iload 4, 2) := op21 (bA_at bd03_dec_X11_1_90 1 rfl rfl) rfl
theorem dX11_reach_67 : decode cX11_reach 67 = .ok (.iload 5, 2) := op21 (bA_at bd03_dec_X11_1_90 2 rfl rfl) rfl
theorem dX11_reach_69 : decode cX11_reach 69 = .ok (.invokevirtual 319, 3) := op182 (bA_at bd03_dec_X11_1_90 3 rfl rfl) rfl
theorem dX11_reach_72 : decode cX11_reach 72 = .ok (.ifCond .le 19, 3) := op158 (bA_at bd03_dec_X11_1_90 4 rfl rfl) (by decide +kernel)
theorem dX11_reach_75 : decode cX11_reach 75 = .ok (.aload_n 0, 1) := op42 (bA_at bd03_dec_X11_1_90 5 rfl rfl)
theorem dX11_reach_76 : decode cX11_reach 76 = .ok (.iload 5, 2) := op21 (bA_at bd03_dec_X11_1_90 6 rfl rfl) rfl
theorem dX11_reach_78 : decode cX11_reach 78 = .ok (.invokevirtual 361, 3) := op182 (bA_at bd03_dec_X11_1_90 7 rfl rfl) rfl
theorem dX11_reach_81 : decode cX11_reach 81 = .ok (.ifCond .ne 10, 3) := op154 (bA_at bd03_dec_X11_1_90 8 rfl rfl) (by decide +kernel)
theorem dX11_reach_84 : decode cX11_reach 84 = .ok (.iconst 1, 1) := op4 (bA_at bd03_dec_X11_1_90 9 rfl rfl)
theorem dX11_reach_85 : decode cX11_reach 85 = .ok (.iload 5, 2) := op21 (bA_at bd03_dec_X11_1_90 10 rfl rfl) rfl
theorem dX11_reach_87 : decode cX11_reach 87 = .ok (.ishl, 1) := op120 (bA_at bd03_dec_X11_1_90 11 rfl rfl)
theorem bd03_dec_X11_1_91 : ([(0, [167, 0, 4]), (3, [3]), (4, [128]), (5, [61]), (6, [132, 5, 1]), (9, [167, 255, 204]), (12, [132, 4, 1]), (15, [167, 255, 186]), (18, [132, 3, 1]), (21, [167, 255, 158]), (24, [28]), (25, [172])] : List (Nat × List UInt8)).all (fun x => prB x.2 ((cX11_reach.data.toList.drop 88).drop x.1)) = true := by decide +kernel
theorem dX11_reach_88 : decode cX11_reach 88 = .ok (.goto 4, 3) := op167 (bA_at bd03_dec_X11_1_91 0 rfl rfl) (by decide +kernel)
theorem dX11_reach_91 : decode cX11_reach 91 = .ok (.iconst 0, 1) := op3 (bA_at bd03_dec_X11_1_91 1 rfl rfl)
theorem dX11_reach_92 : decode cX11_reach 92 = .ok (.ior, 1) := op128 (bA_at bd03_dec_X11_1_91 2 rfl rfl)
theorem dX11_reach_93 : decode cX11_reach 93 = .ok (.istore_n 2, 1) := op61 (bA_at bd03_dec_X11_1_91 3 rfl rfl)
theorem dX11_reach_94 : decode cX11_reach 94 = .ok (.iinc 5 1, 3) := op132 (bA_at bd03_dec_X11_1_91 4 rfl rfl) rfl (by decide +kernel)
theorem dX11_reach_97 : decode cX11_reach 97 = .ok (.goto (-52), 3) := op167 (bA_at bd03_dec_X11_1_91 5 rfl rfl) (by decide +kernel)
theorem dX11_reach_100 : decode cX11_reach 100 = .ok (.iinc 4 1, 3) := op132 (bA_at bd03_dec_X11_1_91 6 rfl rfl) rfl (by decide +kernel)
theorem dX11_reach_103 : decode cX11_reach 103 = .ok (.goto (-70), 3) := op167 (bA_at bd03_dec_X11_1_91 7 rfl rfl) (by decide +kernel)
theorem dX11_reach_106 : decode cX11_reach 106 = .ok (.iinc 3 1, 3) := op132 (bA_at bd03_dec_X11_1_91 8 rfl rfl) rfl (by decide +kernel)
theorem dX11_reach_109 : decode cX11_reach 109 = .ok (.goto (-98), 3) := op167 (bA_at bd03_dec_X11_1_91 9 rfl rfl) (by decide +kernel)
theorem dX11_reach_112 : decode cX11_reach 112 = .ok (.iload_n 2, 1) := op28 (bA_at bd03_dec_X11_1_91 10 rfl rfl)
theorem dX11_reach_113 : decode cX11_reach 113 = .ok (.ireturn, 1) := op172 (bA_at bd03_dec_X11_1_91 11 rfl rfl)
theorem bd03_dec_X11_1_92 : ([(0, [3]), (1, [61]), (2, [28]), (3, [42]), (4, [180, 1, 54]), (7, [162, 0, 93]), (10, [42]), (11, [180, 0, 47]), (14, [28]), (15, [46]), (16, [27]), (17, [184, 0, 101])] : List (Nat × List UInt8)).all (fun x => prB x.2 ((cX11_isDone.data.toList.drop 0).drop x.1)) = true := by decide +kernel
theorem dX11_isDone_0 : decode cX11_isDone 0 = .ok (.iconst 0, 1) := op3 (bA_at bd03_dec_X11_1_92 0 rfl rfl)
theorem dX11_isDone_1 : decode cX11_isDone 1 = .ok (.istore_n 2, 1) := op61 (bA_at bd03_dec_X11_1_92 1 rfl rfl)
theorem dX11_isDone_2 : decode cX11_isDone 2 = .ok (.iload_n 2, 1) := op28 (bA_at bd03_dec_X11_1_92 2 rfl rfl)
theorem dX11_isDone_3 : decode cX11_isDone 3 = .ok (.aload_n 0, 1) := op42 (bA_at bd03_dec_X11_1_92 3 rfl rfl)
theorem dX11_isDone_4 : decode cX11_isDone 4 = .ok (.getfield 310, 3) := op180 (bA_at bd03_dec_X11_1_92 4 rfl rfl) rfl
theorem dX11_isDone_7 : decode cX11_isDone 7 = .ok (.if_icmp .ge 93, 3) := op162 (bA_at bd03_dec_X11_1_92 5 rfl rfl) (by decide +kernel)
theorem dX11_isDone_10 : decode cX11_isDone 10 = .ok (.aload_n 0, 1) := op42 (bA_at bd03_dec_X11_1_92 6 rfl rfl)
theorem dX11_isDone_11 : decode cX11_isDone 11 = .ok (.getfield 47, 3) := op180 (bA_at bd03_dec_X11_1_92 7 rfl rfl) rfl
theorem dX11_isDone_14 : decode cX11_isDone 14 = .ok (.iload_n 2, 1) := op28 (bA_at bd03_dec_X11_1_92 8 rfl rfl)
theorem dX11_isDone_15 : decode cX11_isDone 15 = .ok (.iaload, 1) := op46 (bA_at bd03_dec_X11_1_92 9 rfl rfl)
theorem dX11_isDone_16 : decode cX11_isDone 16 = .ok (.iload_n 1, 1) := op27 (bA_at bd03_dec_X11_1_92 10 rfl rfl)
theorem dX11_isDone_17 : decode cX11_isDone 17 = .ok (.invokestatic 101, 3) := op184 (bA_at bd03_dec_X11_1_92 11 rfl rfl) rfl
theorem bd03_dec_X11_1_93 : ([(0, [153, 0, 19]), (3, [42]), (4, [28]), (5, [182, 1, 133]), (8, [42]), (9, [6]), (10, [182, 1, 47]), (13, [2]), (14, [130]), (15, [126]), (16, [167, 0, 4]), (19, [3])] : List (Nat × List UInt8)).all (fun x => prB x.2 ((cX11_isDone.data.toList.drop 20).drop x.1)) = true := by decide +kernel
theorem dX11_isDone_20 : decode cX11_isDone 20 = .ok (.ifCond .eq 19, 3) := op153 (bA_at bd03_dec_X11_1_93 0 rfl rfl) (by decide +kernel)
theorem dX11_isDone_23 : decode cX11_isDone 23 = .ok (.aload_n 0, 1) := op42 (bA_at bd03_dec_X11_1_93 1 rfl rfl)
theorem dX11_isDone_24 : decode cX11_isDone 24 = .ok (.iload_n 2, 1) := op28 (bA_at bd03_dec_X11_1_93 2 rfl rfl)
theorem dX11_isDone_25 : decode cX11_isDone 25 = .ok (.invokevirtual 389, 3) := op182 (bA_at bd03_dec_X11_1_93 3 rfl rfl) rfl
theorem dX11_isDone_28 : decode cX11_isDone 28 = .ok (.aload_n 0, 1) := op42 (bA_at bd03_dec_X11_1_93 4 rfl rfl)
theorem dX11_isDone_29 : decode cX11_isDone 29 = .ok (.iconst 3, 1) := op6 (bA_at bd03_dec_X11_1_93 5 rfl rfl)
theorem dX11_isDone_30 : decode cX11_isDone 30 = .ok (.invokevirtual 303, 3) := op182 (bA_at bd03_dec_X11_1_93 6 rfl rfl) rfl
theorem dX11_isDone_33 : decode cX11_isDone 33 = .ok (.iconst (-1), 1) := op2 (bA_at bd03_dec_X11_1_93 7 rfl rfl)
theorem dX11_isDone_34 : decode cX11_isDone 34 = .ok (.ixor, 1) := op130 (bA_at bd03_dec_X11_1_93 8 rfl rfl)
theorem dX11_isDone_35 : decode cX11_isDone 35 = .ok (.iand, 1) := op126 (bA_at bd03_dec_X11_1_93 9 rfl rfl)
theorem dX11_isDone_36 : decode cX11_isDone 36 = .ok (.goto 4, 3) := op167 (bA_at bd03_dec_X11_1_93 10 rfl rfl) (by decide +kernel)
theorem dX11_isDone_39 : decode cX11_isDone 39 = .ok (.iconst 0, 1) := op3 (bA_at bd03_dec_X11_1_93 11 rfl rfl)
theorem bd03_dec_X11_1_94 : ([(0, [62]), (1, [3]), (2, [54, 4]), (4, [21, 4]), (6, [42]), (7, [180, 1, 51]), (10, [162, 0, 44]), (13, [29]), (14, [21, 4]), (16, [184, 0, 101]), (19, [153, 0, 29]), (22, [42])] : List (Nat × List UInt8)).all (fun x => prB x.2 ((cX11_isDone.data.toList.drop 40).drop x.1)) = true := by decide +kernel
theorem dX11_isDone_40 : decode cX11_isDone 40 = .ok (.istore_n 3, 1) := op62 (bA_at bd03_dec_X11_1_94 0 rfl rfl)
theorem dX11_isDone_41 : decode cX11_isDone 41 = .ok (.iconst 0, 1) := op3 (bA_at bd03_dec_X11_1_94 1 rfl rfl)
theorem dX11_isDone_42 : decode cX11_isDone 42 = .ok (.istore 4, 2) := op54 (bA_at bd03_dec_X11_1_94 2 rfl rfl) rfl
theorem dX11_isDone_44 : decode cX11_isDone 44 = .ok (.iload 4, 2) := op21 (bA_at bd03_dec_X11_1_94 3 rfl rfl) rfl
theorem dX11_isDone_46 : decode cX11_isDone 46 = .ok (.aload_n 0, 1) := op42 (bA_at bd03_dec_X11_1_94 4 rfl rfl)
theorem dX11_isDone_47 : decode cX11_isDone 47 = .ok (.getfield 307, 3) := op180 (bA_at bd03_dec_X11_1_94 5 rfl rfl) rfl
theorem dX11_isDone_50 : decode cX11_isDone 50 = .ok (.if_icmp .ge 44, 3) := op162 (bA_at bd03_dec_X11_1_94 6 rfl rfl) (by decide +kernel)
theorem dX11_isDone_53 : decode cX11_isDone 53 = .ok (.iload_n 3, 1) := op29 (bA_at bd03_dec_X11_1_94 7 rfl rfl)
theorem dX11_isDone_54 : decode cX11_isDone 54 = .ok (.iload 4, 2) := op21 (bA_at bd03_dec_X11_1_94 8 rfl rfl) rfl
theorem dX11_isDone_56 : decode cX11_isDone 56 = .ok (.invokestatic 101, 3) := op184 (bA_at bd03_dec_X11_1_94 9 rfl rfl) rfl
theorem dX11_isDone_59 : decode cX11_isDone 59 = .ok (.ifCond .eq 29, 3) := op153 (bA_at bd03_dec_X11_1_94 10 rfl rfl) (by decide +kernel)
theorem dX11_isDone_62 : decode cX11_isDone 62 = .ok (.aload_n 0, 1) := op42 (bA_at bd03_dec_X11_1_94 11 rfl rfl)
theorem bd03_dec_X11_1_95 : ([(0, [21, 4]), (2, [182, 1, 66]), (5, [42]), (6, [16, 31]), (8, [28]), (9, [96]), (10, [182, 1, 47]), (13, [100]), (14, [42]), (15, [180, 0, 56]), (18, [27]), (19, [46])] : List (Nat × List UInt8)).all (fun x => prB x.2 ((cX11_isDone.data.toList.drop 63).drop x.1)) = true := by decide +kernel
theorem dX11_isDone_63 : decode cX11_isDone 63 = .ok (.iload 4, 2) := op21 (bA_at bd03_dec_X11_1_95 0 rfl rfl) rfl
theorem dX11_isDone_65 : decode cX11_isDone 65 = .ok (.invokevirtual 322, 3) := op182 (bA_at bd03_dec_X11_1_95 1 rfl rfl) rfl
theorem dX11_isDone_68 : decode cX11_isDone 68 = .ok (.aload_n 0, 1) := op42 (bA_at bd03_dec_X11_1_95 2 rfl rfl)
theorem dX11_isDone_69 : decode cX11_isDone 69 = .ok (.bipush 31, 2) := op16 (bA_at bd03_dec_X11_1_95 3 rfl rfl) (by decide +kernel)
theorem dX11_isDone_71 : decode cX11_isDone 71 = .ok (.iload_n 2, 1) := op28 (bA_at bd03_dec_X11_1_95 4 rfl rfl)
theorem dX11_isDone_72 : decode cX11_isDone 72 = .ok (.iadd, 1) := op96 (bA_at bd03_dec_X11_1_95 5 rfl rfl)
theorem dX11_isDone_73 : decode cX11_isDone 73 = .ok (.invokevirtual 303, 3) := op182 (bA_at bd03_dec_X11_1_95 6 rfl rfl) rfl
theorem dX11_isDone_76 : decode cX11_isDone 76 = .ok (.isub, 1) := op100 (bA_at bd03_dec_X11_1_95 7 rfl rfl)
theorem dX11_isDone_77 : decode cX11_isDone 77 = .ok (.aload_n 0, 1) := op42 (bA_at bd03_dec_X11_1_95 8 rfl rfl)
theorem dX11_isDone_78 : decode cX11_isDone 78 = .ok (.getfield 56, 3) := op180 (bA_at bd03_dec_X11_1_95 9 rfl rfl) rfl
theorem dX11_isDone_81 : decode cX11_isDone 81 = .ok (.iload_n 1, 1) := op27 (bA_at bd03_dec_X11_1_95 10 rfl rfl)
theorem dX11_isDone_82 : decode cX11_isDone 82 = .ok (.iaload, 1) := op46 (bA_at bd03_dec_X11_1_95 11 rfl rfl)
theorem bd03_dec_X11_1_96 : ([(0, [162, 0, 5]), (3, [3]), (4, [172]), (5, [132, 4, 1]), (8, [167, 255, 209]), (11, [132, 2, 1]), (14, [167, 255, 161]), (17, [4]), (18, [172])] : List (Nat × List UInt8)).all (fun x => prB x.2 ((cX11_isDone.data.toList.drop 83).drop x.1)) = true := by decide +kernel
theorem dX11_isDone_83 : decode cX11_isDone 83 = .ok (.if_icmp .ge 5, 3) := op162 (bA_at bd03_dec_X11_1_96 0 rfl rfl) (by decide +kernel)
theorem dX11_isDone_86 : decode cX11_isDone 86 = .ok (.iconst 0, 1) := op3 (bA_at bd03_dec_X11_1_96 1 rfl rfl)
theorem dX11_isDone_87 : decode cX11_isDone 87 = .ok (.ireturn, 1) := op172 (bA_at bd03_dec_X11_1_96 2 rfl rfl)
theorem dX11_isDone_88 : decode cX11_isDone 88 = .ok (.iinc 4 1, 3) := op132 (bA_at bd03_dec_X11_1_96 3 rfl rfl) rfl (by decide +kernel)
theorem dX11_isDone_91 : decode cX11_isDone 91 = .ok (.goto (-47), 3) := op167 (bA_at bd03_dec_X11_1_96 4 rfl rfl) (by decide +kernel)
theorem dX11_isDone_94 : decode cX11_isDone 94 = .ok (.iinc 2 1, 3) := op132 (bA_at bd03_dec_X11_1_96 5 rfl rfl) rfl (by decide +kernel)
theorem dX11_isDone_97 : decode cX11_isDone 97 = .ok (.goto (-95), 3) := op167 (bA_at bd03_dec_X11_1_96 6 rfl rfl) (by decide +kernel)
theorem dX11_isDone_100 : decode cX11_isDone 100 = .ok (.iconst 1, 1) := op4 (bA_at bd03_dec_X11_1_96 7 rfl rfl)
theorem dX11_isDone_101 : decode cX11_isDone 101 = .ok (.ireturn, 1) := op172 (bA_at bd03_dec_X11_1_96 8 rfl rfl)
theorem bd03_dec_X11_1_97 : ([(0, [3]), (1, [60]), (2, [3]), (3, [61]), (4, [28]), (5, [8]), (6, [162, 0, 38]), (9, [27]), (10, [42]), (11, [180, 1, 84]), (14, [28]), (15, [184, 0, 101])] : List (Nat × List UInt8)).all (fun x => prB x.2 ((cX11_doneFor.data.toList.drop 0).drop x.1)) = true := by decide +kernel
theorem dX11_doneFor_0 : decode cX11_doneFor 0 = .ok (.iconst 0, 1) := op3 (bA_at bd03_dec_X11_1_97 0 rfl rfl)
theorem dX11_doneFor_1 : decode cX11_doneFor 1 = .ok (.istore_n 1, 1) := op60 (bA_at bd03_dec_X11_1_97 1 rfl rfl)
theorem dX11_doneFor_2 : decode cX11_doneFor 2 = .ok (.iconst 0, 1) := op3 (bA_at bd03_dec_X11_1_97 2 rfl rfl)
theorem dX11_doneFor_3 : decode cX11_doneFor 3 = .ok (.istore_n 2, 1) := op61 (bA_at bd03_dec_X11_1_97 3 rfl rfl)
theorem dX11_doneFor_4 : decode cX11_doneFor 4 = .ok (.iload_n 2, 1) := op28 (bA_at bd03_dec_X11_1_97 4 rfl rfl)
theorem dX11_doneFor_5 : decode cX11_doneFor 5 = .ok (.iconst 5, 1) := op8 (bA_at bd03_dec_X11_1_97 5 rfl rfl)
theorem dX11_doneFor_6 : decode cX11_doneFor 6 = .ok (.if_icmp .ge 38, 3) := op162 (bA_at bd03_dec_X11_1_97 6 rfl rfl) (by decide +kernel)
theorem dX11_doneFor_9 : decode cX11_doneFor 9 = .ok (.iload_n 1, 1) := op27 (bA_at bd03_dec_X11_1_97 7 rfl rfl)
theorem dX11_doneFor_10 : decode cX11_doneFor 10 = .ok (.aload_n 0, 1) := op42 (bA_at bd03_dec_X11_1_97 8 rfl rfl)
theorem dX11_doneFor_11 : decode cX11_doneFor 11 = .ok (.getfield 340, 3) := op180 (bA_at bd03_dec_X11_1_97 9 rfl rfl) rfl
theorem dX11_doneFor_14 : decode cX11_doneFor 14 = .ok (.iload_n 2, 1) := op28 (bA_at bd03_dec_X11_1_97 10 rfl rfl)
theorem dX11_doneFor_15 : decode cX11_doneFor 15 = .ok (.invokestatic 101, 3) := op184 (bA_at bd03_dec_X11_1_97 11 rfl rfl) rfl
theorem bd03_dec_X11_1_98 : ([(0, [153, 0, 17]), (3, [42]), (4, [28]), (5, [182, 1, 136]), (8, [153, 0, 9]), (11, [4]), (12, [28]), (13, [120]), (14, [167, 0, 4]), (17, [3]), (18, [128]), (19, [60])] : List (Nat × List UInt8)).all (fun x => prB x.2 ((cX11_doneFor.data.toList.drop 18).drop x.1)) = true := by decide +kernel
theorem dX11_doneFor_18 : decode cX11_doneFor 18 = .ok (.ifCond .eq 17, 3) := op153 (bA_at bd03_dec_X11_1_98 0 rfl rfl) (by decide +kernel)
theorem dX11_doneFor_21 : decode cX11_doneFor 21 = .ok (.aload_n 0, 1) := op42 (bA_at bd03_dec_X11_1_98 1 rfl rfl)
theorem dX11_doneFor_22 : decode cX11_doneFor 22 = .ok (.iload_n 2, 1) := op28 (bA_at bd03_dec_X11_1_98 2 rfl rfl)
theorem dX11_doneFor_23 : decode cX11_doneFor 23 = .ok (.invokevirtual 392, 3) := op182 (bA_at bd03_dec_X11_1_98 3 rfl rfl) rfl
theorem dX11_doneFor_26 : decode cX11_doneFor 26 = .ok (.ifCond .eq 9, 3) := op153 (bA_at bd03_dec_X11_1_98 4 rfl rfl) (by decide +kernel)
theorem dX11_doneFor_29 : decode cX11_doneFor 29 = .ok (.iconst 1, 1) := op4 (bA_at bd03_dec_X11_1_98 5 rfl rfl)
theorem dX11_doneFor_30 : decode cX11_doneFor 30 = .ok (.iload_n 2, 1) := op28 (bA_at bd03_dec_X11_1_98 6 rfl rfl)
theorem dX11_doneFor_31 : decode cX11_doneFor 31 = .ok (.ishl, 1) := op120 (bA_at bd03_dec_X11_1_98 7 rfl rfl)
theorem dX11_doneFor_32 : decode cX11_doneFor 32 = .ok (.goto 4, 3) := op167 (bA_at bd03_dec_X11_1_98 8 rfl rfl) (by decide +kernel)
theorem dX11_doneFor_35 : decode cX11_doneFor 35 = .ok (.iconst 0, 1) := op3 (bA_at bd03_dec_X11_1_98 9 rfl rfl)
theorem dX11_doneFor_36 : decode cX11_doneFor 36 = .ok (.ior, 1) := op128 (bA_at bd03_dec_X11_1_98 10 rfl rfl)
theorem dX11_doneFor_37 : decode cX11_doneFor 37 = .ok (.istore_n 1, 1) := op60 (bA_at bd03_dec_X11_1_98 11 rfl rfl)
theorem bd03_dec_X11_1_99 : ([(0, [132, 2, 1]), (3, [167, 255, 219]), (6, [27]), (7, [172])] : List (Nat × List UInt8)).all (fun x => prB x.2 ((cX11_doneFor.data.toList.drop 38).drop x.1)) = true := by decide +kernel
theorem dX11_doneFor_38 : decode cX11_doneFor 38 = .ok (.iinc 2 1, 3) := op132 (bA_at bd03_dec_X11_1_99 0 rfl rfl) rfl (by decide +kernel)
theorem dX11_doneFor_41 : decode cX11_doneFor 41 = .ok (.goto (-37), 3) := op167 (bA_at bd03_dec_X11_1_99 1 rfl rfl) (by decide +kernel)
theorem dX11_doneFor_44 : decode cX11_doneFor 44 = .ok (.iload_n 1, 1) := op27 (bA_at bd03_dec_X11_1_99 2 rfl rfl)
theorem dX11_doneFor_45 : decode cX11_doneFor 45 = .ok (.ireturn, 1) := op172 (bA_at bd03_dec_X11_1_99 3 rfl rfl)
theorem bd03_dec_X11_1_100 : ([(0, [3]), (1, [61]), (2, [3]), (3, [62]), (4, [29]), (5, [42]), (6, [180, 1, 54]), (9, [162, 0, 30]), (12, [28]), (13, [42]), (14, [180, 0, 47]), (17, [29])] : List (Nat × List UInt8)).all (fun x => prB x.2 ((cX11_fame.data.toList.drop 0).drop x.1)) = true := by decide +kernel
theorem dX11_fame_0 : decode cX11_fame 0 = .ok (.iconst 0, 1) := op3 (bA_at bd03_dec_X11_1_100 0 rfl rfl)
theorem dX11_fame_1 : decode cX11_fame 1 = .ok (.istore_n 2, 1) := op61 (bA_at bd03_dec_X11_1_100 1 rfl rfl)
theorem dX11_fame_2 : decode cX11_fame 2 = .ok (.iconst 0, 1) := op3 (bA_at bd03_dec_X11_1_100 2 rfl rfl)
theorem dX11_fame_3 : decode cX11_fame 3 = .ok (.istore_n 3, 1) := op62 (bA_at bd03_dec_X11_1_100 3 rfl rfl)
theorem dX11_fame_4 : decode cX11_fame 4 = .ok (.iload_n 3, 1) := op29 (bA_at bd03_dec_X11_1_100 4 rfl rfl)
theorem dX11_fame_5 : decode cX11_fame 5 = .ok (.aload_n 0, 1) := op42 (bA_at bd03_dec_X11_1_100 5 rfl rfl)
theorem dX11_fame_6 : decode cX11_fame 6 = .ok (.getfield 310, 3) := op180 (bA_at bd03_dec_X11_1_100 6 rfl rfl) rfl
theorem dX11_fame_9 : decode cX11_fame 9 = .ok (.if_icmp .ge 30, 3) := op162 (bA_at bd03_dec_X11_1_100 7 rfl rfl) (by decide +kernel)
theorem dX11_fame_12 : decode cX11_fame 12 = .ok (.iload_n 2, 1) := op28 (bA_at bd03_dec_X11_1_100 8 rfl rfl)
theorem dX11_fame_13 : decode cX11_fame 13 = .ok (.aload_n 0, 1) := op42 (bA_at bd03_dec_X11_1_100 9 rfl rfl)
theorem dX11_fame_14 : decode cX11_fame 14 = .ok (.getfield 47, 3) := op180 (bA_at bd03_dec_X11_1_100 10 rfl rfl) rfl
theorem dX11_fame_17 : decode cX11_fame 17 = .ok (.iload_n 3, 1) := op29 (bA_at bd03_dec_X11_1_100 11 rfl rfl)
theorem bd03_dec_X11_1_101 : ([(0, [46]), (1, [27]), (2, [184, 0, 101]), (5, [153, 0, 7]), (8, [4]), (9, [167, 0, 4]), (12, [3]), (13, [96]), (14, [61]), (15, [132, 3, 1]), (18, [167, 255, 224]), (21, [28])] : List (Nat × List UInt8)).all (fun x => prB x.2 ((cX11_fame.data.toList.drop 18).drop x.1)) = true := by decide +kernel
theorem dX11_fame_18 : decode cX11_fame 18 = .ok (.iaload, 1) := op46 (bA_at bd03_dec_X11_1_101 0 rfl rfl)
theorem dX11_fame_19 : decode cX11_fame 19 = .ok (.iload_n 1, 1) := op27 (bA_at bd03_dec_X11_1_101 1 rfl rfl)
theorem dX11_fame_20 : decode cX11_fame 20 = .ok (.invokestatic 101, 3) := op184 (bA_at bd03_dec_X11_1_101 2 rfl rfl) rfl
theorem dX11_fame_23 : decode cX11_fame 23 = .ok (.ifCond .eq 7, 3) := op153 (bA_at bd03_dec_X11_1_101 3 rfl rfl) (by decide +kernel)
theorem dX11_fame_26 : decode cX11_fame 26 = .ok (.iconst 1, 1) := op4 (bA_at bd03_dec_X11_1_101 4 rfl rfl)
theorem dX11_fame_27 : decode cX11_fame 27 = .ok (.goto 4, 3) := op167 (bA_at bd03_dec_X11_1_101 5 rfl rfl) (by decide +kernel)
theorem dX11_fame_30 : decode cX11_fame 30 = .ok (.iconst 0, 1) := op3 (bA_at bd03_dec_X11_1_101 6 rfl rfl)
theorem dX11_fame_31 : decode cX11_fame 31 = .ok (.iadd, 1) := op96 (bA_at bd03_dec_X11_1_101 7 rfl rfl)
theorem dX11_fame_32 : decode cX11_fame 32 = .ok (.istore_n 2, 1) := op61 (bA_at bd03_dec_X11_1_101 8 rfl rfl)
theorem dX11_fame_33 : decode cX11_fame 33 = .ok (.iinc 3 1, 3) := op132 (bA_at bd03_dec_X11_1_101 9 rfl rfl) rfl (by decide +kernel)
theorem dX11_fame_36 : decode cX11_fame 36 = .ok (.goto (-32), 3) := op167 (bA_at bd03_dec_X11_1_101 10 rfl rfl) (by decide +kernel)
theorem dX11_fame_39 : decode cX11_fame 39 = .ok (.iload_n 2, 1) := op28 (bA_at bd03_dec_X11_1_101 11 rfl rfl)
theorem bd03_dec_X11_1_102 : ([(0, [172])] : List (Nat × List UInt8)).all (fun x => prB x.2 ((cX11_fame.data.toList.drop 40).drop x.1)) = true := by decide +kernel
theorem dX11_fame_40 : decode cX11_fame 40 = .ok (.ireturn, 1) := op172 (bA_at bd03_dec_X11_1_102 0 rfl rfl)
theorem bd03_dec_X11_1_103 : ([(0, [3]), (1, [60]), (2, [3]), (3, [61]), (4, [28]), (5, [42]), (6, [180, 1, 54]), (9, [162, 0, 35]), (12, [27]), (13, [42]), (14, [180, 1, 84]), (17, [42])] : List (Nat × List UInt8)).all (fun x => prB x.2 ((cX11_seers.data.toList.drop 0).drop x.1)) = true := by decide +kernel
theorem dX11_seers_0 : decode cX11_seers 0 = .ok (.iconst 0, 1) := op3 (bA_at bd03_dec_X11_1_103 0 rfl rfl)
theorem dX11_seers_1 : decode cX11_seers 1 = .ok (.istore_n 1, 1) := op60 (bA_at bd03_dec_X11_1_103 1 rfl rfl)
theorem dX11_seers_2 : decode cX11_seers 2 = .ok (.iconst 0, 1) := op3 (bA_at bd03_dec_X11_1_103 2 rfl rfl)
theorem dX11_seers_3 : decode cX11_seers 3 = .ok (.istore_n 2, 1) := op61 (bA_at bd03_dec_X11_1_103 3 rfl rfl)
theorem dX11_seers_4 : decode cX11_seers 4 = .ok (.iload_n 2, 1) := op28 (bA_at bd03_dec_X11_1_103 4 rfl rfl)
theorem dX11_seers_5 : decode cX11_seers 5 = .ok (.aload_n 0, 1) := op42 (bA_at bd03_dec_X11_1_103 5 rfl rfl)
theorem dX11_seers_6 : decode cX11_seers 6 = .ok (.getfield 310, 3) := op180 (bA_at bd03_dec_X11_1_103 6 rfl rfl) rfl
theorem dX11_seers_9 : decode cX11_seers 9 = .ok (.if_icmp .ge 35, 3) := op162 (bA_at bd03_dec_X11_1_103 7 rfl rfl) (by decide +kernel)
theorem dX11_seers_12 : decode cX11_seers 12 = .ok (.iload_n 1, 1) := op27 (bA_at bd03_dec_X11_1_103 8 rfl rfl)
theorem dX11_seers_13 : decode cX11_seers 13 = .ok (.aload_n 0, 1) := op42 (bA_at bd03_dec_X11_1_103 9 rfl rfl)
theorem dX11_seers_14 : decode cX11_seers 14 = .ok (.getfield 340, 3) := op180 (bA_at bd03_dec_X11_1_103 10 rfl rfl) rfl
theorem dX11_seers_17 : decode cX11_seers 17 = .ok (.aload_n 0, 1) := op42 (bA_at bd03_dec_X11_1_103 11 rfl rfl)
theorem bd03_dec_X11_1_104 : ([(0, [180, 0, 47]), (3, [28]), (4, [46]), (5, [2]), (6, [130]), (7, [126]), (8, [154, 0, 9]), (11, [4]), (12, [28]), (13, [120]), (14, [167, 0, 4]), (17, [3])] : List (Nat × List UInt8)).all (fun x => prB x.2 ((cX11_seers.data.toList.drop 18).drop x.1)) = true := by decide +kernel
theorem dX11_seers_18 : decode cX11_seers 18 = .ok (.getfield 47, 3) := op180 (bA_at bd03_dec_X11_1_104 0 rfl rfl) rfl
theorem dX11_seers_21 : decode cX11_seers 21 = .ok (.iload_n 2, 1) := op28 (bA_at bd03_dec_X11_1_104 1 rfl rfl)
theorem dX11_seers_22 : decode cX11_seers 22 = .ok (.iaload, 1) := op46 (bA_at bd03_dec_X11_1_104 2 rfl rfl)
theorem dX11_seers_23 : decode cX11_seers 23 = .ok (.iconst (-1), 1) := op2 (bA_at bd03_dec_X11_1_104 3 rfl rfl)
theorem dX11_seers_24 : decode cX11_seers 24 = .ok (.ixor, 1) := op130 (bA_at bd03_dec_X11_1_104 4 rfl rfl)
theorem dX11_seers_25 : decode cX11_seers 25 = .ok (.iand, 1) := op126 (bA_at bd03_dec_X11_1_104 5 rfl rfl)
theorem dX11_seers_26 : decode cX11_seers 26 = .ok (.ifCond .ne 9, 3) := op154 (bA_at bd03_dec_X11_1_104 6 rfl rfl) (by decide +kernel)
theorem dX11_seers_29 : decode cX11_seers 29 = .ok (.iconst 1, 1) := op4 (bA_at bd03_dec_X11_1_104 7 rfl rfl)
theorem dX11_seers_30 : decode cX11_seers 30 = .ok (.iload_n 2, 1) := op28 (bA_at bd03_dec_X11_1_104 8 rfl rfl)
theorem dX11_seers_31 : decode cX11_seers 31 = .ok (.ishl, 1) := op120 (bA_at bd03_dec_X11_1_104 9 rfl rfl)
theorem dX11_seers_32 : decode cX11_seers 32 = .ok (.goto 4, 3) := op167 (bA_at bd03_dec_X11_1_104 10 rfl rfl) (by decide +kernel)
theorem dX11_seers_35 : decode cX11_seers 35 = .ok (.iconst 0, 1) := op3 (bA_at bd03_dec_X11_1_104 11 rfl rfl)
theorem bd03_dec_X11_1_105 : ([(0, [128]), (1, [60]), (2, [132, 2, 1]), (5, [167, 255, 219]), (8, [27]), (9, [172])] : List (Nat × List UInt8)).all (fun x => prB x.2 ((cX11_seers.data.toList.drop 36).drop x.1)) = true := by decide +kernel
theorem dX11_seers_36 : decode cX11_seers 36 = .ok (.ior, 1) := op128 (bA_at bd03_dec_X11_1_105 0 rfl rfl)
theorem dX11_seers_37 : decode cX11_seers 37 = .ok (.istore_n 1, 1) := op60 (bA_at bd03_dec_X11_1_105 1 rfl rfl)
theorem dX11_seers_38 : decode cX11_seers 38 = .ok (.iinc 2 1, 3) := op132 (bA_at bd03_dec_X11_1_105 2 rfl rfl) rfl (by decide +kernel)
theorem dX11_seers_41 : decode cX11_seers 41 = .ok (.goto (-37), 3) := op167 (bA_at bd03_dec_X11_1_105 3 rfl rfl) (by decide +kernel)
theorem dX11_seers_44 : decode cX11_seers 44 = .ok (.iload_n 1, 1) := op27 (bA_at bd03_dec_X11_1_105 4 rfl rfl)
theorem dX11_seers_45 : decode cX11_seers 45 = .ok (.ireturn, 1) := op172 (bA_at bd03_dec_X11_1_105 5 rfl rfl)
theorem bd03_dec_X11_1_106 : ([(0, [27]), (1, [16, 10]), (3, [112]), (4, [61]), (5, [42]), (6, [28]), (7, [182, 1, 69]), (10, [154, 0, 7]), (13, [17, 252, 24]), (16, [172]), (17, [27]), (18, [16, 10])] : List (Nat × List UInt8)).all (fun x => prB x.2 ((cX11_ofSinger.data.toList.drop 0).drop x.1)) = true := by decide +kernel
theorem dX11_ofSinger_0 : decode cX11_ofSinger 0 = .ok (.iload_n 1, 1) := op27 (bA_at bd03_dec_X11_1_106 0 rfl rfl)
theorem dX11_ofSinger_1 : decode cX11_ofSinger 1 = .ok (.bipush 10, 2) := op16 (bA_at bd03_dec_X11_1_106 1 rfl rfl) (by decide +kernel)
theorem dX11_ofSinger_3 : decode cX11_ofSinger 3 = .ok (.irem, 1) := op112 (bA_at bd03_dec_X11_1_106 2 rfl rfl)
theorem dX11_ofSinger_4 : decode cX11_ofSinger 4 = .ok (.istore_n 2, 1) := op61 (bA_at bd03_dec_X11_1_106 3 rfl rfl)
theorem dX11_ofSinger_5 : decode cX11_ofSinger 5 = .ok (.aload_n 0, 1) := op42 (bA_at bd03_dec_X11_1_106 4 rfl rfl)
theorem dX11_ofSinger_6 : decode cX11_ofSinger 6 = .ok (.iload_n 2, 1) := op28 (bA_at bd03_dec_X11_1_106 5 rfl rfl)
theorem dX11_ofSinger_7 : decode cX11_ofSinger 7 = .ok (.invokevirtual 325, 3) := op182 (bA_at bd03_dec_X11_1_106 6 rfl rfl) rfl
theorem dX11_ofSinger_10 : decode cX11_ofSinger 10 = .ok (.ifCond .ne 7, 3) := op154 (bA_at bd03_dec_X11_1_106 7 rfl rfl) (by decide +kernel)
theorem dX11_ofSinger_13 : decode cX11_ofSinger 13 = .ok (.sipush (-1000), 3) := op17 (bA_at bd03_dec_X11_1_106 8 rfl rfl) (by decide +kernel)
theorem dX11_ofSinger_16 : decode cX11_ofSinger 16 = .ok (.ireturn, 1) := op172 (bA_at bd03_dec_X11_1_106 9 rfl rfl)
theorem dX11_ofSinger_17 : decode cX11_ofSinger 17 = .ok (.iload_n 1, 1) := op27 (bA_at bd03_dec_X11_1_106 10 rfl rfl)
theorem dX11_ofSinger_18 : decode cX11_ofSinger 18 = .ok (.bipush 10, 2) := op16 (bA_at bd03_dec_X11_1_106 11 rfl rfl) (by decide +kernel)
theorem dX11_ofSinger_21 : decode cX11_ofSinger 21 = .ok (.tableswitch 48 3 5 #[27, 34, 41], 27) := by decide +kernel
theorem bd03_dec_X11_1_107 : ([(0, [108]), (28, [42]), (29, [180, 0, 44]), (32, [28]), (33, [46]), (34, [172]), (35, [42]), (36, [180, 0, 47]), (39, [28]), (40, [46]), (41, [172])] : List (Nat × List UInt8)).all (fun x => prB x.2 ((cX11_ofSinger.data.toList.drop 20).drop x.1)) = true := by decide +kernel
theorem dX11_ofSinger_20 : decode cX11_ofSinger 20 = .ok (.idiv, 1) := op108 (bA_at bd03_dec_X11_1_107 0 rfl rfl)
theorem dX11_ofSinger_48 : decode cX11_ofSinger 48 = .ok (.aload_n 0, 1) := op42 (bA_at bd03_dec_X11_1_107 1 rfl rfl)
theorem dX11_ofSinger_49 : decode cX11_ofSinger 49 = .ok (.getfield 44, 3) := op180 (bA_at bd03_dec_X11_1_107 2 rfl rfl) rfl
theorem dX11_ofSinger_52 : decode cX11_ofSinger 52 = .ok (.iload_n 2, 1) := op28 (bA_at bd03_dec_X11_1_107 3 rfl rfl)
theorem dX11_ofSinger_53 : decode cX11_ofSinger 53 = .ok (.iaload, 1) := op46 (bA_at bd03_dec_X11_1_107 4 rfl rfl)
theorem dX11_ofSinger_54 : decode cX11_ofSinger 54 = .ok (.ireturn, 1) := op172 (bA_at bd03_dec_X11_1_107 5 rfl rfl)
theorem dX11_ofSinger_55 : decode cX11_ofSinger 55 = .ok (.aload_n 0, 1) := op42 (bA_at bd03_dec_X11_1_107 6 rfl rfl)
theorem dX11_ofSinger_56 : decode cX11_ofSinger 56 = .ok (.getfield 47, 3) := op180 (bA_at bd03_dec_X11_1_107 7 rfl rfl) rfl
theorem dX11_ofSinger_59 : decode cX11_ofSinger 59 = .ok (.iload_n 2, 1) := op28 (bA_at bd03_dec_X11_1_107 8 rfl rfl)
theorem dX11_ofSinger_60 : decode cX11_ofSinger 60 = .ok (.iaload, 1) := op46 (bA_at bd03_dec_X11_1_107 9 rfl rfl)
theorem dX11_ofSinger_61 : decode cX11_ofSinger 61 = .ok (.ireturn, 1) := op172 (bA_at bd03_dec_X11_1_107 10 rfl rfl)
theorem bd03_dec_X11_1_108 : ([(0, [42]), (1, [180, 0, 50]), (4, [28]), (5, [46]), (6, [172]), (7, [42]), (8, [28]), (9, [182, 1, 96]), (12, [172])] : List (Nat × List UInt8)).all (fun x => prB x.2 ((cX11_ofSinger.data.toList.drop 62).drop x.1)) = true := by decide +kernel
theorem dX11_ofSinger_62 : decode cX11_ofSinger 62 = .ok (.aload_n 0, 1) := op42 (bA_at bd03_dec_X11_1_108 0 rfl rfl)
theorem dX11_ofSinger_63 : decode cX11_ofSinger 63 = .ok (.getfield 50, 3) := op180 (bA_at bd03_dec_X11_1_108 1 rfl rfl) rfl
theorem dX11_ofSinger_66 : decode cX11_ofSinger 66 = .ok (.iload_n 2, 1) := op28 (bA_at bd03_dec_X11_1_108 2 rfl rfl)
theorem dX11_ofSinger_67 : decode cX11_ofSinger 67 = .ok (.iaload, 1) := op46 (bA_at bd03_dec_X11_1_108 3 rfl rfl)
theorem dX11_ofSinger_68 : decode cX11_ofSinger 68 = .ok (.ireturn, 1) := op172 (bA_at bd03_dec_X11_1_108 4 rfl rfl)
theorem dX11_ofSinger_69 : decode cX11_ofSinger 69 = .ok (.aload_n 0, 1) := op42 (bA_at bd03_dec_X11_1_108 5 rfl rfl)
theorem dX11_ofSinger_70 : decode cX11_ofSinger 70 = .ok (.iload_n 2, 1) := op28 (bA_at bd03_dec_X11_1_108 6 rfl rfl)
theorem dX11_ofSinger_71 : decode cX11_ofSinger 71 = .ok (.invokevirtual 352, 3) := op182 (bA_at bd03_dec_X11_1_108 7 rfl rfl) rfl
theorem dX11_ofSinger_74 : decode cX11_ofSinger 74 = .ok (.ireturn, 1) := op172 (bA_at bd03_dec_X11_1_108 8 rfl rfl)
theorem bd03_dec_X11_1_109 : ([(0, [27]), (1, [16, 10]), (3, [16, 14]), (5, [184, 0, 109]), (8, [153, 0, 31]), (11, [42]), (12, [180, 1, 84]), (15, [27]), (16, [16, 10]), (18, [100]), (19, [184, 0, 101]), (22, [153, 0, 15])] : List (Nat × List UInt8)).all (fun x => prB x.2 ((cX11_ofState.data.toList.drop 0).drop x.1)) = true := by decide +kernel
theorem dX11_ofState_0 : decode cX11_ofState 0 = .ok (.iload_n 1, 1) := op27 (bA_at bd03_dec_X11_1_109 0 rfl rfl)
theorem dX11_ofState_1 : decode cX11_ofState 1 = .ok (.bipush 10, 2) := op16 (bA_at bd03_dec_X11_1_109 1 rfl rfl) (by decide +kernel)
theorem dX11_ofState_3 : decode cX11_ofState 3 = .ok (.bipush 14, 2) := op16 (bA_at bd03_dec_X11_1_109 2 rfl rfl) (by decide +kernel)
theorem dX11_ofState_5 : decode cX11_ofState 5 = .ok (.invokestatic 109, 3) := op184 (bA_at bd03_dec_X11_1_109 3 rfl rfl) rfl
theorem dX11_ofState_8 : decode cX11_ofState 8 = .ok (.ifCond .eq 31, 3) := op153 (bA_at bd03_dec_X11_1_109 4 rfl rfl) (by decide +kernel)
theorem dX11_ofState_11 : decode cX11_ofState 11 = .ok (.aload_n 0, 1) := op42 (bA_at bd03_dec_X11_1_109 5 rfl rfl)
theorem dX11_ofState_12 : decode cX11_ofState 12 = .ok (.getfield 340, 3) := op180 (bA_at bd03_dec_X11_1_109 6 rfl rfl) rfl
theorem dX11_ofState_15 : decode cX11_ofState 15 = .ok (.iload_n 1, 1) := op27 (bA_at bd03_dec_X11_1_109 7 rfl rfl)
theorem dX11_ofState_16 : decode cX11_ofState 16 = .ok (.bipush 10, 2) := op16 (bA_at bd03_dec_X11_1_109 8 rfl rfl) (by decide +kernel)
theorem dX11_ofState_18 : decode cX11_ofState 18 = .ok (.isub, 1) := op100 (bA_at bd03_dec_X11_1_109 9 rfl rfl)
theorem dX11_ofState_19 : decode cX11_ofState 19 = .ok (.invokestatic 101, 3) := op184 (bA_at bd03_dec_X11_1_109 10 rfl rfl) rfl
theorem dX11_ofState_22 : decode cX11_ofState 22 = .ok (.ifCond .eq 15, 3) := op153 (bA_at bd03_dec_X11_1_109 11 rfl rfl) (by decide +kernel)
theorem bd03_dec_X11_1_110 : ([(0, [42]), (1, [180, 0, 56]), (4, [27]), (5, [16, 10]), (7, [100]), (8, [46]), (9, [167, 0, 4]), (12, [2]), (13, [172]), (14, [27]), (15, [16, 20]), (17, [16, 24])] : List (Nat × List UInt8)).all (fun x => prB x.2 ((cX11_ofState.data.toList.drop 25).drop x.1)) = true := by decide +kernel
theorem dX11_ofState_25 : decode cX11_ofState 25 = .ok (.aload_n 0, 1) := op42 (bA_at bd03_dec_X11_1_110 0 rfl rfl)
theorem dX11_ofState_26 : decode cX11_ofState 26 = .ok (.getfield 56, 3) := op180 (bA_at bd03_dec_X11_1_110 1 rfl rfl) rfl
theorem dX11_ofState_29 : decode cX11_ofState 29 = .ok (.iload_n 1, 1) := op27 (bA_at bd03_dec_X11_1_110 2 rfl rfl)
theorem dX11_ofState_30 : decode cX11_ofState 30 = .ok (.bipush 10, 2) := op16 (bA_at bd03_dec_X11_1_110 3 rfl rfl) (by decide +kernel)
theorem dX11_ofState_32 : decode cX11_ofState 32 = .ok (.isub, 1) := op100 (bA_at bd03_dec_X11_1_110 4 rfl rfl)
theorem dX11_ofState_33 : decode cX11_ofState 33 = .ok (.iaload, 1) := op46 (bA_at bd03_dec_X11_1_110 5 rfl rfl)
theorem dX11_ofState_34 : decode cX11_ofState 34 = .ok (.goto 4, 3) := op167 (bA_at bd03_dec_X11_1_110 6 rfl rfl) (by decide +kernel)
theorem dX11_ofState_37 : decode cX11_ofState 37 = .ok (.iconst (-1), 1) := op2 (bA_at bd03_dec_X11_1_110 7 rfl rfl)
theorem dX11_ofState_38 : decode cX11_ofState 38 = .ok (.ireturn, 1) := op172 (bA_at bd03_dec_X11_1_110 8 rfl rfl)
theorem dX11_ofState_39 : decode cX11_ofState 39 = .ok (.iload_n 1, 1) := op27 (bA_at bd03_dec_X11_1_110 9 rfl rfl)
theorem dX11_ofState_40 : decode cX11_ofState 40 = .ok (.bipush 20, 2) := op16 (bA_at bd03_dec_X11_1_110 10 rfl rfl) (by decide +kernel)
theorem dX11_ofState_42 : decode cX11_ofState 42 = .ok (.bipush 24, 2) := op16 (bA_at bd03_dec_X11_1_110 11 rfl rfl) (by decide +kernel)
theorem bd03_dec_X11_1_111 : ([(0, [184, 0, 109]), (3, [153, 0, 12]), (6, [42]), (7, [27]), (8, [16, 20]), (10, [100]), (11, [182, 1, 139]), (14, [172]), (15, [27]), (16, [16, 30]), (18, [16, 69]), (20, [184, 0, 109])] : List (Nat × List UInt8)).all (fun x => prB x.2 ((cX11_ofState.data.toList.drop 44).drop x.1)) = true := by decide +kernel
theorem dX11_ofState_44 : decode cX11_ofState 44 = .ok (.invokestatic 109, 3) := op184 (bA_at bd03_dec_X11_1_111 0 rfl rfl) rfl
theorem dX11_ofState_47 : decode cX11_ofState 47 = .ok (.ifCond .eq 12, 3) := op153 (bA_at bd03_dec_X11_1_111 1 rfl rfl) (by decide +kernel)
theorem dX11_ofState_50 : decode cX11_ofState 50 = .ok (.aload_n 0, 1) := op42 (bA_at bd03_dec_X11_1_111 2 rfl rfl)
theorem dX11_ofState_51 : decode cX11_ofState 51 = .ok (.iload_n 1, 1) := op27 (bA_at bd03_dec_X11_1_111 3 rfl rfl)
theorem dX11_ofState_52 : decode cX11_ofState 52 = .ok (.bipush 20, 2) := op16 (bA_at bd03_dec_X11_1_111 4 rfl rfl) (by decide +kernel)
theorem dX11_ofState_54 : decode cX11_ofState 54 = .ok (.isub, 1) := op100 (bA_at bd03_dec_X11_1_111 5 rfl rfl)
theorem dX11_ofState_55 : decode cX11_ofState 55 = .ok (.invokevirtual 395, 3) := op182 (bA_at bd03_dec_X11_1_111 6 rfl rfl) rfl
theorem dX11_ofState_58 : decode cX11_ofState 58 = .ok (.ireturn, 1) := op172 (bA_at bd03_dec_X11_1_111 7 rfl rfl)
theorem dX11_ofState_59 : decode cX11_ofState 59 = .ok (.iload_n 1, 1) := op27 (bA_at bd03_dec_X11_1_111 8 rfl rfl)
theorem dX11_ofState_60 : decode cX11_ofState 60 = .ok (.bipush 30, 2) := op16 (bA_at bd03_dec_X11_1_111 9 rfl rfl) (by decide +kernel)
theorem dX11_ofState_62 : decode cX11_ofState 62 = .ok (.bipush 69, 2) := op16 (bA_at bd03_dec_X11_1_111 10 rfl rfl) (by decide +kernel)
theorem dX11_ofState_64 : decode cX11_ofState 64 = .ok (.invokestatic 109, 3) := op184 (bA_at bd03_dec_X11_1_111 11 rfl rfl) rfl
theorem bd03_dec_X11_1_112 : ([(0, [153, 0, 9]), (3, [42]), (4, [27]), (5, [182, 1, 142]), (8, [172]), (9, [27]), (10, [16, 70]), (12, [16, 79]), (14, [184, 0, 109]), (17, [153, 0, 30]), (20, [42]), (21, [27])] : List (Nat × List UInt8)).all (fun x => prB x.2 ((cX11_ofState.data.toList.drop 67).drop x.1)) = true := by decide +kernel
theorem dX11_ofState_67 : decode cX11_ofState 67 = .ok (.ifCond .eq 9, 3) := op153 (bA_at bd03_dec_X11_1_112 0 rfl rfl) (by decide +kernel)
theorem dX11_ofState_70 : decode cX11_ofState 70 = .ok (.aload_n 0, 1) := op42 (bA_at bd03_dec_X11_1_112 1 rfl rfl)
theorem dX11_ofState_71 : decode cX11_ofState 71 = .ok (.iload_n 1, 1) := op27 (bA_at bd03_dec_X11_1_112 2 rfl rfl)
theorem dX11_ofState_72 : decode cX11_ofState 72 = .ok (.invokevirtual 398, 3) := op182 (bA_at bd03_dec_X11_1_112 3 rfl rfl) rfl
theorem dX11_ofState_75 : decode cX11_ofState 75 = .ok (.ireturn, 1) := op172 (bA_at bd03_dec_X11_1_112 4 rfl rfl)
theorem dX11_ofState_76 : decode cX11_ofState 76 = .ok (.iload_n 1, 1) := op27 (bA_at bd03_dec_X11_1_112 5 rfl rfl)
theorem dX11_ofState_77 : decode cX11_ofState 77 = .ok (.bipush 70, 2) := op16 (bA_at bd03_dec_X11_1_112 6 rfl rfl) (by decide +kernel)
theorem dX11_ofState_79 : decode cX11_ofState 79 = .ok (.bipush 79, 2) := op16 (bA_at bd03_dec_X11_1_112 7 rfl rfl) (by decide +kernel)
theorem dX11_ofState_81 : decode cX11_ofState 81 = .ok (.invokestatic 109, 3) := op184 (bA_at bd03_dec_X11_1_112 8 rfl rfl) rfl
theorem dX11_ofState_84 : decode cX11_ofState 84 = .ok (.ifCond .eq 30, 3) := op153 (bA_at bd03_dec_X11_1_112 9 rfl rfl) (by decide +kernel)
theorem dX11_ofState_87 : decode cX11_ofState 87 = .ok (.aload_n 0, 1) := op42 (bA_at bd03_dec_X11_1_112 10 rfl rfl)
theorem dX11_ofState_88 : decode cX11_ofState 88 = .ok (.iload_n 1, 1) := op27 (bA_at bd03_dec_X11_1_112 11 rfl rfl)
theorem bd03_dec_X11_1_113 : ([(0, [16, 70]), (2, [100]), (3, [182, 1, 60]), (6, [153, 0, 15]), (9, [42]), (10, [180, 0, 53]), (13, [27]), (14, [16, 70]), (16, [100]), (17, [46]), (18, [167, 0, 6]), (21, [17, 252, 24])] : List (Nat × List UInt8)).all (fun x => prB x.2 ((cX11_ofState.data.toList.drop 89).drop x.1)) = true := by decide +kernel
theorem dX11_ofState_89 : decode cX11_ofState 89 = .ok (.bipush 70, 2) := op16 (bA_at bd03_dec_X11_1_113 0 rfl rfl) (by decide +kernel)
theorem dX11_ofState_91 : decode cX11_ofState 91 = .ok (.isub, 1) := op100 (bA_at bd03_dec_X11_1_113 1 rfl rfl)
theorem dX11_ofState_92 : decode cX11_ofState 92 = .ok (.invokevirtual 316, 3) := op182 (bA_at bd03_dec_X11_1_113 2 rfl rfl) rfl
theorem dX11_ofState_95 : decode cX11_ofState 95 = .ok (.ifCond .eq 15, 3) := op153 (bA_at bd03_dec_X11_1_113 3 rfl rfl) (by decide +kernel)
theorem dX11_ofState_98 : decode cX11_ofState 98 = .ok (.aload_n 0, 1) := op42 (bA_at bd03_dec_X11_1_113 4 rfl rfl)
theorem dX11_ofState_99 : decode cX11_ofState 99 = .ok (.getfield 53, 3) := op180 (bA_at bd03_dec_X11_1_113 5 rfl rfl) rfl
theorem dX11_ofState_102 : decode cX11_ofState 102 = .ok (.iload_n 1, 1) := op27 (bA_at bd03_dec_X11_1_113 6 rfl rfl)
theorem dX11_ofState_103 : decode cX11_ofState 103 = .ok (.bipush 70, 2) := op16 (bA_at bd03_dec_X11_1_113 7 rfl rfl) (by decide +kernel)
theorem dX11_ofState_105 : decode cX11_ofState 105 = .ok (.isub, 1) := op100 (bA_at bd03_dec_X11_1_113 8 rfl rfl)
theorem dX11_ofState_106 : decode cX11_ofState 106 = .ok (.iaload, 1) := op46 (bA_at bd03_dec_X11_1_113 9 rfl rfl)
theorem dX11_ofState_107 : decode cX11_ofState 107 = .ok (.goto 6, 3) := op167 (bA_at bd03_dec_X11_1_113 10 rfl rfl) (by decide +kernel)
theorem dX11_ofState_110 : decode cX11_ofState 110 = .ok (.sipush (-1000), 3) := op17 (bA_at bd03_dec_X11_1_113 11 rfl rfl) (by decide +kernel)
theorem dX11_ofState_115 : decode cX11_ofState 115 = .ok (.tableswitch 58 0 4 #[33, 38, 43, 48, 53], 33) := by decide +kernel
theorem bd03_dec_X11_1_114 : ([(0, [172]), (1, [27]), (35, [42]), (36, [180, 1, 87]), (39, [172]), (40, [42]), (41, [180, 1, 90]), (44, [172]), (45, [42]), (46, [182, 1, 145]), (49, [172])] : List (Nat × List UInt8)).all (fun x => prB x.2 ((cX11_ofState.data.toList.drop 113).drop x.1)) = true := by decide +kernel
theorem dX11_ofState_113 : decode cX11_ofState 113 = .ok (.ireturn, 1) := op172 (bA_at bd03_dec_X11_1_114 0 rfl rfl)
theorem dX11_ofState_114 : decode cX11_ofState 114 = .ok (.iload_n 1, 1) := op27 (bA_at bd03_dec_X11_1_114 1 rfl rfl)
theorem dX11_ofState_148 : decode cX11_ofState 148 = .ok (.aload_n 0, 1) := op42 (bA_at bd03_dec_X11_1_114 2 rfl rfl)
theorem dX11_ofState_149 : decode cX11_ofState 149 = .ok (.getfield 343, 3) := op180 (bA_at bd03_dec_X11_1_114 3 rfl rfl) rfl
theorem dX11_ofState_152 : decode cX11_ofState 152 = .ok (.ireturn, 1) := op172 (bA_at bd03_dec_X11_1_114 4 rfl rfl)
theorem dX11_ofState_153 : decode cX11_ofState 153 = .ok (.aload_n 0, 1) := op42 (bA_at bd03_dec_X11_1_114 5 rfl rfl)
theorem dX11_ofState_154 : decode cX11_ofState 154 = .ok (.getfield 346, 3) := op180 (bA_at bd03_dec_X11_1_114 6 rfl rfl) rfl
theorem dX11_ofState_157 : decode cX11_ofState 157 = .ok (.ireturn, 1) := op172 (bA_at bd03_dec_X11_1_114 7 rfl rfl)
theorem dX11_ofState_158 : decode cX11_ofState 158 = .ok (.aload_n 0, 1) := op42 (bA_at bd03_dec_X11_1_114 8 rfl rfl)
theorem dX11_ofState_159 : decode cX11_ofState 159 = .ok (.invokevirtual 401, 3) := op182 (bA_at bd03_dec_X11_1_114 9 rfl rfl) rfl
theorem dX11_ofState_162 : decode cX11_ofState 162 = .ok (.ireturn, 1) := op172 (bA_at bd03_dec_X11_1_114 10 rfl rfl)
theorem bd03_dec_X11_1_115 : ([(0, [42]), (1, [180, 1, 84]), (4, [172]), (5, [42]), (6, [182, 1, 148]), (9, [172]), (10, [17, 252, 24]), (13, [172])] : List (Nat × List UInt8)).all (fun x => prB x.2 ((cX11_ofState.data.toList.drop 163).drop x.1)) = true := by decide +kernel
theorem dX11_ofState_163 : decode cX11_ofState 163 = .ok (.aload_n 0, 1) := op42 (bA_at bd03_dec_X11_1_115 0 rfl rfl)
theorem dX11_ofState_164 : decode cX11_ofState 164 = .ok (.getfield 340, 3) := op180 (bA_at bd03_dec_X11_1_115 1 rfl rfl) rfl
theorem dX11_ofState_167 : decode cX11_ofState 167 = .ok (.ireturn, 1) := op172 (bA_at bd03_dec_X11_1_115 2 rfl rfl)
theorem dX11_ofState_168 : decode cX11_ofState 168 = .ok (.aload_n 0, 1) := op42 (bA_at bd03_dec_X11_1_115 3 rfl rfl)
theorem dX11_ofState_169 : decode cX11_ofState 169 = .ok (.invokevirtual 404, 3) := op182 (bA_at bd03_dec_X11_1_115 4 rfl rfl) rfl
theorem dX11_ofState_172 : decode cX11_ofState 172 = .ok (.ireturn, 1) := op172 (bA_at bd03_dec_X11_1_115 5 rfl rfl)
theorem dX11_ofState_173 : decode cX11_ofState 173 = .ok (.sipush (-1000), 3) := op17 (bA_at bd03_dec_X11_1_115 6 rfl rfl) (by decide +kernel)
theorem dX11_ofState_176 : decode cX11_ofState 176 = .ok (.ireturn, 1) := op172 (bA_at bd03_dec_X11_1_115 7 rfl rfl)
theorem bd03_dec_X11_1_116 : ([(0, [42]), (1, [3]), (2, [181, 0, 97]), (5, [42]), (6, [27]), (7, [28]), (8, [182, 1, 127]), (11, [153, 0, 33]), (14, [29]), (15, [3]), (16, [42]), (17, [182, 1, 78])] : List (Nat × List UInt8)).all (fun x => prB x.2 ((cX11_state.data.toList.drop 0).drop x.1)) = true := by decide +kernel
theorem dX11_state_0 : decode cX11_state 0 = .ok (.aload_n 0, 1) := op42 (bA_at bd03_dec_X11_1_116 0 rfl rfl)
theorem dX11_state_1 : decode cX11_state 1 = .ok (.iconst 0, 1) := op3 (bA_at bd03_dec_X11_1_116 1 rfl rfl)
theorem dX11_state_2 : decode cX11_state 2 = .ok (.putfield 97, 3) := op181 (bA_at bd03_dec_X11_1_116 2 rfl rfl) rfl
theorem dX11_state_5 : decode cX11_state 5 = .ok (.aload_n 0, 1) := op42 (bA_at bd03_dec_X11_1_116 3 rfl rfl)
theorem dX11_state_6 : decode cX11_state 6 = .ok (.iload_n 1, 1) := op27 (bA_at bd03_dec_X11_1_116 4 rfl rfl)
theorem dX11_state_7 : decode cX11_state 7 = .ok (.iload_n 2, 1) := op28 (bA_at bd03_dec_X11_1_116 5 rfl rfl)
theorem dX11_state_8 : decode cX11_state 8 = .ok (.invokevirtual 383, 3) := op182 (bA_at bd03_dec_X11_1_116 6 rfl rfl) rfl
theorem dX11_state_11 : decode cX11_state 11 = .ok (.ifCond .eq 33, 3) := op153 (bA_at bd03_dec_X11_1_116 7 rfl rfl) (by decide +kernel)
theorem dX11_state_14 : decode cX11_state 14 = .ok (.iload_n 3, 1) := op29 (bA_at bd03_dec_X11_1_116 8 rfl rfl)
theorem dX11_state_15 : decode cX11_state 15 = .ok (.iconst 0, 1) := op3 (bA_at bd03_dec_X11_1_116 9 rfl rfl)
theorem dX11_state_16 : decode cX11_state 16 = .ok (.aload_n 0, 1) := op42 (bA_at bd03_dec_X11_1_116 10 rfl rfl)
theorem dX11_state_17 : decode cX11_state 17 = .ok (.invokevirtual 334, 3) := op182 (bA_at bd03_dec_X11_1_116 11 rfl rfl) rfl
theorem bd03_dec_X11_1_117 : ([(0, [184, 0, 109]), (3, [153, 0, 21]), (6, [42]), (7, [29]), (8, [182, 1, 130]), (11, [29]), (12, [160, 0, 12]), (15, [42]), (16, [21, 4]), (18, [182, 1, 151]), (21, [167, 0, 6]), (24, [17, 252, 24])] : List (Nat × List UInt8)).all (fun x => prB x.2 ((cX11_state.data.toList.drop 20).drop x.1)) = true := by decide +kernel
theorem dX11_state_20 : decode cX11_state 20 = .ok (.invokestatic 109, 3) := op184 (bA_at bd03_dec_X11_1_117 0 rfl rfl) rfl
theorem dX11_state_23 : decode cX11_state 23 = .ok (.ifCond .eq 21, 3) := op153 (bA_at bd03_dec_X11_1_117 1 rfl rfl) (by decide +kernel)
theorem dX11_state_26 : decode cX11_state 26 = .ok (.aload_n 0, 1) := op42 (bA_at bd03_dec_X11_1_117 2 rfl rfl)
theorem dX11_state_27 : decode cX11_state 27 = .ok (.iload_n 3, 1) := op29 (bA_at bd03_dec_X11_1_117 3 rfl rfl)
theorem dX11_state_28 : decode cX11_state 28 = .ok (.invokevirtual 386, 3) := op182 (bA_at bd03_dec_X11_1_117 4 rfl rfl) rfl
theorem dX11_state_31 : decode cX11_state 31 = .ok (.iload_n 3, 1) := op29 (bA_at bd03_dec_X11_1_117 5 rfl rfl)
theorem dX11_state_32 : decode cX11_state 32 = .ok (.if_icmp .ne 12, 3) := op160 (bA_at bd03_dec_X11_1_117 6 rfl rfl) (by decide +kernel)
theorem dX11_state_35 : decode cX11_state 35 = .ok (.aload_n 0, 1) := op42 (bA_at bd03_dec_X11_1_117 7 rfl rfl)
theorem dX11_state_36 : decode cX11_state 36 = .ok (.iload 4, 2) := op21 (bA_at bd03_dec_X11_1_117 8 rfl rfl) rfl
theorem dX11_state_38 : decode cX11_state 38 = .ok (.invokevirtual 407, 3) := op182 (bA_at bd03_dec_X11_1_117 9 rfl rfl) rfl
theorem dX11_state_41 : decode cX11_state 41 = .ok (.goto 6, 3) := op167 (bA_at bd03_dec_X11_1_117 10 rfl rfl) (by decide +kernel)
theorem dX11_state_44 : decode cX11_state 44 = .ok (.sipush (-1000), 3) := op17 (bA_at bd03_dec_X11_1_117 11 rfl rfl) (by decide +kernel)
theorem bd03_dec_X11_1_118 : ([(0, [172])] : List (Nat × List UInt8)).all (fun x => prB x.2 ((cX11_state.data.toList.drop 47).drop x.1)) = true := by decide +kernel
theorem dX11_state_47 : decode cX11_state 47 = .ok (.ireturn, 1) := op172 (bA_at bd03_dec_X11_1_118 0 rfl rfl)
theorem bd03_dec_X11_1_119 : ([(0, [42]), (1, [6]), (2, [182, 1, 47]), (5, [28]), (6, [128]), (7, [62]), (8, [3]), (9, [54, 4]), (11, [21, 4]), (13, [16, 9]), (15, [162, 0, 38]), (18, [42])] : List (Nat × List UInt8)).all (fun x => prB x.2 ((cX11_findRun.data.toList.drop 0).drop x.1)) = true := by decide +kernel
theorem dX11_findRun_0 : decode cX11_findRun 0 = .ok (.aload_n 0, 1) := op42 (bA_at bd03_dec_X11_1_119 0 rfl rfl)
theorem dX11_findRun_1 : decode cX11_findRun 1 = .ok (.iconst 3, 1) := op6 (bA_at bd03_dec_X11_1_119 1 rfl rfl)
theorem dX11_findRun_2 : decode cX11_findRun 2 = .ok (.invokevirtual 303, 3) := op182 (bA_at bd03_dec_X11_1_119 2 rfl rfl) rfl
theorem dX11_findRun_5 : decode cX11_findRun 5 = .ok (.iload_n 2, 1) := op28 (bA_at bd03_dec_X11_1_119 3 rfl rfl)
theorem dX11_findRun_6 : decode cX11_findRun 6 = .ok (.ior, 1) := op128 (bA_at bd03_dec_X11_1_119 4 rfl rfl)
theorem dX11_findRun_7 : decode cX11_findRun 7 = .ok (.istore_n 3, 1) := op62 (bA_at bd03_dec_X11_1_119 5 rfl rfl)
theorem dX11_findRun_8 : decode cX11_findRun 8 = .ok (.iconst 0, 1) := op3 (bA_at bd03_dec_X11_1_119 6 rfl rfl)
theorem dX11_findRun_9 : decode cX11_findRun 9 = .ok (.istore 4, 2) := op54 (bA_at bd03_dec_X11_1_119 7 rfl rfl) rfl
theorem dX11_findRun_11 : decode cX11_findRun 11 = .ok (.iload 4, 2) := op21 (bA_at bd03_dec_X11_1_119 8 rfl rfl) rfl
theorem dX11_findRun_13 : decode cX11_findRun 13 = .ok (.bipush 9, 2) := op16 (bA_at bd03_dec_X11_1_119 9 rfl rfl) (by decide +kernel)
theorem dX11_findRun_15 : decode cX11_findRun 15 = .ok (.if_icmp .ge 38, 3) := op162 (bA_at bd03_dec_X11_1_119 10 rfl rfl) (by decide +kernel)
theorem dX11_findRun_18 : decode cX11_findRun 18 = .ok (.aload_n 0, 1) := op42 (bA_at bd03_dec_X11_1_119 11 rfl rfl)
theorem bd03_dec_X11_1_120 : ([(0, [180, 0, 59]), (3, [21, 4]), (5, [21, 4]), (7, [27]), (8, [160, 0, 16]), (11, [29]), (12, [21, 4]), (14, [184, 0, 101]), (17, [154, 0, 7]), (20, [3]), (21, [167, 0, 6]), (24, [19, 1, 154])] : List (Nat × List UInt8)).all (fun x => prB x.2 ((cX11_findRun.data.toList.drop 19).drop x.1)) = true := by decide +kernel
theorem dX11_findRun_19 : decode cX11_findRun 19 = .ok (.getfield 59, 3) := op180 (bA_at bd03_dec_X11_1_120 0 rfl rfl) rfl
theorem dX11_findRun_22 : decode cX11_findRun 22 = .ok (.iload 4, 2) := op21 (bA_at bd03_dec_X11_1_120 1 rfl rfl) rfl
theorem dX11_findRun_24 : decode cX11_findRun 24 = .ok (.iload 4, 2) := op21 (bA_at bd03_dec_X11_1_120 2 rfl rfl) rfl
theorem dX11_findRun_26 : decode cX11_findRun 26 = .ok (.iload_n 1, 1) := op27 (bA_at bd03_dec_X11_1_120 3 rfl rfl)
theorem dX11_findRun_27 : decode cX11_findRun 27 = .ok (.if_icmp .ne 16, 3) := op160 (bA_at bd03_dec_X11_1_120 4 rfl rfl) (by decide +kernel)
theorem dX11_findRun_30 : decode cX11_findRun 30 = .ok (.iload_n 3, 1) := op29 (bA_at bd03_dec_X11_1_120 5 rfl rfl)
theorem dX11_findRun_31 : decode cX11_findRun 31 = .ok (.iload 4, 2) := op21 (bA_at bd03_dec_X11_1_120 6 rfl rfl) rfl
theorem dX11_findRun_33 : decode cX11_findRun 33 = .ok (.invokestatic 101, 3) := op184 (bA_at bd03_dec_X11_1_120 7 rfl rfl) rfl
theorem dX11_findRun_36 : decode cX11_findRun 36 = .ok (.ifCond .ne 7, 3) := op154 (bA_at bd03_dec_X11_1_120 8 rfl rfl) (by decide +kernel)
theorem dX11_findRun_39 : decode cX11_findRun 39 = .ok (.iconst 0, 1) := op3 (bA_at bd03_dec_X11_1_120 9 rfl rfl)
theorem dX11_findRun_40 : decode cX11_findRun 40 = .ok (.goto 6, 3) := op167 (bA_at bd03_dec_X11_1_120 10 rfl rfl) (by decide +kernel)
theorem dX11_findRun_43 : decode cX11_findRun 43 = .ok (.ldc_w 410, 3) := op19 (bA_at bd03_dec_X11_1_120 11 rfl rfl) rfl
theorem bd03_dec_X11_1_121 : ([(0, [79]), (1, [132, 4, 1]), (4, [167, 255, 217]), (7, [3]), (8, [54, 4]), (10, [21, 4]), (12, [42]), (13, [180, 1, 51]), (16, [162, 0, 221]), (19, [3]), (20, [54, 5]), (22, [21, 5])] : List (Nat × List UInt8)).all (fun x => prB x.2 ((cX11_findRun.data.toList.drop 46).drop x.1)) = true := by decide +kernel
theorem dX11_findRun_46 : decode cX11_findRun 46 = .ok (.iastore, 1) := op79 (bA_at bd03_dec_X11_1_121 0 rfl rfl)
theorem dX11_findRun_47 : decode cX11_findRun 47 = .ok (.iinc 4 1, 3) := op132 (bA_at bd03_dec_X11_1_121 1 rfl rfl) rfl (by decide +kernel)
theorem dX11_findRun_50 : decode cX11_findRun 50 = .ok (.goto (-39), 3) := op167 (bA_at bd03_dec_X11_1_121 2 rfl rfl) (by decide +kernel)
theorem dX11_findRun_53 : decode cX11_findRun 53 = .ok (.iconst 0, 1) := op3 (bA_at bd03_dec_X11_1_121 3 rfl rfl)
theorem dX11_findRun_54 : decode cX11_findRun 54 = .ok (.istore 4, 2) := op54 (bA_at bd03_dec_X11_1_121 4 rfl rfl) rfl
theorem dX11_findRun_56 : decode cX11_findRun 56 = .ok (.iload 4, 2) := op21 (bA_at bd03_dec_X11_1_121 5 rfl rfl) rfl
theorem dX11_findRun_58 : decode cX11_findRun 58 = .ok (.aload_n 0, 1) := op42 (bA_at bd03_dec_X11_1_121 6 rfl rfl)
theorem dX11_findRun_59 : decode cX11_findRun 59 = .ok (.getfield 307, 3) := op180 (bA_at bd03_dec_X11_1_121 7 rfl rfl) rfl
theorem dX11_findRun_62 : decode cX11_findRun 62 = .ok (.if_icmp .ge 221, 3) := op162 (bA_at bd03_dec_X11_1_121 8 rfl rfl) (by decide +kernel)
theorem dX11_findRun_65 : decode cX11_findRun 65 = .ok (.iconst 0, 1) := op3 (bA_at bd03_dec_X11_1_121 9 rfl rfl)
theorem dX11_findRun_66 : decode cX11_findRun 66 = .ok (.istore 5, 2) := op54 (bA_at bd03_dec_X11_1_121 10 rfl rfl) rfl
theorem dX11_findRun_68 : decode cX11_findRun 68 = .ok (.iload 5, 2) := op21 (bA_at bd03_dec_X11_1_121 11 rfl rfl) rfl
theorem bd03_dec_X11_1_122 : ([(0, [42]), (1, [180, 1, 51]), (4, [162, 0, 117]), (7, [3]), (8, [54, 6]), (10, [21, 6]), (12, [42]), (13, [180, 1, 51]), (16, [162, 0, 99]), (19, [42]), (20, [21, 5]), (22, [21, 6])] : List (Nat × List UInt8)).all (fun x => prB x.2 ((cX11_findRun.data.toList.drop 70).drop x.1)) = true := by decide +kernel
theorem dX11_findRun_70 : decode cX11_findRun 70 = .ok (.aload_n 0, 1) := op42 (bA_at bd03_dec_X11_1_122 0 rfl rfl)
theorem dX11_findRun_71 : decode cX11_findRun 71 = .ok (.getfield 307, 3) := op180 (bA_at bd03_dec_X11_1_122 1 rfl rfl) rfl
theorem dX11_findRun_74 : decode cX11_findRun 74 = .ok (.if_icmp .ge 117, 3) := op162 (bA_at bd03_dec_X11_1_122 2 rfl rfl) (by decide +kernel)
theorem dX11_findRun_77 : decode cX11_findRun 77 = .ok (.iconst 0, 1) := op3 (bA_at bd03_dec_X11_1_122 3 rfl rfl)
theorem dX11_findRun_78 : decode cX11_findRun 78 = .ok (.istore 6, 2) := op54 (bA_at bd03_dec_X11_1_122 4 rfl rfl) rfl
theorem dX11_findRun_80 : decode cX11_findRun 80 = .ok (.iload 6, 2) := op21 (bA_at bd03_dec_X11_1_122 5 rfl rfl) rfl
theorem dX11_findRun_82 : decode cX11_findRun 82 = .ok (.aload_n 0, 1) := op42 (bA_at bd03_dec_X11_1_122 6 rfl rfl)
theorem dX11_findRun_83 : decode cX11_findRun 83 = .ok (.getfield 307, 3) := op180 (bA_at bd03_dec_X11_1_122 7 rfl rfl) rfl
theorem dX11_findRun_86 : decode cX11_findRun 86 = .ok (.if_icmp .ge 99, 3) := op162 (bA_at bd03_dec_X11_1_122 8 rfl rfl) (by decide +kernel)
theorem dX11_findRun_89 : decode cX11_findRun 89 = .ok (.aload_n 0, 1) := op42 (bA_at bd03_dec_X11_1_122 9 rfl rfl)
theorem dX11_findRun_90 : decode cX11_findRun 90 = .ok (.iload 5, 2) := op21 (bA_at bd03_dec_X11_1_122 10 rfl rfl) rfl
theorem dX11_findRun_92 : decode cX11_findRun 92 = .ok (.iload 6, 2) := op21 (bA_at bd03_dec_X11_1_122 11 rfl rfl) rfl
theorem bd03_dec_X11_1_123 : ([(0, [182, 1, 63]), (3, [158, 0, 31]), (6, [42]), (7, [21, 6]), (9, [182, 1, 66]), (12, [42]), (13, [21, 5]), (15, [182, 1, 66]), (18, [162, 0, 16]), (21, [29]), (22, [21, 6]), (24, [184, 0, 101])] : List (Nat × List UInt8)).all (fun x => prB x.2 ((cX11_findRun.data.toList.drop 94).drop x.1)) = true := by decide +kernel
theorem dX11_findRun_94 : decode cX11_findRun 94 = .ok (.invokevirtual 319, 3) := op182 (bA_at bd03_dec_X11_1_123 0 rfl rfl) rfl
theorem dX11_findRun_97 : decode cX11_findRun 97 = .ok (.ifCond .le 31, 3) := op158 (bA_at bd03_dec_X11_1_123 1 rfl rfl) (by decide +kernel)
theorem dX11_findRun_100 : decode cX11_findRun 100 = .ok (.aload_n 0, 1) := op42 (bA_at bd03_dec_X11_1_123 2 rfl rfl)
theorem dX11_findRun_101 : decode cX11_findRun 101 = .ok (.iload 6, 2) := op21 (bA_at bd03_dec_X11_1_123 3 rfl rfl) rfl
theorem dX11_findRun_103 : decode cX11_findRun 103 = .ok (.invokevirtual 322, 3) := op182 (bA_at bd03_dec_X11_1_123 4 rfl rfl) rfl
theorem dX11_findRun_106 : decode cX11_findRun 106 = .ok (.aload_n 0, 1) := op42 (bA_at bd03_dec_X11_1_123 5 rfl rfl)
theorem dX11_findRun_107 : decode cX11_findRun 107 = .ok (.iload 5, 2) := op21 (bA_at bd03_dec_X11_1_123 6 rfl rfl) rfl
theorem dX11_findRun_109 : decode cX11_findRun 109 = .ok (.invokevirtual 322, 3) := op182 (bA_at bd03_dec_X11_1_123 7 rfl rfl) rfl
theorem dX11_findRun_112 : decode cX11_findRun 112 = .ok (.if_icmp .ge 16, 3) := op162 (bA_at bd03_dec_X11_1_123 8 rfl rfl) (by decide +kernel)
theorem dX11_findRun_115 : decode cX11_findRun 115 = .ok (.iload_n 3, 1) := op29 (bA_at bd03_dec_X11_1_123 9 rfl rfl)
theorem dX11_findRun_116 : decode cX11_findRun 116 = .ok (.iload 6, 2) := op21 (bA_at bd03_dec_X11_1_123 10 rfl rfl) rfl
theorem dX11_findRun_118 : decode cX11_findRun 118 = .ok (.invokestatic 101, 3) := op184 (bA_at bd03_dec_X11_1_123 11 rfl rfl) rfl
theorem bd03_dec_X11_1_124 : ([(0, [154, 0, 7]), (3, [4]), (4, [167, 0, 4]), (7, [3]), (8, [54, 7]), (10, [42]), (11, [180, 0, 59]), (14, [21, 6]), (16, [21, 7]), (18, [153, 0, 32]), (21, [42]), (22, [180, 0, 59])] : List (Nat × List UInt8)).all (fun x => prB x.2 ((cX11_findRun.data.toList.drop 121).drop x.1)) = true := by decide +kernel
theorem dX11_findRun_121 : decode cX11_findRun 121 = .ok (.ifCond .ne 7, 3) := op154 (bA_at bd03_dec_X11_1_124 0 rfl rfl) (by decide +kernel)
theorem dX11_findRun_124 : decode cX11_findRun 124 = .ok (.iconst 1, 1) := op4 (bA_at bd03_dec_X11_1_124 1 rfl rfl)
theorem dX11_findRun_125 : decode cX11_findRun 125 = .ok (.goto 4, 3) := op167 (bA_at bd03_dec_X11_1_124 2 rfl rfl) (by decide +kernel)
theorem dX11_findRun_128 : decode cX11_findRun 128 = .ok (.iconst 0, 1) := op3 (bA_at bd03_dec_X11_1_124 3 rfl rfl)
theorem dX11_findRun_129 : decode cX11_findRun 129 = .ok (.istore 7, 2) := op54 (bA_at bd03_dec_X11_1_124 4 rfl rfl) rfl
theorem dX11_findRun_131 : decode cX11_findRun 131 = .ok (.aload_n 0, 1) := op42 (bA_at bd03_dec_X11_1_124 5 rfl rfl)
theorem dX11_findRun_132 : decode cX11_findRun 132 = .ok (.getfield 59, 3) := op180 (bA_at bd03_dec_X11_1_124 6 rfl rfl) rfl
theorem dX11_findRun_135 : decode cX11_findRun 135 = .ok (.iload 6, 2) := op21 (bA_at bd03_dec_X11_1_124 7 rfl rfl) rfl
theorem dX11_findRun_137 : decode cX11_findRun 137 = .ok (.iload 7, 2) := op21 (bA_at bd03_dec_X11_1_124 8 rfl rfl) rfl
theorem dX11_findRun_139 : decode cX11_findRun 139 = .ok (.ifCond .eq 32, 3) := op153 (bA_at bd03_dec_X11_1_124 9 rfl rfl) (by decide +kernel)
theorem dX11_findRun_142 : decode cX11_findRun 142 = .ok (.aload_n 0, 1) := op42 (bA_at bd03_dec_X11_1_124 10 rfl rfl)
theorem dX11_findRun_143 : decode cX11_findRun 143 = .ok (.getfield 59, 3) := op180 (bA_at bd03_dec_X11_1_124 11 rfl rfl) rfl
theorem bd03_dec_X11_1_125 : ([(0, [21, 6]), (2, [46]), (3, [42]), (4, [180, 0, 59]), (7, [21, 5]), (9, [46]), (10, [42]), (11, [21, 5]), (13, [21, 6]), (15, [182, 1, 63]), (18, [96]), (19, [184, 1, 155])] : List (Nat × List UInt8)).all (fun x => prB x.2 ((cX11_findRun.data.toList.drop 146).drop x.1)) = true := by decide +kernel
theorem dX11_findRun_146 : decode cX11_findRun 146 = .ok (.iload 6, 2) := op21 (bA_at bd03_dec_X11_1_125 0 rfl rfl) rfl
theorem dX11_findRun_148 : decode cX11_findRun 148 = .ok (.iaload, 1) := op46 (bA_at bd03_dec_X11_1_125 1 rfl rfl)
theorem dX11_findRun_149 : decode cX11_findRun 149 = .ok (.aload_n 0, 1) := op42 (bA_at bd03_dec_X11_1_125 2 rfl rfl)
theorem dX11_findRun_150 : decode cX11_findRun 150 = .ok (.getfield 59, 3) := op180 (bA_at bd03_dec_X11_1_125 3 rfl rfl) rfl
theorem dX11_findRun_153 : decode cX11_findRun 153 = .ok (.iload 5, 2) := op21 (bA_at bd03_dec_X11_1_125 4 rfl rfl) rfl
theorem dX11_findRun_155 : decode cX11_findRun 155 = .ok (.iaload, 1) := op46 (bA_at bd03_dec_X11_1_125 5 rfl rfl)
theorem dX11_findRun_156 : decode cX11_findRun 156 = .ok (.aload_n 0, 1) := op42 (bA_at bd03_dec_X11_1_125 6 rfl rfl)
theorem dX11_findRun_157 : decode cX11_findRun 157 = .ok (.iload 5, 2) := op21 (bA_at bd03_dec_X11_1_125 7 rfl rfl) rfl
theorem dX11_findRun_159 : decode cX11_findRun 159 = .ok (.iload 6, 2) := op21 (bA_at bd03_dec_X11_1_125 8 rfl rfl) rfl
theorem dX11_findRun_161 : decode cX11_findRun 161 = .ok (.invokevirtual 319, 3) := op182 (bA_at bd03_dec_X11_1_125 9 rfl rfl) rfl
theorem dX11_findRun_164 : decode cX11_findRun 164 = .ok (.iadd, 1) := op96 (bA_at bd03_dec_X11_1_125 10 rfl rfl)
theorem dX11_findRun_165 : decode cX11_findRun 165 = .ok (.invokestatic 411, 3) := op184 (bA_at bd03_dec_X11_1_125 11 rfl rfl) rfl
theorem bd03_dec_X11_1_126 : ([(0, [167, 0, 10]), (3, [42]), (4, [180, 0, 59]), (7, [21, 6]), (9, [46]), (10, [79]), (11, [132, 6, 1]), (14, [167, 255, 154]), (17, [132, 5, 1]), (20, [167, 255, 136]), (23, [3]), (24, [54, 5])] : List (Nat × List UInt8)).all (fun x => prB x.2 ((cX11_findRun.data.toList.drop 168).drop x.1)) = true := by decide +kernel
theorem dX11_findRun_168 : decode cX11_findRun 168 = .ok (.goto 10, 3) := op167 (bA_at bd03_dec_X11_1_126 0 rfl rfl) (by decide +kernel)
theorem dX11_findRun_171 : decode cX11_findRun 171 = .ok (.aload_n 0, 1) := op42 (bA_at bd03_dec_X11_1_126 1 rfl rfl)
theorem dX11_findRun_172 : decode cX11_findRun 172 = .ok (.getfield 59, 3) := op180 (bA_at bd03_dec_X11_1_126 2 rfl rfl) rfl
theorem dX11_findRun_175 : decode cX11_findRun 175 = .ok (.iload 6, 2) := op21 (bA_at bd03_dec_X11_1_126 3 rfl rfl) rfl
theorem dX11_findRun_177 : decode cX11_findRun 177 = .ok (.iaload, 1) := op46 (bA_at bd03_dec_X11_1_126 4 rfl rfl)
theorem dX11_findRun_178 : decode cX11_findRun 178 = .ok (.iastore, 1) := op79 (bA_at bd03_dec_X11_1_126 5 rfl rfl)
theorem dX11_findRun_179 : decode cX11_findRun 179 = .ok (.iinc 6 1, 3) := op132 (bA_at bd03_dec_X11_1_126 6 rfl rfl) rfl (by decide +kernel)
theorem dX11_findRun_182 : decode cX11_findRun 182 = .ok (.goto (-102), 3) := op167 (bA_at bd03_dec_X11_1_126 7 rfl rfl) (by decide +kernel)
theorem dX11_findRun_185 : decode cX11_findRun 185 = .ok (.iinc 5 1, 3) := op132 (bA_at bd03_dec_X11_1_126 8 rfl rfl) rfl (by decide +kernel)
theorem dX11_findRun_188 : decode cX11_findRun 188 = .ok (.goto (-120), 3) := op167 (bA_at bd03_dec_X11_1_126 9 rfl rfl) (by decide +kernel)
theorem dX11_findRun_191 : decode cX11_findRun 191 = .ok (.iconst 0, 1) := op3 (bA_at bd03_dec_X11_1_126 10 rfl rfl)
theorem dX11_findRun_192 : decode cX11_findRun 192 = .ok (.istore 5, 2) := op54 (bA_at bd03_dec_X11_1_126 11 rfl rfl) rfl
theorem bd03_dec_X11_1_127 : ([(0, [21, 5]), (2, [42]), (3, [7]), (4, [182, 1, 47]), (7, [162, 0, 76]), (10, [42]), (11, [16, 43]), (13, [5]), (14, [21, 5]), (16, [104]), (17, [96]), (18, [4])] : List (Nat × List UInt8)).all (fun x => prB x.2 ((cX11_findRun.data.toList.drop 194).drop x.1)) = true := by decide +kernel
theorem dX11_findRun_194 : decode cX11_findRun 194 = .ok (.iload 5, 2) := op21 (bA_at bd03_dec_X11_1_127 0 rfl rfl) rfl
theorem dX11_findRun_196 : decode cX11_findRun 196 = .ok (.aload_n 0, 1) := op42 (bA_at bd03_dec_X11_1_127 1 rfl rfl)
theorem dX11_findRun_197 : decode cX11_findRun 197 = .ok (.iconst 4, 1) := op7 (bA_at bd03_dec_X11_1_127 2 rfl rfl)
theorem dX11_findRun_198 : decode cX11_findRun 198 = .ok (.invokevirtual 303, 3) := op182 (bA_at bd03_dec_X11_1_127 3 rfl rfl) rfl
theorem dX11_findRun_201 : decode cX11_findRun 201 = .ok (.if_icmp .ge 76, 3) := op162 (bA_at bd03_dec_X11_1_127 4 rfl rfl) (by decide +kernel)
theorem dX11_findRun_204 : decode cX11_findRun 204 = .ok (.aload_n 0, 1) := op42 (bA_at bd03_dec_X11_1_127 5 rfl rfl)
theorem dX11_findRun_205 : decode cX11_findRun 205 = .ok (.bipush 43, 2) := op16 (bA_at bd03_dec_X11_1_127 6 rfl rfl) (by decide +kernel)
theorem dX11_findRun_207 : decode cX11_findRun 207 = .ok (.iconst 2, 1) := op5 (bA_at bd03_dec_X11_1_127 7 rfl rfl)
theorem dX11_findRun_208 : decode cX11_findRun 208 = .ok (.iload 5, 2) := op21 (bA_at bd03_dec_X11_1_127 8 rfl rfl) rfl
theorem dX11_findRun_210 : decode cX11_findRun 210 = .ok (.imul, 1) := op104 (bA_at bd03_dec_X11_1_127 9 rfl rfl)
theorem dX11_findRun_211 : decode cX11_findRun 211 = .ok (.iadd, 1) := op96 (bA_at bd03_dec_X11_1_127 10 rfl rfl)
theorem dX11_findRun_212 : decode cX11_findRun 212 = .ok (.iconst 1, 1) := op4 (bA_at bd03_dec_X11_1_127 11 rfl rfl)
theorem bd03_dec_X11_1_128 : ([(0, [96]), (1, [182, 1, 47]), (4, [54, 6]), (6, [42]), (7, [180, 0, 59]), (10, [21, 6]), (12, [29]), (13, [21, 6]), (15, [184, 0, 101]), (18, [153, 0, 13]), (21, [42]), (22, [180, 0, 59])] : List (Nat × List UInt8)).all (fun x => prB x.2 ((cX11_findRun.data.toList.drop 213).drop x.1)) = true := by decide +kernel
theorem dX11_findRun_213 : decode cX11_findRun 213 = .ok (.iadd, 1) := op96 (bA_at bd03_dec_X11_1_128 0 rfl rfl)
theorem dX11_findRun_214 : decode cX11_findRun 214 = .ok (.invokevirtual 303, 3) := op182 (bA_at bd03_dec_X11_1_128 1 rfl rfl) rfl
theorem dX11_findRun_217 : decode cX11_findRun 217 = .ok (.istore 6, 2) := op54 (bA_at bd03_dec_X11_1_128 2 rfl rfl) rfl
theorem dX11_findRun_219 : decode cX11_findRun 219 = .ok (.aload_n 0, 1) := op42 (bA_at bd03_dec_X11_1_128 3 rfl rfl)
theorem dX11_findRun_220 : decode cX11_findRun 220 = .ok (.getfield 59, 3) := op180 (bA_at bd03_dec_X11_1_128 4 rfl rfl) rfl
theorem dX11_findRun_223 : decode cX11_findRun 223 = .ok (.iload 6, 2) := op21 (bA_at bd03_dec_X11_1_128 5 rfl rfl) rfl
theorem dX11_findRun_225 : decode cX11_findRun 225 = .ok (.iload_n 3, 1) := op29 (bA_at bd03_dec_X11_1_128 6 rfl rfl)
theorem dX11_findRun_226 : decode cX11_findRun 226 = .ok (.iload 6, 2) := op21 (bA_at bd03_dec_X11_1_128 7 rfl rfl) rfl
theorem dX11_findRun_228 : decode cX11_findRun 228 = .ok (.invokestatic 101, 3) := op184 (bA_at bd03_dec_X11_1_128 8 rfl rfl) rfl
theorem dX11_findRun_231 : decode cX11_findRun 231 = .ok (.ifCond .eq 13, 3) := op153 (bA_at bd03_dec_X11_1_128 9 rfl rfl) (by decide +kernel)
theorem dX11_findRun_234 : decode cX11_findRun 234 = .ok (.aload_n 0, 1) := op42 (bA_at bd03_dec_X11_1_128 10 rfl rfl)
theorem dX11_findRun_235 : decode cX11_findRun 235 = .ok (.getfield 59, 3) := op180 (bA_at bd03_dec_X11_1_128 11 rfl rfl) rfl
theorem bd03_dec_X11_1_129 : ([(0, [21, 6]), (2, [46]), (3, [167, 0, 29]), (6, [42]), (7, [180, 0, 59]), (10, [21, 6]), (12, [46]), (13, [42]), (14, [180, 0, 59]), (17, [42]), (18, [16, 43]), (20, [5])] : List (Nat × List UInt8)).all (fun x => prB x.2 ((cX11_findRun.data.toList.drop 238).drop x.1)) = true := by decide +kernel
theorem dX11_findRun_238 : decode cX11_findRun 238 = .ok (.iload 6, 2) := op21 (bA_at bd03_dec_X11_1_129 0 rfl rfl) rfl
theorem dX11_findRun_240 : decode cX11_findRun 240 = .ok (.iaload, 1) := op46 (bA_at bd03_dec_X11_1_129 1 rfl rfl)
theorem dX11_findRun_241 : decode cX11_findRun 241 = .ok (.goto 29, 3) := op167 (bA_at bd03_dec_X11_1_129 2 rfl rfl) (by decide +kernel)
theorem dX11_findRun_244 : decode cX11_findRun 244 = .ok (.aload_n 0, 1) := op42 (bA_at bd03_dec_X11_1_129 3 rfl rfl)
theorem dX11_findRun_245 : decode cX11_findRun 245 = .ok (.getfield 59, 3) := op180 (bA_at bd03_dec_X11_1_129 4 rfl rfl) rfl
theorem dX11_findRun_248 : decode cX11_findRun 248 = .ok (.iload 6, 2) := op21 (bA_at bd03_dec_X11_1_129 5 rfl rfl) rfl
theorem dX11_findRun_250 : decode cX11_findRun 250 = .ok (.iaload, 1) := op46 (bA_at bd03_dec_X11_1_129 6 rfl rfl)
theorem dX11_findRun_251 : decode cX11_findRun 251 = .ok (.aload_n 0, 1) := op42 (bA_at bd03_dec_X11_1_129 7 rfl rfl)
theorem dX11_findRun_252 : decode cX11_findRun 252 = .ok (.getfield 59, 3) := op180 (bA_at bd03_dec_X11_1_129 8 rfl rfl) rfl
theorem dX11_findRun_255 : decode cX11_findRun 255 = .ok (.aload_n 0, 1) := op42 (bA_at bd03_dec_X11_1_129 9 rfl rfl)
theorem dX11_findRun_256 : decode cX11_findRun 256 = .ok (.bipush 43, 2) := op16 (bA_at bd03_dec_X11_1_129 10 rfl rfl) (by decide +kernel)
theorem dX11_findRun_258 : decode cX11_findRun 258 = .ok (.iconst 2, 1) := op5 (bA_at bd03_dec_X11_1_129 11 rfl rfl)
theorem bd03_dec_X11_1_130 : ([(0, [21, 5]), (2, [104]), (3, [96]), (4, [182, 1, 47]), (7, [46]), (8, [184, 1, 155]), (11, [79]), (12, [132, 5, 1]), (15, [167, 255, 176]), (18, [132, 4, 1]), (21, [167, 255, 32]), (24, [177])] : List (Nat × List UInt8)).all (fun x => prB x.2 ((cX11_findRun.data.toList.drop 259).drop x.1)) = true := by decide +kernel
theorem dX11_findRun_259 : decode cX11_findRun 259 = .ok (.iload 5, 2) := op21 (bA_at bd03_dec_X11_1_130 0 rfl rfl) rfl
theorem dX11_findRun_261 : decode cX11_findRun 261 = .ok (.imul, 1) := op104 (bA_at bd03_dec_X11_1_130 1 rfl rfl)
theorem dX11_findRun_262 : decode cX11_findRun 262 = .ok (.iadd, 1) := op96 (bA_at bd03_dec_X11_1_130 2 rfl rfl)
theorem dX11_findRun_263 : decode cX11_findRun 263 = .ok (.invokevirtual 303, 3) := op182 (bA_at bd03_dec_X11_1_130 3 rfl rfl) rfl
theorem dX11_findRun_266 : decode cX11_findRun 266 = .ok (.iaload, 1) := op46 (bA_at bd03_dec_X11_1_130 4 rfl rfl)
theorem dX11_findRun_267 : decode cX11_findRun 267 = .ok (.invokestatic 411, 3) := op184 (bA_at bd03_dec_X11_1_130 5 rfl rfl) rfl
theorem dX11_findRun_270 : decode cX11_findRun 270 = .ok (.iastore, 1) := op79 (bA_at bd03_dec_X11_1_130 6 rfl rfl)
theorem dX11_findRun_271 : decode cX11_findRun 271 = .ok (.iinc 5 1, 3) := op132 (bA_at bd03_dec_X11_1_130 7 rfl rfl) rfl (by decide +kernel)
theorem dX11_findRun_274 : decode cX11_findRun 274 = .ok (.goto (-80), 3) := op167 (bA_at bd03_dec_X11_1_130 8 rfl rfl) (by decide +kernel)
theorem dX11_findRun_277 : decode cX11_findRun 277 = .ok (.iinc 4 1, 3) := op132 (bA_at bd03_dec_X11_1_130 9 rfl rfl) rfl (by decide +kernel)
theorem dX11_findRun_280 : decode cX11_findRun 280 = .ok (.goto (-224), 3) := op167 (bA_at bd03_dec_X11_1_130 10 rfl rfl) (by decide +kernel)
theorem dX11_findRun_283 : decode cX11_findRun 283 = .ok (.return_, 1) := op177 (bA_at bd03_dec_X11_1_130 11 rfl rfl)
theorem bd03_dec_X11_1_131 : ([(0, [26]), (1, [19, 1, 154]), (4, [161, 0, 7]), (7, [2]), (8, [167, 0, 4]), (11, [26]), (12, [172])] : List (Nat × List UInt8)).all (fun x => prB x.2 ((cX11_known.data.toList.drop 0).drop x.1)) = true := by decide +kernel
theorem dX11_known_0 : decode cX11_known 0 = .ok (.iload_n 0, 1) := op26 (bA_at bd03_dec_X11_1_131 0 rfl rfl)
theorem dX11_known_1 : decode cX11_known 1 = .ok (.ldc_w 410, 3) := op19 (bA_at bd03_dec_X11_1_131 1 rfl rfl) rfl
theorem dX11_known_4 : decode cX11_known 4 = .ok (.if_icmp .lt 7, 3) := op161 (bA_at bd03_dec_X11_1_131 2 rfl rfl) (by decide +kernel)
theorem dX11_known_7 : decode cX11_known 7 = .ok (.iconst (-1), 1) := op2 (bA_at bd03_dec_X11_1_131 3 rfl rfl)
theorem dX11_known_8 : decode cX11_known 8 = .ok (.goto 4, 3) := op167 (bA_at bd03_dec_X11_1_131 4 rfl rfl) (by decide +kernel)
theorem dX11_known_11 : decode cX11_known 11 = .ok (.iload_n 0, 1) := op26 (bA_at bd03_dec_X11_1_131 5 rfl rfl)
theorem dX11_known_12 : decode cX11_known 12 = .ok (.ireturn, 1) := op172 (bA_at bd03_dec_X11_1_131 6 rfl rfl)
theorem bd03_dec_X11_1_132 : ([(0, [42]), (1, [3]), (2, [181, 0, 97]), (5, [42]), (6, [27]), (7, [182, 1, 57]), (10, [153, 0, 19]), (13, [42]), (14, [28]), (15, [182, 1, 60]), (18, [153, 0, 11]), (21, [42])] : List (Nat × List UInt8)).all (fun x => prB x.2 ((cX11_comes.data.toList.drop 0).drop x.1)) = true := by decide +kernel
theorem dX11_comes_0 : decode cX11_comes 0 = .ok (.aload_n 0, 1) := op42 (bA_at bd03_dec_X11_1_132 0 rfl rfl)
theorem dX11_comes_1 : decode cX11_comes 1 = .ok (.iconst 0, 1) := op3 (bA_at bd03_dec_X11_1_132 1 rfl rfl)
theorem dX11_comes_2 : decode cX11_comes 2 = .ok (.putfield 97, 3) := op181 (bA_at bd03_dec_X11_1_132 2 rfl rfl) rfl
theorem dX11_comes_5 : decode cX11_comes 5 = .ok (.aload_n 0, 1) := op42 (bA_at bd03_dec_X11_1_132 3 rfl rfl)
theorem dX11_comes_6 : decode cX11_comes 6 = .ok (.iload_n 1, 1) := op27 (bA_at bd03_dec_X11_1_132 4 rfl rfl)
theorem dX11_comes_7 : decode cX11_comes 7 = .ok (.invokevirtual 313, 3) := op182 (bA_at bd03_dec_X11_1_132 5 rfl rfl) rfl
theorem dX11_comes_10 : decode cX11_comes 10 = .ok (.ifCond .eq 19, 3) := op153 (bA_at bd03_dec_X11_1_132 6 rfl rfl) (by decide +kernel)
theorem dX11_comes_13 : decode cX11_comes 13 = .ok (.aload_n 0, 1) := op42 (bA_at bd03_dec_X11_1_132 7 rfl rfl)
theorem dX11_comes_14 : decode cX11_comes 14 = .ok (.iload_n 2, 1) := op28 (bA_at bd03_dec_X11_1_132 8 rfl rfl)
theorem dX11_comes_15 : decode cX11_comes 15 = .ok (.invokevirtual 316, 3) := op182 (bA_at bd03_dec_X11_1_132 9 rfl rfl) rfl
theorem dX11_comes_18 : decode cX11_comes 18 = .ok (.ifCond .eq 11, 3) := op153 (bA_at bd03_dec_X11_1_132 10 rfl rfl) (by decide +kernel)
theorem dX11_comes_21 : decode cX11_comes 21 = .ok (.aload_n 0, 1) := op42 (bA_at bd03_dec_X11_1_132 11 rfl rfl)
theorem bd03_dec_X11_1_133 : ([(0, [29]), (1, [182, 1, 60]), (4, [154, 0, 5]), (7, [2]), (8, [172]), (9, [42]), (10, [28]), (11, [3]), (12, [182, 1, 158]), (15, [42]), (16, [180, 0, 59]), (19, [29])] : List (Nat × List UInt8)).all (fun x => prB x.2 ((cX11_comes.data.toList.drop 22).drop x.1)) = true := by decide +kernel
theorem dX11_comes_22 : decode cX11_comes 22 = .ok (.iload_n 3, 1) := op29 (bA_at bd03_dec_X11_1_133 0 rfl rfl)
theorem dX11_comes_23 : decode cX11_comes 23 = .ok (.invokevirtual 316, 3) := op182 (bA_at bd03_dec_X11_1_133 1 rfl rfl) rfl
theorem dX11_comes_26 : decode cX11_comes 26 = .ok (.ifCond .ne 5, 3) := op154 (bA_at bd03_dec_X11_1_133 2 rfl rfl) (by decide +kernel)
theorem dX11_comes_29 : decode cX11_comes 29 = .ok (.iconst (-1), 1) := op2 (bA_at bd03_dec_X11_1_133 3 rfl rfl)
theorem dX11_comes_30 : decode cX11_comes 30 = .ok (.ireturn, 1) := op172 (bA_at bd03_dec_X11_1_133 4 rfl rfl)
theorem dX11_comes_31 : decode cX11_comes 31 = .ok (.aload_n 0, 1) := op42 (bA_at bd03_dec_X11_1_133 5 rfl rfl)
theorem dX11_comes_32 : decode cX11_comes 32 = .ok (.iload_n 2, 1) := op28 (bA_at bd03_dec_X11_1_133 6 rfl rfl)
theorem dX11_comes_33 : decode cX11_comes 33 = .ok (.iconst 0, 1) := op3 (bA_at bd03_dec_X11_1_133 7 rfl rfl)
theorem dX11_comes_34 : decode cX11_comes 34 = .ok (.invokevirtual 414, 3) := op182 (bA_at bd03_dec_X11_1_133 8 rfl rfl) rfl
theorem dX11_comes_37 : decode cX11_comes 37 = .ok (.aload_n 0, 1) := op42 (bA_at bd03_dec_X11_1_133 9 rfl rfl)
theorem dX11_comes_38 : decode cX11_comes 38 = .ok (.getfield 59, 3) := op180 (bA_at bd03_dec_X11_1_133 10 rfl rfl) rfl
theorem dX11_comes_41 : decode cX11_comes 41 = .ok (.iload_n 3, 1) := op29 (bA_at bd03_dec_X11_1_133 11 rfl rfl)
theorem bd03_dec_X11_1_134 : ([(0, [46]), (1, [184, 1, 161]), (4, [172])] : List (Nat × List UInt8)).all (fun x => prB x.2 ((cX11_comes.data.toList.drop 42).drop x.1)) = true := by decide +kernel
theorem dX11_comes_42 : decode cX11_comes 42 = .ok (.iaload, 1) := op46 (bA_at bd03_dec_X11_1_134 0 rfl rfl)
theorem dX11_comes_43 : decode cX11_comes 43 = .ok (.invokestatic 417, 3) := op184 (bA_at bd03_dec_X11_1_134 1 rfl rfl) rfl
theorem dX11_comes_46 : decode cX11_comes 46 = .ok (.ireturn, 1) := op172 (bA_at bd03_dec_X11_1_134 2 rfl rfl)
theorem bd03_dec_X11_1_135 : ([(0, [42]), (1, [5]), (2, [182, 1, 47]), (5, [42]), (6, [6]), (7, [182, 1, 47]), (10, [2]), (11, [130]), (12, [126]), (13, [172])] : List (Nat × List UInt8)).all (fun x => prB x.2 ((cX11_wanted.data.toList.drop 0).drop x.1)) = true := by decide +kernel
theorem dX11_wanted_0 : decode cX11_wanted 0 = .ok (.aload_n 0, 1) := op42 (bA_at bd03_dec_X11_1_135 0 rfl rfl)
theorem dX11_wanted_1 : decode cX11_wanted 1 = .ok (.iconst 2, 1) := op5 (bA_at bd03_dec_X11_1_135 1 rfl rfl)
theorem dX11_wanted_2 : decode cX11_wanted 2 = .ok (.invokevirtual 303, 3) := op182 (bA_at bd03_dec_X11_1_135 2 rfl rfl) rfl
theorem dX11_wanted_5 : decode cX11_wanted 5 = .ok (.aload_n 0, 1) := op42 (bA_at bd03_dec_X11_1_135 3 rfl rfl)
theorem dX11_wanted_6 : decode cX11_wanted 6 = .ok (.iconst 3, 1) := op6 (bA_at bd03_dec_X11_1_135 4 rfl rfl)
theorem dX11_wanted_7 : decode cX11_wanted 7 = .ok (.invokevirtual 303, 3) := op182 (bA_at bd03_dec_X11_1_135 5 rfl rfl) rfl
theorem dX11_wanted_10 : decode cX11_wanted 10 = .ok (.iconst (-1), 1) := op2 (bA_at bd03_dec_X11_1_135 6 rfl rfl)
theorem dX11_wanted_11 : decode cX11_wanted 11 = .ok (.ixor, 1) := op130 (bA_at bd03_dec_X11_1_135 7 rfl rfl)
theorem dX11_wanted_12 : decode cX11_wanted 12 = .ok (.iand, 1) := op126 (bA_at bd03_dec_X11_1_135 8 rfl rfl)
theorem dX11_wanted_13 : decode cX11_wanted 13 = .ok (.ireturn, 1) := op172 (bA_at bd03_dec_X11_1_135 9 rfl rfl)
theorem bd03_dec_X11_1_136 : ([(0, [3]), (1, [60]), (2, [3]), (3, [61]), (4, [28]), (5, [42]), (6, [180, 1, 51]), (9, [162, 0, 35]), (12, [42]), (13, [182, 1, 164]), (16, [28]), (17, [184, 0, 101])] : List (Nat × List UInt8)).all (fun x => prB x.2 ((cX11_lastVillage.data.toList.drop 0).drop x.1)) = true := by decide +kernel
theorem dX11_lastVillage_0 : decode cX11_lastVillage 0 = .ok (.iconst 0, 1) := op3 (bA_at bd03_dec_X11_1_136 0 rfl rfl)
theorem dX11_lastVillage_1 : decode cX11_lastVillage 1 = .ok (.istore_n 1, 1) := op60 (bA_at bd03_dec_X11_1_136 1 rfl rfl)
theorem dX11_lastVillage_2 : decode cX11_lastVillage 2 = .ok (.iconst 0, 1) := op3 (bA_at bd03_dec_X11_1_136 2 rfl rfl)
theorem dX11_lastVillage_3 : decode cX11_lastVillage 3 = .ok (.istore_n 2, 1) := op61 (bA_at bd03_dec_X11_1_136 3 rfl rfl)
theorem dX11_lastVillage_4 : decode cX11_lastVillage 4 = .ok (.iload_n 2, 1) := op28 (bA_at bd03_dec_X11_1_136 4 rfl rfl)
theorem dX11_lastVillage_5 : decode cX11_lastVillage 5 = .ok (.aload_n 0, 1) := op42 (bA_at bd03_dec_X11_1_136 5 rfl rfl)
theorem dX11_lastVillage_6 : decode cX11_lastVillage 6 = .ok (.getfield 307, 3) := op180 (bA_at bd03_dec_X11_1_136 6 rfl rfl) rfl
theorem dX11_lastVillage_9 : decode cX11_lastVillage 9 = .ok (.if_icmp .ge 35, 3) := op162 (bA_at bd03_dec_X11_1_136 7 rfl rfl) (by decide +kernel)
theorem dX11_lastVillage_12 : decode cX11_lastVillage 12 = .ok (.aload_n 0, 1) := op42 (bA_at bd03_dec_X11_1_136 8 rfl rfl)
theorem dX11_lastVillage_13 : decode cX11_lastVillage 13 = .ok (.invokevirtual 420, 3) := op182 (bA_at bd03_dec_X11_1_136 9 rfl rfl) rfl
theorem dX11_lastVillage_16 : decode cX11_lastVillage 16 = .ok (.iload_n 2, 1) := op28 (bA_at bd03_dec_X11_1_136 10 rfl rfl)
theorem dX11_lastVillage_17 : decode cX11_lastVillage 17 = .ok (.invokestatic 101, 3) := op184 (bA_at bd03_dec_X11_1_136 11 rfl rfl) rfl
theorem bd03_dec_X11_1_137 : ([(0, [153, 0, 16]), (3, [27]), (4, [42]), (5, [180, 0, 59]), (8, [28]), (9, [46]), (10, [184, 0, 171]), (13, [167, 0, 4]), (16, [27]), (17, [60]), (18, [132, 2, 1]), (21, [167, 255, 219])] : List (Nat × List UInt8)).all (fun x => prB x.2 ((cX11_lastVillage.data.toList.drop 20).drop x.1)) = true := by decide +kernel
theorem dX11_lastVillage_20 : decode cX11_lastVillage 20 = .ok (.ifCond .eq 16, 3) := op153 (bA_at bd03_dec_X11_1_137 0 rfl rfl) (by decide +kernel)
theorem dX11_lastVillage_23 : decode cX11_lastVillage 23 = .ok (.iload_n 1, 1) := op27 (bA_at bd03_dec_X11_1_137 1 rfl rfl)
theorem dX11_lastVillage_24 : decode cX11_lastVillage 24 = .ok (.aload_n 0, 1) := op42 (bA_at bd03_dec_X11_1_137 2 rfl rfl)
theorem dX11_lastVillage_25 : decode cX11_lastVillage 25 = .ok (.getfield 59, 3) := op180 (bA_at bd03_dec_X11_1_137 3 rfl rfl) rfl
theorem dX11_lastVillage_28 : decode cX11_lastVillage 28 = .ok (.iload_n 2, 1) := op28 (bA_at bd03_dec_X11_1_137 4 rfl rfl)
theorem dX11_lastVillage_29 : decode cX11_lastVillage 29 = .ok (.iaload, 1) := op46 (bA_at bd03_dec_X11_1_137 5 rfl rfl)
theorem dX11_lastVillage_30 : decode cX11_lastVillage 30 = .ok (.invokestatic 171, 3) := op184 (bA_at bd03_dec_X11_1_137 6 rfl rfl) rfl
theorem dX11_lastVillage_33 : decode cX11_lastVillage 33 = .ok (.goto 4, 3) := op167 (bA_at bd03_dec_X11_1_137 7 rfl rfl) (by decide +kernel)
theorem dX11_lastVillage_36 : decode cX11_lastVillage 36 = .ok (.iload_n 1, 1) := op27 (bA_at bd03_dec_X11_1_137 8 rfl rfl)
theorem dX11_lastVillage_37 : decode cX11_lastVillage 37 = .ok (.istore_n 1, 1) := op60 (bA_at bd03_dec_X11_1_137 9 rfl rfl)
theorem dX11_lastVillage_38 : decode cX11_lastVillage 38 = .ok (.iinc 2 1, 3) := op132 (bA_at bd03_dec_X11_1_137 10 rfl rfl) rfl (by decide +kernel)
theorem dX11_lastVillage_41 : decode cX11_lastVillage 41 = .ok (.goto (-37), 3) := op167 (bA_at bd03_dec_X11_1_137 11 rfl rfl) (by decide +kernel)
theorem bd03_dec_X11_1_138 : ([(0, [27]), (1, [172])] : List (Nat × List UInt8)).all (fun x => prB x.2 ((cX11_lastVillage.data.toList.drop 44).drop x.1)) = true := by decide +kernel
theorem dX11_lastVillage_44 : decode cX11_lastVillage 44 = .ok (.iload_n 1, 1) := op27 (bA_at bd03_dec_X11_1_138 0 rfl rfl)
theorem dX11_lastVillage_45 : decode cX11_lastVillage 45 = .ok (.ireturn, 1) := op172 (bA_at bd03_dec_X11_1_138 1 rfl rfl)
theorem bd03_dec_X11_1_139 : ([(0, [3]), (1, [61]), (2, [3]), (3, [62]), (4, [29]), (5, [42]), (6, [180, 1, 51]), (9, [162, 0, 29]), (12, [28]), (13, [42]), (14, [180, 0, 59]), (17, [29])] : List (Nat × List UInt8)).all (fun x => prB x.2 ((cX11_comesBy.data.toList.drop 0).drop x.1)) = true := by decide +kernel
theorem dX11_comesBy_0 : decode cX11_comesBy 0 = .ok (.iconst 0, 1) := op3 (bA_at bd03_dec_X11_1_139 0 rfl rfl)
theorem dX11_comesBy_1 : decode cX11_comesBy 1 = .ok (.istore_n 2, 1) := op61 (bA_at bd03_dec_X11_1_139 1 rfl rfl)
theorem dX11_comesBy_2 : decode cX11_comesBy 2 = .ok (.iconst 0, 1) := op3 (bA_at bd03_dec_X11_1_139 2 rfl rfl)
theorem dX11_comesBy_3 : decode cX11_comesBy 3 = .ok (.istore_n 3, 1) := op62 (bA_at bd03_dec_X11_1_139 3 rfl rfl)
theorem dX11_comesBy_4 : decode cX11_comesBy 4 = .ok (.iload_n 3, 1) := op29 (bA_at bd03_dec_X11_1_139 4 rfl rfl)
theorem dX11_comesBy_5 : decode cX11_comesBy 5 = .ok (.aload_n 0, 1) := op42 (bA_at bd03_dec_X11_1_139 5 rfl rfl)
theorem dX11_comesBy_6 : decode cX11_comesBy 6 = .ok (.getfield 307, 3) := op180 (bA_at bd03_dec_X11_1_139 6 rfl rfl) rfl
theorem dX11_comesBy_9 : decode cX11_comesBy 9 = .ok (.if_icmp .ge 29, 3) := op162 (bA_at bd03_dec_X11_1_139 7 rfl rfl) (by decide +kernel)
theorem dX11_comesBy_12 : decode cX11_comesBy 12 = .ok (.iload_n 2, 1) := op28 (bA_at bd03_dec_X11_1_139 8 rfl rfl)
theorem dX11_comesBy_13 : decode cX11_comesBy 13 = .ok (.aload_n 0, 1) := op42 (bA_at bd03_dec_X11_1_139 9 rfl rfl)
theorem dX11_comesBy_14 : decode cX11_comesBy 14 = .ok (.getfield 59, 3) := op180 (bA_at bd03_dec_X11_1_139 10 rfl rfl) rfl
theorem dX11_comesBy_17 : decode cX11_comesBy 17 = .ok (.iload_n 3, 1) := op29 (bA_at bd03_dec_X11_1_139 11 rfl rfl)
theorem bd03_dec_X11_1_140 : ([(0, [46]), (1, [27]), (2, [163, 0, 9]), (5, [4]), (6, [29]), (7, [120]), (8, [167, 0, 4]), (11, [3]), (12, [128]), (13, [61]), (14, [132, 3, 1]), (17, [167, 255, 225])] : List (Nat × List UInt8)).all (fun x => prB x.2 ((cX11_comesBy.data.toList.drop 18).drop x.1)) = true := by decide +kernel
theorem dX11_comesBy_18 : decode cX11_comesBy 18 = .ok (.iaload, 1) := op46 (bA_at bd03_dec_X11_1_140 0 rfl rfl)
theorem dX11_comesBy_19 : decode cX11_comesBy 19 = .ok (.iload_n 1, 1) := op27 (bA_at bd03_dec_X11_1_140 1 rfl rfl)
theorem dX11_comesBy_20 : decode cX11_comesBy 20 = .ok (.if_icmp .gt 9, 3) := op163 (bA_at bd03_dec_X11_1_140 2 rfl rfl) (by decide +kernel)
theorem dX11_comesBy_23 : decode cX11_comesBy 23 = .ok (.iconst 1, 1) := op4 (bA_at bd03_dec_X11_1_140 3 rfl rfl)
theorem dX11_comesBy_24 : decode cX11_comesBy 24 = .ok (.iload_n 3, 1) := op29 (bA_at bd03_dec_X11_1_140 4 rfl rfl)
theorem dX11_comesBy_25 : decode cX11_comesBy 25 = .ok (.ishl, 1) := op120 (bA_at bd03_dec_X11_1_140 5 rfl rfl)
theorem dX11_comesBy_26 : decode cX11_comesBy 26 = .ok (.goto 4, 3) := op167 (bA_at bd03_dec_X11_1_140 6 rfl rfl) (by decide +kernel)
theorem dX11_comesBy_29 : decode cX11_comesBy 29 = .ok (.iconst 0, 1) := op3 (bA_at bd03_dec_X11_1_140 7 rfl rfl)
theorem dX11_comesBy_30 : decode cX11_comesBy 30 = .ok (.ior, 1) := op128 (bA_at bd03_dec_X11_1_140 8 rfl rfl)
theorem dX11_comesBy_31 : decode cX11_comesBy 31 = .ok (.istore_n 2, 1) := op61 (bA_at bd03_dec_X11_1_140 9 rfl rfl)
theorem dX11_comesBy_32 : decode cX11_comesBy 32 = .ok (.iinc 3 1, 3) := op132 (bA_at bd03_dec_X11_1_140 10 rfl rfl) rfl (by decide +kernel)
theorem dX11_comesBy_35 : decode cX11_comesBy 35 = .ok (.goto (-31), 3) := op167 (bA_at bd03_dec_X11_1_140 11 rfl rfl) (by decide +kernel)
theorem bd03_dec_X11_1_141 : ([(0, [28]), (1, [172])] : List (Nat × List UInt8)).all (fun x => prB x.2 ((cX11_comesBy.data.toList.drop 38).drop x.1)) = true := by decide +kernel
theorem dX11_comesBy_38 : decode cX11_comesBy 38 = .ok (.iload_n 2, 1) := op28 (bA_at bd03_dec_X11_1_141 0 rfl rfl)
theorem dX11_comesBy_39 : decode cX11_comesBy 39 = .ok (.ireturn, 1) := op172 (bA_at bd03_dec_X11_1_141 1 rfl rfl)
theorem bd03_dec_X11_1_142 : ([(0, [3]), (1, [61]), (2, [3]), (3, [62]), (4, [29]), (5, [42]), (6, [180, 1, 51]), (9, [162, 0, 52]), (12, [42]), (13, [29]), (14, [3]), (15, [182, 1, 158])] : List (Nat × List UInt8)).all (fun x => prB x.2 ((cX11_allBy.data.toList.drop 0).drop x.1)) = true := by decide +kernel
theorem dX11_allBy_0 : decode cX11_allBy 0 = .ok (.iconst 0, 1) := op3 (bA_at bd03_dec_X11_1_142 0 rfl rfl)
theorem dX11_allBy_1 : decode cX11_allBy 1 = .ok (.istore_n 2, 1) := op61 (bA_at bd03_dec_X11_1_142 1 rfl rfl)
theorem dX11_allBy_2 : decode cX11_allBy 2 = .ok (.iconst 0, 1) := op3 (bA_at bd03_dec_X11_1_142 2 rfl rfl)
theorem dX11_allBy_3 : decode cX11_allBy 3 = .ok (.istore_n 3, 1) := op62 (bA_at bd03_dec_X11_1_142 3 rfl rfl)
theorem dX11_allBy_4 : decode cX11_allBy 4 = .ok (.iload_n 3, 1) := op29 (bA_at bd03_dec_X11_1_142 4 rfl rfl)
theorem dX11_allBy_5 : decode cX11_allBy 5 = .ok (.aload_n 0, 1) := op42 (bA_at bd03_dec_X11_1_142 5 rfl rfl)
theorem dX11_allBy_6 : decode cX11_allBy 6 = .ok (.getfield 307, 3) := op180 (bA_at bd03_dec_X11_1_142 6 rfl rfl) rfl
theorem dX11_allBy_9 : decode cX11_allBy 9 = .ok (.if_icmp .ge 52, 3) := op162 (bA_at bd03_dec_X11_1_142 7 rfl rfl) (by decide +kernel)
theorem dX11_allBy_12 : decode cX11_allBy 12 = .ok (.aload_n 0, 1) := op42 (bA_at bd03_dec_X11_1_142 8 rfl rfl)
theorem dX11_allBy_13 : decode cX11_allBy 13 = .ok (.iload_n 3, 1) := op29 (bA_at bd03_dec_X11_1_142 9 rfl rfl)
theorem dX11_allBy_14 : decode cX11_allBy 14 = .ok (.iconst 0, 1) := op3 (bA_at bd03_dec_X11_1_142 10 rfl rfl)
theorem dX11_allBy_15 : decode cX11_allBy 15 = .ok (.invokevirtual 414, 3) := op182 (bA_at bd03_dec_X11_1_142 11 rfl rfl) rfl
theorem bd03_dec_X11_1_143 : ([(0, [42]), (1, [180, 0, 62]), (4, [29]), (5, [42]), (6, [27])] : List (Nat × List UInt8)).all (fun x => prB x.2 ((cX11_allBy.data.toList.drop 18).drop x.1)) = true := by decide +kernel
theorem dX11_allBy_18 : decode cX11_allBy 18 = .ok (.aload_n 0, 1) := op42 (bA_at bd03_dec_X11_1_143 0 rfl rfl)
theorem dX11_allBy_19 : decode cX11_allBy 19 = .ok (.getfield 62, 3) := op180 (bA_at bd03_dec_X11_1_143 1 rfl rfl) rfl
theorem dX11_allBy_22 : decode cX11_allBy 22 = .ok (.iload_n 3, 1) := op29 (bA_at bd03_dec_X11_1_143 2 rfl rfl)
theorem dX11_allBy_23 : decode cX11_allBy 23 = .ok (.aload_n 0, 1) := op42 (bA_at bd03_dec_X11_1_143 3 rfl rfl)
theorem dX11_allBy_24 : decode cX11_allBy 24 = .ok (.iload_n 1, 1) := op27 (bA_at bd03_dec_X11_1_143 4 rfl rfl)
end
section
theorem bd03_dec_X11_2_0 : ([(0, [182, 1, 167]), (3, [79]), (4, [28]), (5, [42]), (6, [29]), (7, [182, 1, 99]), (10, [154, 0, 17]), (13, [42]), (14, [182, 1, 170]), (17, [27]), (18, [163, 0, 9]), (21, [4])] : List (Nat × List UInt8)).all (fun x => prB x.2 ((cX11_allBy.data.toList.drop 25).drop x.1)) = true := by decide +kernel
theorem dX11_allBy_25 : decode cX11_allBy 25 = .ok (.invokevirtual 423, 3) := op182 (bA_at bd03_dec_X11_2_0 0 rfl rfl) rfl
theorem dX11_allBy_28 : decode cX11_allBy 28 = .ok (.iastore, 1) := op79 (bA_at bd03_dec_X11_2_0 1 rfl rfl)
theorem dX11_allBy_29 : decode cX11_allBy 29 = .ok (.iload_n 2, 1) := op28 (bA_at bd03_dec_X11_2_0 2 rfl rfl)
theorem dX11_allBy_30 : decode cX11_allBy 30 = .ok (.aload_n 0, 1) := op42 (bA_at bd03_dec_X11_2_0 3 rfl rfl)
theorem dX11_allBy_31 : decode cX11_allBy 31 = .ok (.iload_n 3, 1) := op29 (bA_at bd03_dec_X11_2_0 4 rfl rfl)
theorem dX11_allBy_32 : decode cX11_allBy 32 = .ok (.invokevirtual 355, 3) := op182 (bA_at bd03_dec_X11_2_0 5 rfl rfl) rfl
theorem dX11_allBy_35 : decode cX11_allBy 35 = .ok (.ifCond .ne 17, 3) := op154 (bA_at bd03_dec_X11_2_0 6 rfl rfl) (by decide +kernel)
theorem dX11_allBy_38 : decode cX11_allBy 38 = .ok (.aload_n 0, 1) := op42 (bA_at bd03_dec_X11_2_0 7 rfl rfl)
theorem dX11_allBy_39 : decode cX11_allBy 39 = .ok (.invokevirtual 426, 3) := op182 (bA_at bd03_dec_X11_2_0 8 rfl rfl) rfl
theorem dX11_allBy_42 : decode cX11_allBy 42 = .ok (.iload_n 1, 1) := op27 (bA_at bd03_dec_X11_2_0 9 rfl rfl)
theorem dX11_allBy_43 : decode cX11_allBy 43 = .ok (.if_icmp .gt 9, 3) := op163 (bA_at bd03_dec_X11_2_0 10 rfl rfl) (by decide +kernel)
theorem dX11_allBy_46 : decode cX11_allBy 46 = .ok (.iconst 1, 1) := op4 (bA_at bd03_dec_X11_2_0 11 rfl rfl)
theorem bd03_dec_X11_2_1 : ([(0, [29]), (1, [120]), (2, [167, 0, 4]), (5, [3]), (6, [128]), (7, [61]), (8, [132, 3, 1]), (11, [167, 255, 202]), (14, [28]), (15, [172])] : List (Nat × List UInt8)).all (fun x => prB x.2 ((cX11_allBy.data.toList.drop 47).drop x.1)) = true := by decide +kernel
theorem dX11_allBy_47 : decode cX11_allBy 47 = .ok (.iload_n 3, 1) := op29 (bA_at bd03_dec_X11_2_1 0 rfl rfl)
theorem dX11_allBy_48 : decode cX11_allBy 48 = .ok (.ishl, 1) := op120 (bA_at bd03_dec_X11_2_1 1 rfl rfl)
theorem dX11_allBy_49 : decode cX11_allBy 49 = .ok (.goto 4, 3) := op167 (bA_at bd03_dec_X11_2_1 2 rfl rfl) (by decide +kernel)
theorem dX11_allBy_52 : decode cX11_allBy 52 = .ok (.iconst 0, 1) := op3 (bA_at bd03_dec_X11_2_1 3 rfl rfl)
theorem dX11_allBy_53 : decode cX11_allBy 53 = .ok (.ior, 1) := op128 (bA_at bd03_dec_X11_2_1 4 rfl rfl)
theorem dX11_allBy_54 : decode cX11_allBy 54 = .ok (.istore_n 2, 1) := op61 (bA_at bd03_dec_X11_2_1 5 rfl rfl)
theorem dX11_allBy_55 : decode cX11_allBy 55 = .ok (.iinc 3 1, 3) := op132 (bA_at bd03_dec_X11_2_1 6 rfl rfl) rfl (by decide +kernel)
theorem dX11_allBy_58 : decode cX11_allBy 58 = .ok (.goto (-54), 3) := op167 (bA_at bd03_dec_X11_2_1 7 rfl rfl) (by decide +kernel)
theorem dX11_allBy_61 : decode cX11_allBy 61 = .ok (.iload_n 2, 1) := op28 (bA_at bd03_dec_X11_2_1 8 rfl rfl)
theorem dX11_allBy_62 : decode cX11_allBy 62 = .ok (.ireturn, 1) := op172 (bA_at bd03_dec_X11_2_1 9 rfl rfl)
theorem bd03_dec_X11_2_2 : ([(0, [2]), (1, [62]), (2, [3]), (3, [54, 4]), (5, [21, 4]), (7, [4]), (8, [42]), (9, [180, 1, 51]), (12, [120]), (13, [162, 0, 110]), (16, [3]), (17, [54, 5])] : List (Nat × List UInt8)).all (fun x => prB x.2 ((cX11_fewest.data.toList.drop 0).drop x.1)) = true := by decide +kernel
theorem dX11_fewest_0 : decode cX11_fewest 0 = .ok (.iconst (-1), 1) := op2 (bA_at bd03_dec_X11_2_2 0 rfl rfl)
theorem dX11_fewest_1 : decode cX11_fewest 1 = .ok (.istore_n 3, 1) := op62 (bA_at bd03_dec_X11_2_2 1 rfl rfl)
theorem dX11_fewest_2 : decode cX11_fewest 2 = .ok (.iconst 0, 1) := op3 (bA_at bd03_dec_X11_2_2 2 rfl rfl)
theorem dX11_fewest_3 : decode cX11_fewest 3 = .ok (.istore 4, 2) := op54 (bA_at bd03_dec_X11_2_2 3 rfl rfl) rfl
theorem dX11_fewest_5 : decode cX11_fewest 5 = .ok (.iload 4, 2) := op21 (bA_at bd03_dec_X11_2_2 4 rfl rfl) rfl
theorem dX11_fewest_7 : decode cX11_fewest 7 = .ok (.iconst 1, 1) := op4 (bA_at bd03_dec_X11_2_2 5 rfl rfl)
theorem dX11_fewest_8 : decode cX11_fewest 8 = .ok (.aload_n 0, 1) := op42 (bA_at bd03_dec_X11_2_2 6 rfl rfl)
theorem dX11_fewest_9 : decode cX11_fewest 9 = .ok (.getfield 307, 3) := op180 (bA_at bd03_dec_X11_2_2 7 rfl rfl) rfl
theorem dX11_fewest_12 : decode cX11_fewest 12 = .ok (.ishl, 1) := op120 (bA_at bd03_dec_X11_2_2 8 rfl rfl)
theorem dX11_fewest_13 : decode cX11_fewest 13 = .ok (.if_icmp .ge 110, 3) := op162 (bA_at bd03_dec_X11_2_2 9 rfl rfl) (by decide +kernel)
theorem dX11_fewest_16 : decode cX11_fewest 16 = .ok (.iconst 0, 1) := op3 (bA_at bd03_dec_X11_2_2 10 rfl rfl)
theorem dX11_fewest_17 : decode cX11_fewest 17 = .ok (.istore 5, 2) := op54 (bA_at bd03_dec_X11_2_2 11 rfl rfl) rfl
theorem bd03_dec_X11_2_3 : ([(0, [3]), (1, [54, 6]), (3, [21, 6]), (5, [42]), (6, [180, 1, 51]), (9, [162, 0, 35]), (12, [21, 5]), (14, [21, 4]), (16, [21, 6]), (18, [184, 0, 101]), (21, [153, 0, 13]), (24, [42])] : List (Nat × List UInt8)).all (fun x => prB x.2 ((cX11_fewest.data.toList.drop 19).drop x.1)) = true := by decide +kernel
theorem dX11_fewest_19 : decode cX11_fewest 19 = .ok (.iconst 0, 1) := op3 (bA_at bd03_dec_X11_2_3 0 rfl rfl)
theorem dX11_fewest_20 : decode cX11_fewest 20 = .ok (.istore 6, 2) := op54 (bA_at bd03_dec_X11_2_3 1 rfl rfl) rfl
theorem dX11_fewest_22 : decode cX11_fewest 22 = .ok (.iload 6, 2) := op21 (bA_at bd03_dec_X11_2_3 2 rfl rfl) rfl
theorem dX11_fewest_24 : decode cX11_fewest 24 = .ok (.aload_n 0, 1) := op42 (bA_at bd03_dec_X11_2_3 3 rfl rfl)
theorem dX11_fewest_25 : decode cX11_fewest 25 = .ok (.getfield 307, 3) := op180 (bA_at bd03_dec_X11_2_3 4 rfl rfl) rfl
theorem dX11_fewest_28 : decode cX11_fewest 28 = .ok (.if_icmp .ge 35, 3) := op162 (bA_at bd03_dec_X11_2_3 5 rfl rfl) (by decide +kernel)
theorem dX11_fewest_31 : decode cX11_fewest 31 = .ok (.iload 5, 2) := op21 (bA_at bd03_dec_X11_2_3 6 rfl rfl) rfl
theorem dX11_fewest_33 : decode cX11_fewest 33 = .ok (.iload 4, 2) := op21 (bA_at bd03_dec_X11_2_3 7 rfl rfl) rfl
theorem dX11_fewest_35 : decode cX11_fewest 35 = .ok (.iload 6, 2) := op21 (bA_at bd03_dec_X11_2_3 8 rfl rfl) rfl
theorem dX11_fewest_37 : decode cX11_fewest 37 = .ok (.invokestatic 101, 3) := op184 (bA_at bd03_dec_X11_2_3 9 rfl rfl) rfl
theorem dX11_fewest_40 : decode cX11_fewest 40 = .ok (.ifCond .eq 13, 3) := op153 (bA_at bd03_dec_X11_2_3 10 rfl rfl) (by decide +kernel)
theorem dX11_fewest_43 : decode cX11_fewest 43 = .ok (.aload_n 0, 1) := op42 (bA_at bd03_dec_X11_2_3 11 rfl rfl)
theorem bd03_dec_X11_2_4 : ([(0, [180, 0, 62]), (3, [21, 6]), (5, [46]), (6, [167, 0, 4]), (9, [3]), (10, [128]), (11, [54, 5]), (13, [132, 6, 1]), (16, [167, 255, 218]), (19, [21, 4]), (21, [27]), (22, [2])] : List (Nat × List UInt8)).all (fun x => prB x.2 ((cX11_fewest.data.toList.drop 44).drop x.1)) = true := by decide +kernel
theorem dX11_fewest_44 : decode cX11_fewest 44 = .ok (.getfield 62, 3) := op180 (bA_at bd03_dec_X11_2_4 0 rfl rfl) rfl
theorem dX11_fewest_47 : decode cX11_fewest 47 = .ok (.iload 6, 2) := op21 (bA_at bd03_dec_X11_2_4 1 rfl rfl) rfl
theorem dX11_fewest_49 : decode cX11_fewest 49 = .ok (.iaload, 1) := op46 (bA_at bd03_dec_X11_2_4 2 rfl rfl)
theorem dX11_fewest_50 : decode cX11_fewest 50 = .ok (.goto 4, 3) := op167 (bA_at bd03_dec_X11_2_4 3 rfl rfl) (by decide +kernel)
theorem dX11_fewest_53 : decode cX11_fewest 53 = .ok (.iconst 0, 1) := op3 (bA_at bd03_dec_X11_2_4 4 rfl rfl)
theorem dX11_fewest_54 : decode cX11_fewest 54 = .ok (.ior, 1) := op128 (bA_at bd03_dec_X11_2_4 5 rfl rfl)
theorem dX11_fewest_55 : decode cX11_fewest 55 = .ok (.istore 5, 2) := op54 (bA_at bd03_dec_X11_2_4 6 rfl rfl) rfl
theorem dX11_fewest_57 : decode cX11_fewest 57 = .ok (.iinc 6 1, 3) := op132 (bA_at bd03_dec_X11_2_4 7 rfl rfl) rfl (by decide +kernel)
theorem dX11_fewest_60 : decode cX11_fewest 60 = .ok (.goto (-38), 3) := op167 (bA_at bd03_dec_X11_2_4 8 rfl rfl) (by decide +kernel)
theorem dX11_fewest_63 : decode cX11_fewest 63 = .ok (.iload 4, 2) := op21 (bA_at bd03_dec_X11_2_4 9 rfl rfl) rfl
theorem dX11_fewest_65 : decode cX11_fewest 65 = .ok (.iload_n 1, 1) := op27 (bA_at bd03_dec_X11_2_4 10 rfl rfl)
theorem dX11_fewest_66 : decode cX11_fewest 66 = .ok (.iconst (-1), 1) := op2 (bA_at bd03_dec_X11_2_4 11 rfl rfl)
theorem bd03_dec_X11_2_5 : ([(0, [130]), (1, [126]), (2, [154, 0, 16]), (5, [28]), (6, [21, 5]), (8, [2]), (9, [130]), (10, [126]), (11, [154, 0, 7]), (14, [4]), (15, [167, 0, 4]), (18, [3])] : List (Nat × List UInt8)).all (fun x => prB x.2 ((cX11_fewest.data.toList.drop 67).drop x.1)) = true := by decide +kernel
theorem dX11_fewest_67 : decode cX11_fewest 67 = .ok (.ixor, 1) := op130 (bA_at bd03_dec_X11_2_5 0 rfl rfl)
theorem dX11_fewest_68 : decode cX11_fewest 68 = .ok (.iand, 1) := op126 (bA_at bd03_dec_X11_2_5 1 rfl rfl)
theorem dX11_fewest_69 : decode cX11_fewest 69 = .ok (.ifCond .ne 16, 3) := op154 (bA_at bd03_dec_X11_2_5 2 rfl rfl) (by decide +kernel)
theorem dX11_fewest_72 : decode cX11_fewest 72 = .ok (.iload_n 2, 1) := op28 (bA_at bd03_dec_X11_2_5 3 rfl rfl)
theorem dX11_fewest_73 : decode cX11_fewest 73 = .ok (.iload 5, 2) := op21 (bA_at bd03_dec_X11_2_5 4 rfl rfl) rfl
theorem dX11_fewest_75 : decode cX11_fewest 75 = .ok (.iconst (-1), 1) := op2 (bA_at bd03_dec_X11_2_5 5 rfl rfl)
theorem dX11_fewest_76 : decode cX11_fewest 76 = .ok (.ixor, 1) := op130 (bA_at bd03_dec_X11_2_5 6 rfl rfl)
theorem dX11_fewest_77 : decode cX11_fewest 77 = .ok (.iand, 1) := op126 (bA_at bd03_dec_X11_2_5 7 rfl rfl)
theorem dX11_fewest_78 : decode cX11_fewest 78 = .ok (.ifCond .ne 7, 3) := op154 (bA_at bd03_dec_X11_2_5 8 rfl rfl) (by decide +kernel)
theorem dX11_fewest_81 : decode cX11_fewest 81 = .ok (.iconst 1, 1) := op4 (bA_at bd03_dec_X11_2_5 9 rfl rfl)
theorem dX11_fewest_82 : decode cX11_fewest 82 = .ok (.goto 4, 3) := op167 (bA_at bd03_dec_X11_2_5 10 rfl rfl) (by decide +kernel)
theorem dX11_fewest_85 : decode cX11_fewest 85 = .ok (.iconst 0, 1) := op3 (bA_at bd03_dec_X11_2_5 11 rfl rfl)
theorem bd03_dec_X11_2_6 : ([(0, [54, 6]), (2, [21, 6]), (4, [153, 0, 25]), (7, [29]), (8, [2]), (9, [159, 0, 15]), (12, [21, 4]), (14, [184, 1, 173]), (17, [29]), (18, [184, 1, 173]), (21, [162, 0, 8]), (24, [21, 4])] : List (Nat × List UInt8)).all (fun x => prB x.2 ((cX11_fewest.data.toList.drop 86).drop x.1)) = true := by decide +kernel
theorem dX11_fewest_86 : decode cX11_fewest 86 = .ok (.istore 6, 2) := op54 (bA_at bd03_dec_X11_2_6 0 rfl rfl) rfl
theorem dX11_fewest_88 : decode cX11_fewest 88 = .ok (.iload 6, 2) := op21 (bA_at bd03_dec_X11_2_6 1 rfl rfl) rfl
theorem dX11_fewest_90 : decode cX11_fewest 90 = .ok (.ifCond .eq 25, 3) := op153 (bA_at bd03_dec_X11_2_6 2 rfl rfl) (by decide +kernel)
theorem dX11_fewest_93 : decode cX11_fewest 93 = .ok (.iload_n 3, 1) := op29 (bA_at bd03_dec_X11_2_6 3 rfl rfl)
theorem dX11_fewest_94 : decode cX11_fewest 94 = .ok (.iconst (-1), 1) := op2 (bA_at bd03_dec_X11_2_6 4 rfl rfl)
theorem dX11_fewest_95 : decode cX11_fewest 95 = .ok (.if_icmp .eq 15, 3) := op159 (bA_at bd03_dec_X11_2_6 5 rfl rfl) (by decide +kernel)
theorem dX11_fewest_98 : decode cX11_fewest 98 = .ok (.iload 4, 2) := op21 (bA_at bd03_dec_X11_2_6 6 rfl rfl) rfl
theorem dX11_fewest_100 : decode cX11_fewest 100 = .ok (.invokestatic 429, 3) := op184 (bA_at bd03_dec_X11_2_6 7 rfl rfl) rfl
theorem dX11_fewest_103 : decode cX11_fewest 103 = .ok (.iload_n 3, 1) := op29 (bA_at bd03_dec_X11_2_6 8 rfl rfl)
theorem dX11_fewest_104 : decode cX11_fewest 104 = .ok (.invokestatic 429, 3) := op184 (bA_at bd03_dec_X11_2_6 9 rfl rfl) rfl
theorem dX11_fewest_107 : decode cX11_fewest 107 = .ok (.if_icmp .ge 8, 3) := op162 (bA_at bd03_dec_X11_2_6 10 rfl rfl) (by decide +kernel)
theorem dX11_fewest_110 : decode cX11_fewest 110 = .ok (.iload 4, 2) := op21 (bA_at bd03_dec_X11_2_6 11 rfl rfl) rfl
theorem bd03_dec_X11_2_7 : ([(0, [167, 0, 4]), (3, [29]), (4, [62]), (5, [132, 4, 1]), (8, [167, 255, 141]), (11, [29]), (12, [172])] : List (Nat × List UInt8)).all (fun x => prB x.2 ((cX11_fewest.data.toList.drop 112).drop x.1)) = true := by decide +kernel
theorem dX11_fewest_112 : decode cX11_fewest 112 = .ok (.goto 4, 3) := op167 (bA_at bd03_dec_X11_2_7 0 rfl rfl) (by decide +kernel)
theorem dX11_fewest_115 : decode cX11_fewest 115 = .ok (.iload_n 3, 1) := op29 (bA_at bd03_dec_X11_2_7 1 rfl rfl)
theorem dX11_fewest_116 : decode cX11_fewest 116 = .ok (.istore_n 3, 1) := op62 (bA_at bd03_dec_X11_2_7 2 rfl rfl)
theorem dX11_fewest_117 : decode cX11_fewest 117 = .ok (.iinc 4 1, 3) := op132 (bA_at bd03_dec_X11_2_7 3 rfl rfl) rfl (by decide +kernel)
theorem dX11_fewest_120 : decode cX11_fewest 120 = .ok (.goto (-115), 3) := op167 (bA_at bd03_dec_X11_2_7 4 rfl rfl) (by decide +kernel)
theorem dX11_fewest_123 : decode cX11_fewest 123 = .ok (.iload_n 3, 1) := op29 (bA_at bd03_dec_X11_2_7 5 rfl rfl)
theorem dX11_fewest_124 : decode cX11_fewest 124 = .ok (.ireturn, 1) := op172 (bA_at bd03_dec_X11_2_7 6 rfl rfl)
theorem bd03_dec_X11_2_8 : ([(0, [4]), (1, [42]), (2, [180, 1, 51]), (5, [120]), (6, [4]), (7, [100]), (8, [42]), (9, [6]), (10, [182, 1, 47]), (13, [2]), (14, [130]), (15, [126])] : List (Nat × List UInt8)).all (fun x => prB x.2 ((cX11_noDams.data.toList.drop 0).drop x.1)) = true := by decide +kernel
theorem dX11_noDams_0 : decode cX11_noDams 0 = .ok (.iconst 1, 1) := op4 (bA_at bd03_dec_X11_2_8 0 rfl rfl)
theorem dX11_noDams_1 : decode cX11_noDams 1 = .ok (.aload_n 0, 1) := op42 (bA_at bd03_dec_X11_2_8 1 rfl rfl)
theorem dX11_noDams_2 : decode cX11_noDams 2 = .ok (.getfield 307, 3) := op180 (bA_at bd03_dec_X11_2_8 2 rfl rfl) rfl
theorem dX11_noDams_5 : decode cX11_noDams 5 = .ok (.ishl, 1) := op120 (bA_at bd03_dec_X11_2_8 3 rfl rfl)
theorem dX11_noDams_6 : decode cX11_noDams 6 = .ok (.iconst 1, 1) := op4 (bA_at bd03_dec_X11_2_8 4 rfl rfl)
theorem dX11_noDams_7 : decode cX11_noDams 7 = .ok (.isub, 1) := op100 (bA_at bd03_dec_X11_2_8 5 rfl rfl)
theorem dX11_noDams_8 : decode cX11_noDams 8 = .ok (.aload_n 0, 1) := op42 (bA_at bd03_dec_X11_2_8 6 rfl rfl)
theorem dX11_noDams_9 : decode cX11_noDams 9 = .ok (.iconst 3, 1) := op6 (bA_at bd03_dec_X11_2_8 7 rfl rfl)
theorem dX11_noDams_10 : decode cX11_noDams 10 = .ok (.invokevirtual 303, 3) := op182 (bA_at bd03_dec_X11_2_8 8 rfl rfl) rfl
theorem dX11_noDams_13 : decode cX11_noDams 13 = .ok (.iconst (-1), 1) := op2 (bA_at bd03_dec_X11_2_8 9 rfl rfl)
theorem dX11_noDams_14 : decode cX11_noDams 14 = .ok (.ixor, 1) := op130 (bA_at bd03_dec_X11_2_8 10 rfl rfl)
theorem dX11_noDams_15 : decode cX11_noDams 15 = .ok (.iand, 1) := op126 (bA_at bd03_dec_X11_2_8 11 rfl rfl)
theorem bd03_dec_X11_2_9 : ([(0, [172])] : List (Nat × List UInt8)).all (fun x => prB x.2 ((cX11_noDams.data.toList.drop 16).drop x.1)) = true := by decide +kernel
theorem dX11_noDams_16 : decode cX11_noDams 16 = .ok (.ireturn, 1) := op172 (bA_at bd03_dec_X11_2_9 0 rfl rfl)
theorem bd03_dec_X11_2_10 : ([(0, [42]), (1, [3]), (2, [181, 0, 97]), (5, [42]), (6, [27]), (7, [182, 1, 57]), (10, [153, 0, 22]), (13, [28]), (14, [3]), (15, [16, 99]), (17, [184, 0, 109]), (20, [153, 0, 12])] : List (Nat × List UInt8)).all (fun x => prB x.2 ((cX11_villages.data.toList.drop 0).drop x.1)) = true := by decide +kernel
theorem dX11_villages_0 : decode cX11_villages 0 = .ok (.aload_n 0, 1) := op42 (bA_at bd03_dec_X11_2_10 0 rfl rfl)
theorem dX11_villages_1 : decode cX11_villages 1 = .ok (.iconst 0, 1) := op3 (bA_at bd03_dec_X11_2_10 1 rfl rfl)
theorem dX11_villages_2 : decode cX11_villages 2 = .ok (.putfield 97, 3) := op181 (bA_at bd03_dec_X11_2_10 2 rfl rfl) rfl
theorem dX11_villages_5 : decode cX11_villages 5 = .ok (.aload_n 0, 1) := op42 (bA_at bd03_dec_X11_2_10 3 rfl rfl)
theorem dX11_villages_6 : decode cX11_villages 6 = .ok (.iload_n 1, 1) := op27 (bA_at bd03_dec_X11_2_10 4 rfl rfl)
theorem dX11_villages_7 : decode cX11_villages 7 = .ok (.invokevirtual 313, 3) := op182 (bA_at bd03_dec_X11_2_10 5 rfl rfl) rfl
theorem dX11_villages_10 : decode cX11_villages 10 = .ok (.ifCond .eq 22, 3) := op153 (bA_at bd03_dec_X11_2_10 6 rfl rfl) (by decide +kernel)
theorem dX11_villages_13 : decode cX11_villages 13 = .ok (.iload_n 2, 1) := op28 (bA_at bd03_dec_X11_2_10 7 rfl rfl)
theorem dX11_villages_14 : decode cX11_villages 14 = .ok (.iconst 0, 1) := op3 (bA_at bd03_dec_X11_2_10 8 rfl rfl)
theorem dX11_villages_15 : decode cX11_villages 15 = .ok (.bipush 99, 2) := op16 (bA_at bd03_dec_X11_2_10 9 rfl rfl) (by decide +kernel)
theorem dX11_villages_17 : decode cX11_villages 17 = .ok (.invokestatic 109, 3) := op184 (bA_at bd03_dec_X11_2_10 10 rfl rfl) rfl
theorem dX11_villages_20 : decode cX11_villages 20 = .ok (.ifCond .eq 12, 3) := op153 (bA_at bd03_dec_X11_2_10 11 rfl rfl) (by decide +kernel)
theorem bd03_dec_X11_2_11 : ([(0, [29]), (1, [3]), (2, [4]), (3, [184, 0, 109]), (6, [154, 0, 6]), (9, [16, 254]), (11, [172]), (12, [42]), (13, [28]), (14, [182, 1, 176]), (17, [54, 4]), (19, [29])] : List (Nat × List UInt8)).all (fun x => prB x.2 ((cX11_villages.data.toList.drop 23).drop x.1)) = true := by decide +kernel
theorem dX11_villages_23 : decode cX11_villages 23 = .ok (.iload_n 3, 1) := op29 (bA_at bd03_dec_X11_2_11 0 rfl rfl)
theorem dX11_villages_24 : decode cX11_villages 24 = .ok (.iconst 0, 1) := op3 (bA_at bd03_dec_X11_2_11 1 rfl rfl)
theorem dX11_villages_25 : decode cX11_villages 25 = .ok (.iconst 1, 1) := op4 (bA_at bd03_dec_X11_2_11 2 rfl rfl)
theorem dX11_villages_26 : decode cX11_villages 26 = .ok (.invokestatic 109, 3) := op184 (bA_at bd03_dec_X11_2_11 3 rfl rfl) rfl
theorem dX11_villages_29 : decode cX11_villages 29 = .ok (.ifCond .ne 6, 3) := op154 (bA_at bd03_dec_X11_2_11 4 rfl rfl) (by decide +kernel)
theorem dX11_villages_32 : decode cX11_villages 32 = .ok (.bipush (-2), 2) := op16 (bA_at bd03_dec_X11_2_11 5 rfl rfl) (by decide +kernel)
theorem dX11_villages_34 : decode cX11_villages 34 = .ok (.ireturn, 1) := op172 (bA_at bd03_dec_X11_2_11 6 rfl rfl)
theorem dX11_villages_35 : decode cX11_villages 35 = .ok (.aload_n 0, 1) := op42 (bA_at bd03_dec_X11_2_11 7 rfl rfl)
theorem dX11_villages_36 : decode cX11_villages 36 = .ok (.iload_n 2, 1) := op28 (bA_at bd03_dec_X11_2_11 8 rfl rfl)
theorem dX11_villages_37 : decode cX11_villages 37 = .ok (.invokevirtual 432, 3) := op182 (bA_at bd03_dec_X11_2_11 9 rfl rfl) rfl
theorem dX11_villages_40 : decode cX11_villages 40 = .ok (.istore 4, 2) := op54 (bA_at bd03_dec_X11_2_11 10 rfl rfl) rfl
theorem dX11_villages_42 : decode cX11_villages 42 = .ok (.iload_n 3, 1) := op29 (bA_at bd03_dec_X11_2_11 11 rfl rfl)
theorem bd03_dec_X11_2_12 : ([(0, [154, 0, 8]), (3, [21, 4]), (5, [167, 0, 15]), (8, [42]), (9, [42]), (10, [182, 1, 179]), (13, [42]), (14, [182, 1, 164]), (17, [182, 1, 182]), (20, [172])] : List (Nat × List UInt8)).all (fun x => prB x.2 ((cX11_villages.data.toList.drop 43).drop x.1)) = true := by decide +kernel
theorem dX11_villages_43 : decode cX11_villages 43 = .ok (.ifCond .ne 8, 3) := op154 (bA_at bd03_dec_X11_2_12 0 rfl rfl) (by decide +kernel)
theorem dX11_villages_46 : decode cX11_villages 46 = .ok (.iload 4, 2) := op21 (bA_at bd03_dec_X11_2_12 1 rfl rfl) rfl
theorem dX11_villages_48 : decode cX11_villages 48 = .ok (.goto 15, 3) := op167 (bA_at bd03_dec_X11_2_12 2 rfl rfl) (by decide +kernel)
theorem dX11_villages_51 : decode cX11_villages 51 = .ok (.aload_n 0, 1) := op42 (bA_at bd03_dec_X11_2_12 3 rfl rfl)
theorem dX11_villages_52 : decode cX11_villages 52 = .ok (.aload_n 0, 1) := op42 (bA_at bd03_dec_X11_2_12 4 rfl rfl)
theorem dX11_villages_53 : decode cX11_villages 53 = .ok (.invokevirtual 435, 3) := op182 (bA_at bd03_dec_X11_2_12 5 rfl rfl) rfl
theorem dX11_villages_56 : decode cX11_villages 56 = .ok (.aload_n 0, 1) := op42 (bA_at bd03_dec_X11_2_12 6 rfl rfl)
theorem dX11_villages_57 : decode cX11_villages 57 = .ok (.invokevirtual 420, 3) := op182 (bA_at bd03_dec_X11_2_12 7 rfl rfl) rfl
theorem dX11_villages_60 : decode cX11_villages 60 = .ok (.invokevirtual 438, 3) := op182 (bA_at bd03_dec_X11_2_12 8 rfl rfl) rfl
theorem dX11_villages_63 : decode cX11_villages 63 = .ok (.ireturn, 1) := op172 (bA_at bd03_dec_X11_2_12 9 rfl rfl)
theorem bd03_dec_X11_2_13 : ([(0, [42]), (1, [3]), (2, [181, 0, 97]), (5, [42]), (6, [27]), (7, [182, 1, 57]), (10, [154, 0, 5]), (13, [2]), (14, [172]), (15, [2]), (16, [62]), (17, [19, 1, 154])] : List (Nat × List UInt8)).all (fun x => prB x.2 ((cX11_best.data.toList.drop 0).drop x.1)) = true := by decide +kernel
theorem dX11_best_0 : decode cX11_best 0 = .ok (.aload_n 0, 1) := op42 (bA_at bd03_dec_X11_2_13 0 rfl rfl)
theorem dX11_best_1 : decode cX11_best 1 = .ok (.iconst 0, 1) := op3 (bA_at bd03_dec_X11_2_13 1 rfl rfl)
theorem dX11_best_2 : decode cX11_best 2 = .ok (.putfield 97, 3) := op181 (bA_at bd03_dec_X11_2_13 2 rfl rfl) rfl
theorem dX11_best_5 : decode cX11_best 5 = .ok (.aload_n 0, 1) := op42 (bA_at bd03_dec_X11_2_13 3 rfl rfl)
theorem dX11_best_6 : decode cX11_best 6 = .ok (.iload_n 1, 1) := op27 (bA_at bd03_dec_X11_2_13 4 rfl rfl)
theorem dX11_best_7 : decode cX11_best 7 = .ok (.invokevirtual 313, 3) := op182 (bA_at bd03_dec_X11_2_13 5 rfl rfl) rfl
theorem dX11_best_10 : decode cX11_best 10 = .ok (.ifCond .ne 5, 3) := op154 (bA_at bd03_dec_X11_2_13 6 rfl rfl) (by decide +kernel)
theorem dX11_best_13 : decode cX11_best 13 = .ok (.iconst (-1), 1) := op2 (bA_at bd03_dec_X11_2_13 7 rfl rfl)
theorem dX11_best_14 : decode cX11_best 14 = .ok (.ireturn, 1) := op172 (bA_at bd03_dec_X11_2_13 8 rfl rfl)
theorem dX11_best_15 : decode cX11_best 15 = .ok (.iconst (-1), 1) := op2 (bA_at bd03_dec_X11_2_13 9 rfl rfl)
theorem dX11_best_16 : decode cX11_best 16 = .ok (.istore_n 3, 1) := op62 (bA_at bd03_dec_X11_2_13 10 rfl rfl)
theorem dX11_best_17 : decode cX11_best 17 = .ok (.ldc_w 410, 3) := op19 (bA_at bd03_dec_X11_2_13 11 rfl rfl) rfl
theorem bd03_dec_X11_2_14 : ([(0, [54, 4]), (2, [3]), (3, [54, 5]), (5, [21, 5]), (7, [42]), (8, [180, 1, 51]), (11, [162, 0, 60]), (14, [42]), (15, [21, 5]), (17, [3]), (18, [182, 1, 158]), (21, [42])] : List (Nat × List UInt8)).all (fun x => prB x.2 ((cX11_best.data.toList.drop 20).drop x.1)) = true := by decide +kernel
theorem dX11_best_20 : decode cX11_best 20 = .ok (.istore 4, 2) := op54 (bA_at bd03_dec_X11_2_14 0 rfl rfl) rfl
theorem dX11_best_22 : decode cX11_best 22 = .ok (.iconst 0, 1) := op3 (bA_at bd03_dec_X11_2_14 1 rfl rfl)
theorem dX11_best_23 : decode cX11_best 23 = .ok (.istore 5, 2) := op54 (bA_at bd03_dec_X11_2_14 2 rfl rfl) rfl
theorem dX11_best_25 : decode cX11_best 25 = .ok (.iload 5, 2) := op21 (bA_at bd03_dec_X11_2_14 3 rfl rfl) rfl
theorem dX11_best_27 : decode cX11_best 27 = .ok (.aload_n 0, 1) := op42 (bA_at bd03_dec_X11_2_14 4 rfl rfl)
theorem dX11_best_28 : decode cX11_best 28 = .ok (.getfield 307, 3) := op180 (bA_at bd03_dec_X11_2_14 5 rfl rfl) rfl
theorem dX11_best_31 : decode cX11_best 31 = .ok (.if_icmp .ge 60, 3) := op162 (bA_at bd03_dec_X11_2_14 6 rfl rfl) (by decide +kernel)
theorem dX11_best_34 : decode cX11_best 34 = .ok (.aload_n 0, 1) := op42 (bA_at bd03_dec_X11_2_14 7 rfl rfl)
theorem dX11_best_35 : decode cX11_best 35 = .ok (.iload 5, 2) := op21 (bA_at bd03_dec_X11_2_14 8 rfl rfl) rfl
theorem dX11_best_37 : decode cX11_best 37 = .ok (.iconst 0, 1) := op3 (bA_at bd03_dec_X11_2_14 9 rfl rfl)
theorem dX11_best_38 : decode cX11_best 38 = .ok (.invokevirtual 414, 3) := op182 (bA_at bd03_dec_X11_2_14 10 rfl rfl) rfl
theorem dX11_best_41 : decode cX11_best 41 = .ok (.aload_n 0, 1) := op42 (bA_at bd03_dec_X11_2_14 11 rfl rfl)
theorem bd03_dec_X11_2_15 : ([(0, [21, 5]), (2, [182, 1, 99]), (5, [153, 0, 9]), (8, [19, 1, 154]), (11, [167, 0, 7]), (14, [42]), (15, [182, 1, 170]), (18, [54, 6]), (20, [21, 6]), (22, [21, 4]), (24, [162, 0, 8]), (27, [21, 5])] : List (Nat × List UInt8)).all (fun x => prB x.2 ((cX11_best.data.toList.drop 42).drop x.1)) = true := by decide +kernel
theorem dX11_best_42 : decode cX11_best 42 = .ok (.iload 5, 2) := op21 (bA_at bd03_dec_X11_2_15 0 rfl rfl) rfl
theorem dX11_best_44 : decode cX11_best 44 = .ok (.invokevirtual 355, 3) := op182 (bA_at bd03_dec_X11_2_15 1 rfl rfl) rfl
theorem dX11_best_47 : decode cX11_best 47 = .ok (.ifCond .eq 9, 3) := op153 (bA_at bd03_dec_X11_2_15 2 rfl rfl) (by decide +kernel)
theorem dX11_best_50 : decode cX11_best 50 = .ok (.ldc_w 410, 3) := op19 (bA_at bd03_dec_X11_2_15 3 rfl rfl) rfl
theorem dX11_best_53 : decode cX11_best 53 = .ok (.goto 7, 3) := op167 (bA_at bd03_dec_X11_2_15 4 rfl rfl) (by decide +kernel)
theorem dX11_best_56 : decode cX11_best 56 = .ok (.aload_n 0, 1) := op42 (bA_at bd03_dec_X11_2_15 5 rfl rfl)
theorem dX11_best_57 : decode cX11_best 57 = .ok (.invokevirtual 426, 3) := op182 (bA_at bd03_dec_X11_2_15 6 rfl rfl) rfl
theorem dX11_best_60 : decode cX11_best 60 = .ok (.istore 6, 2) := op54 (bA_at bd03_dec_X11_2_15 7 rfl rfl) rfl
theorem dX11_best_62 : decode cX11_best 62 = .ok (.iload 6, 2) := op21 (bA_at bd03_dec_X11_2_15 8 rfl rfl) rfl
theorem dX11_best_64 : decode cX11_best 64 = .ok (.iload 4, 2) := op21 (bA_at bd03_dec_X11_2_15 9 rfl rfl) rfl
theorem dX11_best_66 : decode cX11_best 66 = .ok (.if_icmp .ge 8, 3) := op162 (bA_at bd03_dec_X11_2_15 10 rfl rfl) (by decide +kernel)
theorem dX11_best_69 : decode cX11_best 69 = .ok (.iload 5, 2) := op21 (bA_at bd03_dec_X11_2_15 11 rfl rfl) rfl
theorem bd03_dec_X11_2_16 : ([(0, [167, 0, 4]), (3, [29]), (4, [62]), (5, [21, 4]), (7, [21, 6]), (9, [184, 1, 155]), (12, [54, 4]), (14, [132, 5, 1]), (17, [167, 255, 193]), (20, [29]), (21, [2]), (22, [159, 0, 7])] : List (Nat × List UInt8)).all (fun x => prB x.2 ((cX11_best.data.toList.drop 71).drop x.1)) = true := by decide +kernel
theorem dX11_best_71 : decode cX11_best 71 = .ok (.goto 4, 3) := op167 (bA_at bd03_dec_X11_2_16 0 rfl rfl) (by decide +kernel)
theorem dX11_best_74 : decode cX11_best 74 = .ok (.iload_n 3, 1) := op29 (bA_at bd03_dec_X11_2_16 1 rfl rfl)
theorem dX11_best_75 : decode cX11_best 75 = .ok (.istore_n 3, 1) := op62 (bA_at bd03_dec_X11_2_16 2 rfl rfl)
theorem dX11_best_76 : decode cX11_best 76 = .ok (.iload 4, 2) := op21 (bA_at bd03_dec_X11_2_16 3 rfl rfl) rfl
theorem dX11_best_78 : decode cX11_best 78 = .ok (.iload 6, 2) := op21 (bA_at bd03_dec_X11_2_16 4 rfl rfl) rfl
theorem dX11_best_80 : decode cX11_best 80 = .ok (.invokestatic 411, 3) := op184 (bA_at bd03_dec_X11_2_16 5 rfl rfl) rfl
theorem dX11_best_83 : decode cX11_best 83 = .ok (.istore 4, 2) := op54 (bA_at bd03_dec_X11_2_16 6 rfl rfl) rfl
theorem dX11_best_85 : decode cX11_best 85 = .ok (.iinc 5 1, 3) := op132 (bA_at bd03_dec_X11_2_16 7 rfl rfl) rfl (by decide +kernel)
theorem dX11_best_88 : decode cX11_best 88 = .ok (.goto (-63), 3) := op167 (bA_at bd03_dec_X11_2_16 8 rfl rfl) (by decide +kernel)
theorem dX11_best_91 : decode cX11_best 91 = .ok (.iload_n 3, 1) := op29 (bA_at bd03_dec_X11_2_16 9 rfl rfl)
theorem dX11_best_92 : decode cX11_best 92 = .ok (.iconst (-1), 1) := op2 (bA_at bd03_dec_X11_2_16 10 rfl rfl)
theorem dX11_best_93 : decode cX11_best 93 = .ok (.if_icmp .eq 7, 3) := op159 (bA_at bd03_dec_X11_2_16 11 rfl rfl) (by decide +kernel)
theorem bd03_dec_X11_2_17 : ([(0, [28]), (1, [154, 0, 7]), (4, [29]), (5, [167, 0, 5]), (8, [21, 4]), (10, [172])] : List (Nat × List UInt8)).all (fun x => prB x.2 ((cX11_best.data.toList.drop 96).drop x.1)) = true := by decide +kernel
theorem dX11_best_96 : decode cX11_best 96 = .ok (.iload_n 2, 1) := op28 (bA_at bd03_dec_X11_2_17 0 rfl rfl)
theorem dX11_best_97 : decode cX11_best 97 = .ok (.ifCond .ne 7, 3) := op154 (bA_at bd03_dec_X11_2_17 1 rfl rfl) (by decide +kernel)
theorem dX11_best_100 : decode cX11_best 100 = .ok (.iload_n 3, 1) := op29 (bA_at bd03_dec_X11_2_17 2 rfl rfl)
theorem dX11_best_101 : decode cX11_best 101 = .ok (.goto 5, 3) := op167 (bA_at bd03_dec_X11_2_17 3 rfl rfl) (by decide +kernel)
theorem dX11_best_104 : decode cX11_best 104 = .ok (.iload 4, 2) := op21 (bA_at bd03_dec_X11_2_17 4 rfl rfl) rfl
theorem dX11_best_106 : decode cX11_best 106 = .ok (.ireturn, 1) := op172 (bA_at bd03_dec_X11_2_17 5 rfl rfl)
theorem bd03_dec_X11_2_18 : ([(0, [2]), (1, [60]), (2, [3]), (3, [61]), (4, [28]), (5, [42]), (6, [180, 1, 51]), (9, [162, 0, 42]), (12, [42]), (13, [180, 0, 74]), (16, [28]), (17, [51])] : List (Nat × List UInt8)).all (fun x => prB x.2 ((cX11_nextDown.data.toList.drop 0).drop x.1)) = true := by decide +kernel
theorem dX11_nextDown_0 : decode cX11_nextDown 0 = .ok (.iconst (-1), 1) := op2 (bA_at bd03_dec_X11_2_18 0 rfl rfl)
theorem dX11_nextDown_1 : decode cX11_nextDown 1 = .ok (.istore_n 1, 1) := op60 (bA_at bd03_dec_X11_2_18 1 rfl rfl)
theorem dX11_nextDown_2 : decode cX11_nextDown 2 = .ok (.iconst 0, 1) := op3 (bA_at bd03_dec_X11_2_18 2 rfl rfl)
theorem dX11_nextDown_3 : decode cX11_nextDown 3 = .ok (.istore_n 2, 1) := op61 (bA_at bd03_dec_X11_2_18 3 rfl rfl)
theorem dX11_nextDown_4 : decode cX11_nextDown 4 = .ok (.iload_n 2, 1) := op28 (bA_at bd03_dec_X11_2_18 4 rfl rfl)
theorem dX11_nextDown_5 : decode cX11_nextDown 5 = .ok (.aload_n 0, 1) := op42 (bA_at bd03_dec_X11_2_18 5 rfl rfl)
theorem dX11_nextDown_6 : decode cX11_nextDown 6 = .ok (.getfield 307, 3) := op180 (bA_at bd03_dec_X11_2_18 6 rfl rfl) rfl
theorem dX11_nextDown_9 : decode cX11_nextDown 9 = .ok (.if_icmp .ge 42, 3) := op162 (bA_at bd03_dec_X11_2_18 7 rfl rfl) (by decide +kernel)
theorem dX11_nextDown_12 : decode cX11_nextDown 12 = .ok (.aload_n 0, 1) := op42 (bA_at bd03_dec_X11_2_18 8 rfl rfl)
theorem dX11_nextDown_13 : decode cX11_nextDown 13 = .ok (.getfield 74, 3) := op180 (bA_at bd03_dec_X11_2_18 9 rfl rfl) rfl
theorem dX11_nextDown_16 : decode cX11_nextDown 16 = .ok (.iload_n 2, 1) := op28 (bA_at bd03_dec_X11_2_18 10 rfl rfl)
theorem dX11_nextDown_17 : decode cX11_nextDown 17 = .ok (.baload, 1) := op51 (bA_at bd03_dec_X11_2_18 11 rfl rfl)
theorem bd03_dec_X11_2_19 : ([(0, [154, 0, 25]), (3, [27]), (4, [2]), (5, [159, 0, 16]), (8, [42]), (9, [28]), (10, [182, 1, 66]), (13, [42]), (14, [27]), (15, [182, 1, 66]), (18, [164, 0, 7]), (21, [28])] : List (Nat × List UInt8)).all (fun x => prB x.2 ((cX11_nextDown.data.toList.drop 18).drop x.1)) = true := by decide +kernel
theorem dX11_nextDown_18 : decode cX11_nextDown 18 = .ok (.ifCond .ne 25, 3) := op154 (bA_at bd03_dec_X11_2_19 0 rfl rfl) (by decide +kernel)
theorem dX11_nextDown_21 : decode cX11_nextDown 21 = .ok (.iload_n 1, 1) := op27 (bA_at bd03_dec_X11_2_19 1 rfl rfl)
theorem dX11_nextDown_22 : decode cX11_nextDown 22 = .ok (.iconst (-1), 1) := op2 (bA_at bd03_dec_X11_2_19 2 rfl rfl)
theorem dX11_nextDown_23 : decode cX11_nextDown 23 = .ok (.if_icmp .eq 16, 3) := op159 (bA_at bd03_dec_X11_2_19 3 rfl rfl) (by decide +kernel)
theorem dX11_nextDown_26 : decode cX11_nextDown 26 = .ok (.aload_n 0, 1) := op42 (bA_at bd03_dec_X11_2_19 4 rfl rfl)
theorem dX11_nextDown_27 : decode cX11_nextDown 27 = .ok (.iload_n 2, 1) := op28 (bA_at bd03_dec_X11_2_19 5 rfl rfl)
theorem dX11_nextDown_28 : decode cX11_nextDown 28 = .ok (.invokevirtual 322, 3) := op182 (bA_at bd03_dec_X11_2_19 6 rfl rfl) rfl
theorem dX11_nextDown_31 : decode cX11_nextDown 31 = .ok (.aload_n 0, 1) := op42 (bA_at bd03_dec_X11_2_19 7 rfl rfl)
theorem dX11_nextDown_32 : decode cX11_nextDown 32 = .ok (.iload_n 1, 1) := op27 (bA_at bd03_dec_X11_2_19 8 rfl rfl)
theorem dX11_nextDown_33 : decode cX11_nextDown 33 = .ok (.invokevirtual 322, 3) := op182 (bA_at bd03_dec_X11_2_19 9 rfl rfl) rfl
theorem dX11_nextDown_36 : decode cX11_nextDown 36 = .ok (.if_icmp .le 7, 3) := op164 (bA_at bd03_dec_X11_2_19 10 rfl rfl) (by decide +kernel)
theorem dX11_nextDown_39 : decode cX11_nextDown 39 = .ok (.iload_n 2, 1) := op28 (bA_at bd03_dec_X11_2_19 11 rfl rfl)
theorem bd03_dec_X11_2_20 : ([(0, [167, 0, 4]), (3, [27]), (4, [60]), (5, [132, 2, 1]), (8, [167, 255, 212]), (11, [27]), (12, [172])] : List (Nat × List UInt8)).all (fun x => prB x.2 ((cX11_nextDown.data.toList.drop 40).drop x.1)) = true := by decide +kernel
theorem dX11_nextDown_40 : decode cX11_nextDown 40 = .ok (.goto 4, 3) := op167 (bA_at bd03_dec_X11_2_20 0 rfl rfl) (by decide +kernel)
theorem dX11_nextDown_43 : decode cX11_nextDown 43 = .ok (.iload_n 1, 1) := op27 (bA_at bd03_dec_X11_2_20 1 rfl rfl)
theorem dX11_nextDown_44 : decode cX11_nextDown 44 = .ok (.istore_n 1, 1) := op60 (bA_at bd03_dec_X11_2_20 2 rfl rfl)
theorem dX11_nextDown_45 : decode cX11_nextDown 45 = .ok (.iinc 2 1, 3) := op132 (bA_at bd03_dec_X11_2_20 3 rfl rfl) rfl (by decide +kernel)
theorem dX11_nextDown_48 : decode cX11_nextDown 48 = .ok (.goto (-44), 3) := op167 (bA_at bd03_dec_X11_2_20 4 rfl rfl) (by decide +kernel)
theorem dX11_nextDown_51 : decode cX11_nextDown 51 = .ok (.iload_n 1, 1) := op27 (bA_at bd03_dec_X11_2_20 5 rfl rfl)
theorem dX11_nextDown_52 : decode cX11_nextDown 52 = .ok (.ireturn, 1) := op172 (bA_at bd03_dec_X11_2_20 6 rfl rfl)
theorem bd03_dec_X11_2_21 : ([(0, [42]), (1, [27]), (2, [28]), (3, [182, 1, 63]), (6, [153, 0, 33]), (9, [42]), (10, [28]), (11, [182, 1, 66]), (14, [42]), (15, [27]), (16, [182, 1, 66]), (19, [162, 0, 20])] : List (Nat × List UInt8)).all (fun x => prB x.2 ((cX11_goesDown.data.toList.drop 0).drop x.1)) = true := by decide +kernel
theorem dX11_goesDown_0 : decode cX11_goesDown 0 = .ok (.aload_n 0, 1) := op42 (bA_at bd03_dec_X11_2_21 0 rfl rfl)
theorem dX11_goesDown_1 : decode cX11_goesDown 1 = .ok (.iload_n 1, 1) := op27 (bA_at bd03_dec_X11_2_21 1 rfl rfl)
theorem dX11_goesDown_2 : decode cX11_goesDown 2 = .ok (.iload_n 2, 1) := op28 (bA_at bd03_dec_X11_2_21 2 rfl rfl)
theorem dX11_goesDown_3 : decode cX11_goesDown 3 = .ok (.invokevirtual 319, 3) := op182 (bA_at bd03_dec_X11_2_21 3 rfl rfl) rfl
theorem dX11_goesDown_6 : decode cX11_goesDown 6 = .ok (.ifCond .eq 33, 3) := op153 (bA_at bd03_dec_X11_2_21 4 rfl rfl) (by decide +kernel)
theorem dX11_goesDown_9 : decode cX11_goesDown 9 = .ok (.aload_n 0, 1) := op42 (bA_at bd03_dec_X11_2_21 5 rfl rfl)
theorem dX11_goesDown_10 : decode cX11_goesDown 10 = .ok (.iload_n 2, 1) := op28 (bA_at bd03_dec_X11_2_21 6 rfl rfl)
theorem dX11_goesDown_11 : decode cX11_goesDown 11 = .ok (.invokevirtual 322, 3) := op182 (bA_at bd03_dec_X11_2_21 7 rfl rfl) rfl
theorem dX11_goesDown_14 : decode cX11_goesDown 14 = .ok (.aload_n 0, 1) := op42 (bA_at bd03_dec_X11_2_21 8 rfl rfl)
theorem dX11_goesDown_15 : decode cX11_goesDown 15 = .ok (.iload_n 1, 1) := op27 (bA_at bd03_dec_X11_2_21 9 rfl rfl)
theorem dX11_goesDown_16 : decode cX11_goesDown 16 = .ok (.invokevirtual 322, 3) := op182 (bA_at bd03_dec_X11_2_21 10 rfl rfl) rfl
theorem dX11_goesDown_19 : decode cX11_goesDown 19 = .ok (.if_icmp .ge 20, 3) := op162 (bA_at bd03_dec_X11_2_21 11 rfl rfl) (by decide +kernel)
theorem bd03_dec_X11_2_22 : ([(0, [42]), (1, [28]), (2, [182, 1, 99]), (5, [154, 0, 12]), (8, [42]), (9, [180, 0, 65]), (12, [27]), (13, [46]), (14, [154, 0, 4]), (17, [177]), (18, [42]), (19, [180, 0, 71])] : List (Nat × List UInt8)).all (fun x => prB x.2 ((cX11_goesDown.data.toList.drop 22).drop x.1)) = true := by decide +kernel
theorem dX11_goesDown_22 : decode cX11_goesDown 22 = .ok (.aload_n 0, 1) := op42 (bA_at bd03_dec_X11_2_22 0 rfl rfl)
theorem dX11_goesDown_23 : decode cX11_goesDown 23 = .ok (.iload_n 2, 1) := op28 (bA_at bd03_dec_X11_2_22 1 rfl rfl)
theorem dX11_goesDown_24 : decode cX11_goesDown 24 = .ok (.invokevirtual 355, 3) := op182 (bA_at bd03_dec_X11_2_22 2 rfl rfl) rfl
theorem dX11_goesDown_27 : decode cX11_goesDown 27 = .ok (.ifCond .ne 12, 3) := op154 (bA_at bd03_dec_X11_2_22 3 rfl rfl) (by decide +kernel)
theorem dX11_goesDown_30 : decode cX11_goesDown 30 = .ok (.aload_n 0, 1) := op42 (bA_at bd03_dec_X11_2_22 4 rfl rfl)
theorem dX11_goesDown_31 : decode cX11_goesDown 31 = .ok (.getfield 65, 3) := op180 (bA_at bd03_dec_X11_2_22 5 rfl rfl) rfl
theorem dX11_goesDown_34 : decode cX11_goesDown 34 = .ok (.iload_n 1, 1) := op27 (bA_at bd03_dec_X11_2_22 6 rfl rfl)
theorem dX11_goesDown_35 : decode cX11_goesDown 35 = .ok (.iaload, 1) := op46 (bA_at bd03_dec_X11_2_22 7 rfl rfl)
theorem dX11_goesDown_36 : decode cX11_goesDown 36 = .ok (.ifCond .ne 4, 3) := op154 (bA_at bd03_dec_X11_2_22 8 rfl rfl) (by decide +kernel)
theorem dX11_goesDown_39 : decode cX11_goesDown 39 = .ok (.return_, 1) := op177 (bA_at bd03_dec_X11_2_22 9 rfl rfl)
theorem dX11_goesDown_40 : decode cX11_goesDown 40 = .ok (.aload_n 0, 1) := op42 (bA_at bd03_dec_X11_2_22 10 rfl rfl)
theorem dX11_goesDown_41 : decode cX11_goesDown 41 = .ok (.getfield 71, 3) := op180 (bA_at bd03_dec_X11_2_22 11 rfl rfl) rfl
theorem bd03_dec_X11_2_23 : ([(0, [27]), (1, [46]), (2, [42]), (3, [27]), (4, [182, 1, 66]), (7, [42]), (8, [28]), (9, [182, 1, 66]), (12, [100]), (13, [184, 0, 171]), (16, [62]), (17, [42])] : List (Nat × List UInt8)).all (fun x => prB x.2 ((cX11_goesDown.data.toList.drop 44).drop x.1)) = true := by decide +kernel
theorem dX11_goesDown_44 : decode cX11_goesDown 44 = .ok (.iload_n 1, 1) := op27 (bA_at bd03_dec_X11_2_23 0 rfl rfl)
theorem dX11_goesDown_45 : decode cX11_goesDown 45 = .ok (.iaload, 1) := op46 (bA_at bd03_dec_X11_2_23 1 rfl rfl)
theorem dX11_goesDown_46 : decode cX11_goesDown 46 = .ok (.aload_n 0, 1) := op42 (bA_at bd03_dec_X11_2_23 2 rfl rfl)
theorem dX11_goesDown_47 : decode cX11_goesDown 47 = .ok (.iload_n 1, 1) := op27 (bA_at bd03_dec_X11_2_23 3 rfl rfl)
theorem dX11_goesDown_48 : decode cX11_goesDown 48 = .ok (.invokevirtual 322, 3) := op182 (bA_at bd03_dec_X11_2_23 4 rfl rfl) rfl
theorem dX11_goesDown_51 : decode cX11_goesDown 51 = .ok (.aload_n 0, 1) := op42 (bA_at bd03_dec_X11_2_23 5 rfl rfl)
theorem dX11_goesDown_52 : decode cX11_goesDown 52 = .ok (.iload_n 2, 1) := op28 (bA_at bd03_dec_X11_2_23 6 rfl rfl)
theorem dX11_goesDown_53 : decode cX11_goesDown 53 = .ok (.invokevirtual 322, 3) := op182 (bA_at bd03_dec_X11_2_23 7 rfl rfl) rfl
theorem dX11_goesDown_56 : decode cX11_goesDown 56 = .ok (.isub, 1) := op100 (bA_at bd03_dec_X11_2_23 8 rfl rfl)
theorem dX11_goesDown_57 : decode cX11_goesDown 57 = .ok (.invokestatic 171, 3) := op184 (bA_at bd03_dec_X11_2_23 9 rfl rfl) rfl
theorem dX11_goesDown_60 : decode cX11_goesDown 60 = .ok (.istore_n 3, 1) := op62 (bA_at bd03_dec_X11_2_23 10 rfl rfl)
theorem dX11_goesDown_61 : decode cX11_goesDown 61 = .ok (.aload_n 0, 1) := op42 (bA_at bd03_dec_X11_2_23 11 rfl rfl)
theorem bd03_dec_X11_2_24 : ([(0, [180, 0, 71]), (3, [28]), (4, [42]), (5, [180, 0, 65]), (8, [28]), (9, [46]), (10, [154, 0, 7]), (13, [29]), (14, [167, 0, 13]), (17, [42]), (18, [180, 0, 71]), (21, [28])] : List (Nat × List UInt8)).all (fun x => prB x.2 ((cX11_goesDown.data.toList.drop 62).drop x.1)) = true := by decide +kernel
theorem dX11_goesDown_62 : decode cX11_goesDown 62 = .ok (.getfield 71, 3) := op180 (bA_at bd03_dec_X11_2_24 0 rfl rfl) rfl
theorem dX11_goesDown_65 : decode cX11_goesDown 65 = .ok (.iload_n 2, 1) := op28 (bA_at bd03_dec_X11_2_24 1 rfl rfl)
theorem dX11_goesDown_66 : decode cX11_goesDown 66 = .ok (.aload_n 0, 1) := op42 (bA_at bd03_dec_X11_2_24 2 rfl rfl)
theorem dX11_goesDown_67 : decode cX11_goesDown 67 = .ok (.getfield 65, 3) := op180 (bA_at bd03_dec_X11_2_24 3 rfl rfl) rfl
theorem dX11_goesDown_70 : decode cX11_goesDown 70 = .ok (.iload_n 2, 1) := op28 (bA_at bd03_dec_X11_2_24 4 rfl rfl)
theorem dX11_goesDown_71 : decode cX11_goesDown 71 = .ok (.iaload, 1) := op46 (bA_at bd03_dec_X11_2_24 5 rfl rfl)
theorem dX11_goesDown_72 : decode cX11_goesDown 72 = .ok (.ifCond .ne 7, 3) := op154 (bA_at bd03_dec_X11_2_24 6 rfl rfl) (by decide +kernel)
theorem dX11_goesDown_75 : decode cX11_goesDown 75 = .ok (.iload_n 3, 1) := op29 (bA_at bd03_dec_X11_2_24 7 rfl rfl)
theorem dX11_goesDown_76 : decode cX11_goesDown 76 = .ok (.goto 13, 3) := op167 (bA_at bd03_dec_X11_2_24 8 rfl rfl) (by decide +kernel)
theorem dX11_goesDown_79 : decode cX11_goesDown 79 = .ok (.aload_n 0, 1) := op42 (bA_at bd03_dec_X11_2_24 9 rfl rfl)
theorem dX11_goesDown_80 : decode cX11_goesDown 80 = .ok (.getfield 71, 3) := op180 (bA_at bd03_dec_X11_2_24 10 rfl rfl) rfl
theorem dX11_goesDown_83 : decode cX11_goesDown 83 = .ok (.iload_n 2, 1) := op28 (bA_at bd03_dec_X11_2_24 11 rfl rfl)
theorem bd03_dec_X11_2_25 : ([(0, [46]), (1, [29]), (2, [184, 1, 155]), (5, [79]), (6, [42]), (7, [180, 0, 68]), (10, [28]), (11, [42]), (12, [180, 0, 65]), (15, [28]), (16, [46]), (17, [154, 0, 14])] : List (Nat × List UInt8)).all (fun x => prB x.2 ((cX11_goesDown.data.toList.drop 84).drop x.1)) = true := by decide +kernel
theorem dX11_goesDown_84 : decode cX11_goesDown 84 = .ok (.iaload, 1) := op46 (bA_at bd03_dec_X11_2_25 0 rfl rfl)
theorem dX11_goesDown_85 : decode cX11_goesDown 85 = .ok (.iload_n 3, 1) := op29 (bA_at bd03_dec_X11_2_25 1 rfl rfl)
theorem dX11_goesDown_86 : decode cX11_goesDown 86 = .ok (.invokestatic 411, 3) := op184 (bA_at bd03_dec_X11_2_25 2 rfl rfl) rfl
theorem dX11_goesDown_89 : decode cX11_goesDown 89 = .ok (.iastore, 1) := op79 (bA_at bd03_dec_X11_2_25 3 rfl rfl)
theorem dX11_goesDown_90 : decode cX11_goesDown 90 = .ok (.aload_n 0, 1) := op42 (bA_at bd03_dec_X11_2_25 4 rfl rfl)
theorem dX11_goesDown_91 : decode cX11_goesDown 91 = .ok (.getfield 68, 3) := op180 (bA_at bd03_dec_X11_2_25 5 rfl rfl) rfl
theorem dX11_goesDown_94 : decode cX11_goesDown 94 = .ok (.iload_n 2, 1) := op28 (bA_at bd03_dec_X11_2_25 6 rfl rfl)
theorem dX11_goesDown_95 : decode cX11_goesDown 95 = .ok (.aload_n 0, 1) := op42 (bA_at bd03_dec_X11_2_25 7 rfl rfl)
theorem dX11_goesDown_96 : decode cX11_goesDown 96 = .ok (.getfield 65, 3) := op180 (bA_at bd03_dec_X11_2_25 8 rfl rfl) rfl
theorem dX11_goesDown_99 : decode cX11_goesDown 99 = .ok (.iload_n 2, 1) := op28 (bA_at bd03_dec_X11_2_25 9 rfl rfl)
theorem dX11_goesDown_100 : decode cX11_goesDown 100 = .ok (.iaload, 1) := op46 (bA_at bd03_dec_X11_2_25 10 rfl rfl)
theorem dX11_goesDown_101 : decode cX11_goesDown 101 = .ok (.ifCond .ne 14, 3) := op154 (bA_at bd03_dec_X11_2_25 11 rfl rfl) (by decide +kernel)
theorem bd03_dec_X11_2_26 : ([(0, [42]), (1, [180, 0, 68]), (4, [27]), (5, [46]), (6, [4]), (7, [96]), (8, [167, 0, 20]), (11, [42]), (12, [180, 0, 68]), (15, [28]), (16, [46]), (17, [42])] : List (Nat × List UInt8)).all (fun x => prB x.2 ((cX11_goesDown.data.toList.drop 104).drop x.1)) = true := by decide +kernel
theorem dX11_goesDown_104 : decode cX11_goesDown 104 = .ok (.aload_n 0, 1) := op42 (bA_at bd03_dec_X11_2_26 0 rfl rfl)
theorem dX11_goesDown_105 : decode cX11_goesDown 105 = .ok (.getfield 68, 3) := op180 (bA_at bd03_dec_X11_2_26 1 rfl rfl) rfl
theorem dX11_goesDown_108 : decode cX11_goesDown 108 = .ok (.iload_n 1, 1) := op27 (bA_at bd03_dec_X11_2_26 2 rfl rfl)
theorem dX11_goesDown_109 : decode cX11_goesDown 109 = .ok (.iaload, 1) := op46 (bA_at bd03_dec_X11_2_26 3 rfl rfl)
theorem dX11_goesDown_110 : decode cX11_goesDown 110 = .ok (.iconst 1, 1) := op4 (bA_at bd03_dec_X11_2_26 4 rfl rfl)
theorem dX11_goesDown_111 : decode cX11_goesDown 111 = .ok (.iadd, 1) := op96 (bA_at bd03_dec_X11_2_26 5 rfl rfl)
theorem dX11_goesDown_112 : decode cX11_goesDown 112 = .ok (.goto 20, 3) := op167 (bA_at bd03_dec_X11_2_26 6 rfl rfl) (by decide +kernel)
theorem dX11_goesDown_115 : decode cX11_goesDown 115 = .ok (.aload_n 0, 1) := op42 (bA_at bd03_dec_X11_2_26 7 rfl rfl)
theorem dX11_goesDown_116 : decode cX11_goesDown 116 = .ok (.getfield 68, 3) := op180 (bA_at bd03_dec_X11_2_26 8 rfl rfl) rfl
theorem dX11_goesDown_119 : decode cX11_goesDown 119 = .ok (.iload_n 2, 1) := op28 (bA_at bd03_dec_X11_2_26 9 rfl rfl)
theorem dX11_goesDown_120 : decode cX11_goesDown 120 = .ok (.iaload, 1) := op46 (bA_at bd03_dec_X11_2_26 10 rfl rfl)
theorem dX11_goesDown_121 : decode cX11_goesDown 121 = .ok (.aload_n 0, 1) := op42 (bA_at bd03_dec_X11_2_26 11 rfl rfl)
theorem bd03_dec_X11_2_27 : ([(0, [180, 0, 68]), (3, [27]), (4, [46]), (5, [4]), (6, [96]), (7, [184, 0, 171]), (10, [79]), (11, [42]), (12, [180, 0, 65]), (15, [28]), (16, [92]), (17, [46])] : List (Nat × List UInt8)).all (fun x => prB x.2 ((cX11_goesDown.data.toList.drop 122).drop x.1)) = true := by decide +kernel
theorem dX11_goesDown_122 : decode cX11_goesDown 122 = .ok (.getfield 68, 3) := op180 (bA_at bd03_dec_X11_2_27 0 rfl rfl) rfl
theorem dX11_goesDown_125 : decode cX11_goesDown 125 = .ok (.iload_n 1, 1) := op27 (bA_at bd03_dec_X11_2_27 1 rfl rfl)
theorem dX11_goesDown_126 : decode cX11_goesDown 126 = .ok (.iaload, 1) := op46 (bA_at bd03_dec_X11_2_27 2 rfl rfl)
theorem dX11_goesDown_127 : decode cX11_goesDown 127 = .ok (.iconst 1, 1) := op4 (bA_at bd03_dec_X11_2_27 3 rfl rfl)
theorem dX11_goesDown_128 : decode cX11_goesDown 128 = .ok (.iadd, 1) := op96 (bA_at bd03_dec_X11_2_27 4 rfl rfl)
theorem dX11_goesDown_129 : decode cX11_goesDown 129 = .ok (.invokestatic 171, 3) := op184 (bA_at bd03_dec_X11_2_27 5 rfl rfl) rfl
theorem dX11_goesDown_132 : decode cX11_goesDown 132 = .ok (.iastore, 1) := op79 (bA_at bd03_dec_X11_2_27 6 rfl rfl)
theorem dX11_goesDown_133 : decode cX11_goesDown 133 = .ok (.aload_n 0, 1) := op42 (bA_at bd03_dec_X11_2_27 7 rfl rfl)
theorem dX11_goesDown_134 : decode cX11_goesDown 134 = .ok (.getfield 65, 3) := op180 (bA_at bd03_dec_X11_2_27 8 rfl rfl) rfl
theorem dX11_goesDown_137 : decode cX11_goesDown 137 = .ok (.iload_n 2, 1) := op28 (bA_at bd03_dec_X11_2_27 9 rfl rfl)
theorem dX11_goesDown_138 : decode cX11_goesDown 138 = .ok (.dup2, 1) := op92 (bA_at bd03_dec_X11_2_27 10 rfl rfl)
theorem dX11_goesDown_139 : decode cX11_goesDown 139 = .ok (.iaload, 1) := op46 (bA_at bd03_dec_X11_2_27 11 rfl rfl)
theorem bd03_dec_X11_2_28 : ([(0, [42]), (1, [180, 0, 65]), (4, [27]), (5, [46]), (6, [96]), (7, [79]), (8, [177])] : List (Nat × List UInt8)).all (fun x => prB x.2 ((cX11_goesDown.data.toList.drop 140).drop x.1)) = true := by decide +kernel
theorem dX11_goesDown_140 : decode cX11_goesDown 140 = .ok (.aload_n 0, 1) := op42 (bA_at bd03_dec_X11_2_28 0 rfl rfl)
theorem dX11_goesDown_141 : decode cX11_goesDown 141 = .ok (.getfield 65, 3) := op180 (bA_at bd03_dec_X11_2_28 1 rfl rfl) rfl
theorem dX11_goesDown_144 : decode cX11_goesDown 144 = .ok (.iload_n 1, 1) := op27 (bA_at bd03_dec_X11_2_28 2 rfl rfl)
theorem dX11_goesDown_145 : decode cX11_goesDown 145 = .ok (.iaload, 1) := op46 (bA_at bd03_dec_X11_2_28 3 rfl rfl)
theorem dX11_goesDown_146 : decode cX11_goesDown 146 = .ok (.iadd, 1) := op96 (bA_at bd03_dec_X11_2_28 4 rfl rfl)
theorem dX11_goesDown_147 : decode cX11_goesDown 147 = .ok (.iastore, 1) := op79 (bA_at bd03_dec_X11_2_28 5 rfl rfl)
theorem dX11_goesDown_148 : decode cX11_goesDown 148 = .ok (.return_, 1) := op177 (bA_at bd03_dec_X11_2_28 6 rfl rfl)
theorem bd03_dec_X11_2_29 : ([(0, [3]), (1, [61]), (2, [28]), (3, [42]), (4, [180, 1, 51]), (7, [162, 0, 54]), (10, [42]), (11, [180, 0, 65]), (14, [28]), (15, [28]), (16, [27]), (17, [160, 0, 15])] : List (Nat × List UInt8)).all (fun x => prB x.2 ((cX11_findRoutes.data.toList.drop 0).drop x.1)) = true := by decide +kernel
theorem dX11_findRoutes_0 : decode cX11_findRoutes 0 = .ok (.iconst 0, 1) := op3 (bA_at bd03_dec_X11_2_29 0 rfl rfl)
theorem dX11_findRoutes_1 : decode cX11_findRoutes 1 = .ok (.istore_n 2, 1) := op61 (bA_at bd03_dec_X11_2_29 1 rfl rfl)
theorem dX11_findRoutes_2 : decode cX11_findRoutes 2 = .ok (.iload_n 2, 1) := op28 (bA_at bd03_dec_X11_2_29 2 rfl rfl)
theorem dX11_findRoutes_3 : decode cX11_findRoutes 3 = .ok (.aload_n 0, 1) := op42 (bA_at bd03_dec_X11_2_29 3 rfl rfl)
theorem dX11_findRoutes_4 : decode cX11_findRoutes 4 = .ok (.getfield 307, 3) := op180 (bA_at bd03_dec_X11_2_29 4 rfl rfl) rfl
theorem dX11_findRoutes_7 : decode cX11_findRoutes 7 = .ok (.if_icmp .ge 54, 3) := op162 (bA_at bd03_dec_X11_2_29 5 rfl rfl) (by decide +kernel)
theorem dX11_findRoutes_10 : decode cX11_findRoutes 10 = .ok (.aload_n 0, 1) := op42 (bA_at bd03_dec_X11_2_29 6 rfl rfl)
theorem dX11_findRoutes_11 : decode cX11_findRoutes 11 = .ok (.getfield 65, 3) := op180 (bA_at bd03_dec_X11_2_29 7 rfl rfl) rfl
theorem dX11_findRoutes_14 : decode cX11_findRoutes 14 = .ok (.iload_n 2, 1) := op28 (bA_at bd03_dec_X11_2_29 8 rfl rfl)
theorem dX11_findRoutes_15 : decode cX11_findRoutes 15 = .ok (.iload_n 2, 1) := op28 (bA_at bd03_dec_X11_2_29 9 rfl rfl)
theorem dX11_findRoutes_16 : decode cX11_findRoutes 16 = .ok (.iload_n 1, 1) := op27 (bA_at bd03_dec_X11_2_29 10 rfl rfl)
theorem dX11_findRoutes_17 : decode cX11_findRoutes 17 = .ok (.if_icmp .ne 15, 3) := op160 (bA_at bd03_dec_X11_2_29 11 rfl rfl) (by decide +kernel)
theorem bd03_dec_X11_2_30 : ([(0, [42]), (1, [28]), (2, [182, 1, 99]), (5, [154, 0, 7]), (8, [4]), (9, [167, 0, 4]), (12, [3]), (13, [79]), (14, [42]), (15, [180, 0, 68]), (18, [28]), (19, [3])] : List (Nat × List UInt8)).all (fun x => prB x.2 ((cX11_findRoutes.data.toList.drop 20).drop x.1)) = true := by decide +kernel
theorem dX11_findRoutes_20 : decode cX11_findRoutes 20 = .ok (.aload_n 0, 1) := op42 (bA_at bd03_dec_X11_2_30 0 rfl rfl)
theorem dX11_findRoutes_21 : decode cX11_findRoutes 21 = .ok (.iload_n 2, 1) := op28 (bA_at bd03_dec_X11_2_30 1 rfl rfl)
theorem dX11_findRoutes_22 : decode cX11_findRoutes 22 = .ok (.invokevirtual 355, 3) := op182 (bA_at bd03_dec_X11_2_30 2 rfl rfl) rfl
theorem dX11_findRoutes_25 : decode cX11_findRoutes 25 = .ok (.ifCond .ne 7, 3) := op154 (bA_at bd03_dec_X11_2_30 3 rfl rfl) (by decide +kernel)
theorem dX11_findRoutes_28 : decode cX11_findRoutes 28 = .ok (.iconst 1, 1) := op4 (bA_at bd03_dec_X11_2_30 4 rfl rfl)
theorem dX11_findRoutes_29 : decode cX11_findRoutes 29 = .ok (.goto 4, 3) := op167 (bA_at bd03_dec_X11_2_30 5 rfl rfl) (by decide +kernel)
theorem dX11_findRoutes_32 : decode cX11_findRoutes 32 = .ok (.iconst 0, 1) := op3 (bA_at bd03_dec_X11_2_30 6 rfl rfl)
theorem dX11_findRoutes_33 : decode cX11_findRoutes 33 = .ok (.iastore, 1) := op79 (bA_at bd03_dec_X11_2_30 7 rfl rfl)
theorem dX11_findRoutes_34 : decode cX11_findRoutes 34 = .ok (.aload_n 0, 1) := op42 (bA_at bd03_dec_X11_2_30 8 rfl rfl)
theorem dX11_findRoutes_35 : decode cX11_findRoutes 35 = .ok (.getfield 68, 3) := op180 (bA_at bd03_dec_X11_2_30 9 rfl rfl) rfl
theorem dX11_findRoutes_38 : decode cX11_findRoutes 38 = .ok (.iload_n 2, 1) := op28 (bA_at bd03_dec_X11_2_30 10 rfl rfl)
theorem dX11_findRoutes_39 : decode cX11_findRoutes 39 = .ok (.iconst 0, 1) := op3 (bA_at bd03_dec_X11_2_30 11 rfl rfl)
theorem bd03_dec_X11_2_31 : ([(0, [79]), (1, [42]), (2, [180, 0, 71]), (5, [28]), (6, [3]), (7, [79]), (8, [42]), (9, [180, 0, 74]), (12, [28]), (13, [3]), (14, [84]), (15, [132, 2, 1])] : List (Nat × List UInt8)).all (fun x => prB x.2 ((cX11_findRoutes.data.toList.drop 40).drop x.1)) = true := by decide +kernel
theorem dX11_findRoutes_40 : decode cX11_findRoutes 40 = .ok (.iastore, 1) := op79 (bA_at bd03_dec_X11_2_31 0 rfl rfl)
theorem dX11_findRoutes_41 : decode cX11_findRoutes 41 = .ok (.aload_n 0, 1) := op42 (bA_at bd03_dec_X11_2_31 1 rfl rfl)
theorem dX11_findRoutes_42 : decode cX11_findRoutes 42 = .ok (.getfield 71, 3) := op180 (bA_at bd03_dec_X11_2_31 2 rfl rfl) rfl
theorem dX11_findRoutes_45 : decode cX11_findRoutes 45 = .ok (.iload_n 2, 1) := op28 (bA_at bd03_dec_X11_2_31 3 rfl rfl)
theorem dX11_findRoutes_46 : decode cX11_findRoutes 46 = .ok (.iconst 0, 1) := op3 (bA_at bd03_dec_X11_2_31 4 rfl rfl)
theorem dX11_findRoutes_47 : decode cX11_findRoutes 47 = .ok (.iastore, 1) := op79 (bA_at bd03_dec_X11_2_31 5 rfl rfl)
theorem dX11_findRoutes_48 : decode cX11_findRoutes 48 = .ok (.aload_n 0, 1) := op42 (bA_at bd03_dec_X11_2_31 6 rfl rfl)
theorem dX11_findRoutes_49 : decode cX11_findRoutes 49 = .ok (.getfield 74, 3) := op180 (bA_at bd03_dec_X11_2_31 7 rfl rfl) rfl
theorem dX11_findRoutes_52 : decode cX11_findRoutes 52 = .ok (.iload_n 2, 1) := op28 (bA_at bd03_dec_X11_2_31 8 rfl rfl)
theorem dX11_findRoutes_53 : decode cX11_findRoutes 53 = .ok (.iconst 0, 1) := op3 (bA_at bd03_dec_X11_2_31 9 rfl rfl)
theorem dX11_findRoutes_54 : decode cX11_findRoutes 54 = .ok (.bastore, 1) := op84 (bA_at bd03_dec_X11_2_31 10 rfl rfl)
theorem dX11_findRoutes_55 : decode cX11_findRoutes 55 = .ok (.iinc 2 1, 3) := op132 (bA_at bd03_dec_X11_2_31 11 rfl rfl) rfl (by decide +kernel)
theorem bd03_dec_X11_2_32 : ([(0, [167, 255, 200]), (3, [3]), (4, [61]), (5, [28]), (6, [42]), (7, [180, 1, 51]), (10, [162, 0, 46]), (13, [42]), (14, [182, 1, 185]), (17, [62]), (18, [42]), (19, [180, 0, 74])] : List (Nat × List UInt8)).all (fun x => prB x.2 ((cX11_findRoutes.data.toList.drop 58).drop x.1)) = true := by decide +kernel
theorem dX11_findRoutes_58 : decode cX11_findRoutes 58 = .ok (.goto (-56), 3) := op167 (bA_at bd03_dec_X11_2_32 0 rfl rfl) (by decide +kernel)
theorem dX11_findRoutes_61 : decode cX11_findRoutes 61 = .ok (.iconst 0, 1) := op3 (bA_at bd03_dec_X11_2_32 1 rfl rfl)
theorem dX11_findRoutes_62 : decode cX11_findRoutes 62 = .ok (.istore_n 2, 1) := op61 (bA_at bd03_dec_X11_2_32 2 rfl rfl)
theorem dX11_findRoutes_63 : decode cX11_findRoutes 63 = .ok (.iload_n 2, 1) := op28 (bA_at bd03_dec_X11_2_32 3 rfl rfl)
theorem dX11_findRoutes_64 : decode cX11_findRoutes 64 = .ok (.aload_n 0, 1) := op42 (bA_at bd03_dec_X11_2_32 4 rfl rfl)
theorem dX11_findRoutes_65 : decode cX11_findRoutes 65 = .ok (.getfield 307, 3) := op180 (bA_at bd03_dec_X11_2_32 5 rfl rfl) rfl
theorem dX11_findRoutes_68 : decode cX11_findRoutes 68 = .ok (.if_icmp .ge 46, 3) := op162 (bA_at bd03_dec_X11_2_32 6 rfl rfl) (by decide +kernel)
theorem dX11_findRoutes_71 : decode cX11_findRoutes 71 = .ok (.aload_n 0, 1) := op42 (bA_at bd03_dec_X11_2_32 7 rfl rfl)
theorem dX11_findRoutes_72 : decode cX11_findRoutes 72 = .ok (.invokevirtual 441, 3) := op182 (bA_at bd03_dec_X11_2_32 8 rfl rfl) rfl
theorem dX11_findRoutes_75 : decode cX11_findRoutes 75 = .ok (.istore_n 3, 1) := op62 (bA_at bd03_dec_X11_2_32 9 rfl rfl)
theorem dX11_findRoutes_76 : decode cX11_findRoutes 76 = .ok (.aload_n 0, 1) := op42 (bA_at bd03_dec_X11_2_32 10 rfl rfl)
theorem dX11_findRoutes_77 : decode cX11_findRoutes 77 = .ok (.getfield 74, 3) := op180 (bA_at bd03_dec_X11_2_32 11 rfl rfl) rfl
theorem bd03_dec_X11_2_33 : ([(0, [29]), (1, [4]), (2, [84]), (3, [3]), (4, [54, 4]), (6, [21, 4]), (8, [42]), (9, [180, 1, 51]), (12, [162, 0, 16]), (15, [42]), (16, [29]), (17, [21, 4])] : List (Nat × List UInt8)).all (fun x => prB x.2 ((cX11_findRoutes.data.toList.drop 80).drop x.1)) = true := by decide +kernel
theorem dX11_findRoutes_80 : decode cX11_findRoutes 80 = .ok (.iload_n 3, 1) := op29 (bA_at bd03_dec_X11_2_33 0 rfl rfl)
theorem dX11_findRoutes_81 : decode cX11_findRoutes 81 = .ok (.iconst 1, 1) := op4 (bA_at bd03_dec_X11_2_33 1 rfl rfl)
theorem dX11_findRoutes_82 : decode cX11_findRoutes 82 = .ok (.bastore, 1) := op84 (bA_at bd03_dec_X11_2_33 2 rfl rfl)
theorem dX11_findRoutes_83 : decode cX11_findRoutes 83 = .ok (.iconst 0, 1) := op3 (bA_at bd03_dec_X11_2_33 3 rfl rfl)
theorem dX11_findRoutes_84 : decode cX11_findRoutes 84 = .ok (.istore 4, 2) := op54 (bA_at bd03_dec_X11_2_33 4 rfl rfl) rfl
theorem dX11_findRoutes_86 : decode cX11_findRoutes 86 = .ok (.iload 4, 2) := op21 (bA_at bd03_dec_X11_2_33 5 rfl rfl) rfl
theorem dX11_findRoutes_88 : decode cX11_findRoutes 88 = .ok (.aload_n 0, 1) := op42 (bA_at bd03_dec_X11_2_33 6 rfl rfl)
theorem dX11_findRoutes_89 : decode cX11_findRoutes 89 = .ok (.getfield 307, 3) := op180 (bA_at bd03_dec_X11_2_33 7 rfl rfl) rfl
theorem dX11_findRoutes_92 : decode cX11_findRoutes 92 = .ok (.if_icmp .ge 16, 3) := op162 (bA_at bd03_dec_X11_2_33 8 rfl rfl) (by decide +kernel)
theorem dX11_findRoutes_95 : decode cX11_findRoutes 95 = .ok (.aload_n 0, 1) := op42 (bA_at bd03_dec_X11_2_33 9 rfl rfl)
theorem dX11_findRoutes_96 : decode cX11_findRoutes 96 = .ok (.iload_n 3, 1) := op29 (bA_at bd03_dec_X11_2_33 10 rfl rfl)
theorem dX11_findRoutes_97 : decode cX11_findRoutes 97 = .ok (.iload 4, 2) := op21 (bA_at bd03_dec_X11_2_33 11 rfl rfl) rfl
theorem bd03_dec_X11_2_34 : ([(0, [182, 1, 188]), (3, [132, 4, 1]), (6, [167, 255, 237]), (9, [132, 2, 1]), (12, [167, 255, 208]), (15, [177])] : List (Nat × List UInt8)).all (fun x => prB x.2 ((cX11_findRoutes.data.toList.drop 99).drop x.1)) = true := by decide +kernel
theorem dX11_findRoutes_99 : decode cX11_findRoutes 99 = .ok (.invokevirtual 444, 3) := op182 (bA_at bd03_dec_X11_2_34 0 rfl rfl) rfl
theorem dX11_findRoutes_102 : decode cX11_findRoutes 102 = .ok (.iinc 4 1, 3) := op132 (bA_at bd03_dec_X11_2_34 1 rfl rfl) rfl (by decide +kernel)
theorem dX11_findRoutes_105 : decode cX11_findRoutes 105 = .ok (.goto (-19), 3) := op167 (bA_at bd03_dec_X11_2_34 2 rfl rfl) (by decide +kernel)
theorem dX11_findRoutes_108 : decode cX11_findRoutes 108 = .ok (.iinc 2 1, 3) := op132 (bA_at bd03_dec_X11_2_34 3 rfl rfl) rfl (by decide +kernel)
theorem dX11_findRoutes_111 : decode cX11_findRoutes 111 = .ok (.goto (-48), 3) := op167 (bA_at bd03_dec_X11_2_34 4 rfl rfl) (by decide +kernel)
theorem dX11_findRoutes_114 : decode cX11_findRoutes 114 = .ok (.return_, 1) := op177 (bA_at bd03_dec_X11_2_34 5 rfl rfl)
theorem bd03_dec_X11_2_35 : ([(0, [42]), (1, [3]), (2, [181, 0, 97]), (5, [42]), (6, [27]), (7, [182, 1, 57]), (10, [153, 0, 34]), (13, [42]), (14, [28]), (15, [182, 1, 60]), (18, [153, 0, 26]), (21, [42])] : List (Nat × List UInt8)).all (fun x => prB x.2 ((cX11_routes.data.toList.drop 0).drop x.1)) = true := by decide +kernel
theorem dX11_routes_0 : decode cX11_routes 0 = .ok (.aload_n 0, 1) := op42 (bA_at bd03_dec_X11_2_35 0 rfl rfl)
theorem dX11_routes_1 : decode cX11_routes 1 = .ok (.iconst 0, 1) := op3 (bA_at bd03_dec_X11_2_35 1 rfl rfl)
theorem dX11_routes_2 : decode cX11_routes 2 = .ok (.putfield 97, 3) := op181 (bA_at bd03_dec_X11_2_35 2 rfl rfl) rfl
theorem dX11_routes_5 : decode cX11_routes 5 = .ok (.aload_n 0, 1) := op42 (bA_at bd03_dec_X11_2_35 3 rfl rfl)
theorem dX11_routes_6 : decode cX11_routes 6 = .ok (.iload_n 1, 1) := op27 (bA_at bd03_dec_X11_2_35 4 rfl rfl)
theorem dX11_routes_7 : decode cX11_routes 7 = .ok (.invokevirtual 313, 3) := op182 (bA_at bd03_dec_X11_2_35 5 rfl rfl) rfl
theorem dX11_routes_10 : decode cX11_routes 10 = .ok (.ifCond .eq 34, 3) := op153 (bA_at bd03_dec_X11_2_35 6 rfl rfl) (by decide +kernel)
theorem dX11_routes_13 : decode cX11_routes 13 = .ok (.aload_n 0, 1) := op42 (bA_at bd03_dec_X11_2_35 7 rfl rfl)
theorem dX11_routes_14 : decode cX11_routes 14 = .ok (.iload_n 2, 1) := op28 (bA_at bd03_dec_X11_2_35 8 rfl rfl)
theorem dX11_routes_15 : decode cX11_routes 15 = .ok (.invokevirtual 316, 3) := op182 (bA_at bd03_dec_X11_2_35 9 rfl rfl) rfl
theorem dX11_routes_18 : decode cX11_routes 18 = .ok (.ifCond .eq 26, 3) := op153 (bA_at bd03_dec_X11_2_35 10 rfl rfl) (by decide +kernel)
theorem dX11_routes_21 : decode cX11_routes 21 = .ok (.aload_n 0, 1) := op42 (bA_at bd03_dec_X11_2_35 11 rfl rfl)
theorem bd03_dec_X11_2_36 : ([(0, [29]), (1, [182, 1, 60]), (4, [153, 0, 18]), (7, [28]), (8, [29]), (9, [159, 0, 13]), (12, [21, 4]), (14, [3]), (15, [5]), (16, [184, 0, 109]), (19, [154, 0, 6]), (22, [16, 254])] : List (Nat × List UInt8)).all (fun x => prB x.2 ((cX11_routes.data.toList.drop 22).drop x.1)) = true := by decide +kernel
theorem dX11_routes_22 : decode cX11_routes 22 = .ok (.iload_n 3, 1) := op29 (bA_at bd03_dec_X11_2_36 0 rfl rfl)
theorem dX11_routes_23 : decode cX11_routes 23 = .ok (.invokevirtual 316, 3) := op182 (bA_at bd03_dec_X11_2_36 1 rfl rfl) rfl
theorem dX11_routes_26 : decode cX11_routes 26 = .ok (.ifCond .eq 18, 3) := op153 (bA_at bd03_dec_X11_2_36 2 rfl rfl) (by decide +kernel)
theorem dX11_routes_29 : decode cX11_routes 29 = .ok (.iload_n 2, 1) := op28 (bA_at bd03_dec_X11_2_36 3 rfl rfl)
theorem dX11_routes_30 : decode cX11_routes 30 = .ok (.iload_n 3, 1) := op29 (bA_at bd03_dec_X11_2_36 4 rfl rfl)
theorem dX11_routes_31 : decode cX11_routes 31 = .ok (.if_icmp .eq 13, 3) := op159 (bA_at bd03_dec_X11_2_36 5 rfl rfl) (by decide +kernel)
theorem dX11_routes_34 : decode cX11_routes 34 = .ok (.iload 4, 2) := op21 (bA_at bd03_dec_X11_2_36 6 rfl rfl) rfl
theorem dX11_routes_36 : decode cX11_routes 36 = .ok (.iconst 0, 1) := op3 (bA_at bd03_dec_X11_2_36 7 rfl rfl)
theorem dX11_routes_37 : decode cX11_routes 37 = .ok (.iconst 2, 1) := op5 (bA_at bd03_dec_X11_2_36 8 rfl rfl)
theorem dX11_routes_38 : decode cX11_routes 38 = .ok (.invokestatic 109, 3) := op184 (bA_at bd03_dec_X11_2_36 9 rfl rfl) rfl
theorem dX11_routes_41 : decode cX11_routes 41 = .ok (.ifCond .ne 6, 3) := op154 (bA_at bd03_dec_X11_2_36 10 rfl rfl) (by decide +kernel)
theorem dX11_routes_44 : decode cX11_routes 44 = .ok (.bipush (-2), 2) := op16 (bA_at bd03_dec_X11_2_36 11 rfl rfl) (by decide +kernel)
theorem bd03_dec_X11_2_37 : ([(0, [172]), (1, [42]), (2, [28]), (3, [182, 1, 191]), (6, [21, 4]), (8, [154, 0, 12]), (11, [42]), (12, [180, 0, 65]), (15, [29]), (16, [46]), (17, [167, 0, 37]), (20, [42])] : List (Nat × List UInt8)).all (fun x => prB x.2 ((cX11_routes.data.toList.drop 46).drop x.1)) = true := by decide +kernel
theorem dX11_routes_46 : decode cX11_routes 46 = .ok (.ireturn, 1) := op172 (bA_at bd03_dec_X11_2_37 0 rfl rfl)
theorem dX11_routes_47 : decode cX11_routes 47 = .ok (.aload_n 0, 1) := op42 (bA_at bd03_dec_X11_2_37 1 rfl rfl)
theorem dX11_routes_48 : decode cX11_routes 48 = .ok (.iload_n 2, 1) := op28 (bA_at bd03_dec_X11_2_37 2 rfl rfl)
theorem dX11_routes_49 : decode cX11_routes 49 = .ok (.invokevirtual 447, 3) := op182 (bA_at bd03_dec_X11_2_37 3 rfl rfl) rfl
theorem dX11_routes_52 : decode cX11_routes 52 = .ok (.iload 4, 2) := op21 (bA_at bd03_dec_X11_2_37 4 rfl rfl) rfl
theorem dX11_routes_54 : decode cX11_routes 54 = .ok (.ifCond .ne 12, 3) := op154 (bA_at bd03_dec_X11_2_37 5 rfl rfl) (by decide +kernel)
theorem dX11_routes_57 : decode cX11_routes 57 = .ok (.aload_n 0, 1) := op42 (bA_at bd03_dec_X11_2_37 6 rfl rfl)
theorem dX11_routes_58 : decode cX11_routes 58 = .ok (.getfield 65, 3) := op180 (bA_at bd03_dec_X11_2_37 7 rfl rfl) rfl
theorem dX11_routes_61 : decode cX11_routes 61 = .ok (.iload_n 3, 1) := op29 (bA_at bd03_dec_X11_2_37 8 rfl rfl)
theorem dX11_routes_62 : decode cX11_routes 62 = .ok (.iaload, 1) := op46 (bA_at bd03_dec_X11_2_37 9 rfl rfl)
theorem dX11_routes_63 : decode cX11_routes 63 = .ok (.goto 37, 3) := op167 (bA_at bd03_dec_X11_2_37 10 rfl rfl) (by decide +kernel)
theorem dX11_routes_66 : decode cX11_routes 66 = .ok (.aload_n 0, 1) := op42 (bA_at bd03_dec_X11_2_37 11 rfl rfl)
theorem bd03_dec_X11_2_38 : ([(0, [180, 0, 65]), (3, [29]), (4, [46]), (5, [154, 0, 7]), (8, [2]), (9, [167, 0, 24]), (12, [21, 4]), (14, [4]), (15, [160, 0, 12]), (18, [42]), (19, [180, 0, 68]), (22, [29])] : List (Nat × List UInt8)).all (fun x => prB x.2 ((cX11_routes.data.toList.drop 67).drop x.1)) = true := by decide +kernel
theorem dX11_routes_67 : decode cX11_routes 67 = .ok (.getfield 65, 3) := op180 (bA_at bd03_dec_X11_2_38 0 rfl rfl) rfl
theorem dX11_routes_70 : decode cX11_routes 70 = .ok (.iload_n 3, 1) := op29 (bA_at bd03_dec_X11_2_38 1 rfl rfl)
theorem dX11_routes_71 : decode cX11_routes 71 = .ok (.iaload, 1) := op46 (bA_at bd03_dec_X11_2_38 2 rfl rfl)
theorem dX11_routes_72 : decode cX11_routes 72 = .ok (.ifCond .ne 7, 3) := op154 (bA_at bd03_dec_X11_2_38 3 rfl rfl) (by decide +kernel)
theorem dX11_routes_75 : decode cX11_routes 75 = .ok (.iconst (-1), 1) := op2 (bA_at bd03_dec_X11_2_38 4 rfl rfl)
theorem dX11_routes_76 : decode cX11_routes 76 = .ok (.goto 24, 3) := op167 (bA_at bd03_dec_X11_2_38 5 rfl rfl) (by decide +kernel)
theorem dX11_routes_79 : decode cX11_routes 79 = .ok (.iload 4, 2) := op21 (bA_at bd03_dec_X11_2_38 6 rfl rfl) rfl
theorem dX11_routes_81 : decode cX11_routes 81 = .ok (.iconst 1, 1) := op4 (bA_at bd03_dec_X11_2_38 7 rfl rfl)
theorem dX11_routes_82 : decode cX11_routes 82 = .ok (.if_icmp .ne 12, 3) := op160 (bA_at bd03_dec_X11_2_38 8 rfl rfl) (by decide +kernel)
theorem dX11_routes_85 : decode cX11_routes 85 = .ok (.aload_n 0, 1) := op42 (bA_at bd03_dec_X11_2_38 9 rfl rfl)
theorem dX11_routes_86 : decode cX11_routes 86 = .ok (.getfield 68, 3) := op180 (bA_at bd03_dec_X11_2_38 10 rfl rfl) rfl
theorem dX11_routes_89 : decode cX11_routes 89 = .ok (.iload_n 3, 1) := op29 (bA_at bd03_dec_X11_2_38 11 rfl rfl)
theorem bd03_dec_X11_2_39 : ([(0, [46]), (1, [167, 0, 9]), (4, [42]), (5, [180, 0, 71]), (8, [29]), (9, [46]), (10, [172])] : List (Nat × List UInt8)).all (fun x => prB x.2 ((cX11_routes.data.toList.drop 90).drop x.1)) = true := by decide +kernel
theorem dX11_routes_90 : decode cX11_routes 90 = .ok (.iaload, 1) := op46 (bA_at bd03_dec_X11_2_39 0 rfl rfl)
theorem dX11_routes_91 : decode cX11_routes 91 = .ok (.goto 9, 3) := op167 (bA_at bd03_dec_X11_2_39 1 rfl rfl) (by decide +kernel)
theorem dX11_routes_94 : decode cX11_routes 94 = .ok (.aload_n 0, 1) := op42 (bA_at bd03_dec_X11_2_39 2 rfl rfl)
theorem dX11_routes_95 : decode cX11_routes 95 = .ok (.getfield 71, 3) := op180 (bA_at bd03_dec_X11_2_39 3 rfl rfl) rfl
theorem dX11_routes_98 : decode cX11_routes 98 = .ok (.iload_n 3, 1) := op29 (bA_at bd03_dec_X11_2_39 4 rfl rfl)
theorem dX11_routes_99 : decode cX11_routes 99 = .ok (.iaload, 1) := op46 (bA_at bd03_dec_X11_2_39 5 rfl rfl)
theorem dX11_routes_100 : decode cX11_routes 100 = .ok (.ireturn, 1) := op172 (bA_at bd03_dec_X11_2_39 6 rfl rfl)
theorem bd03_dec_X11_2_40 : ([(0, [42]), (1, [27]), (2, [3]), (3, [182, 1, 158]), (6, [42]), (7, [19, 1, 194]), (10, [182, 1, 167]), (13, [62]), (14, [42]), (15, [27]), (16, [4]), (17, [28])] : List (Nat × List UInt8)).all (fun x => prB x.2 ((cX11_mutesOf.data.toList.drop 0).drop x.1)) = true := by decide +kernel
theorem dX11_mutesOf_0 : decode cX11_mutesOf 0 = .ok (.aload_n 0, 1) := op42 (bA_at bd03_dec_X11_2_40 0 rfl rfl)
theorem dX11_mutesOf_1 : decode cX11_mutesOf 1 = .ok (.iload_n 1, 1) := op27 (bA_at bd03_dec_X11_2_40 1 rfl rfl)
theorem dX11_mutesOf_2 : decode cX11_mutesOf 2 = .ok (.iconst 0, 1) := op3 (bA_at bd03_dec_X11_2_40 2 rfl rfl)
theorem dX11_mutesOf_3 : decode cX11_mutesOf 3 = .ok (.invokevirtual 414, 3) := op182 (bA_at bd03_dec_X11_2_40 3 rfl rfl) rfl
theorem dX11_mutesOf_6 : decode cX11_mutesOf 6 = .ok (.aload_n 0, 1) := op42 (bA_at bd03_dec_X11_2_40 4 rfl rfl)
theorem dX11_mutesOf_7 : decode cX11_mutesOf 7 = .ok (.ldc_w 450, 3) := op19 (bA_at bd03_dec_X11_2_40 5 rfl rfl) rfl
theorem dX11_mutesOf_10 : decode cX11_mutesOf 10 = .ok (.invokevirtual 423, 3) := op182 (bA_at bd03_dec_X11_2_40 6 rfl rfl) rfl
theorem dX11_mutesOf_13 : decode cX11_mutesOf 13 = .ok (.istore_n 3, 1) := op62 (bA_at bd03_dec_X11_2_40 7 rfl rfl)
theorem dX11_mutesOf_14 : decode cX11_mutesOf 14 = .ok (.aload_n 0, 1) := op42 (bA_at bd03_dec_X11_2_40 8 rfl rfl)
theorem dX11_mutesOf_15 : decode cX11_mutesOf 15 = .ok (.iload_n 1, 1) := op27 (bA_at bd03_dec_X11_2_40 9 rfl rfl)
theorem dX11_mutesOf_16 : decode cX11_mutesOf 16 = .ok (.iconst 1, 1) := op4 (bA_at bd03_dec_X11_2_40 10 rfl rfl)
theorem dX11_mutesOf_17 : decode cX11_mutesOf 17 = .ok (.iload_n 2, 1) := op28 (bA_at bd03_dec_X11_2_40 11 rfl rfl)
theorem bd03_dec_X11_2_41 : ([(0, [120]), (1, [182, 1, 158]), (4, [29]), (5, [42]), (6, [19, 1, 194]), (9, [182, 1, 167]), (12, [2]), (13, [130]), (14, [126]), (15, [4]), (16, [27]), (17, [120])] : List (Nat × List UInt8)).all (fun x => prB x.2 ((cX11_mutesOf.data.toList.drop 18).drop x.1)) = true := by decide +kernel
theorem dX11_mutesOf_18 : decode cX11_mutesOf 18 = .ok (.ishl, 1) := op120 (bA_at bd03_dec_X11_2_41 0 rfl rfl)
theorem dX11_mutesOf_19 : decode cX11_mutesOf 19 = .ok (.invokevirtual 414, 3) := op182 (bA_at bd03_dec_X11_2_41 1 rfl rfl) rfl
theorem dX11_mutesOf_22 : decode cX11_mutesOf 22 = .ok (.iload_n 3, 1) := op29 (bA_at bd03_dec_X11_2_41 2 rfl rfl)
theorem dX11_mutesOf_23 : decode cX11_mutesOf 23 = .ok (.aload_n 0, 1) := op42 (bA_at bd03_dec_X11_2_41 3 rfl rfl)
theorem dX11_mutesOf_24 : decode cX11_mutesOf 24 = .ok (.ldc_w 450, 3) := op19 (bA_at bd03_dec_X11_2_41 4 rfl rfl) rfl
theorem dX11_mutesOf_27 : decode cX11_mutesOf 27 = .ok (.invokevirtual 423, 3) := op182 (bA_at bd03_dec_X11_2_41 5 rfl rfl) rfl
theorem dX11_mutesOf_30 : decode cX11_mutesOf 30 = .ok (.iconst (-1), 1) := op2 (bA_at bd03_dec_X11_2_41 6 rfl rfl)
theorem dX11_mutesOf_31 : decode cX11_mutesOf 31 = .ok (.ixor, 1) := op130 (bA_at bd03_dec_X11_2_41 7 rfl rfl)
theorem dX11_mutesOf_32 : decode cX11_mutesOf 32 = .ok (.iand, 1) := op126 (bA_at bd03_dec_X11_2_41 8 rfl rfl)
theorem dX11_mutesOf_33 : decode cX11_mutesOf 33 = .ok (.iconst 1, 1) := op4 (bA_at bd03_dec_X11_2_41 9 rfl rfl)
theorem dX11_mutesOf_34 : decode cX11_mutesOf 34 = .ok (.iload_n 1, 1) := op27 (bA_at bd03_dec_X11_2_41 10 rfl rfl)
theorem dX11_mutesOf_35 : decode cX11_mutesOf 35 = .ok (.ishl, 1) := op120 (bA_at bd03_dec_X11_2_41 11 rfl rfl)
theorem bd03_dec_X11_2_42 : ([(0, [2]), (1, [130]), (2, [126]), (3, [4]), (4, [28]), (5, [120]), (6, [2]), (7, [130]), (8, [126]), (9, [184, 1, 173]), (12, [172])] : List (Nat × List UInt8)).all (fun x => prB x.2 ((cX11_mutesOf.data.toList.drop 36).drop x.1)) = true := by decide +kernel
theorem dX11_mutesOf_36 : decode cX11_mutesOf 36 = .ok (.iconst (-1), 1) := op2 (bA_at bd03_dec_X11_2_42 0 rfl rfl)
theorem dX11_mutesOf_37 : decode cX11_mutesOf 37 = .ok (.ixor, 1) := op130 (bA_at bd03_dec_X11_2_42 1 rfl rfl)
theorem dX11_mutesOf_38 : decode cX11_mutesOf 38 = .ok (.iand, 1) := op126 (bA_at bd03_dec_X11_2_42 2 rfl rfl)
theorem dX11_mutesOf_39 : decode cX11_mutesOf 39 = .ok (.iconst 1, 1) := op4 (bA_at bd03_dec_X11_2_42 3 rfl rfl)
theorem dX11_mutesOf_40 : decode cX11_mutesOf 40 = .ok (.iload_n 2, 1) := op28 (bA_at bd03_dec_X11_2_42 4 rfl rfl)
theorem dX11_mutesOf_41 : decode cX11_mutesOf 41 = .ok (.ishl, 1) := op120 (bA_at bd03_dec_X11_2_42 5 rfl rfl)
theorem dX11_mutesOf_42 : decode cX11_mutesOf 42 = .ok (.iconst (-1), 1) := op2 (bA_at bd03_dec_X11_2_42 6 rfl rfl)
theorem dX11_mutesOf_43 : decode cX11_mutesOf 43 = .ok (.ixor, 1) := op130 (bA_at bd03_dec_X11_2_42 7 rfl rfl)
theorem dX11_mutesOf_44 : decode cX11_mutesOf 44 = .ok (.iand, 1) := op126 (bA_at bd03_dec_X11_2_42 8 rfl rfl)
theorem dX11_mutesOf_45 : decode cX11_mutesOf 45 = .ok (.invokestatic 429, 3) := op184 (bA_at bd03_dec_X11_2_42 9 rfl rfl) rfl
theorem dX11_mutesOf_48 : decode cX11_mutesOf 48 = .ok (.ireturn, 1) := op172 (bA_at bd03_dec_X11_2_42 10 rfl rfl)
theorem bd03_dec_X11_2_43 : ([(0, [42]), (1, [3]), (2, [181, 0, 97]), (5, [42]), (6, [27]), (7, [182, 1, 57]), (10, [153, 0, 45]), (13, [42]), (14, [28]), (15, [182, 1, 60]), (18, [153, 0, 37]), (21, [42])] : List (Nat × List UInt8)).all (fun x => prB x.2 ((cX11_mutes.data.toList.drop 0).drop x.1)) = true := by decide +kernel
theorem dX11_mutes_0 : decode cX11_mutes 0 = .ok (.aload_n 0, 1) := op42 (bA_at bd03_dec_X11_2_43 0 rfl rfl)
theorem dX11_mutes_1 : decode cX11_mutes 1 = .ok (.iconst 0, 1) := op3 (bA_at bd03_dec_X11_2_43 1 rfl rfl)
theorem dX11_mutes_2 : decode cX11_mutes 2 = .ok (.putfield 97, 3) := op181 (bA_at bd03_dec_X11_2_43 2 rfl rfl) rfl
theorem dX11_mutes_5 : decode cX11_mutes 5 = .ok (.aload_n 0, 1) := op42 (bA_at bd03_dec_X11_2_43 3 rfl rfl)
theorem dX11_mutes_6 : decode cX11_mutes 6 = .ok (.iload_n 1, 1) := op27 (bA_at bd03_dec_X11_2_43 4 rfl rfl)
theorem dX11_mutes_7 : decode cX11_mutes 7 = .ok (.invokevirtual 313, 3) := op182 (bA_at bd03_dec_X11_2_43 5 rfl rfl) rfl
theorem dX11_mutes_10 : decode cX11_mutes 10 = .ok (.ifCond .eq 45, 3) := op153 (bA_at bd03_dec_X11_2_43 6 rfl rfl) (by decide +kernel)
theorem dX11_mutes_13 : decode cX11_mutes 13 = .ok (.aload_n 0, 1) := op42 (bA_at bd03_dec_X11_2_43 7 rfl rfl)
theorem dX11_mutes_14 : decode cX11_mutes 14 = .ok (.iload_n 2, 1) := op28 (bA_at bd03_dec_X11_2_43 8 rfl rfl)
theorem dX11_mutes_15 : decode cX11_mutes 15 = .ok (.invokevirtual 316, 3) := op182 (bA_at bd03_dec_X11_2_43 9 rfl rfl) rfl
theorem dX11_mutes_18 : decode cX11_mutes 18 = .ok (.ifCond .eq 37, 3) := op153 (bA_at bd03_dec_X11_2_43 10 rfl rfl) (by decide +kernel)
theorem dX11_mutes_21 : decode cX11_mutes 21 = .ok (.aload_n 0, 1) := op42 (bA_at bd03_dec_X11_2_43 11 rfl rfl)
theorem bd03_dec_X11_2_44 : ([(0, [28]), (1, [182, 1, 99]), (4, [154, 0, 29]), (7, [29]), (8, [2]), (9, [159, 0, 27]), (12, [42]), (13, [29]), (14, [182, 1, 60]), (17, [153, 0, 16]), (20, [42]), (21, [29])] : List (Nat × List UInt8)).all (fun x => prB x.2 ((cX11_mutes.data.toList.drop 22).drop x.1)) = true := by decide +kernel
theorem dX11_mutes_22 : decode cX11_mutes 22 = .ok (.iload_n 2, 1) := op28 (bA_at bd03_dec_X11_2_44 0 rfl rfl)
theorem dX11_mutes_23 : decode cX11_mutes 23 = .ok (.invokevirtual 355, 3) := op182 (bA_at bd03_dec_X11_2_44 1 rfl rfl) rfl
theorem dX11_mutes_26 : decode cX11_mutes 26 = .ok (.ifCond .ne 29, 3) := op154 (bA_at bd03_dec_X11_2_44 2 rfl rfl) (by decide +kernel)
theorem dX11_mutes_29 : decode cX11_mutes 29 = .ok (.iload_n 3, 1) := op29 (bA_at bd03_dec_X11_2_44 3 rfl rfl)
theorem dX11_mutes_30 : decode cX11_mutes 30 = .ok (.iconst (-1), 1) := op2 (bA_at bd03_dec_X11_2_44 4 rfl rfl)
theorem dX11_mutes_31 : decode cX11_mutes 31 = .ok (.if_icmp .eq 27, 3) := op159 (bA_at bd03_dec_X11_2_44 5 rfl rfl) (by decide +kernel)
theorem dX11_mutes_34 : decode cX11_mutes 34 = .ok (.aload_n 0, 1) := op42 (bA_at bd03_dec_X11_2_44 6 rfl rfl)
theorem dX11_mutes_35 : decode cX11_mutes 35 = .ok (.iload_n 3, 1) := op29 (bA_at bd03_dec_X11_2_44 7 rfl rfl)
theorem dX11_mutes_36 : decode cX11_mutes 36 = .ok (.invokevirtual 316, 3) := op182 (bA_at bd03_dec_X11_2_44 8 rfl rfl) rfl
theorem dX11_mutes_39 : decode cX11_mutes 39 = .ok (.ifCond .eq 16, 3) := op153 (bA_at bd03_dec_X11_2_44 9 rfl rfl) (by decide +kernel)
theorem dX11_mutes_42 : decode cX11_mutes 42 = .ok (.aload_n 0, 1) := op42 (bA_at bd03_dec_X11_2_44 10 rfl rfl)
theorem dX11_mutes_43 : decode cX11_mutes 43 = .ok (.iload_n 3, 1) := op29 (bA_at bd03_dec_X11_2_44 11 rfl rfl)
theorem bd03_dec_X11_2_45 : ([(0, [182, 1, 99]), (3, [154, 0, 8]), (6, [29]), (7, [28]), (8, [160, 0, 6]), (11, [16, 254]), (13, [172]), (14, [29]), (15, [2]), (16, [159, 0, 10]), (19, [42]), (20, [28])] : List (Nat × List UInt8)).all (fun x => prB x.2 ((cX11_mutes.data.toList.drop 44).drop x.1)) = true := by decide +kernel
theorem dX11_mutes_44 : decode cX11_mutes 44 = .ok (.invokevirtual 355, 3) := op182 (bA_at bd03_dec_X11_2_45 0 rfl rfl) rfl
theorem dX11_mutes_47 : decode cX11_mutes 47 = .ok (.ifCond .ne 8, 3) := op154 (bA_at bd03_dec_X11_2_45 1 rfl rfl) (by decide +kernel)
theorem dX11_mutes_50 : decode cX11_mutes 50 = .ok (.iload_n 3, 1) := op29 (bA_at bd03_dec_X11_2_45 2 rfl rfl)
theorem dX11_mutes_51 : decode cX11_mutes 51 = .ok (.iload_n 2, 1) := op28 (bA_at bd03_dec_X11_2_45 3 rfl rfl)
theorem dX11_mutes_52 : decode cX11_mutes 52 = .ok (.if_icmp .ne 6, 3) := op160 (bA_at bd03_dec_X11_2_45 4 rfl rfl) (by decide +kernel)
theorem dX11_mutes_55 : decode cX11_mutes 55 = .ok (.bipush (-2), 2) := op16 (bA_at bd03_dec_X11_2_45 5 rfl rfl) (by decide +kernel)
theorem dX11_mutes_57 : decode cX11_mutes 57 = .ok (.ireturn, 1) := op172 (bA_at bd03_dec_X11_2_45 6 rfl rfl)
theorem dX11_mutes_58 : decode cX11_mutes 58 = .ok (.iload_n 3, 1) := op29 (bA_at bd03_dec_X11_2_45 7 rfl rfl)
theorem dX11_mutes_59 : decode cX11_mutes 59 = .ok (.iconst (-1), 1) := op2 (bA_at bd03_dec_X11_2_45 8 rfl rfl)
theorem dX11_mutes_60 : decode cX11_mutes 60 = .ok (.if_icmp .eq 10, 3) := op159 (bA_at bd03_dec_X11_2_45 9 rfl rfl) (by decide +kernel)
theorem dX11_mutes_63 : decode cX11_mutes 63 = .ok (.aload_n 0, 1) := op42 (bA_at bd03_dec_X11_2_45 10 rfl rfl)
theorem dX11_mutes_64 : decode cX11_mutes 64 = .ok (.iload_n 2, 1) := op28 (bA_at bd03_dec_X11_2_45 11 rfl rfl)
theorem bd03_dec_X11_2_46 : ([(0, [29]), (1, [182, 1, 195]), (4, [172]), (5, [2]), (6, [54, 4]), (8, [2]), (9, [54, 5]), (11, [3]), (12, [54, 6]), (14, [21, 6]), (16, [42]), (17, [180, 1, 51])] : List (Nat × List UInt8)).all (fun x => prB x.2 ((cX11_mutes.data.toList.drop 65).drop x.1)) = true := by decide +kernel
theorem dX11_mutes_65 : decode cX11_mutes 65 = .ok (.iload_n 3, 1) := op29 (bA_at bd03_dec_X11_2_46 0 rfl rfl)
theorem dX11_mutes_66 : decode cX11_mutes 66 = .ok (.invokevirtual 451, 3) := op182 (bA_at bd03_dec_X11_2_46 1 rfl rfl) rfl
theorem dX11_mutes_69 : decode cX11_mutes 69 = .ok (.ireturn, 1) := op172 (bA_at bd03_dec_X11_2_46 2 rfl rfl)
theorem dX11_mutes_70 : decode cX11_mutes 70 = .ok (.iconst (-1), 1) := op2 (bA_at bd03_dec_X11_2_46 3 rfl rfl)
theorem dX11_mutes_71 : decode cX11_mutes 71 = .ok (.istore 4, 2) := op54 (bA_at bd03_dec_X11_2_46 4 rfl rfl) rfl
theorem dX11_mutes_73 : decode cX11_mutes 73 = .ok (.iconst (-1), 1) := op2 (bA_at bd03_dec_X11_2_46 5 rfl rfl)
theorem dX11_mutes_74 : decode cX11_mutes 74 = .ok (.istore 5, 2) := op54 (bA_at bd03_dec_X11_2_46 6 rfl rfl) rfl
theorem dX11_mutes_76 : decode cX11_mutes 76 = .ok (.iconst 0, 1) := op3 (bA_at bd03_dec_X11_2_46 7 rfl rfl)
theorem dX11_mutes_77 : decode cX11_mutes 77 = .ok (.istore 6, 2) := op54 (bA_at bd03_dec_X11_2_46 8 rfl rfl) rfl
theorem dX11_mutes_79 : decode cX11_mutes 79 = .ok (.iload 6, 2) := op21 (bA_at bd03_dec_X11_2_46 9 rfl rfl) rfl
theorem dX11_mutes_81 : decode cX11_mutes 81 = .ok (.aload_n 0, 1) := op42 (bA_at bd03_dec_X11_2_46 10 rfl rfl)
theorem dX11_mutes_82 : decode cX11_mutes 82 = .ok (.getfield 307, 3) := op180 (bA_at bd03_dec_X11_2_46 11 rfl rfl) rfl
theorem bd03_dec_X11_2_47 : ([(0, [162, 0, 62]), (3, [21, 6]), (5, [28]), (6, [159, 0, 12]), (9, [42]), (10, [21, 6]), (12, [182, 1, 99]), (15, [153, 0, 7]), (18, [2]), (19, [167, 0, 10]), (22, [42]), (23, [28])] : List (Nat × List UInt8)).all (fun x => prB x.2 ((cX11_mutes.data.toList.drop 85).drop x.1)) = true := by decide +kernel
theorem dX11_mutes_85 : decode cX11_mutes 85 = .ok (.if_icmp .ge 62, 3) := op162 (bA_at bd03_dec_X11_2_47 0 rfl rfl) (by decide +kernel)
theorem dX11_mutes_88 : decode cX11_mutes 88 = .ok (.iload 6, 2) := op21 (bA_at bd03_dec_X11_2_47 1 rfl rfl) rfl
theorem dX11_mutes_90 : decode cX11_mutes 90 = .ok (.iload_n 2, 1) := op28 (bA_at bd03_dec_X11_2_47 2 rfl rfl)
theorem dX11_mutes_91 : decode cX11_mutes 91 = .ok (.if_icmp .eq 12, 3) := op159 (bA_at bd03_dec_X11_2_47 3 rfl rfl) (by decide +kernel)
theorem dX11_mutes_94 : decode cX11_mutes 94 = .ok (.aload_n 0, 1) := op42 (bA_at bd03_dec_X11_2_47 4 rfl rfl)
theorem dX11_mutes_95 : decode cX11_mutes 95 = .ok (.iload 6, 2) := op21 (bA_at bd03_dec_X11_2_47 5 rfl rfl) rfl
theorem dX11_mutes_97 : decode cX11_mutes 97 = .ok (.invokevirtual 355, 3) := op182 (bA_at bd03_dec_X11_2_47 6 rfl rfl) rfl
theorem dX11_mutes_100 : decode cX11_mutes 100 = .ok (.ifCond .eq 7, 3) := op153 (bA_at bd03_dec_X11_2_47 7 rfl rfl) (by decide +kernel)
theorem dX11_mutes_103 : decode cX11_mutes 103 = .ok (.iconst (-1), 1) := op2 (bA_at bd03_dec_X11_2_47 8 rfl rfl)
theorem dX11_mutes_104 : decode cX11_mutes 104 = .ok (.goto 10, 3) := op167 (bA_at bd03_dec_X11_2_47 9 rfl rfl) (by decide +kernel)
theorem dX11_mutes_107 : decode cX11_mutes 107 = .ok (.aload_n 0, 1) := op42 (bA_at bd03_dec_X11_2_47 10 rfl rfl)
theorem dX11_mutes_108 : decode cX11_mutes 108 = .ok (.iload_n 2, 1) := op28 (bA_at bd03_dec_X11_2_47 11 rfl rfl)
theorem bd03_dec_X11_2_48 : ([(0, [21, 6]), (2, [182, 1, 195]), (5, [54, 7]), (7, [21, 7]), (9, [21, 5]), (11, [164, 0, 8]), (14, [21, 6]), (16, [167, 0, 5]), (19, [21, 4]), (21, [54, 4]), (23, [21, 5]), (25, [21, 7])] : List (Nat × List UInt8)).all (fun x => prB x.2 ((cX11_mutes.data.toList.drop 109).drop x.1)) = true := by decide +kernel
theorem dX11_mutes_109 : decode cX11_mutes 109 = .ok (.iload 6, 2) := op21 (bA_at bd03_dec_X11_2_48 0 rfl rfl) rfl
theorem dX11_mutes_111 : decode cX11_mutes 111 = .ok (.invokevirtual 451, 3) := op182 (bA_at bd03_dec_X11_2_48 1 rfl rfl) rfl
theorem dX11_mutes_114 : decode cX11_mutes 114 = .ok (.istore 7, 2) := op54 (bA_at bd03_dec_X11_2_48 2 rfl rfl) rfl
theorem dX11_mutes_116 : decode cX11_mutes 116 = .ok (.iload 7, 2) := op21 (bA_at bd03_dec_X11_2_48 3 rfl rfl) rfl
theorem dX11_mutes_118 : decode cX11_mutes 118 = .ok (.iload 5, 2) := op21 (bA_at bd03_dec_X11_2_48 4 rfl rfl) rfl
theorem dX11_mutes_120 : decode cX11_mutes 120 = .ok (.if_icmp .le 8, 3) := op164 (bA_at bd03_dec_X11_2_48 5 rfl rfl) (by decide +kernel)
theorem dX11_mutes_123 : decode cX11_mutes 123 = .ok (.iload 6, 2) := op21 (bA_at bd03_dec_X11_2_48 6 rfl rfl) rfl
theorem dX11_mutes_125 : decode cX11_mutes 125 = .ok (.goto 5, 3) := op167 (bA_at bd03_dec_X11_2_48 7 rfl rfl) (by decide +kernel)
theorem dX11_mutes_128 : decode cX11_mutes 128 = .ok (.iload 4, 2) := op21 (bA_at bd03_dec_X11_2_48 8 rfl rfl) rfl
theorem dX11_mutes_130 : decode cX11_mutes 130 = .ok (.istore 4, 2) := op54 (bA_at bd03_dec_X11_2_48 9 rfl rfl) rfl
theorem dX11_mutes_132 : decode cX11_mutes 132 = .ok (.iload 5, 2) := op21 (bA_at bd03_dec_X11_2_48 10 rfl rfl) rfl
theorem dX11_mutes_134 : decode cX11_mutes 134 = .ok (.iload 7, 2) := op21 (bA_at bd03_dec_X11_2_48 11 rfl rfl) rfl
theorem bd03_dec_X11_2_49 : ([(0, [184, 0, 171]), (3, [54, 5]), (5, [132, 6, 1]), (8, [167, 255, 191]), (11, [21, 4]), (13, [172])] : List (Nat × List UInt8)).all (fun x => prB x.2 ((cX11_mutes.data.toList.drop 136).drop x.1)) = true := by decide +kernel
theorem dX11_mutes_136 : decode cX11_mutes 136 = .ok (.invokestatic 171, 3) := op184 (bA_at bd03_dec_X11_2_49 0 rfl rfl) rfl
theorem dX11_mutes_139 : decode cX11_mutes 139 = .ok (.istore 5, 2) := op54 (bA_at bd03_dec_X11_2_49 1 rfl rfl) rfl
theorem dX11_mutes_141 : decode cX11_mutes 141 = .ok (.iinc 6 1, 3) := op132 (bA_at bd03_dec_X11_2_49 2 rfl rfl) rfl (by decide +kernel)
theorem dX11_mutes_144 : decode cX11_mutes 144 = .ok (.goto (-65), 3) := op167 (bA_at bd03_dec_X11_2_49 3 rfl rfl) (by decide +kernel)
theorem dX11_mutes_147 : decode cX11_mutes 147 = .ok (.iload 4, 2) := op21 (bA_at bd03_dec_X11_2_49 4 rfl rfl) rfl
theorem dX11_mutes_149 : decode cX11_mutes 149 = .ok (.ireturn, 1) := op172 (bA_at bd03_dec_X11_2_49 5 rfl rfl)
theorem bd03_dec_X11_2_50 : ([(0, [3]), (1, [60]), (2, [27]), (3, [42]), (4, [180, 1, 51]), (7, [162, 0, 66]), (10, [3]), (11, [61]), (12, [28]), (13, [42]), (14, [180, 1, 51]), (17, [162, 0, 50])] : List (Nat × List UInt8)).all (fun x => prB x.2 ((cX11_findFar.data.toList.drop 0).drop x.1)) = true := by decide +kernel
theorem dX11_findFar_0 : decode cX11_findFar 0 = .ok (.iconst 0, 1) := op3 (bA_at bd03_dec_X11_2_50 0 rfl rfl)
theorem dX11_findFar_1 : decode cX11_findFar 1 = .ok (.istore_n 1, 1) := op60 (bA_at bd03_dec_X11_2_50 1 rfl rfl)
theorem dX11_findFar_2 : decode cX11_findFar 2 = .ok (.iload_n 1, 1) := op27 (bA_at bd03_dec_X11_2_50 2 rfl rfl)
theorem dX11_findFar_3 : decode cX11_findFar 3 = .ok (.aload_n 0, 1) := op42 (bA_at bd03_dec_X11_2_50 3 rfl rfl)
theorem dX11_findFar_4 : decode cX11_findFar 4 = .ok (.getfield 307, 3) := op180 (bA_at bd03_dec_X11_2_50 4 rfl rfl) rfl
theorem dX11_findFar_7 : decode cX11_findFar 7 = .ok (.if_icmp .ge 66, 3) := op162 (bA_at bd03_dec_X11_2_50 5 rfl rfl) (by decide +kernel)
theorem dX11_findFar_10 : decode cX11_findFar 10 = .ok (.iconst 0, 1) := op3 (bA_at bd03_dec_X11_2_50 6 rfl rfl)
theorem dX11_findFar_11 : decode cX11_findFar 11 = .ok (.istore_n 2, 1) := op61 (bA_at bd03_dec_X11_2_50 7 rfl rfl)
theorem dX11_findFar_12 : decode cX11_findFar 12 = .ok (.iload_n 2, 1) := op28 (bA_at bd03_dec_X11_2_50 8 rfl rfl)
theorem dX11_findFar_13 : decode cX11_findFar 13 = .ok (.aload_n 0, 1) := op42 (bA_at bd03_dec_X11_2_50 9 rfl rfl)
theorem dX11_findFar_14 : decode cX11_findFar 14 = .ok (.getfield 307, 3) := op180 (bA_at bd03_dec_X11_2_50 10 rfl rfl) rfl
theorem dX11_findFar_17 : decode cX11_findFar 17 = .ok (.if_icmp .ge 50, 3) := op162 (bA_at bd03_dec_X11_2_50 11 rfl rfl) (by decide +kernel)
theorem bd03_dec_X11_2_51 : ([(0, [42]), (1, [180, 0, 78]), (4, [16, 9]), (6, [27]), (7, [104]), (8, [28]), (9, [96]), (10, [27]), (11, [28]), (12, [160, 0, 7]), (15, [3]), (16, [167, 0, 24])] : List (Nat × List UInt8)).all (fun x => prB x.2 ((cX11_findFar.data.toList.drop 20).drop x.1)) = true := by decide +kernel
theorem dX11_findFar_20 : decode cX11_findFar 20 = .ok (.aload_n 0, 1) := op42 (bA_at bd03_dec_X11_2_51 0 rfl rfl)
theorem dX11_findFar_21 : decode cX11_findFar 21 = .ok (.getfield 78, 3) := op180 (bA_at bd03_dec_X11_2_51 1 rfl rfl) rfl
theorem dX11_findFar_24 : decode cX11_findFar 24 = .ok (.bipush 9, 2) := op16 (bA_at bd03_dec_X11_2_51 2 rfl rfl) (by decide +kernel)
theorem dX11_findFar_26 : decode cX11_findFar 26 = .ok (.iload_n 1, 1) := op27 (bA_at bd03_dec_X11_2_51 3 rfl rfl)
theorem dX11_findFar_27 : decode cX11_findFar 27 = .ok (.imul, 1) := op104 (bA_at bd03_dec_X11_2_51 4 rfl rfl)
theorem dX11_findFar_28 : decode cX11_findFar 28 = .ok (.iload_n 2, 1) := op28 (bA_at bd03_dec_X11_2_51 5 rfl rfl)
theorem dX11_findFar_29 : decode cX11_findFar 29 = .ok (.iadd, 1) := op96 (bA_at bd03_dec_X11_2_51 6 rfl rfl)
theorem dX11_findFar_30 : decode cX11_findFar 30 = .ok (.iload_n 1, 1) := op27 (bA_at bd03_dec_X11_2_51 7 rfl rfl)
theorem dX11_findFar_31 : decode cX11_findFar 31 = .ok (.iload_n 2, 1) := op28 (bA_at bd03_dec_X11_2_51 8 rfl rfl)
theorem dX11_findFar_32 : decode cX11_findFar 32 = .ok (.if_icmp .ne 7, 3) := op160 (bA_at bd03_dec_X11_2_51 9 rfl rfl) (by decide +kernel)
theorem dX11_findFar_35 : decode cX11_findFar 35 = .ok (.iconst 0, 1) := op3 (bA_at bd03_dec_X11_2_51 10 rfl rfl)
theorem dX11_findFar_36 : decode cX11_findFar 36 = .ok (.goto 24, 3) := op167 (bA_at bd03_dec_X11_2_51 11 rfl rfl) (by decide +kernel)
theorem bd03_dec_X11_2_52 : ([(0, [42]), (1, [27]), (2, [28]), (3, [182, 1, 63]), (6, [158, 0, 12]), (9, [42]), (10, [27]), (11, [28]), (12, [182, 1, 63]), (15, [167, 0, 6]), (18, [19, 1, 154]), (21, [79])] : List (Nat × List UInt8)).all (fun x => prB x.2 ((cX11_findFar.data.toList.drop 39).drop x.1)) = true := by decide +kernel
theorem dX11_findFar_39 : decode cX11_findFar 39 = .ok (.aload_n 0, 1) := op42 (bA_at bd03_dec_X11_2_52 0 rfl rfl)
theorem dX11_findFar_40 : decode cX11_findFar 40 = .ok (.iload_n 1, 1) := op27 (bA_at bd03_dec_X11_2_52 1 rfl rfl)
theorem dX11_findFar_41 : decode cX11_findFar 41 = .ok (.iload_n 2, 1) := op28 (bA_at bd03_dec_X11_2_52 2 rfl rfl)
theorem dX11_findFar_42 : decode cX11_findFar 42 = .ok (.invokevirtual 319, 3) := op182 (bA_at bd03_dec_X11_2_52 3 rfl rfl) rfl
theorem dX11_findFar_45 : decode cX11_findFar 45 = .ok (.ifCond .le 12, 3) := op158 (bA_at bd03_dec_X11_2_52 4 rfl rfl) (by decide +kernel)
theorem dX11_findFar_48 : decode cX11_findFar 48 = .ok (.aload_n 0, 1) := op42 (bA_at bd03_dec_X11_2_52 5 rfl rfl)
theorem dX11_findFar_49 : decode cX11_findFar 49 = .ok (.iload_n 1, 1) := op27 (bA_at bd03_dec_X11_2_52 6 rfl rfl)
theorem dX11_findFar_50 : decode cX11_findFar 50 = .ok (.iload_n 2, 1) := op28 (bA_at bd03_dec_X11_2_52 7 rfl rfl)
theorem dX11_findFar_51 : decode cX11_findFar 51 = .ok (.invokevirtual 319, 3) := op182 (bA_at bd03_dec_X11_2_52 8 rfl rfl) rfl
theorem dX11_findFar_54 : decode cX11_findFar 54 = .ok (.goto 6, 3) := op167 (bA_at bd03_dec_X11_2_52 9 rfl rfl) (by decide +kernel)
theorem dX11_findFar_57 : decode cX11_findFar 57 = .ok (.ldc_w 410, 3) := op19 (bA_at bd03_dec_X11_2_52 10 rfl rfl) rfl
theorem dX11_findFar_60 : decode cX11_findFar 60 = .ok (.iastore, 1) := op79 (bA_at bd03_dec_X11_2_52 11 rfl rfl)
theorem bd03_dec_X11_2_53 : ([(0, [132, 2, 1]), (3, [167, 255, 204]), (6, [132, 1, 1]), (9, [167, 255, 188]), (12, [3]), (13, [60]), (14, [27]), (15, [42]), (16, [180, 1, 51]), (19, [162, 0, 89]), (22, [3]), (23, [61])] : List (Nat × List UInt8)).all (fun x => prB x.2 ((cX11_findFar.data.toList.drop 61).drop x.1)) = true := by decide +kernel
theorem dX11_findFar_61 : decode cX11_findFar 61 = .ok (.iinc 2 1, 3) := op132 (bA_at bd03_dec_X11_2_53 0 rfl rfl) rfl (by decide +kernel)
theorem dX11_findFar_64 : decode cX11_findFar 64 = .ok (.goto (-52), 3) := op167 (bA_at bd03_dec_X11_2_53 1 rfl rfl) (by decide +kernel)
theorem dX11_findFar_67 : decode cX11_findFar 67 = .ok (.iinc 1 1, 3) := op132 (bA_at bd03_dec_X11_2_53 2 rfl rfl) rfl (by decide +kernel)
theorem dX11_findFar_70 : decode cX11_findFar 70 = .ok (.goto (-68), 3) := op167 (bA_at bd03_dec_X11_2_53 3 rfl rfl) (by decide +kernel)
theorem dX11_findFar_73 : decode cX11_findFar 73 = .ok (.iconst 0, 1) := op3 (bA_at bd03_dec_X11_2_53 4 rfl rfl)
theorem dX11_findFar_74 : decode cX11_findFar 74 = .ok (.istore_n 1, 1) := op60 (bA_at bd03_dec_X11_2_53 5 rfl rfl)
theorem dX11_findFar_75 : decode cX11_findFar 75 = .ok (.iload_n 1, 1) := op27 (bA_at bd03_dec_X11_2_53 6 rfl rfl)
theorem dX11_findFar_76 : decode cX11_findFar 76 = .ok (.aload_n 0, 1) := op42 (bA_at bd03_dec_X11_2_53 7 rfl rfl)
theorem dX11_findFar_77 : decode cX11_findFar 77 = .ok (.getfield 307, 3) := op180 (bA_at bd03_dec_X11_2_53 8 rfl rfl) rfl
theorem dX11_findFar_80 : decode cX11_findFar 80 = .ok (.if_icmp .ge 89, 3) := op162 (bA_at bd03_dec_X11_2_53 9 rfl rfl) (by decide +kernel)
theorem dX11_findFar_83 : decode cX11_findFar 83 = .ok (.iconst 0, 1) := op3 (bA_at bd03_dec_X11_2_53 10 rfl rfl)
theorem dX11_findFar_84 : decode cX11_findFar 84 = .ok (.istore_n 2, 1) := op61 (bA_at bd03_dec_X11_2_53 11 rfl rfl)
theorem bd03_dec_X11_2_54 : ([(0, [28]), (1, [42]), (2, [180, 1, 51]), (5, [162, 0, 73]), (8, [3]), (9, [62]), (10, [29]), (11, [42]), (12, [180, 1, 51]), (15, [162, 0, 57]), (18, [42]), (19, [180, 0, 78])] : List (Nat × List UInt8)).all (fun x => prB x.2 ((cX11_findFar.data.toList.drop 85).drop x.1)) = true := by decide +kernel
theorem dX11_findFar_85 : decode cX11_findFar 85 = .ok (.iload_n 2, 1) := op28 (bA_at bd03_dec_X11_2_54 0 rfl rfl)
theorem dX11_findFar_86 : decode cX11_findFar 86 = .ok (.aload_n 0, 1) := op42 (bA_at bd03_dec_X11_2_54 1 rfl rfl)
theorem dX11_findFar_87 : decode cX11_findFar 87 = .ok (.getfield 307, 3) := op180 (bA_at bd03_dec_X11_2_54 2 rfl rfl) rfl
theorem dX11_findFar_90 : decode cX11_findFar 90 = .ok (.if_icmp .ge 73, 3) := op162 (bA_at bd03_dec_X11_2_54 3 rfl rfl) (by decide +kernel)
theorem dX11_findFar_93 : decode cX11_findFar 93 = .ok (.iconst 0, 1) := op3 (bA_at bd03_dec_X11_2_54 4 rfl rfl)
theorem dX11_findFar_94 : decode cX11_findFar 94 = .ok (.istore_n 3, 1) := op62 (bA_at bd03_dec_X11_2_54 5 rfl rfl)
theorem dX11_findFar_95 : decode cX11_findFar 95 = .ok (.iload_n 3, 1) := op29 (bA_at bd03_dec_X11_2_54 6 rfl rfl)
theorem dX11_findFar_96 : decode cX11_findFar 96 = .ok (.aload_n 0, 1) := op42 (bA_at bd03_dec_X11_2_54 7 rfl rfl)
theorem dX11_findFar_97 : decode cX11_findFar 97 = .ok (.getfield 307, 3) := op180 (bA_at bd03_dec_X11_2_54 8 rfl rfl) rfl
theorem dX11_findFar_100 : decode cX11_findFar 100 = .ok (.if_icmp .ge 57, 3) := op162 (bA_at bd03_dec_X11_2_54 9 rfl rfl) (by decide +kernel)
theorem dX11_findFar_103 : decode cX11_findFar 103 = .ok (.aload_n 0, 1) := op42 (bA_at bd03_dec_X11_2_54 10 rfl rfl)
theorem dX11_findFar_104 : decode cX11_findFar 104 = .ok (.getfield 78, 3) := op180 (bA_at bd03_dec_X11_2_54 11 rfl rfl) rfl
theorem bd03_dec_X11_2_55 : ([(0, [16, 9]), (2, [28]), (3, [104]), (4, [29]), (5, [96]), (6, [42]), (7, [180, 0, 78]), (10, [16, 9]), (12, [28]), (13, [104]), (14, [29]), (15, [96])] : List (Nat × List UInt8)).all (fun x => prB x.2 ((cX11_findFar.data.toList.drop 107).drop x.1)) = true := by decide +kernel
theorem dX11_findFar_107 : decode cX11_findFar 107 = .ok (.bipush 9, 2) := op16 (bA_at bd03_dec_X11_2_55 0 rfl rfl) (by decide +kernel)
theorem dX11_findFar_109 : decode cX11_findFar 109 = .ok (.iload_n 2, 1) := op28 (bA_at bd03_dec_X11_2_55 1 rfl rfl)
theorem dX11_findFar_110 : decode cX11_findFar 110 = .ok (.imul, 1) := op104 (bA_at bd03_dec_X11_2_55 2 rfl rfl)
theorem dX11_findFar_111 : decode cX11_findFar 111 = .ok (.iload_n 3, 1) := op29 (bA_at bd03_dec_X11_2_55 3 rfl rfl)
theorem dX11_findFar_112 : decode cX11_findFar 112 = .ok (.iadd, 1) := op96 (bA_at bd03_dec_X11_2_55 4 rfl rfl)
theorem dX11_findFar_113 : decode cX11_findFar 113 = .ok (.aload_n 0, 1) := op42 (bA_at bd03_dec_X11_2_55 5 rfl rfl)
theorem dX11_findFar_114 : decode cX11_findFar 114 = .ok (.getfield 78, 3) := op180 (bA_at bd03_dec_X11_2_55 6 rfl rfl) rfl
theorem dX11_findFar_117 : decode cX11_findFar 117 = .ok (.bipush 9, 2) := op16 (bA_at bd03_dec_X11_2_55 7 rfl rfl) (by decide +kernel)
theorem dX11_findFar_119 : decode cX11_findFar 119 = .ok (.iload_n 2, 1) := op28 (bA_at bd03_dec_X11_2_55 8 rfl rfl)
theorem dX11_findFar_120 : decode cX11_findFar 120 = .ok (.imul, 1) := op104 (bA_at bd03_dec_X11_2_55 9 rfl rfl)
theorem dX11_findFar_121 : decode cX11_findFar 121 = .ok (.iload_n 3, 1) := op29 (bA_at bd03_dec_X11_2_55 10 rfl rfl)
theorem dX11_findFar_122 : decode cX11_findFar 122 = .ok (.iadd, 1) := op96 (bA_at bd03_dec_X11_2_55 11 rfl rfl)
theorem bd03_dec_X11_2_56 : ([(0, [46]), (1, [42]), (2, [180, 0, 78]), (5, [16, 9]), (7, [28]), (8, [104]), (9, [27]), (10, [96]), (11, [46]), (12, [42]), (13, [180, 0, 78]), (16, [16, 9])] : List (Nat × List UInt8)).all (fun x => prB x.2 ((cX11_findFar.data.toList.drop 123).drop x.1)) = true := by decide +kernel
theorem dX11_findFar_123 : decode cX11_findFar 123 = .ok (.iaload, 1) := op46 (bA_at bd03_dec_X11_2_56 0 rfl rfl)
theorem dX11_findFar_124 : decode cX11_findFar 124 = .ok (.aload_n 0, 1) := op42 (bA_at bd03_dec_X11_2_56 1 rfl rfl)
theorem dX11_findFar_125 : decode cX11_findFar 125 = .ok (.getfield 78, 3) := op180 (bA_at bd03_dec_X11_2_56 2 rfl rfl) rfl
theorem dX11_findFar_128 : decode cX11_findFar 128 = .ok (.bipush 9, 2) := op16 (bA_at bd03_dec_X11_2_56 3 rfl rfl) (by decide +kernel)
theorem dX11_findFar_130 : decode cX11_findFar 130 = .ok (.iload_n 2, 1) := op28 (bA_at bd03_dec_X11_2_56 4 rfl rfl)
theorem dX11_findFar_131 : decode cX11_findFar 131 = .ok (.imul, 1) := op104 (bA_at bd03_dec_X11_2_56 5 rfl rfl)
theorem dX11_findFar_132 : decode cX11_findFar 132 = .ok (.iload_n 1, 1) := op27 (bA_at bd03_dec_X11_2_56 6 rfl rfl)
theorem dX11_findFar_133 : decode cX11_findFar 133 = .ok (.iadd, 1) := op96 (bA_at bd03_dec_X11_2_56 7 rfl rfl)
theorem dX11_findFar_134 : decode cX11_findFar 134 = .ok (.iaload, 1) := op46 (bA_at bd03_dec_X11_2_56 8 rfl rfl)
theorem dX11_findFar_135 : decode cX11_findFar 135 = .ok (.aload_n 0, 1) := op42 (bA_at bd03_dec_X11_2_56 9 rfl rfl)
theorem dX11_findFar_136 : decode cX11_findFar 136 = .ok (.getfield 78, 3) := op180 (bA_at bd03_dec_X11_2_56 10 rfl rfl) rfl
theorem dX11_findFar_139 : decode cX11_findFar 139 = .ok (.bipush 9, 2) := op16 (bA_at bd03_dec_X11_2_56 11 rfl rfl) (by decide +kernel)
theorem bd03_dec_X11_2_57 : ([(0, [27]), (1, [104]), (2, [29]), (3, [96]), (4, [46]), (5, [96]), (6, [184, 1, 155]), (9, [79]), (10, [132, 3, 1]), (13, [167, 255, 197]), (16, [132, 2, 1]), (19, [167, 255, 181])] : List (Nat × List UInt8)).all (fun x => prB x.2 ((cX11_findFar.data.toList.drop 141).drop x.1)) = true := by decide +kernel
theorem dX11_findFar_141 : decode cX11_findFar 141 = .ok (.iload_n 1, 1) := op27 (bA_at bd03_dec_X11_2_57 0 rfl rfl)
theorem dX11_findFar_142 : decode cX11_findFar 142 = .ok (.imul, 1) := op104 (bA_at bd03_dec_X11_2_57 1 rfl rfl)
theorem dX11_findFar_143 : decode cX11_findFar 143 = .ok (.iload_n 3, 1) := op29 (bA_at bd03_dec_X11_2_57 2 rfl rfl)
theorem dX11_findFar_144 : decode cX11_findFar 144 = .ok (.iadd, 1) := op96 (bA_at bd03_dec_X11_2_57 3 rfl rfl)
theorem dX11_findFar_145 : decode cX11_findFar 145 = .ok (.iaload, 1) := op46 (bA_at bd03_dec_X11_2_57 4 rfl rfl)
theorem dX11_findFar_146 : decode cX11_findFar 146 = .ok (.iadd, 1) := op96 (bA_at bd03_dec_X11_2_57 5 rfl rfl)
theorem dX11_findFar_147 : decode cX11_findFar 147 = .ok (.invokestatic 411, 3) := op184 (bA_at bd03_dec_X11_2_57 6 rfl rfl) rfl
theorem dX11_findFar_150 : decode cX11_findFar 150 = .ok (.iastore, 1) := op79 (bA_at bd03_dec_X11_2_57 7 rfl rfl)
theorem dX11_findFar_151 : decode cX11_findFar 151 = .ok (.iinc 3 1, 3) := op132 (bA_at bd03_dec_X11_2_57 8 rfl rfl) rfl (by decide +kernel)
theorem dX11_findFar_154 : decode cX11_findFar 154 = .ok (.goto (-59), 3) := op167 (bA_at bd03_dec_X11_2_57 9 rfl rfl) (by decide +kernel)
theorem dX11_findFar_157 : decode cX11_findFar 157 = .ok (.iinc 2 1, 3) := op132 (bA_at bd03_dec_X11_2_57 10 rfl rfl) rfl (by decide +kernel)
theorem dX11_findFar_160 : decode cX11_findFar 160 = .ok (.goto (-75), 3) := op167 (bA_at bd03_dec_X11_2_57 11 rfl rfl) (by decide +kernel)
theorem bd03_dec_X11_2_58 : ([(0, [132, 1, 1]), (3, [167, 255, 165]), (6, [177])] : List (Nat × List UInt8)).all (fun x => prB x.2 ((cX11_findFar.data.toList.drop 163).drop x.1)) = true := by decide +kernel
theorem dX11_findFar_163 : decode cX11_findFar 163 = .ok (.iinc 1 1, 3) := op132 (bA_at bd03_dec_X11_2_58 0 rfl rfl) rfl (by decide +kernel)
theorem dX11_findFar_166 : decode cX11_findFar 166 = .ok (.goto (-91), 3) := op167 (bA_at bd03_dec_X11_2_58 1 rfl rfl) (by decide +kernel)
theorem dX11_findFar_169 : decode cX11_findFar 169 = .ok (.return_, 1) := op177 (bA_at bd03_dec_X11_2_58 2 rfl rfl)
theorem bd03_dec_X11_2_59 : ([(0, [42]), (1, [3]), (2, [181, 0, 97]), (5, [42]), (6, [27]), (7, [182, 1, 57]), (10, [153, 0, 13]), (13, [28]), (14, [3]), (15, [16, 99]), (17, [184, 0, 109]), (20, [154, 0, 5])] : List (Nat × List UInt8)).all (fun x => prB x.2 ((cX11_masses.data.toList.drop 0).drop x.1)) = true := by decide +kernel
theorem dX11_masses_0 : decode cX11_masses 0 = .ok (.aload_n 0, 1) := op42 (bA_at bd03_dec_X11_2_59 0 rfl rfl)
theorem dX11_masses_1 : decode cX11_masses 1 = .ok (.iconst 0, 1) := op3 (bA_at bd03_dec_X11_2_59 1 rfl rfl)
theorem dX11_masses_2 : decode cX11_masses 2 = .ok (.putfield 97, 3) := op181 (bA_at bd03_dec_X11_2_59 2 rfl rfl) rfl
theorem dX11_masses_5 : decode cX11_masses 5 = .ok (.aload_n 0, 1) := op42 (bA_at bd03_dec_X11_2_59 3 rfl rfl)
theorem dX11_masses_6 : decode cX11_masses 6 = .ok (.iload_n 1, 1) := op27 (bA_at bd03_dec_X11_2_59 4 rfl rfl)
theorem dX11_masses_7 : decode cX11_masses 7 = .ok (.invokevirtual 313, 3) := op182 (bA_at bd03_dec_X11_2_59 5 rfl rfl) rfl
theorem dX11_masses_10 : decode cX11_masses 10 = .ok (.ifCond .eq 13, 3) := op153 (bA_at bd03_dec_X11_2_59 6 rfl rfl) (by decide +kernel)
theorem dX11_masses_13 : decode cX11_masses 13 = .ok (.iload_n 2, 1) := op28 (bA_at bd03_dec_X11_2_59 7 rfl rfl)
theorem dX11_masses_14 : decode cX11_masses 14 = .ok (.iconst 0, 1) := op3 (bA_at bd03_dec_X11_2_59 8 rfl rfl)
theorem dX11_masses_15 : decode cX11_masses 15 = .ok (.bipush 99, 2) := op16 (bA_at bd03_dec_X11_2_59 9 rfl rfl) (by decide +kernel)
theorem dX11_masses_17 : decode cX11_masses 17 = .ok (.invokestatic 109, 3) := op184 (bA_at bd03_dec_X11_2_59 10 rfl rfl) rfl
theorem dX11_masses_20 : decode cX11_masses 20 = .ok (.ifCond .ne 5, 3) := op154 (bA_at bd03_dec_X11_2_59 11 rfl rfl) (by decide +kernel)
theorem bd03_dec_X11_2_60 : ([(0, [2]), (1, [172]), (2, [42]), (3, [182, 1, 198]), (6, [3]), (7, [54, 4]), (9, [21, 4]), (11, [42]), (12, [180, 1, 51]), (15, [162, 0, 70]), (18, [42]), (19, [180, 0, 62])] : List (Nat × List UInt8)).all (fun x => prB x.2 ((cX11_masses.data.toList.drop 23).drop x.1)) = true := by decide +kernel
theorem dX11_masses_23 : decode cX11_masses 23 = .ok (.iconst (-1), 1) := op2 (bA_at bd03_dec_X11_2_60 0 rfl rfl)
theorem dX11_masses_24 : decode cX11_masses 24 = .ok (.ireturn, 1) := op172 (bA_at bd03_dec_X11_2_60 1 rfl rfl)
theorem dX11_masses_25 : decode cX11_masses 25 = .ok (.aload_n 0, 1) := op42 (bA_at bd03_dec_X11_2_60 2 rfl rfl)
theorem dX11_masses_26 : decode cX11_masses 26 = .ok (.invokevirtual 454, 3) := op182 (bA_at bd03_dec_X11_2_60 3 rfl rfl) rfl
theorem dX11_masses_29 : decode cX11_masses 29 = .ok (.iconst 0, 1) := op3 (bA_at bd03_dec_X11_2_60 4 rfl rfl)
theorem dX11_masses_30 : decode cX11_masses 30 = .ok (.istore 4, 2) := op54 (bA_at bd03_dec_X11_2_60 5 rfl rfl) rfl
theorem dX11_masses_32 : decode cX11_masses 32 = .ok (.iload 4, 2) := op21 (bA_at bd03_dec_X11_2_60 6 rfl rfl) rfl
theorem dX11_masses_34 : decode cX11_masses 34 = .ok (.aload_n 0, 1) := op42 (bA_at bd03_dec_X11_2_60 7 rfl rfl)
theorem dX11_masses_35 : decode cX11_masses 35 = .ok (.getfield 307, 3) := op180 (bA_at bd03_dec_X11_2_60 8 rfl rfl) rfl
theorem dX11_masses_38 : decode cX11_masses 38 = .ok (.if_icmp .ge 70, 3) := op162 (bA_at bd03_dec_X11_2_60 9 rfl rfl) (by decide +kernel)
theorem dX11_masses_41 : decode cX11_masses 41 = .ok (.aload_n 0, 1) := op42 (bA_at bd03_dec_X11_2_60 10 rfl rfl)
theorem dX11_masses_42 : decode cX11_masses 42 = .ok (.getfield 62, 3) := op180 (bA_at bd03_dec_X11_2_60 11 rfl rfl) rfl
theorem bd03_dec_X11_2_61 : ([(0, [21, 4]), (2, [3]), (3, [79]), (4, [3]), (5, [54, 5]), (7, [21, 5]), (9, [42]), (10, [180, 1, 51]), (13, [162, 0, 44]), (16, [42]), (17, [180, 0, 62]), (20, [21, 4])] : List (Nat × List UInt8)).all (fun x => prB x.2 ((cX11_masses.data.toList.drop 45).drop x.1)) = true := by decide +kernel
theorem dX11_masses_45 : decode cX11_masses 45 = .ok (.iload 4, 2) := op21 (bA_at bd03_dec_X11_2_61 0 rfl rfl) rfl
theorem dX11_masses_47 : decode cX11_masses 47 = .ok (.iconst 0, 1) := op3 (bA_at bd03_dec_X11_2_61 1 rfl rfl)
theorem dX11_masses_48 : decode cX11_masses 48 = .ok (.iastore, 1) := op79 (bA_at bd03_dec_X11_2_61 2 rfl rfl)
theorem dX11_masses_49 : decode cX11_masses 49 = .ok (.iconst 0, 1) := op3 (bA_at bd03_dec_X11_2_61 3 rfl rfl)
theorem dX11_masses_50 : decode cX11_masses 50 = .ok (.istore 5, 2) := op54 (bA_at bd03_dec_X11_2_61 4 rfl rfl) rfl
theorem dX11_masses_52 : decode cX11_masses 52 = .ok (.iload 5, 2) := op21 (bA_at bd03_dec_X11_2_61 5 rfl rfl) rfl
theorem dX11_masses_54 : decode cX11_masses 54 = .ok (.aload_n 0, 1) := op42 (bA_at bd03_dec_X11_2_61 6 rfl rfl)
theorem dX11_masses_55 : decode cX11_masses 55 = .ok (.getfield 307, 3) := op180 (bA_at bd03_dec_X11_2_61 7 rfl rfl) rfl
theorem dX11_masses_58 : decode cX11_masses 58 = .ok (.if_icmp .ge 44, 3) := op162 (bA_at bd03_dec_X11_2_61 8 rfl rfl) (by decide +kernel)
theorem dX11_masses_61 : decode cX11_masses 61 = .ok (.aload_n 0, 1) := op42 (bA_at bd03_dec_X11_2_61 9 rfl rfl)
theorem dX11_masses_62 : decode cX11_masses 62 = .ok (.getfield 62, 3) := op180 (bA_at bd03_dec_X11_2_61 10 rfl rfl) rfl
theorem dX11_masses_65 : decode cX11_masses 65 = .ok (.iload 4, 2) := op21 (bA_at bd03_dec_X11_2_61 11 rfl rfl) rfl
theorem bd03_dec_X11_2_62 : ([(0, [92]), (1, [46]), (2, [42]), (3, [180, 0, 78]), (6, [16, 9]), (8, [21, 4]), (10, [104]), (11, [21, 5]), (13, [96]), (14, [46]), (15, [28]), (16, [163, 0, 10])] : List (Nat × List UInt8)).all (fun x => prB x.2 ((cX11_masses.data.toList.drop 67).drop x.1)) = true := by decide +kernel
theorem dX11_masses_67 : decode cX11_masses 67 = .ok (.dup2, 1) := op92 (bA_at bd03_dec_X11_2_62 0 rfl rfl)
theorem dX11_masses_68 : decode cX11_masses 68 = .ok (.iaload, 1) := op46 (bA_at bd03_dec_X11_2_62 1 rfl rfl)
theorem dX11_masses_69 : decode cX11_masses 69 = .ok (.aload_n 0, 1) := op42 (bA_at bd03_dec_X11_2_62 2 rfl rfl)
theorem dX11_masses_70 : decode cX11_masses 70 = .ok (.getfield 78, 3) := op180 (bA_at bd03_dec_X11_2_62 3 rfl rfl) rfl
theorem dX11_masses_73 : decode cX11_masses 73 = .ok (.bipush 9, 2) := op16 (bA_at bd03_dec_X11_2_62 4 rfl rfl) (by decide +kernel)
theorem dX11_masses_75 : decode cX11_masses 75 = .ok (.iload 4, 2) := op21 (bA_at bd03_dec_X11_2_62 5 rfl rfl) rfl
theorem dX11_masses_77 : decode cX11_masses 77 = .ok (.imul, 1) := op104 (bA_at bd03_dec_X11_2_62 6 rfl rfl)
theorem dX11_masses_78 : decode cX11_masses 78 = .ok (.iload 5, 2) := op21 (bA_at bd03_dec_X11_2_62 7 rfl rfl) rfl
theorem dX11_masses_80 : decode cX11_masses 80 = .ok (.iadd, 1) := op96 (bA_at bd03_dec_X11_2_62 8 rfl rfl)
theorem dX11_masses_81 : decode cX11_masses 81 = .ok (.iaload, 1) := op46 (bA_at bd03_dec_X11_2_62 9 rfl rfl)
theorem dX11_masses_82 : decode cX11_masses 82 = .ok (.iload_n 2, 1) := op28 (bA_at bd03_dec_X11_2_62 10 rfl rfl)
theorem dX11_masses_83 : decode cX11_masses 83 = .ok (.if_icmp .gt 10, 3) := op163 (bA_at bd03_dec_X11_2_62 11 rfl rfl) (by decide +kernel)
theorem bd03_dec_X11_2_63 : ([(0, [4]), (1, [21, 5]), (3, [120]), (4, [167, 0, 4]), (7, [3]), (8, [128]), (9, [79]), (10, [132, 5, 1]), (13, [167, 255, 209]), (16, [132, 4, 1]), (19, [167, 255, 183]), (22, [42])] : List (Nat × List UInt8)).all (fun x => prB x.2 ((cX11_masses.data.toList.drop 86).drop x.1)) = true := by decide +kernel
theorem dX11_masses_86 : decode cX11_masses 86 = .ok (.iconst 1, 1) := op4 (bA_at bd03_dec_X11_2_63 0 rfl rfl)
theorem dX11_masses_87 : decode cX11_masses 87 = .ok (.iload 5, 2) := op21 (bA_at bd03_dec_X11_2_63 1 rfl rfl) rfl
theorem dX11_masses_89 : decode cX11_masses 89 = .ok (.ishl, 1) := op120 (bA_at bd03_dec_X11_2_63 2 rfl rfl)
theorem dX11_masses_90 : decode cX11_masses 90 = .ok (.goto 4, 3) := op167 (bA_at bd03_dec_X11_2_63 3 rfl rfl) (by decide +kernel)
theorem dX11_masses_93 : decode cX11_masses 93 = .ok (.iconst 0, 1) := op3 (bA_at bd03_dec_X11_2_63 4 rfl rfl)
theorem dX11_masses_94 : decode cX11_masses 94 = .ok (.ior, 1) := op128 (bA_at bd03_dec_X11_2_63 5 rfl rfl)
theorem dX11_masses_95 : decode cX11_masses 95 = .ok (.iastore, 1) := op79 (bA_at bd03_dec_X11_2_63 6 rfl rfl)
theorem dX11_masses_96 : decode cX11_masses 96 = .ok (.iinc 5 1, 3) := op132 (bA_at bd03_dec_X11_2_63 7 rfl rfl) rfl (by decide +kernel)
theorem dX11_masses_99 : decode cX11_masses 99 = .ok (.goto (-47), 3) := op167 (bA_at bd03_dec_X11_2_63 8 rfl rfl) (by decide +kernel)
theorem dX11_masses_102 : decode cX11_masses 102 = .ok (.iinc 4 1, 3) := op132 (bA_at bd03_dec_X11_2_63 9 rfl rfl) rfl (by decide +kernel)
theorem dX11_masses_105 : decode cX11_masses 105 = .ok (.goto (-73), 3) := op167 (bA_at bd03_dec_X11_2_63 10 rfl rfl) (by decide +kernel)
theorem dX11_masses_108 : decode cX11_masses 108 = .ok (.aload_n 0, 1) := op42 (bA_at bd03_dec_X11_2_63 11 rfl rfl)
theorem bd03_dec_X11_2_64 : ([(0, [4]), (1, [42]), (2, [180, 1, 51]), (5, [120]), (6, [4]), (7, [100]), (8, [42]), (9, [5]), (10, [182, 1, 47]), (13, [182, 1, 182]), (16, [54, 4]), (18, [29])] : List (Nat × List UInt8)).all (fun x => prB x.2 ((cX11_masses.data.toList.drop 109).drop x.1)) = true := by decide +kernel
theorem dX11_masses_109 : decode cX11_masses 109 = .ok (.iconst 1, 1) := op4 (bA_at bd03_dec_X11_2_64 0 rfl rfl)
theorem dX11_masses_110 : decode cX11_masses 110 = .ok (.aload_n 0, 1) := op42 (bA_at bd03_dec_X11_2_64 1 rfl rfl)
theorem dX11_masses_111 : decode cX11_masses 111 = .ok (.getfield 307, 3) := op180 (bA_at bd03_dec_X11_2_64 2 rfl rfl) rfl
theorem dX11_masses_114 : decode cX11_masses 114 = .ok (.ishl, 1) := op120 (bA_at bd03_dec_X11_2_64 3 rfl rfl)
theorem dX11_masses_115 : decode cX11_masses 115 = .ok (.iconst 1, 1) := op4 (bA_at bd03_dec_X11_2_64 4 rfl rfl)
theorem dX11_masses_116 : decode cX11_masses 116 = .ok (.isub, 1) := op100 (bA_at bd03_dec_X11_2_64 5 rfl rfl)
theorem dX11_masses_117 : decode cX11_masses 117 = .ok (.aload_n 0, 1) := op42 (bA_at bd03_dec_X11_2_64 6 rfl rfl)
theorem dX11_masses_118 : decode cX11_masses 118 = .ok (.iconst 2, 1) := op5 (bA_at bd03_dec_X11_2_64 7 rfl rfl)
theorem dX11_masses_119 : decode cX11_masses 119 = .ok (.invokevirtual 303, 3) := op182 (bA_at bd03_dec_X11_2_64 8 rfl rfl) rfl
theorem dX11_masses_122 : decode cX11_masses 122 = .ok (.invokevirtual 438, 3) := op182 (bA_at bd03_dec_X11_2_64 9 rfl rfl) rfl
theorem dX11_masses_125 : decode cX11_masses 125 = .ok (.istore 4, 2) := op54 (bA_at bd03_dec_X11_2_64 10 rfl rfl) rfl
theorem dX11_masses_127 : decode cX11_masses 127 = .ok (.iload_n 3, 1) := op29 (bA_at bd03_dec_X11_2_64 11 rfl rfl)
theorem bd03_dec_X11_2_65 : ([(0, [153, 0, 8]), (3, [21, 4]), (5, [167, 0, 8]), (8, [21, 4]), (10, [184, 1, 173]), (13, [172])] : List (Nat × List UInt8)).all (fun x => prB x.2 ((cX11_masses.data.toList.drop 128).drop x.1)) = true := by decide +kernel
theorem dX11_masses_128 : decode cX11_masses 128 = .ok (.ifCond .eq 8, 3) := op153 (bA_at bd03_dec_X11_2_65 0 rfl rfl) (by decide +kernel)
theorem dX11_masses_131 : decode cX11_masses 131 = .ok (.iload 4, 2) := op21 (bA_at bd03_dec_X11_2_65 1 rfl rfl) rfl
theorem dX11_masses_133 : decode cX11_masses 133 = .ok (.goto 8, 3) := op167 (bA_at bd03_dec_X11_2_65 2 rfl rfl) (by decide +kernel)
theorem dX11_masses_136 : decode cX11_masses 136 = .ok (.iload 4, 2) := op21 (bA_at bd03_dec_X11_2_65 3 rfl rfl) rfl
theorem dX11_masses_138 : decode cX11_masses 138 = .ok (.invokestatic 429, 3) := op184 (bA_at bd03_dec_X11_2_65 4 rfl rfl) rfl
theorem dX11_masses_141 : decode cX11_masses 141 = .ok (.ireturn, 1) := op172 (bA_at bd03_dec_X11_2_65 5 rfl rfl)
theorem bd03_dec_X11_2_66 : ([(0, [42]), (1, [180, 0, 32]), (4, [16, 31]), (6, [42]), (7, [180, 1, 201]), (10, [104]), (11, [46]), (12, [172])] : List (Nat × List UInt8)).all (fun x => prB x.2 ((cX11_facts.data.toList.drop 0).drop x.1)) = true := by decide +kernel
theorem dX11_facts_0 : decode cX11_facts 0 = .ok (.aload_n 0, 1) := op42 (bA_at bd03_dec_X11_2_66 0 rfl rfl)
theorem dX11_facts_1 : decode cX11_facts 1 = .ok (.getfield 32, 3) := op180 (bA_at bd03_dec_X11_2_66 1 rfl rfl) rfl
theorem dX11_facts_4 : decode cX11_facts 4 = .ok (.bipush 31, 2) := op16 (bA_at bd03_dec_X11_2_66 2 rfl rfl) (by decide +kernel)
theorem dX11_facts_6 : decode cX11_facts 6 = .ok (.aload_n 0, 1) := op42 (bA_at bd03_dec_X11_2_66 3 rfl rfl)
theorem dX11_facts_7 : decode cX11_facts 7 = .ok (.getfield 457, 3) := op180 (bA_at bd03_dec_X11_2_66 4 rfl rfl) rfl
theorem dX11_facts_10 : decode cX11_facts 10 = .ok (.imul, 1) := op104 (bA_at bd03_dec_X11_2_66 5 rfl rfl)
theorem dX11_facts_11 : decode cX11_facts 11 = .ok (.iaload, 1) := op46 (bA_at bd03_dec_X11_2_66 6 rfl rfl)
theorem dX11_facts_12 : decode cX11_facts 12 = .ok (.ireturn, 1) := op172 (bA_at bd03_dec_X11_2_66 7 rfl rfl)
theorem bd03_dec_X11_2_67 : ([(0, [42]), (1, [180, 0, 32]), (4, [16, 31]), (6, [42]), (7, [180, 1, 201]), (10, [104]), (11, [4]), (12, [96]), (13, [6]), (14, [27]), (15, [104]), (16, [96])] : List (Nat × List UInt8)).all (fun x => prB x.2 ((cX11_factOf.data.toList.drop 0).drop x.1)) = true := by decide +kernel
theorem dX11_factOf_0 : decode cX11_factOf 0 = .ok (.aload_n 0, 1) := op42 (bA_at bd03_dec_X11_2_67 0 rfl rfl)
theorem dX11_factOf_1 : decode cX11_factOf 1 = .ok (.getfield 32, 3) := op180 (bA_at bd03_dec_X11_2_67 1 rfl rfl) rfl
theorem dX11_factOf_4 : decode cX11_factOf 4 = .ok (.bipush 31, 2) := op16 (bA_at bd03_dec_X11_2_67 2 rfl rfl) (by decide +kernel)
theorem dX11_factOf_6 : decode cX11_factOf 6 = .ok (.aload_n 0, 1) := op42 (bA_at bd03_dec_X11_2_67 3 rfl rfl)
theorem dX11_factOf_7 : decode cX11_factOf 7 = .ok (.getfield 457, 3) := op180 (bA_at bd03_dec_X11_2_67 4 rfl rfl) rfl
theorem dX11_factOf_10 : decode cX11_factOf 10 = .ok (.imul, 1) := op104 (bA_at bd03_dec_X11_2_67 5 rfl rfl)
theorem dX11_factOf_11 : decode cX11_factOf 11 = .ok (.iconst 1, 1) := op4 (bA_at bd03_dec_X11_2_67 6 rfl rfl)
theorem dX11_factOf_12 : decode cX11_factOf 12 = .ok (.iadd, 1) := op96 (bA_at bd03_dec_X11_2_67 7 rfl rfl)
theorem dX11_factOf_13 : decode cX11_factOf 13 = .ok (.iconst 3, 1) := op6 (bA_at bd03_dec_X11_2_67 8 rfl rfl)
theorem dX11_factOf_14 : decode cX11_factOf 14 = .ok (.iload_n 1, 1) := op27 (bA_at bd03_dec_X11_2_67 9 rfl rfl)
theorem dX11_factOf_15 : decode cX11_factOf 15 = .ok (.imul, 1) := op104 (bA_at bd03_dec_X11_2_67 10 rfl rfl)
theorem dX11_factOf_16 : decode cX11_factOf 16 = .ok (.iadd, 1) := op96 (bA_at bd03_dec_X11_2_67 11 rfl rfl)
theorem bd03_dec_X11_2_68 : ([(0, [28]), (1, [96]), (2, [46]), (3, [172])] : List (Nat × List UInt8)).all (fun x => prB x.2 ((cX11_factOf.data.toList.drop 17).drop x.1)) = true := by decide +kernel
theorem dX11_factOf_17 : decode cX11_factOf 17 = .ok (.iload_n 2, 1) := op28 (bA_at bd03_dec_X11_2_68 0 rfl rfl)
theorem dX11_factOf_18 : decode cX11_factOf 18 = .ok (.iadd, 1) := op96 (bA_at bd03_dec_X11_2_68 1 rfl rfl)
theorem dX11_factOf_19 : decode cX11_factOf 19 = .ok (.iaload, 1) := op46 (bA_at bd03_dec_X11_2_68 2 rfl rfl)
theorem dX11_factOf_20 : decode cX11_factOf 20 = .ok (.ireturn, 1) := op172 (bA_at bd03_dec_X11_2_68 3 rfl rfl)
theorem bd03_dec_X11_2_69 : ([(0, [42]), (1, [27]), (2, [181, 1, 201]), (5, [42]), (6, [5]), (7, [27]), (8, [182, 1, 35]), (11, [172])] : List (Nat × List UInt8)).all (fun x => prB x.2 ((cX11_hasSight.data.toList.drop 0).drop x.1)) = true := by decide +kernel
theorem dX11_hasSight_0 : decode cX11_hasSight 0 = .ok (.aload_n 0, 1) := op42 (bA_at bd03_dec_X11_2_69 0 rfl rfl)
theorem dX11_hasSight_1 : decode cX11_hasSight 1 = .ok (.iload_n 1, 1) := op27 (bA_at bd03_dec_X11_2_69 1 rfl rfl)
theorem dX11_hasSight_2 : decode cX11_hasSight 2 = .ok (.putfield 457, 3) := op181 (bA_at bd03_dec_X11_2_69 2 rfl rfl) rfl
theorem dX11_hasSight_5 : decode cX11_hasSight 5 = .ok (.aload_n 0, 1) := op42 (bA_at bd03_dec_X11_2_69 3 rfl rfl)
theorem dX11_hasSight_6 : decode cX11_hasSight 6 = .ok (.iconst 2, 1) := op5 (bA_at bd03_dec_X11_2_69 4 rfl rfl)
theorem dX11_hasSight_7 : decode cX11_hasSight 7 = .ok (.iload_n 1, 1) := op27 (bA_at bd03_dec_X11_2_69 5 rfl rfl)
theorem dX11_hasSight_8 : decode cX11_hasSight 8 = .ok (.invokevirtual 291, 3) := op182 (bA_at bd03_dec_X11_2_69 6 rfl rfl) rfl
theorem dX11_hasSight_11 : decode cX11_hasSight 11 = .ok (.ireturn, 1) := op172 (bA_at bd03_dec_X11_2_69 7 rfl rfl)
theorem bd03_dec_X11_2_70 : ([(0, [42]), (1, [3]), (2, [181, 0, 97]), (5, [42]), (6, [27]), (7, [182, 1, 204]), (10, [154, 0, 6]), (13, [16, 254]), (15, [172]), (16, [28]), (17, [2]), (18, [160, 0, 17])] : List (Nat × List UInt8)).all (fun x => prB x.2 ((cX11_fact.data.toList.drop 0).drop x.1)) = true := by decide +kernel
theorem dX11_fact_0 : decode cX11_fact 0 = .ok (.aload_n 0, 1) := op42 (bA_at bd03_dec_X11_2_70 0 rfl rfl)
theorem dX11_fact_1 : decode cX11_fact 1 = .ok (.iconst 0, 1) := op3 (bA_at bd03_dec_X11_2_70 1 rfl rfl)
theorem dX11_fact_2 : decode cX11_fact 2 = .ok (.putfield 97, 3) := op181 (bA_at bd03_dec_X11_2_70 2 rfl rfl) rfl
theorem dX11_fact_5 : decode cX11_fact 5 = .ok (.aload_n 0, 1) := op42 (bA_at bd03_dec_X11_2_70 3 rfl rfl)
theorem dX11_fact_6 : decode cX11_fact 6 = .ok (.iload_n 1, 1) := op27 (bA_at bd03_dec_X11_2_70 4 rfl rfl)
theorem dX11_fact_7 : decode cX11_fact 7 = .ok (.invokevirtual 460, 3) := op182 (bA_at bd03_dec_X11_2_70 5 rfl rfl) rfl
theorem dX11_fact_10 : decode cX11_fact 10 = .ok (.ifCond .ne 6, 3) := op154 (bA_at bd03_dec_X11_2_70 6 rfl rfl) (by decide +kernel)
theorem dX11_fact_13 : decode cX11_fact 13 = .ok (.bipush (-2), 2) := op16 (bA_at bd03_dec_X11_2_70 7 rfl rfl) (by decide +kernel)
theorem dX11_fact_15 : decode cX11_fact 15 = .ok (.ireturn, 1) := op172 (bA_at bd03_dec_X11_2_70 8 rfl rfl)
theorem dX11_fact_16 : decode cX11_fact 16 = .ok (.iload_n 2, 1) := op28 (bA_at bd03_dec_X11_2_70 9 rfl rfl)
theorem dX11_fact_17 : decode cX11_fact 17 = .ok (.iconst (-1), 1) := op2 (bA_at bd03_dec_X11_2_70 10 rfl rfl)
theorem dX11_fact_18 : decode cX11_fact 18 = .ok (.if_icmp .ne 17, 3) := op160 (bA_at bd03_dec_X11_2_70 11 rfl rfl) (by decide +kernel)
theorem bd03_dec_X11_2_71 : ([(0, [29]), (1, [154, 0, 10]), (4, [42]), (5, [182, 1, 207]), (8, [167, 0, 5]), (11, [16, 254]), (13, [172]), (14, [28]), (15, [3]), (16, [42]), (17, [182, 1, 207]), (20, [4])] : List (Nat × List UInt8)).all (fun x => prB x.2 ((cX11_fact.data.toList.drop 21).drop x.1)) = true := by decide +kernel
theorem dX11_fact_21 : decode cX11_fact 21 = .ok (.iload_n 3, 1) := op29 (bA_at bd03_dec_X11_2_71 0 rfl rfl)
theorem dX11_fact_22 : decode cX11_fact 22 = .ok (.ifCond .ne 10, 3) := op154 (bA_at bd03_dec_X11_2_71 1 rfl rfl) (by decide +kernel)
theorem dX11_fact_25 : decode cX11_fact 25 = .ok (.aload_n 0, 1) := op42 (bA_at bd03_dec_X11_2_71 2 rfl rfl)
theorem dX11_fact_26 : decode cX11_fact 26 = .ok (.invokevirtual 463, 3) := op182 (bA_at bd03_dec_X11_2_71 3 rfl rfl) rfl
theorem dX11_fact_29 : decode cX11_fact 29 = .ok (.goto 5, 3) := op167 (bA_at bd03_dec_X11_2_71 4 rfl rfl) (by decide +kernel)
theorem dX11_fact_32 : decode cX11_fact 32 = .ok (.bipush (-2), 2) := op16 (bA_at bd03_dec_X11_2_71 5 rfl rfl) (by decide +kernel)
theorem dX11_fact_34 : decode cX11_fact 34 = .ok (.ireturn, 1) := op172 (bA_at bd03_dec_X11_2_71 6 rfl rfl)
theorem dX11_fact_35 : decode cX11_fact 35 = .ok (.iload_n 2, 1) := op28 (bA_at bd03_dec_X11_2_71 7 rfl rfl)
theorem dX11_fact_36 : decode cX11_fact 36 = .ok (.iconst 0, 1) := op3 (bA_at bd03_dec_X11_2_71 8 rfl rfl)
theorem dX11_fact_37 : decode cX11_fact 37 = .ok (.aload_n 0, 1) := op42 (bA_at bd03_dec_X11_2_71 9 rfl rfl)
theorem dX11_fact_38 : decode cX11_fact 38 = .ok (.invokevirtual 463, 3) := op182 (bA_at bd03_dec_X11_2_71 10 rfl rfl) rfl
theorem dX11_fact_41 : decode cX11_fact 41 = .ok (.iconst 1, 1) := op4 (bA_at bd03_dec_X11_2_71 11 rfl rfl)
theorem bd03_dec_X11_2_72 : ([(0, [100]), (1, [184, 0, 109]), (4, [153, 0, 21]), (7, [29]), (8, [3]), (9, [5]), (10, [184, 0, 109]), (13, [153, 0, 12]), (16, [42]), (17, [28]), (18, [29]), (19, [182, 1, 210])] : List (Nat × List UInt8)).all (fun x => prB x.2 ((cX11_fact.data.toList.drop 42).drop x.1)) = true := by decide +kernel
theorem dX11_fact_42 : decode cX11_fact 42 = .ok (.isub, 1) := op100 (bA_at bd03_dec_X11_2_72 0 rfl rfl)
theorem dX11_fact_43 : decode cX11_fact 43 = .ok (.invokestatic 109, 3) := op184 (bA_at bd03_dec_X11_2_72 1 rfl rfl) rfl
theorem dX11_fact_46 : decode cX11_fact 46 = .ok (.ifCond .eq 21, 3) := op153 (bA_at bd03_dec_X11_2_72 2 rfl rfl) (by decide +kernel)
theorem dX11_fact_49 : decode cX11_fact 49 = .ok (.iload_n 3, 1) := op29 (bA_at bd03_dec_X11_2_72 3 rfl rfl)
theorem dX11_fact_50 : decode cX11_fact 50 = .ok (.iconst 0, 1) := op3 (bA_at bd03_dec_X11_2_72 4 rfl rfl)
theorem dX11_fact_51 : decode cX11_fact 51 = .ok (.iconst 2, 1) := op5 (bA_at bd03_dec_X11_2_72 5 rfl rfl)
theorem dX11_fact_52 : decode cX11_fact 52 = .ok (.invokestatic 109, 3) := op184 (bA_at bd03_dec_X11_2_72 6 rfl rfl) rfl
theorem dX11_fact_55 : decode cX11_fact 55 = .ok (.ifCond .eq 12, 3) := op153 (bA_at bd03_dec_X11_2_72 7 rfl rfl) (by decide +kernel)
theorem dX11_fact_58 : decode cX11_fact 58 = .ok (.aload_n 0, 1) := op42 (bA_at bd03_dec_X11_2_72 8 rfl rfl)
theorem dX11_fact_59 : decode cX11_fact 59 = .ok (.iload_n 2, 1) := op28 (bA_at bd03_dec_X11_2_72 9 rfl rfl)
theorem dX11_fact_60 : decode cX11_fact 60 = .ok (.iload_n 3, 1) := op29 (bA_at bd03_dec_X11_2_72 10 rfl rfl)
theorem dX11_fact_61 : decode cX11_fact 61 = .ok (.invokevirtual 466, 3) := op182 (bA_at bd03_dec_X11_2_72 11 rfl rfl) rfl
theorem bd03_dec_X11_2_73 : ([(0, [167, 0, 5]), (3, [16, 254]), (5, [172])] : List (Nat × List UInt8)).all (fun x => prB x.2 ((cX11_fact.data.toList.drop 64).drop x.1)) = true := by decide +kernel
theorem dX11_fact_64 : decode cX11_fact 64 = .ok (.goto 5, 3) := op167 (bA_at bd03_dec_X11_2_73 0 rfl rfl) (by decide +kernel)
theorem dX11_fact_67 : decode cX11_fact 67 = .ok (.bipush (-2), 2) := op16 (bA_at bd03_dec_X11_2_73 1 rfl rfl) (by decide +kernel)
theorem dX11_fact_69 : decode cX11_fact 69 = .ok (.ireturn, 1) := op172 (bA_at bd03_dec_X11_2_73 2 rfl rfl)
theorem bd03_dec_X11_2_74 : ([(0, [42]), (1, [27]), (2, [3]), (3, [182, 1, 158]), (6, [3]), (7, [61]), (8, [28]), (9, [42]), (10, [180, 1, 51]), (13, [162, 0, 26]), (16, [42]), (17, [180, 0, 81])] : List (Nat × List UInt8)).all (fun x => prB x.2 ((cX11_isFit.data.toList.drop 0).drop x.1)) = true := by decide +kernel
theorem dX11_isFit_0 : decode cX11_isFit 0 = .ok (.aload_n 0, 1) := op42 (bA_at bd03_dec_X11_2_74 0 rfl rfl)
theorem dX11_isFit_1 : decode cX11_isFit 1 = .ok (.iload_n 1, 1) := op27 (bA_at bd03_dec_X11_2_74 1 rfl rfl)
theorem dX11_isFit_2 : decode cX11_isFit 2 = .ok (.iconst 0, 1) := op3 (bA_at bd03_dec_X11_2_74 2 rfl rfl)
theorem dX11_isFit_3 : decode cX11_isFit 3 = .ok (.invokevirtual 414, 3) := op182 (bA_at bd03_dec_X11_2_74 3 rfl rfl) rfl
theorem dX11_isFit_6 : decode cX11_isFit 6 = .ok (.iconst 0, 1) := op3 (bA_at bd03_dec_X11_2_74 4 rfl rfl)
theorem dX11_isFit_7 : decode cX11_isFit 7 = .ok (.istore_n 2, 1) := op61 (bA_at bd03_dec_X11_2_74 5 rfl rfl)
theorem dX11_isFit_8 : decode cX11_isFit 8 = .ok (.iload_n 2, 1) := op28 (bA_at bd03_dec_X11_2_74 6 rfl rfl)
theorem dX11_isFit_9 : decode cX11_isFit 9 = .ok (.aload_n 0, 1) := op42 (bA_at bd03_dec_X11_2_74 7 rfl rfl)
theorem dX11_isFit_10 : decode cX11_isFit 10 = .ok (.getfield 307, 3) := op180 (bA_at bd03_dec_X11_2_74 8 rfl rfl) rfl
theorem dX11_isFit_13 : decode cX11_isFit 13 = .ok (.if_icmp .ge 26, 3) := op162 (bA_at bd03_dec_X11_2_74 9 rfl rfl) (by decide +kernel)
theorem dX11_isFit_16 : decode cX11_isFit 16 = .ok (.aload_n 0, 1) := op42 (bA_at bd03_dec_X11_2_74 10 rfl rfl)
theorem dX11_isFit_17 : decode cX11_isFit 17 = .ok (.getfield 81, 3) := op180 (bA_at bd03_dec_X11_2_74 11 rfl rfl) rfl
theorem bd03_dec_X11_2_75 : ([(0, [16, 9]), (2, [27]), (3, [104]), (4, [28]), (5, [96]), (6, [42]), (7, [180, 0, 59]), (10, [28]), (11, [46]), (12, [79]), (13, [132, 2, 1]), (16, [167, 255, 228])] : List (Nat × List UInt8)).all (fun x => prB x.2 ((cX11_isFit.data.toList.drop 20).drop x.1)) = true := by decide +kernel
theorem dX11_isFit_20 : decode cX11_isFit 20 = .ok (.bipush 9, 2) := op16 (bA_at bd03_dec_X11_2_75 0 rfl rfl) (by decide +kernel)
theorem dX11_isFit_22 : decode cX11_isFit 22 = .ok (.iload_n 1, 1) := op27 (bA_at bd03_dec_X11_2_75 1 rfl rfl)
theorem dX11_isFit_23 : decode cX11_isFit 23 = .ok (.imul, 1) := op104 (bA_at bd03_dec_X11_2_75 2 rfl rfl)
theorem dX11_isFit_24 : decode cX11_isFit 24 = .ok (.iload_n 2, 1) := op28 (bA_at bd03_dec_X11_2_75 3 rfl rfl)
theorem dX11_isFit_25 : decode cX11_isFit 25 = .ok (.iadd, 1) := op96 (bA_at bd03_dec_X11_2_75 4 rfl rfl)
theorem dX11_isFit_26 : decode cX11_isFit 26 = .ok (.aload_n 0, 1) := op42 (bA_at bd03_dec_X11_2_75 5 rfl rfl)
theorem dX11_isFit_27 : decode cX11_isFit 27 = .ok (.getfield 59, 3) := op180 (bA_at bd03_dec_X11_2_75 6 rfl rfl) rfl
theorem dX11_isFit_30 : decode cX11_isFit 30 = .ok (.iload_n 2, 1) := op28 (bA_at bd03_dec_X11_2_75 7 rfl rfl)
theorem dX11_isFit_31 : decode cX11_isFit 31 = .ok (.iaload, 1) := op46 (bA_at bd03_dec_X11_2_75 8 rfl rfl)
theorem dX11_isFit_32 : decode cX11_isFit 32 = .ok (.iastore, 1) := op79 (bA_at bd03_dec_X11_2_75 9 rfl rfl)
theorem dX11_isFit_33 : decode cX11_isFit 33 = .ok (.iinc 2 1, 3) := op132 (bA_at bd03_dec_X11_2_75 10 rfl rfl) rfl (by decide +kernel)
theorem dX11_isFit_36 : decode cX11_isFit 36 = .ok (.goto (-28), 3) := op167 (bA_at bd03_dec_X11_2_75 11 rfl rfl) (by decide +kernel)
theorem bd03_dec_X11_2_76 : ([(0, [3]), (1, [61]), (2, [28]), (3, [42]), (4, [182, 1, 207]), (7, [162, 0, 54]), (10, [42]), (11, [180, 0, 59]), (14, [42]), (15, [28]), (16, [4]), (17, [182, 1, 210])] : List (Nat × List UInt8)).all (fun x => prB x.2 ((cX11_isFit.data.toList.drop 39).drop x.1)) = true := by decide +kernel
theorem dX11_isFit_39 : decode cX11_isFit 39 = .ok (.iconst 0, 1) := op3 (bA_at bd03_dec_X11_2_76 0 rfl rfl)
theorem dX11_isFit_40 : decode cX11_isFit 40 = .ok (.istore_n 2, 1) := op61 (bA_at bd03_dec_X11_2_76 1 rfl rfl)
theorem dX11_isFit_41 : decode cX11_isFit 41 = .ok (.iload_n 2, 1) := op28 (bA_at bd03_dec_X11_2_76 2 rfl rfl)
theorem dX11_isFit_42 : decode cX11_isFit 42 = .ok (.aload_n 0, 1) := op42 (bA_at bd03_dec_X11_2_76 3 rfl rfl)
theorem dX11_isFit_43 : decode cX11_isFit 43 = .ok (.invokevirtual 463, 3) := op182 (bA_at bd03_dec_X11_2_76 4 rfl rfl) rfl
theorem dX11_isFit_46 : decode cX11_isFit 46 = .ok (.if_icmp .ge 54, 3) := op162 (bA_at bd03_dec_X11_2_76 5 rfl rfl) (by decide +kernel)
theorem dX11_isFit_49 : decode cX11_isFit 49 = .ok (.aload_n 0, 1) := op42 (bA_at bd03_dec_X11_2_76 6 rfl rfl)
theorem dX11_isFit_50 : decode cX11_isFit 50 = .ok (.getfield 59, 3) := op180 (bA_at bd03_dec_X11_2_76 7 rfl rfl) rfl
theorem dX11_isFit_53 : decode cX11_isFit 53 = .ok (.aload_n 0, 1) := op42 (bA_at bd03_dec_X11_2_76 8 rfl rfl)
theorem dX11_isFit_54 : decode cX11_isFit 54 = .ok (.iload_n 2, 1) := op28 (bA_at bd03_dec_X11_2_76 9 rfl rfl)
theorem dX11_isFit_55 : decode cX11_isFit 55 = .ok (.iconst 1, 1) := op4 (bA_at bd03_dec_X11_2_76 10 rfl rfl)
theorem dX11_isFit_56 : decode cX11_isFit 56 = .ok (.invokevirtual 466, 3) := op182 (bA_at bd03_dec_X11_2_76 11 rfl rfl) rfl
theorem bd03_dec_X11_2_77 : ([(0, [46]), (1, [42]), (2, [28]), (3, [5]), (4, [182, 1, 210]), (7, [163, 0, 7]), (10, [4]), (11, [167, 0, 4]), (14, [3]), (15, [42]), (16, [28]), (17, [3])] : List (Nat × List UInt8)).all (fun x => prB x.2 ((cX11_isFit.data.toList.drop 59).drop x.1)) = true := by decide +kernel
theorem dX11_isFit_59 : decode cX11_isFit 59 = .ok (.iaload, 1) := op46 (bA_at bd03_dec_X11_2_77 0 rfl rfl)
theorem dX11_isFit_60 : decode cX11_isFit 60 = .ok (.aload_n 0, 1) := op42 (bA_at bd03_dec_X11_2_77 1 rfl rfl)
theorem dX11_isFit_61 : decode cX11_isFit 61 = .ok (.iload_n 2, 1) := op28 (bA_at bd03_dec_X11_2_77 2 rfl rfl)
theorem dX11_isFit_62 : decode cX11_isFit 62 = .ok (.iconst 2, 1) := op5 (bA_at bd03_dec_X11_2_77 3 rfl rfl)
theorem dX11_isFit_63 : decode cX11_isFit 63 = .ok (.invokevirtual 466, 3) := op182 (bA_at bd03_dec_X11_2_77 4 rfl rfl) rfl
theorem dX11_isFit_66 : decode cX11_isFit 66 = .ok (.if_icmp .gt 7, 3) := op163 (bA_at bd03_dec_X11_2_77 5 rfl rfl) (by decide +kernel)
theorem dX11_isFit_69 : decode cX11_isFit 69 = .ok (.iconst 1, 1) := op4 (bA_at bd03_dec_X11_2_77 6 rfl rfl)
theorem dX11_isFit_70 : decode cX11_isFit 70 = .ok (.goto 4, 3) := op167 (bA_at bd03_dec_X11_2_77 7 rfl rfl) (by decide +kernel)
theorem dX11_isFit_73 : decode cX11_isFit 73 = .ok (.iconst 0, 1) := op3 (bA_at bd03_dec_X11_2_77 8 rfl rfl)
theorem dX11_isFit_74 : decode cX11_isFit 74 = .ok (.aload_n 0, 1) := op42 (bA_at bd03_dec_X11_2_77 9 rfl rfl)
theorem dX11_isFit_75 : decode cX11_isFit 75 = .ok (.iload_n 2, 1) := op28 (bA_at bd03_dec_X11_2_77 10 rfl rfl)
theorem dX11_isFit_76 : decode cX11_isFit 76 = .ok (.iconst 0, 1) := op3 (bA_at bd03_dec_X11_2_77 11 rfl rfl)
theorem bd03_dec_X11_2_78 : ([(0, [182, 1, 210]), (3, [4]), (4, [160, 0, 7]), (7, [4]), (8, [167, 0, 4]), (11, [3]), (12, [159, 0, 5]), (15, [3]), (16, [172]), (17, [132, 2, 1]), (20, [167, 255, 200]), (23, [42])] : List (Nat × List UInt8)).all (fun x => prB x.2 ((cX11_isFit.data.toList.drop 77).drop x.1)) = true := by decide +kernel
theorem dX11_isFit_77 : decode cX11_isFit 77 = .ok (.invokevirtual 466, 3) := op182 (bA_at bd03_dec_X11_2_78 0 rfl rfl) rfl
theorem dX11_isFit_80 : decode cX11_isFit 80 = .ok (.iconst 1, 1) := op4 (bA_at bd03_dec_X11_2_78 1 rfl rfl)
theorem dX11_isFit_81 : decode cX11_isFit 81 = .ok (.if_icmp .ne 7, 3) := op160 (bA_at bd03_dec_X11_2_78 2 rfl rfl) (by decide +kernel)
theorem dX11_isFit_84 : decode cX11_isFit 84 = .ok (.iconst 1, 1) := op4 (bA_at bd03_dec_X11_2_78 3 rfl rfl)
theorem dX11_isFit_85 : decode cX11_isFit 85 = .ok (.goto 4, 3) := op167 (bA_at bd03_dec_X11_2_78 4 rfl rfl) (by decide +kernel)
theorem dX11_isFit_88 : decode cX11_isFit 88 = .ok (.iconst 0, 1) := op3 (bA_at bd03_dec_X11_2_78 5 rfl rfl)
theorem dX11_isFit_89 : decode cX11_isFit 89 = .ok (.if_icmp .eq 5, 3) := op159 (bA_at bd03_dec_X11_2_78 6 rfl rfl) (by decide +kernel)
theorem dX11_isFit_92 : decode cX11_isFit 92 = .ok (.iconst 0, 1) := op3 (bA_at bd03_dec_X11_2_78 7 rfl rfl)
theorem dX11_isFit_93 : decode cX11_isFit 93 = .ok (.ireturn, 1) := op172 (bA_at bd03_dec_X11_2_78 8 rfl rfl)
theorem dX11_isFit_94 : decode cX11_isFit 94 = .ok (.iinc 2 1, 3) := op132 (bA_at bd03_dec_X11_2_78 9 rfl rfl) rfl (by decide +kernel)
theorem dX11_isFit_97 : decode cX11_isFit 97 = .ok (.goto (-56), 3) := op167 (bA_at bd03_dec_X11_2_78 10 rfl rfl) (by decide +kernel)
theorem dX11_isFit_100 : decode cX11_isFit 100 = .ok (.aload_n 0, 1) := op42 (bA_at bd03_dec_X11_2_78 11 rfl rfl)
theorem bd03_dec_X11_2_79 : ([(0, [27]), (1, [182, 1, 99]), (4, [154, 0, 7]), (7, [4]), (8, [167, 0, 4]), (11, [3]), (12, [172])] : List (Nat × List UInt8)).all (fun x => prB x.2 ((cX11_isFit.data.toList.drop 101).drop x.1)) = true := by decide +kernel
theorem dX11_isFit_101 : decode cX11_isFit 101 = .ok (.iload_n 1, 1) := op27 (bA_at bd03_dec_X11_2_79 0 rfl rfl)
theorem dX11_isFit_102 : decode cX11_isFit 102 = .ok (.invokevirtual 355, 3) := op182 (bA_at bd03_dec_X11_2_79 1 rfl rfl) rfl
theorem dX11_isFit_105 : decode cX11_isFit 105 = .ok (.ifCond .ne 7, 3) := op154 (bA_at bd03_dec_X11_2_79 2 rfl rfl) (by decide +kernel)
theorem dX11_isFit_108 : decode cX11_isFit 108 = .ok (.iconst 1, 1) := op4 (bA_at bd03_dec_X11_2_79 3 rfl rfl)
theorem dX11_isFit_109 : decode cX11_isFit 109 = .ok (.goto 4, 3) := op167 (bA_at bd03_dec_X11_2_79 4 rfl rfl) (by decide +kernel)
theorem dX11_isFit_112 : decode cX11_isFit 112 = .ok (.iconst 0, 1) := op3 (bA_at bd03_dec_X11_2_79 5 rfl rfl)
theorem dX11_isFit_113 : decode cX11_isFit 113 = .ok (.ireturn, 1) := op172 (bA_at bd03_dec_X11_2_79 6 rfl rfl)
theorem bd03_dec_X11_2_80 : ([(0, [2]), (1, [61]), (2, [19, 1, 154]), (5, [62]), (6, [3]), (7, [54, 4]), (9, [21, 4]), (11, [17, 2, 96]), (14, [163, 0, 120]), (17, [21, 4]), (19, [16, 10]), (21, [112])] : List (Nat × List UInt8)).all (fun x => prB x.2 ((cX11_askOf.data.toList.drop 0).drop x.1)) = true := by decide +kernel
theorem dX11_askOf_0 : decode cX11_askOf 0 = .ok (.iconst (-1), 1) := op2 (bA_at bd03_dec_X11_2_80 0 rfl rfl)
theorem dX11_askOf_1 : decode cX11_askOf 1 = .ok (.istore_n 2, 1) := op61 (bA_at bd03_dec_X11_2_80 1 rfl rfl)
theorem dX11_askOf_2 : decode cX11_askOf 2 = .ok (.ldc_w 410, 3) := op19 (bA_at bd03_dec_X11_2_80 2 rfl rfl) rfl
theorem dX11_askOf_5 : decode cX11_askOf 5 = .ok (.istore_n 3, 1) := op62 (bA_at bd03_dec_X11_2_80 3 rfl rfl)
theorem dX11_askOf_6 : decode cX11_askOf 6 = .ok (.iconst 0, 1) := op3 (bA_at bd03_dec_X11_2_80 4 rfl rfl)
theorem dX11_askOf_7 : decode cX11_askOf 7 = .ok (.istore 4, 2) := op54 (bA_at bd03_dec_X11_2_80 5 rfl rfl) rfl
theorem dX11_askOf_9 : decode cX11_askOf 9 = .ok (.iload 4, 2) := op21 (bA_at bd03_dec_X11_2_80 6 rfl rfl) rfl
theorem dX11_askOf_11 : decode cX11_askOf 11 = .ok (.sipush 608, 3) := op17 (bA_at bd03_dec_X11_2_80 7 rfl rfl) (by decide +kernel)
theorem dX11_askOf_14 : decode cX11_askOf 14 = .ok (.if_icmp .gt 120, 3) := op163 (bA_at bd03_dec_X11_2_80 8 rfl rfl) (by decide +kernel)
theorem dX11_askOf_17 : decode cX11_askOf 17 = .ok (.iload 4, 2) := op21 (bA_at bd03_dec_X11_2_80 9 rfl rfl) rfl
theorem dX11_askOf_19 : decode cX11_askOf 19 = .ok (.bipush 10, 2) := op16 (bA_at bd03_dec_X11_2_80 10 rfl rfl) (by decide +kernel)
theorem dX11_askOf_21 : decode cX11_askOf 21 = .ok (.irem, 1) := op112 (bA_at bd03_dec_X11_2_80 11 rfl rfl)
theorem bd03_dec_X11_2_81 : ([(0, [54, 5]), (2, [42]), (3, [21, 5]), (5, [182, 1, 60]), (8, [153, 0, 98]), (11, [3]), (12, [54, 6]), (14, [3]), (15, [54, 7]), (17, [21, 7]), (19, [42]), (20, [180, 1, 51])] : List (Nat × List UInt8)).all (fun x => prB x.2 ((cX11_askOf.data.toList.drop 22).drop x.1)) = true := by decide +kernel
theorem dX11_askOf_22 : decode cX11_askOf 22 = .ok (.istore 5, 2) := op54 (bA_at bd03_dec_X11_2_81 0 rfl rfl) rfl
theorem dX11_askOf_24 : decode cX11_askOf 24 = .ok (.aload_n 0, 1) := op42 (bA_at bd03_dec_X11_2_81 1 rfl rfl)
theorem dX11_askOf_25 : decode cX11_askOf 25 = .ok (.iload 5, 2) := op21 (bA_at bd03_dec_X11_2_81 2 rfl rfl) rfl
theorem dX11_askOf_27 : decode cX11_askOf 27 = .ok (.invokevirtual 316, 3) := op182 (bA_at bd03_dec_X11_2_81 3 rfl rfl) rfl
theorem dX11_askOf_30 : decode cX11_askOf 30 = .ok (.ifCond .eq 98, 3) := op153 (bA_at bd03_dec_X11_2_81 4 rfl rfl) (by decide +kernel)
theorem dX11_askOf_33 : decode cX11_askOf 33 = .ok (.iconst 0, 1) := op3 (bA_at bd03_dec_X11_2_81 5 rfl rfl)
theorem dX11_askOf_34 : decode cX11_askOf 34 = .ok (.istore 6, 2) := op54 (bA_at bd03_dec_X11_2_81 6 rfl rfl) rfl
theorem dX11_askOf_36 : decode cX11_askOf 36 = .ok (.iconst 0, 1) := op3 (bA_at bd03_dec_X11_2_81 7 rfl rfl)
theorem dX11_askOf_37 : decode cX11_askOf 37 = .ok (.istore 7, 2) := op54 (bA_at bd03_dec_X11_2_81 8 rfl rfl) rfl
theorem dX11_askOf_39 : decode cX11_askOf 39 = .ok (.iload 7, 2) := op21 (bA_at bd03_dec_X11_2_81 9 rfl rfl) rfl
theorem dX11_askOf_41 : decode cX11_askOf 41 = .ok (.aload_n 0, 1) := op42 (bA_at bd03_dec_X11_2_81 10 rfl rfl)
theorem dX11_askOf_42 : decode cX11_askOf 42 = .ok (.getfield 307, 3) := op180 (bA_at bd03_dec_X11_2_81 11 rfl rfl) rfl
theorem bd03_dec_X11_2_82 : ([(0, [162, 0, 49]), (3, [21, 6]), (5, [27]), (6, [21, 7]), (8, [184, 0, 101]), (11, [153, 0, 28]), (14, [42]), (15, [180, 0, 81]), (18, [16, 9]), (20, [21, 7]), (22, [104]), (23, [21, 5])] : List (Nat × List UInt8)).all (fun x => prB x.2 ((cX11_askOf.data.toList.drop 45).drop x.1)) = true := by decide +kernel
theorem dX11_askOf_45 : decode cX11_askOf 45 = .ok (.if_icmp .ge 49, 3) := op162 (bA_at bd03_dec_X11_2_82 0 rfl rfl) (by decide +kernel)
theorem dX11_askOf_48 : decode cX11_askOf 48 = .ok (.iload 6, 2) := op21 (bA_at bd03_dec_X11_2_82 1 rfl rfl) rfl
theorem dX11_askOf_50 : decode cX11_askOf 50 = .ok (.iload_n 1, 1) := op27 (bA_at bd03_dec_X11_2_82 2 rfl rfl)
theorem dX11_askOf_51 : decode cX11_askOf 51 = .ok (.iload 7, 2) := op21 (bA_at bd03_dec_X11_2_82 3 rfl rfl) rfl
theorem dX11_askOf_53 : decode cX11_askOf 53 = .ok (.invokestatic 101, 3) := op184 (bA_at bd03_dec_X11_2_82 4 rfl rfl) rfl
theorem dX11_askOf_56 : decode cX11_askOf 56 = .ok (.ifCond .eq 28, 3) := op153 (bA_at bd03_dec_X11_2_82 5 rfl rfl) (by decide +kernel)
theorem dX11_askOf_59 : decode cX11_askOf 59 = .ok (.aload_n 0, 1) := op42 (bA_at bd03_dec_X11_2_82 6 rfl rfl)
theorem dX11_askOf_60 : decode cX11_askOf 60 = .ok (.getfield 81, 3) := op180 (bA_at bd03_dec_X11_2_82 7 rfl rfl) rfl
theorem dX11_askOf_63 : decode cX11_askOf 63 = .ok (.bipush 9, 2) := op16 (bA_at bd03_dec_X11_2_82 8 rfl rfl) (by decide +kernel)
theorem dX11_askOf_65 : decode cX11_askOf 65 = .ok (.iload 7, 2) := op21 (bA_at bd03_dec_X11_2_82 9 rfl rfl) rfl
theorem dX11_askOf_67 : decode cX11_askOf 67 = .ok (.imul, 1) := op104 (bA_at bd03_dec_X11_2_82 10 rfl rfl)
theorem dX11_askOf_68 : decode cX11_askOf 68 = .ok (.iload 5, 2) := op21 (bA_at bd03_dec_X11_2_82 11 rfl rfl) rfl
theorem bd03_dec_X11_2_83 : ([(0, [96]), (1, [46]), (2, [21, 4]), (4, [16, 10]), (6, [108]), (7, [163, 0, 7]), (10, [4]), (11, [167, 0, 4]), (14, [3]), (15, [96]), (16, [54, 6]), (18, [132, 7, 1])] : List (Nat × List UInt8)).all (fun x => prB x.2 ((cX11_askOf.data.toList.drop 70).drop x.1)) = true := by decide +kernel
theorem dX11_askOf_70 : decode cX11_askOf 70 = .ok (.iadd, 1) := op96 (bA_at bd03_dec_X11_2_83 0 rfl rfl)
theorem dX11_askOf_71 : decode cX11_askOf 71 = .ok (.iaload, 1) := op46 (bA_at bd03_dec_X11_2_83 1 rfl rfl)
theorem dX11_askOf_72 : decode cX11_askOf 72 = .ok (.iload 4, 2) := op21 (bA_at bd03_dec_X11_2_83 2 rfl rfl) rfl
theorem dX11_askOf_74 : decode cX11_askOf 74 = .ok (.bipush 10, 2) := op16 (bA_at bd03_dec_X11_2_83 3 rfl rfl) (by decide +kernel)
theorem dX11_askOf_76 : decode cX11_askOf 76 = .ok (.idiv, 1) := op108 (bA_at bd03_dec_X11_2_83 4 rfl rfl)
theorem dX11_askOf_77 : decode cX11_askOf 77 = .ok (.if_icmp .gt 7, 3) := op163 (bA_at bd03_dec_X11_2_83 5 rfl rfl) (by decide +kernel)
theorem dX11_askOf_80 : decode cX11_askOf 80 = .ok (.iconst 1, 1) := op4 (bA_at bd03_dec_X11_2_83 6 rfl rfl)
theorem dX11_askOf_81 : decode cX11_askOf 81 = .ok (.goto 4, 3) := op167 (bA_at bd03_dec_X11_2_83 7 rfl rfl) (by decide +kernel)
theorem dX11_askOf_84 : decode cX11_askOf 84 = .ok (.iconst 0, 1) := op3 (bA_at bd03_dec_X11_2_83 8 rfl rfl)
theorem dX11_askOf_85 : decode cX11_askOf 85 = .ok (.iadd, 1) := op96 (bA_at bd03_dec_X11_2_83 9 rfl rfl)
theorem dX11_askOf_86 : decode cX11_askOf 86 = .ok (.istore 6, 2) := op54 (bA_at bd03_dec_X11_2_83 10 rfl rfl) rfl
theorem dX11_askOf_88 : decode cX11_askOf 88 = .ok (.iinc 7 1, 3) := op132 (bA_at bd03_dec_X11_2_83 11 rfl rfl) rfl (by decide +kernel)
theorem bd03_dec_X11_2_84 : ([(0, [167, 255, 204]), (3, [21, 6]), (5, [27]), (6, [184, 1, 173]), (9, [21, 6]), (11, [100]), (12, [184, 0, 171]), (15, [54, 7]), (17, [21, 7]), (19, [29]), (20, [162, 0, 8]), (23, [21, 4])] : List (Nat × List UInt8)).all (fun x => prB x.2 ((cX11_askOf.data.toList.drop 91).drop x.1)) = true := by decide +kernel
theorem dX11_askOf_91 : decode cX11_askOf 91 = .ok (.goto (-52), 3) := op167 (bA_at bd03_dec_X11_2_84 0 rfl rfl) (by decide +kernel)
theorem dX11_askOf_94 : decode cX11_askOf 94 = .ok (.iload 6, 2) := op21 (bA_at bd03_dec_X11_2_84 1 rfl rfl) rfl
theorem dX11_askOf_96 : decode cX11_askOf 96 = .ok (.iload_n 1, 1) := op27 (bA_at bd03_dec_X11_2_84 2 rfl rfl)
theorem dX11_askOf_97 : decode cX11_askOf 97 = .ok (.invokestatic 429, 3) := op184 (bA_at bd03_dec_X11_2_84 3 rfl rfl) rfl
theorem dX11_askOf_100 : decode cX11_askOf 100 = .ok (.iload 6, 2) := op21 (bA_at bd03_dec_X11_2_84 4 rfl rfl) rfl
theorem dX11_askOf_102 : decode cX11_askOf 102 = .ok (.isub, 1) := op100 (bA_at bd03_dec_X11_2_84 5 rfl rfl)
theorem dX11_askOf_103 : decode cX11_askOf 103 = .ok (.invokestatic 171, 3) := op184 (bA_at bd03_dec_X11_2_84 6 rfl rfl) rfl
theorem dX11_askOf_106 : decode cX11_askOf 106 = .ok (.istore 7, 2) := op54 (bA_at bd03_dec_X11_2_84 7 rfl rfl) rfl
theorem dX11_askOf_108 : decode cX11_askOf 108 = .ok (.iload 7, 2) := op21 (bA_at bd03_dec_X11_2_84 8 rfl rfl) rfl
theorem dX11_askOf_110 : decode cX11_askOf 110 = .ok (.iload_n 3, 1) := op29 (bA_at bd03_dec_X11_2_84 9 rfl rfl)
theorem dX11_askOf_111 : decode cX11_askOf 111 = .ok (.if_icmp .ge 8, 3) := op162 (bA_at bd03_dec_X11_2_84 10 rfl rfl) (by decide +kernel)
theorem dX11_askOf_114 : decode cX11_askOf 114 = .ok (.iload 4, 2) := op21 (bA_at bd03_dec_X11_2_84 11 rfl rfl) rfl
theorem bd03_dec_X11_2_85 : ([(0, [167, 0, 4]), (3, [28]), (4, [61]), (5, [29]), (6, [21, 7]), (8, [184, 1, 155]), (11, [62]), (12, [132, 4, 1]), (15, [167, 255, 134]), (18, [28]), (19, [172])] : List (Nat × List UInt8)).all (fun x => prB x.2 ((cX11_askOf.data.toList.drop 116).drop x.1)) = true := by decide +kernel
theorem dX11_askOf_116 : decode cX11_askOf 116 = .ok (.goto 4, 3) := op167 (bA_at bd03_dec_X11_2_85 0 rfl rfl) (by decide +kernel)
theorem dX11_askOf_119 : decode cX11_askOf 119 = .ok (.iload_n 2, 1) := op28 (bA_at bd03_dec_X11_2_85 1 rfl rfl)
theorem dX11_askOf_120 : decode cX11_askOf 120 = .ok (.istore_n 2, 1) := op61 (bA_at bd03_dec_X11_2_85 2 rfl rfl)
theorem dX11_askOf_121 : decode cX11_askOf 121 = .ok (.iload_n 3, 1) := op29 (bA_at bd03_dec_X11_2_85 3 rfl rfl)
theorem dX11_askOf_122 : decode cX11_askOf 122 = .ok (.iload 7, 2) := op21 (bA_at bd03_dec_X11_2_85 4 rfl rfl) rfl
theorem dX11_askOf_124 : decode cX11_askOf 124 = .ok (.invokestatic 411, 3) := op184 (bA_at bd03_dec_X11_2_85 5 rfl rfl) rfl
theorem dX11_askOf_127 : decode cX11_askOf 127 = .ok (.istore_n 3, 1) := op62 (bA_at bd03_dec_X11_2_85 6 rfl rfl)
theorem dX11_askOf_128 : decode cX11_askOf 128 = .ok (.iinc 4 1, 3) := op132 (bA_at bd03_dec_X11_2_85 7 rfl rfl) rfl (by decide +kernel)
theorem dX11_askOf_131 : decode cX11_askOf 131 = .ok (.goto (-122), 3) := op167 (bA_at bd03_dec_X11_2_85 8 rfl rfl) (by decide +kernel)
theorem dX11_askOf_134 : decode cX11_askOf 134 = .ok (.iload_n 2, 1) := op28 (bA_at bd03_dec_X11_2_85 9 rfl rfl)
theorem dX11_askOf_135 : decode cX11_askOf 135 = .ok (.ireturn, 1) := op172 (bA_at bd03_dec_X11_2_85 10 rfl rfl)
theorem bd03_dec_X11_2_86 : ([(0, [42]), (1, [3]), (2, [181, 0, 97]), (5, [42]), (6, [28]), (7, [182, 1, 204]), (10, [153, 0, 11]), (13, [42]), (14, [27]), (15, [182, 1, 57]), (18, [154, 0, 6]), (21, [16, 254])] : List (Nat × List UInt8)).all (fun x => prB x.2 ((cX11_fits.data.toList.drop 0).drop x.1)) = true := by decide +kernel
theorem dX11_fits_0 : decode cX11_fits 0 = .ok (.aload_n 0, 1) := op42 (bA_at bd03_dec_X11_2_86 0 rfl rfl)
theorem dX11_fits_1 : decode cX11_fits 1 = .ok (.iconst 0, 1) := op3 (bA_at bd03_dec_X11_2_86 1 rfl rfl)
theorem dX11_fits_2 : decode cX11_fits 2 = .ok (.putfield 97, 3) := op181 (bA_at bd03_dec_X11_2_86 2 rfl rfl) rfl
theorem dX11_fits_5 : decode cX11_fits 5 = .ok (.aload_n 0, 1) := op42 (bA_at bd03_dec_X11_2_86 3 rfl rfl)
theorem dX11_fits_6 : decode cX11_fits 6 = .ok (.iload_n 2, 1) := op28 (bA_at bd03_dec_X11_2_86 4 rfl rfl)
theorem dX11_fits_7 : decode cX11_fits 7 = .ok (.invokevirtual 460, 3) := op182 (bA_at bd03_dec_X11_2_86 5 rfl rfl) rfl
theorem dX11_fits_10 : decode cX11_fits 10 = .ok (.ifCond .eq 11, 3) := op153 (bA_at bd03_dec_X11_2_86 6 rfl rfl) (by decide +kernel)
theorem dX11_fits_13 : decode cX11_fits 13 = .ok (.aload_n 0, 1) := op42 (bA_at bd03_dec_X11_2_86 7 rfl rfl)
theorem dX11_fits_14 : decode cX11_fits 14 = .ok (.iload_n 1, 1) := op27 (bA_at bd03_dec_X11_2_86 8 rfl rfl)
theorem dX11_fits_15 : decode cX11_fits 15 = .ok (.invokevirtual 313, 3) := op182 (bA_at bd03_dec_X11_2_86 9 rfl rfl) rfl
theorem dX11_fits_18 : decode cX11_fits 18 = .ok (.ifCond .ne 6, 3) := op154 (bA_at bd03_dec_X11_2_86 10 rfl rfl) (by decide +kernel)
theorem dX11_fits_21 : decode cX11_fits 21 = .ok (.bipush (-2), 2) := op16 (bA_at bd03_dec_X11_2_86 11 rfl rfl) (by decide +kernel)
theorem bd03_dec_X11_2_87 : ([(0, [172]), (1, [3]), (2, [54, 4]), (4, [21, 4]), (6, [42]), (7, [182, 1, 207]), (10, [162, 0, 26]), (13, [42]), (14, [42]), (15, [21, 4]), (17, [4]), (18, [182, 1, 210])] : List (Nat × List UInt8)).all (fun x => prB x.2 ((cX11_fits.data.toList.drop 23).drop x.1)) = true := by decide +kernel
theorem dX11_fits_23 : decode cX11_fits 23 = .ok (.ireturn, 1) := op172 (bA_at bd03_dec_X11_2_87 0 rfl rfl)
theorem dX11_fits_24 : decode cX11_fits 24 = .ok (.iconst 0, 1) := op3 (bA_at bd03_dec_X11_2_87 1 rfl rfl)
theorem dX11_fits_25 : decode cX11_fits 25 = .ok (.istore 4, 2) := op54 (bA_at bd03_dec_X11_2_87 2 rfl rfl) rfl
theorem dX11_fits_27 : decode cX11_fits 27 = .ok (.iload 4, 2) := op21 (bA_at bd03_dec_X11_2_87 3 rfl rfl) rfl
theorem dX11_fits_29 : decode cX11_fits 29 = .ok (.aload_n 0, 1) := op42 (bA_at bd03_dec_X11_2_87 4 rfl rfl)
theorem dX11_fits_30 : decode cX11_fits 30 = .ok (.invokevirtual 463, 3) := op182 (bA_at bd03_dec_X11_2_87 5 rfl rfl) rfl
theorem dX11_fits_33 : decode cX11_fits 33 = .ok (.if_icmp .ge 26, 3) := op162 (bA_at bd03_dec_X11_2_87 6 rfl rfl) (by decide +kernel)
theorem dX11_fits_36 : decode cX11_fits 36 = .ok (.aload_n 0, 1) := op42 (bA_at bd03_dec_X11_2_87 7 rfl rfl)
theorem dX11_fits_37 : decode cX11_fits 37 = .ok (.aload_n 0, 1) := op42 (bA_at bd03_dec_X11_2_87 8 rfl rfl)
theorem dX11_fits_38 : decode cX11_fits 38 = .ok (.iload 4, 2) := op21 (bA_at bd03_dec_X11_2_87 9 rfl rfl) rfl
theorem dX11_fits_40 : decode cX11_fits 40 = .ok (.iconst 1, 1) := op4 (bA_at bd03_dec_X11_2_87 10 rfl rfl)
theorem dX11_fits_41 : decode cX11_fits 41 = .ok (.invokevirtual 466, 3) := op182 (bA_at bd03_dec_X11_2_87 11 rfl rfl) rfl
theorem bd03_dec_X11_2_88 : ([(0, [182, 1, 60]), (3, [154, 0, 6]), (6, [16, 254]), (8, [172]), (9, [132, 4, 1]), (12, [167, 255, 227]), (15, [3]), (16, [54, 4]), (18, [3]), (19, [54, 5]), (21, [21, 5]), (23, [42])] : List (Nat × List UInt8)).all (fun x => prB x.2 ((cX11_fits.data.toList.drop 44).drop x.1)) = true := by decide +kernel
theorem dX11_fits_44 : decode cX11_fits 44 = .ok (.invokevirtual 316, 3) := op182 (bA_at bd03_dec_X11_2_88 0 rfl rfl) rfl
theorem dX11_fits_47 : decode cX11_fits 47 = .ok (.ifCond .ne 6, 3) := op154 (bA_at bd03_dec_X11_2_88 1 rfl rfl) (by decide +kernel)
theorem dX11_fits_50 : decode cX11_fits 50 = .ok (.bipush (-2), 2) := op16 (bA_at bd03_dec_X11_2_88 2 rfl rfl) (by decide +kernel)
theorem dX11_fits_52 : decode cX11_fits 52 = .ok (.ireturn, 1) := op172 (bA_at bd03_dec_X11_2_88 3 rfl rfl)
theorem dX11_fits_53 : decode cX11_fits 53 = .ok (.iinc 4 1, 3) := op132 (bA_at bd03_dec_X11_2_88 4 rfl rfl) rfl (by decide +kernel)
theorem dX11_fits_56 : decode cX11_fits 56 = .ok (.goto (-29), 3) := op167 (bA_at bd03_dec_X11_2_88 5 rfl rfl) (by decide +kernel)
theorem dX11_fits_59 : decode cX11_fits 59 = .ok (.iconst 0, 1) := op3 (bA_at bd03_dec_X11_2_88 6 rfl rfl)
theorem dX11_fits_60 : decode cX11_fits 60 = .ok (.istore 4, 2) := op54 (bA_at bd03_dec_X11_2_88 7 rfl rfl) rfl
theorem dX11_fits_62 : decode cX11_fits 62 = .ok (.iconst 0, 1) := op3 (bA_at bd03_dec_X11_2_88 8 rfl rfl)
theorem dX11_fits_63 : decode cX11_fits 63 = .ok (.istore 5, 2) := op54 (bA_at bd03_dec_X11_2_88 9 rfl rfl) rfl
theorem dX11_fits_65 : decode cX11_fits 65 = .ok (.iload 5, 2) := op21 (bA_at bd03_dec_X11_2_88 10 rfl rfl) rfl
theorem dX11_fits_67 : decode cX11_fits 67 = .ok (.aload_n 0, 1) := op42 (bA_at bd03_dec_X11_2_88 11 rfl rfl)
theorem bd03_dec_X11_2_89 : ([(0, [180, 1, 51]), (3, [162, 0, 31]), (6, [21, 4]), (8, [42]), (9, [21, 5]), (11, [182, 1, 213]), (14, [153, 0, 10]), (17, [4]), (18, [21, 5]), (20, [120]), (21, [167, 0, 4]), (24, [3])] : List (Nat × List UInt8)).all (fun x => prB x.2 ((cX11_fits.data.toList.drop 68).drop x.1)) = true := by decide +kernel
theorem dX11_fits_68 : decode cX11_fits 68 = .ok (.getfield 307, 3) := op180 (bA_at bd03_dec_X11_2_89 0 rfl rfl) rfl
theorem dX11_fits_71 : decode cX11_fits 71 = .ok (.if_icmp .ge 31, 3) := op162 (bA_at bd03_dec_X11_2_89 1 rfl rfl) (by decide +kernel)
theorem dX11_fits_74 : decode cX11_fits 74 = .ok (.iload 4, 2) := op21 (bA_at bd03_dec_X11_2_89 2 rfl rfl) rfl
theorem dX11_fits_76 : decode cX11_fits 76 = .ok (.aload_n 0, 1) := op42 (bA_at bd03_dec_X11_2_89 3 rfl rfl)
theorem dX11_fits_77 : decode cX11_fits 77 = .ok (.iload 5, 2) := op21 (bA_at bd03_dec_X11_2_89 4 rfl rfl) rfl
theorem dX11_fits_79 : decode cX11_fits 79 = .ok (.invokevirtual 469, 3) := op182 (bA_at bd03_dec_X11_2_89 5 rfl rfl) rfl
theorem dX11_fits_82 : decode cX11_fits 82 = .ok (.ifCond .eq 10, 3) := op153 (bA_at bd03_dec_X11_2_89 6 rfl rfl) (by decide +kernel)
theorem dX11_fits_85 : decode cX11_fits 85 = .ok (.iconst 1, 1) := op4 (bA_at bd03_dec_X11_2_89 7 rfl rfl)
theorem dX11_fits_86 : decode cX11_fits 86 = .ok (.iload 5, 2) := op21 (bA_at bd03_dec_X11_2_89 8 rfl rfl) rfl
theorem dX11_fits_88 : decode cX11_fits 88 = .ok (.ishl, 1) := op120 (bA_at bd03_dec_X11_2_89 9 rfl rfl)
theorem dX11_fits_89 : decode cX11_fits 89 = .ok (.goto 4, 3) := op167 (bA_at bd03_dec_X11_2_89 10 rfl rfl) (by decide +kernel)
theorem dX11_fits_92 : decode cX11_fits 92 = .ok (.iconst 0, 1) := op3 (bA_at bd03_dec_X11_2_89 11 rfl rfl)
theorem bd03_dec_X11_2_90 : ([(0, [128]), (1, [54, 4]), (3, [132, 5, 1]), (6, [167, 255, 222]), (9, [29]), (10, [154, 0, 8]), (13, [21, 4]), (15, [167, 0, 18]), (18, [21, 4]), (20, [154, 0, 7]), (23, [2]), (24, [167, 0, 9])] : List (Nat × List UInt8)).all (fun x => prB x.2 ((cX11_fits.data.toList.drop 93).drop x.1)) = true := by decide +kernel
theorem dX11_fits_93 : decode cX11_fits 93 = .ok (.ior, 1) := op128 (bA_at bd03_dec_X11_2_90 0 rfl rfl)
theorem dX11_fits_94 : decode cX11_fits 94 = .ok (.istore 4, 2) := op54 (bA_at bd03_dec_X11_2_90 1 rfl rfl) rfl
theorem dX11_fits_96 : decode cX11_fits 96 = .ok (.iinc 5 1, 3) := op132 (bA_at bd03_dec_X11_2_90 2 rfl rfl) rfl (by decide +kernel)
theorem dX11_fits_99 : decode cX11_fits 99 = .ok (.goto (-34), 3) := op167 (bA_at bd03_dec_X11_2_90 3 rfl rfl) (by decide +kernel)
theorem dX11_fits_102 : decode cX11_fits 102 = .ok (.iload_n 3, 1) := op29 (bA_at bd03_dec_X11_2_90 4 rfl rfl)
theorem dX11_fits_103 : decode cX11_fits 103 = .ok (.ifCond .ne 8, 3) := op154 (bA_at bd03_dec_X11_2_90 5 rfl rfl) (by decide +kernel)
theorem dX11_fits_106 : decode cX11_fits 106 = .ok (.iload 4, 2) := op21 (bA_at bd03_dec_X11_2_90 6 rfl rfl) rfl
theorem dX11_fits_108 : decode cX11_fits 108 = .ok (.goto 18, 3) := op167 (bA_at bd03_dec_X11_2_90 7 rfl rfl) (by decide +kernel)
theorem dX11_fits_111 : decode cX11_fits 111 = .ok (.iload 4, 2) := op21 (bA_at bd03_dec_X11_2_90 8 rfl rfl) rfl
theorem dX11_fits_113 : decode cX11_fits 113 = .ok (.ifCond .ne 7, 3) := op154 (bA_at bd03_dec_X11_2_90 9 rfl rfl) (by decide +kernel)
theorem dX11_fits_116 : decode cX11_fits 116 = .ok (.iconst (-1), 1) := op2 (bA_at bd03_dec_X11_2_90 10 rfl rfl)
theorem dX11_fits_117 : decode cX11_fits 117 = .ok (.goto 9, 3) := op167 (bA_at bd03_dec_X11_2_90 11 rfl rfl) (by decide +kernel)
theorem bd03_dec_X11_2_91 : ([(0, [42]), (1, [21, 4]), (3, [182, 1, 216]), (6, [172])] : List (Nat × List UInt8)).all (fun x => prB x.2 ((cX11_fits.data.toList.drop 120).drop x.1)) = true := by decide +kernel
theorem dX11_fits_120 : decode cX11_fits 120 = .ok (.aload_n 0, 1) := op42 (bA_at bd03_dec_X11_2_91 0 rfl rfl)
theorem dX11_fits_121 : decode cX11_fits 121 = .ok (.iload 4, 2) := op21 (bA_at bd03_dec_X11_2_91 1 rfl rfl) rfl
theorem dX11_fits_123 : decode cX11_fits 123 = .ok (.invokevirtual 472, 3) := op182 (bA_at bd03_dec_X11_2_91 2 rfl rfl) rfl
theorem dX11_fits_126 : decode cX11_fits 126 = .ok (.ireturn, 1) := op172 (bA_at bd03_dec_X11_2_91 3 rfl rfl)
theorem bd03_dec_X11_2_92 : ([(0, [42]), (1, [27]), (2, [181, 1, 219]), (5, [42]), (6, [6]), (7, [27]), (8, [182, 1, 35]), (11, [154, 0, 5]), (14, [3]), (15, [172]), (16, [42]), (17, [42])] : List (Nat × List UInt8)).all (fun x => prB x.2 ((cX11_hasChoir.data.toList.drop 0).drop x.1)) = true := by decide +kernel
theorem dX11_hasChoir_0 : decode cX11_hasChoir 0 = .ok (.aload_n 0, 1) := op42 (bA_at bd03_dec_X11_2_92 0 rfl rfl)
theorem dX11_hasChoir_1 : decode cX11_hasChoir 1 = .ok (.iload_n 1, 1) := op27 (bA_at bd03_dec_X11_2_92 1 rfl rfl)
theorem dX11_hasChoir_2 : decode cX11_hasChoir 2 = .ok (.putfield 475, 3) := op181 (bA_at bd03_dec_X11_2_92 2 rfl rfl) rfl
theorem dX11_hasChoir_5 : decode cX11_hasChoir 5 = .ok (.aload_n 0, 1) := op42 (bA_at bd03_dec_X11_2_92 3 rfl rfl)
theorem dX11_hasChoir_6 : decode cX11_hasChoir 6 = .ok (.iconst 3, 1) := op6 (bA_at bd03_dec_X11_2_92 4 rfl rfl)
theorem dX11_hasChoir_7 : decode cX11_hasChoir 7 = .ok (.iload_n 1, 1) := op27 (bA_at bd03_dec_X11_2_92 5 rfl rfl)
theorem dX11_hasChoir_8 : decode cX11_hasChoir 8 = .ok (.invokevirtual 291, 3) := op182 (bA_at bd03_dec_X11_2_92 6 rfl rfl) rfl
theorem dX11_hasChoir_11 : decode cX11_hasChoir 11 = .ok (.ifCond .ne 5, 3) := op154 (bA_at bd03_dec_X11_2_92 7 rfl rfl) (by decide +kernel)
theorem dX11_hasChoir_14 : decode cX11_hasChoir 14 = .ok (.iconst 0, 1) := op3 (bA_at bd03_dec_X11_2_92 8 rfl rfl)
theorem dX11_hasChoir_15 : decode cX11_hasChoir 15 = .ok (.ireturn, 1) := op172 (bA_at bd03_dec_X11_2_92 9 rfl rfl)
theorem dX11_hasChoir_16 : decode cX11_hasChoir 16 = .ok (.aload_n 0, 1) := op42 (bA_at bd03_dec_X11_2_92 10 rfl rfl)
theorem dX11_hasChoir_17 : decode cX11_hasChoir 17 = .ok (.aload_n 0, 1) := op42 (bA_at bd03_dec_X11_2_92 11 rfl rfl)
theorem bd03_dec_X11_2_93 : ([(0, [180, 0, 35]), (3, [16, 20]), (5, [27]), (6, [104]), (7, [46]), (8, [181, 1, 222]), (11, [4]), (12, [172])] : List (Nat × List UInt8)).all (fun x => prB x.2 ((cX11_hasChoir.data.toList.drop 18).drop x.1)) = true := by decide +kernel
theorem dX11_hasChoir_18 : decode cX11_hasChoir 18 = .ok (.getfield 35, 3) := op180 (bA_at bd03_dec_X11_2_93 0 rfl rfl) rfl
theorem dX11_hasChoir_21 : decode cX11_hasChoir 21 = .ok (.bipush 20, 2) := op16 (bA_at bd03_dec_X11_2_93 1 rfl rfl) (by decide +kernel)
theorem dX11_hasChoir_23 : decode cX11_hasChoir 23 = .ok (.iload_n 1, 1) := op27 (bA_at bd03_dec_X11_2_93 2 rfl rfl)
theorem dX11_hasChoir_24 : decode cX11_hasChoir 24 = .ok (.imul, 1) := op104 (bA_at bd03_dec_X11_2_93 3 rfl rfl)
theorem dX11_hasChoir_25 : decode cX11_hasChoir 25 = .ok (.iaload, 1) := op46 (bA_at bd03_dec_X11_2_93 4 rfl rfl)
theorem dX11_hasChoir_26 : decode cX11_hasChoir 26 = .ok (.putfield 478, 3) := op181 (bA_at bd03_dec_X11_2_93 5 rfl rfl) rfl
theorem dX11_hasChoir_29 : decode cX11_hasChoir 29 = .ok (.iconst 1, 1) := op4 (bA_at bd03_dec_X11_2_93 6 rfl rfl)
theorem dX11_hasChoir_30 : decode cX11_hasChoir 30 = .ok (.ireturn, 1) := op172 (bA_at bd03_dec_X11_2_93 7 rfl rfl)
theorem bd03_dec_X11_2_94 : ([(0, [42]), (1, [180, 0, 35]), (4, [16, 20]), (6, [42]), (7, [180, 1, 219]), (10, [104]), (11, [4]), (12, [96]), (13, [5]), (14, [27]), (15, [104]), (16, [96])] : List (Nat × List UInt8)).all (fun x => prB x.2 ((cX11_voice.data.toList.drop 0).drop x.1)) = true := by decide +kernel
theorem dX11_voice_0 : decode cX11_voice 0 = .ok (.aload_n 0, 1) := op42 (bA_at bd03_dec_X11_2_94 0 rfl rfl)
theorem dX11_voice_1 : decode cX11_voice 1 = .ok (.getfield 35, 3) := op180 (bA_at bd03_dec_X11_2_94 1 rfl rfl) rfl
theorem dX11_voice_4 : decode cX11_voice 4 = .ok (.bipush 20, 2) := op16 (bA_at bd03_dec_X11_2_94 2 rfl rfl) (by decide +kernel)
theorem dX11_voice_6 : decode cX11_voice 6 = .ok (.aload_n 0, 1) := op42 (bA_at bd03_dec_X11_2_94 3 rfl rfl)
theorem dX11_voice_7 : decode cX11_voice 7 = .ok (.getfield 475, 3) := op180 (bA_at bd03_dec_X11_2_94 4 rfl rfl) rfl
theorem dX11_voice_10 : decode cX11_voice 10 = .ok (.imul, 1) := op104 (bA_at bd03_dec_X11_2_94 5 rfl rfl)
theorem dX11_voice_11 : decode cX11_voice 11 = .ok (.iconst 1, 1) := op4 (bA_at bd03_dec_X11_2_94 6 rfl rfl)
theorem dX11_voice_12 : decode cX11_voice 12 = .ok (.iadd, 1) := op96 (bA_at bd03_dec_X11_2_94 7 rfl rfl)
theorem dX11_voice_13 : decode cX11_voice 13 = .ok (.iconst 2, 1) := op5 (bA_at bd03_dec_X11_2_94 8 rfl rfl)
theorem dX11_voice_14 : decode cX11_voice 14 = .ok (.iload_n 1, 1) := op27 (bA_at bd03_dec_X11_2_94 9 rfl rfl)
theorem dX11_voice_15 : decode cX11_voice 15 = .ok (.imul, 1) := op104 (bA_at bd03_dec_X11_2_94 10 rfl rfl)
theorem dX11_voice_16 : decode cX11_voice 16 = .ok (.iadd, 1) := op96 (bA_at bd03_dec_X11_2_94 11 rfl rfl)
theorem bd03_dec_X11_2_95 : ([(0, [28]), (1, [96]), (2, [46]), (3, [172])] : List (Nat × List UInt8)).all (fun x => prB x.2 ((cX11_voice.data.toList.drop 17).drop x.1)) = true := by decide +kernel
theorem dX11_voice_17 : decode cX11_voice 17 = .ok (.iload_n 2, 1) := op28 (bA_at bd03_dec_X11_2_95 0 rfl rfl)
theorem dX11_voice_18 : decode cX11_voice 18 = .ok (.iadd, 1) := op96 (bA_at bd03_dec_X11_2_95 1 rfl rfl)
theorem dX11_voice_19 : decode cX11_voice 19 = .ok (.iaload, 1) := op46 (bA_at bd03_dec_X11_2_95 2 rfl rfl)
theorem dX11_voice_20 : decode cX11_voice 20 = .ok (.ireturn, 1) := op172 (bA_at bd03_dec_X11_2_95 3 rfl rfl)
theorem bd03_dec_X11_2_96 : ([(0, [42]), (1, [27]), (2, [3]), (3, [182, 1, 225]), (6, [42]), (7, [28]), (8, [3]), (9, [182, 1, 225]), (12, [159, 0, 24]), (15, [42]), (16, [28]), (17, [4])] : List (Nat × List UInt8)).all (fun x => prB x.2 ((cX11_follows.data.toList.drop 0).drop x.1)) = true := by decide +kernel
theorem dX11_follows_0 : decode cX11_follows 0 = .ok (.aload_n 0, 1) := op42 (bA_at bd03_dec_X11_2_96 0 rfl rfl)
theorem dX11_follows_1 : decode cX11_follows 1 = .ok (.iload_n 1, 1) := op27 (bA_at bd03_dec_X11_2_96 1 rfl rfl)
theorem dX11_follows_2 : decode cX11_follows 2 = .ok (.iconst 0, 1) := op3 (bA_at bd03_dec_X11_2_96 2 rfl rfl)
theorem dX11_follows_3 : decode cX11_follows 3 = .ok (.invokevirtual 481, 3) := op182 (bA_at bd03_dec_X11_2_96 3 rfl rfl) rfl
theorem dX11_follows_6 : decode cX11_follows 6 = .ok (.aload_n 0, 1) := op42 (bA_at bd03_dec_X11_2_96 4 rfl rfl)
theorem dX11_follows_7 : decode cX11_follows 7 = .ok (.iload_n 2, 1) := op28 (bA_at bd03_dec_X11_2_96 5 rfl rfl)
theorem dX11_follows_8 : decode cX11_follows 8 = .ok (.iconst 0, 1) := op3 (bA_at bd03_dec_X11_2_96 6 rfl rfl)
theorem dX11_follows_9 : decode cX11_follows 9 = .ok (.invokevirtual 481, 3) := op182 (bA_at bd03_dec_X11_2_96 7 rfl rfl) rfl
theorem dX11_follows_12 : decode cX11_follows 12 = .ok (.if_icmp .eq 24, 3) := op159 (bA_at bd03_dec_X11_2_96 8 rfl rfl) (by decide +kernel)
theorem dX11_follows_15 : decode cX11_follows 15 = .ok (.aload_n 0, 1) := op42 (bA_at bd03_dec_X11_2_96 9 rfl rfl)
theorem dX11_follows_16 : decode cX11_follows 16 = .ok (.iload_n 2, 1) := op28 (bA_at bd03_dec_X11_2_96 10 rfl rfl)
theorem dX11_follows_17 : decode cX11_follows 17 = .ok (.iconst 1, 1) := op4 (bA_at bd03_dec_X11_2_96 11 rfl rfl)
theorem bd03_dec_X11_2_97 : ([(0, [182, 1, 225]), (3, [42]), (4, [27]), (5, [4]), (6, [182, 1, 225]), (9, [29]), (10, [96]), (11, [163, 0, 7]), (14, [4]), (15, [167, 0, 4]), (18, [3]), (19, [172])] : List (Nat × List UInt8)).all (fun x => prB x.2 ((cX11_follows.data.toList.drop 18).drop x.1)) = true := by decide +kernel
theorem dX11_follows_18 : decode cX11_follows 18 = .ok (.invokevirtual 481, 3) := op182 (bA_at bd03_dec_X11_2_97 0 rfl rfl) rfl
theorem dX11_follows_21 : decode cX11_follows 21 = .ok (.aload_n 0, 1) := op42 (bA_at bd03_dec_X11_2_97 1 rfl rfl)
theorem dX11_follows_22 : decode cX11_follows 22 = .ok (.iload_n 1, 1) := op27 (bA_at bd03_dec_X11_2_97 2 rfl rfl)
theorem dX11_follows_23 : decode cX11_follows 23 = .ok (.iconst 1, 1) := op4 (bA_at bd03_dec_X11_2_97 3 rfl rfl)
theorem dX11_follows_24 : decode cX11_follows 24 = .ok (.invokevirtual 481, 3) := op182 (bA_at bd03_dec_X11_2_97 4 rfl rfl) rfl
theorem dX11_follows_27 : decode cX11_follows 27 = .ok (.iload_n 3, 1) := op29 (bA_at bd03_dec_X11_2_97 5 rfl rfl)
theorem dX11_follows_28 : decode cX11_follows 28 = .ok (.iadd, 1) := op96 (bA_at bd03_dec_X11_2_97 6 rfl rfl)
theorem dX11_follows_29 : decode cX11_follows 29 = .ok (.if_icmp .gt 7, 3) := op163 (bA_at bd03_dec_X11_2_97 7 rfl rfl) (by decide +kernel)
theorem dX11_follows_32 : decode cX11_follows 32 = .ok (.iconst 1, 1) := op4 (bA_at bd03_dec_X11_2_97 8 rfl rfl)
theorem dX11_follows_33 : decode cX11_follows 33 = .ok (.goto 4, 3) := op167 (bA_at bd03_dec_X11_2_97 9 rfl rfl) (by decide +kernel)
theorem dX11_follows_36 : decode cX11_follows 36 = .ok (.iconst 0, 1) := op3 (bA_at bd03_dec_X11_2_97 10 rfl rfl)
theorem dX11_follows_37 : decode cX11_follows 37 = .ok (.ireturn, 1) := op172 (bA_at bd03_dec_X11_2_97 11 rfl rfl)
theorem bd03_dec_X11_2_98 : ([(0, [4]), (1, [42]), (2, [180, 1, 222]), (5, [120]), (6, [4]), (7, [100]), (8, [61]), (9, [28]), (10, [62]), (11, [29]), (12, [158, 0, 131]), (15, [3])] : List (Nat × List UInt8)).all (fun x => prB x.2 ((cX11_findRest.data.toList.drop 0).drop x.1)) = true := by decide +kernel
theorem dX11_findRest_0 : decode cX11_findRest 0 = .ok (.iconst 1, 1) := op4 (bA_at bd03_dec_X11_2_98 0 rfl rfl)
theorem dX11_findRest_1 : decode cX11_findRest 1 = .ok (.aload_n 0, 1) := op42 (bA_at bd03_dec_X11_2_98 1 rfl rfl)
theorem dX11_findRest_2 : decode cX11_findRest 2 = .ok (.getfield 478, 3) := op180 (bA_at bd03_dec_X11_2_98 2 rfl rfl) rfl
theorem dX11_findRest_5 : decode cX11_findRest 5 = .ok (.ishl, 1) := op120 (bA_at bd03_dec_X11_2_98 3 rfl rfl)
theorem dX11_findRest_6 : decode cX11_findRest 6 = .ok (.iconst 1, 1) := op4 (bA_at bd03_dec_X11_2_98 4 rfl rfl)
theorem dX11_findRest_7 : decode cX11_findRest 7 = .ok (.isub, 1) := op100 (bA_at bd03_dec_X11_2_98 5 rfl rfl)
theorem dX11_findRest_8 : decode cX11_findRest 8 = .ok (.istore_n 2, 1) := op61 (bA_at bd03_dec_X11_2_98 6 rfl rfl)
theorem dX11_findRest_9 : decode cX11_findRest 9 = .ok (.iload_n 2, 1) := op28 (bA_at bd03_dec_X11_2_98 7 rfl rfl)
theorem dX11_findRest_10 : decode cX11_findRest 10 = .ok (.istore_n 3, 1) := op62 (bA_at bd03_dec_X11_2_98 8 rfl rfl)
theorem dX11_findRest_11 : decode cX11_findRest 11 = .ok (.iload_n 3, 1) := op29 (bA_at bd03_dec_X11_2_98 9 rfl rfl)
theorem dX11_findRest_12 : decode cX11_findRest 12 = .ok (.ifCond .le 131, 3) := op158 (bA_at bd03_dec_X11_2_98 10 rfl rfl) (by decide +kernel)
theorem dX11_findRest_15 : decode cX11_findRest 15 = .ok (.iconst 0, 1) := op3 (bA_at bd03_dec_X11_2_98 11 rfl rfl)
theorem bd03_dec_X11_2_99 : ([(0, [54, 4]), (2, [21, 4]), (4, [42]), (5, [180, 1, 222]), (8, [162, 0, 113]), (11, [29]), (12, [28]), (13, [160, 0, 7]), (16, [10]), (17, [167, 0, 4]), (20, [9]), (21, [55, 5])] : List (Nat × List UInt8)).all (fun x => prB x.2 ((cX11_findRest.data.toList.drop 16).drop x.1)) = true := by decide +kernel
theorem dX11_findRest_16 : decode cX11_findRest 16 = .ok (.istore 4, 2) := op54 (bA_at bd03_dec_X11_2_99 0 rfl rfl) rfl
theorem dX11_findRest_18 : decode cX11_findRest 18 = .ok (.iload 4, 2) := op21 (bA_at bd03_dec_X11_2_99 1 rfl rfl) rfl
theorem dX11_findRest_20 : decode cX11_findRest 20 = .ok (.aload_n 0, 1) := op42 (bA_at bd03_dec_X11_2_99 2 rfl rfl)
theorem dX11_findRest_21 : decode cX11_findRest 21 = .ok (.getfield 478, 3) := op180 (bA_at bd03_dec_X11_2_99 3 rfl rfl) rfl
theorem dX11_findRest_24 : decode cX11_findRest 24 = .ok (.if_icmp .ge 113, 3) := op162 (bA_at bd03_dec_X11_2_99 4 rfl rfl) (by decide +kernel)
theorem dX11_findRest_27 : decode cX11_findRest 27 = .ok (.iload_n 3, 1) := op29 (bA_at bd03_dec_X11_2_99 5 rfl rfl)
theorem dX11_findRest_28 : decode cX11_findRest 28 = .ok (.iload_n 2, 1) := op28 (bA_at bd03_dec_X11_2_99 6 rfl rfl)
theorem dX11_findRest_29 : decode cX11_findRest 29 = .ok (.if_icmp .ne 7, 3) := op160 (bA_at bd03_dec_X11_2_99 7 rfl rfl) (by decide +kernel)
theorem dX11_findRest_32 : decode cX11_findRest 32 = .ok (.lconst 1, 1) := op10 (bA_at bd03_dec_X11_2_99 8 rfl rfl)
theorem dX11_findRest_33 : decode cX11_findRest 33 = .ok (.goto 4, 3) := op167 (bA_at bd03_dec_X11_2_99 9 rfl rfl) (by decide +kernel)
theorem dX11_findRest_36 : decode cX11_findRest 36 = .ok (.lconst 0, 1) := op9 (bA_at bd03_dec_X11_2_99 10 rfl rfl)
theorem dX11_findRest_37 : decode cX11_findRest 37 = .ok (.lstore 5, 2) := op55 (bA_at bd03_dec_X11_2_99 11 rfl rfl) rfl
theorem bd03_dec_X11_2_100 : ([(0, [3]), (1, [54, 7]), (3, [21, 7]), (5, [42]), (6, [180, 1, 222]), (9, [162, 0, 56]), (12, [22, 5]), (14, [29]), (15, [21, 7]), (17, [184, 0, 101]), (20, [154, 0, 35]), (23, [42])] : List (Nat × List UInt8)).all (fun x => prB x.2 ((cX11_findRest.data.toList.drop 39).drop x.1)) = true := by decide +kernel
theorem dX11_findRest_39 : decode cX11_findRest 39 = .ok (.iconst 0, 1) := op3 (bA_at bd03_dec_X11_2_100 0 rfl rfl)
theorem dX11_findRest_40 : decode cX11_findRest 40 = .ok (.istore 7, 2) := op54 (bA_at bd03_dec_X11_2_100 1 rfl rfl) rfl
theorem dX11_findRest_42 : decode cX11_findRest 42 = .ok (.iload 7, 2) := op21 (bA_at bd03_dec_X11_2_100 2 rfl rfl) rfl
theorem dX11_findRest_44 : decode cX11_findRest 44 = .ok (.aload_n 0, 1) := op42 (bA_at bd03_dec_X11_2_100 3 rfl rfl)
theorem dX11_findRest_45 : decode cX11_findRest 45 = .ok (.getfield 478, 3) := op180 (bA_at bd03_dec_X11_2_100 4 rfl rfl) rfl
theorem dX11_findRest_48 : decode cX11_findRest 48 = .ok (.if_icmp .ge 56, 3) := op162 (bA_at bd03_dec_X11_2_100 5 rfl rfl) (by decide +kernel)
theorem dX11_findRest_51 : decode cX11_findRest 51 = .ok (.lload 5, 2) := op22 (bA_at bd03_dec_X11_2_100 6 rfl rfl) rfl
theorem dX11_findRest_53 : decode cX11_findRest 53 = .ok (.iload_n 3, 1) := op29 (bA_at bd03_dec_X11_2_100 7 rfl rfl)
theorem dX11_findRest_54 : decode cX11_findRest 54 = .ok (.iload 7, 2) := op21 (bA_at bd03_dec_X11_2_100 8 rfl rfl) rfl
theorem dX11_findRest_56 : decode cX11_findRest 56 = .ok (.invokestatic 101, 3) := op184 (bA_at bd03_dec_X11_2_100 9 rfl rfl) rfl
theorem dX11_findRest_59 : decode cX11_findRest 59 = .ok (.ifCond .ne 35, 3) := op154 (bA_at bd03_dec_X11_2_100 10 rfl rfl) (by decide +kernel)
theorem dX11_findRest_62 : decode cX11_findRest 62 = .ok (.aload_n 0, 1) := op42 (bA_at bd03_dec_X11_2_100 11 rfl rfl)
theorem bd03_dec_X11_2_101 : ([(0, [21, 4]), (2, [21, 7]), (4, [27]), (5, [182, 1, 228]), (8, [153, 0, 23]), (11, [42]), (12, [180, 0, 84]), (15, [16, 9]), (17, [29]), (18, [4]), (19, [21, 7]), (21, [120])] : List (Nat × List UInt8)).all (fun x => prB x.2 ((cX11_findRest.data.toList.drop 63).drop x.1)) = true := by decide +kernel
theorem dX11_findRest_63 : decode cX11_findRest 63 = .ok (.iload 4, 2) := op21 (bA_at bd03_dec_X11_2_101 0 rfl rfl) rfl
theorem dX11_findRest_65 : decode cX11_findRest 65 = .ok (.iload 7, 2) := op21 (bA_at bd03_dec_X11_2_101 1 rfl rfl) rfl
theorem dX11_findRest_67 : decode cX11_findRest 67 = .ok (.iload_n 1, 1) := op27 (bA_at bd03_dec_X11_2_101 2 rfl rfl)
theorem dX11_findRest_68 : decode cX11_findRest 68 = .ok (.invokevirtual 484, 3) := op182 (bA_at bd03_dec_X11_2_101 3 rfl rfl) rfl
theorem dX11_findRest_71 : decode cX11_findRest 71 = .ok (.ifCond .eq 23, 3) := op153 (bA_at bd03_dec_X11_2_101 4 rfl rfl) (by decide +kernel)
theorem dX11_findRest_74 : decode cX11_findRest 74 = .ok (.aload_n 0, 1) := op42 (bA_at bd03_dec_X11_2_101 5 rfl rfl)
theorem dX11_findRest_75 : decode cX11_findRest 75 = .ok (.getfield 84, 3) := op180 (bA_at bd03_dec_X11_2_101 6 rfl rfl) rfl
theorem dX11_findRest_78 : decode cX11_findRest 78 = .ok (.bipush 9, 2) := op16 (bA_at bd03_dec_X11_2_101 7 rfl rfl) (by decide +kernel)
theorem dX11_findRest_80 : decode cX11_findRest 80 = .ok (.iload_n 3, 1) := op29 (bA_at bd03_dec_X11_2_101 8 rfl rfl)
theorem dX11_findRest_81 : decode cX11_findRest 81 = .ok (.iconst 1, 1) := op4 (bA_at bd03_dec_X11_2_101 9 rfl rfl)
theorem dX11_findRest_82 : decode cX11_findRest 82 = .ok (.iload 7, 2) := op21 (bA_at bd03_dec_X11_2_101 10 rfl rfl) rfl
theorem dX11_findRest_84 : decode cX11_findRest 84 = .ok (.ishl, 1) := op120 (bA_at bd03_dec_X11_2_101 11 rfl rfl)
theorem bd03_dec_X11_2_102 : ([(0, [128]), (1, [104]), (2, [21, 7]), (4, [96]), (5, [47]), (6, [167, 0, 4]), (9, [9]), (10, [97]), (11, [55, 5]), (13, [132, 7, 1]), (16, [167, 255, 197]), (19, [42])] : List (Nat × List UInt8)).all (fun x => prB x.2 ((cX11_findRest.data.toList.drop 85).drop x.1)) = true := by decide +kernel
theorem dX11_findRest_85 : decode cX11_findRest 85 = .ok (.ior, 1) := op128 (bA_at bd03_dec_X11_2_102 0 rfl rfl)
theorem dX11_findRest_86 : decode cX11_findRest 86 = .ok (.imul, 1) := op104 (bA_at bd03_dec_X11_2_102 1 rfl rfl)
theorem dX11_findRest_87 : decode cX11_findRest 87 = .ok (.iload 7, 2) := op21 (bA_at bd03_dec_X11_2_102 2 rfl rfl) rfl
theorem dX11_findRest_89 : decode cX11_findRest 89 = .ok (.iadd, 1) := op96 (bA_at bd03_dec_X11_2_102 3 rfl rfl)
theorem dX11_findRest_90 : decode cX11_findRest 90 = .ok (.laload, 1) := op47 (bA_at bd03_dec_X11_2_102 4 rfl rfl)
theorem dX11_findRest_91 : decode cX11_findRest 91 = .ok (.goto 4, 3) := op167 (bA_at bd03_dec_X11_2_102 5 rfl rfl) (by decide +kernel)
theorem dX11_findRest_94 : decode cX11_findRest 94 = .ok (.lconst 0, 1) := op9 (bA_at bd03_dec_X11_2_102 6 rfl rfl)
theorem dX11_findRest_95 : decode cX11_findRest 95 = .ok (.ladd, 1) := op97 (bA_at bd03_dec_X11_2_102 7 rfl rfl)
theorem dX11_findRest_96 : decode cX11_findRest 96 = .ok (.lstore 5, 2) := op55 (bA_at bd03_dec_X11_2_102 8 rfl rfl) rfl
theorem dX11_findRest_98 : decode cX11_findRest 98 = .ok (.iinc 7 1, 3) := op132 (bA_at bd03_dec_X11_2_102 9 rfl rfl) rfl (by decide +kernel)
theorem dX11_findRest_101 : decode cX11_findRest 101 = .ok (.goto (-59), 3) := op167 (bA_at bd03_dec_X11_2_102 10 rfl rfl) (by decide +kernel)
theorem dX11_findRest_104 : decode cX11_findRest 104 = .ok (.aload_n 0, 1) := op42 (bA_at bd03_dec_X11_2_102 11 rfl rfl)
theorem bd03_dec_X11_2_103 : ([(0, [180, 0, 84]), (3, [16, 9]), (5, [29]), (6, [104]), (7, [21, 4]), (9, [96]), (10, [29]), (11, [21, 4]), (13, [184, 0, 101]), (16, [153, 0, 8]), (19, [22, 5]), (21, [167, 0, 4])] : List (Nat × List UInt8)).all (fun x => prB x.2 ((cX11_findRest.data.toList.drop 105).drop x.1)) = true := by decide +kernel
theorem dX11_findRest_105 : decode cX11_findRest 105 = .ok (.getfield 84, 3) := op180 (bA_at bd03_dec_X11_2_103 0 rfl rfl) rfl
theorem dX11_findRest_108 : decode cX11_findRest 108 = .ok (.bipush 9, 2) := op16 (bA_at bd03_dec_X11_2_103 1 rfl rfl) (by decide +kernel)
theorem dX11_findRest_110 : decode cX11_findRest 110 = .ok (.iload_n 3, 1) := op29 (bA_at bd03_dec_X11_2_103 2 rfl rfl)
theorem dX11_findRest_111 : decode cX11_findRest 111 = .ok (.imul, 1) := op104 (bA_at bd03_dec_X11_2_103 3 rfl rfl)
theorem dX11_findRest_112 : decode cX11_findRest 112 = .ok (.iload 4, 2) := op21 (bA_at bd03_dec_X11_2_103 4 rfl rfl) rfl
theorem dX11_findRest_114 : decode cX11_findRest 114 = .ok (.iadd, 1) := op96 (bA_at bd03_dec_X11_2_103 5 rfl rfl)
theorem dX11_findRest_115 : decode cX11_findRest 115 = .ok (.iload_n 3, 1) := op29 (bA_at bd03_dec_X11_2_103 6 rfl rfl)
theorem dX11_findRest_116 : decode cX11_findRest 116 = .ok (.iload 4, 2) := op21 (bA_at bd03_dec_X11_2_103 7 rfl rfl) rfl
theorem dX11_findRest_118 : decode cX11_findRest 118 = .ok (.invokestatic 101, 3) := op184 (bA_at bd03_dec_X11_2_103 8 rfl rfl) rfl
theorem dX11_findRest_121 : decode cX11_findRest 121 = .ok (.ifCond .eq 8, 3) := op153 (bA_at bd03_dec_X11_2_103 9 rfl rfl) (by decide +kernel)
theorem dX11_findRest_124 : decode cX11_findRest 124 = .ok (.lload 5, 2) := op22 (bA_at bd03_dec_X11_2_103 10 rfl rfl) rfl
theorem dX11_findRest_126 : decode cX11_findRest 126 = .ok (.goto 4, 3) := op167 (bA_at bd03_dec_X11_2_103 11 rfl rfl) (by decide +kernel)
theorem bd03_dec_X11_2_104 : ([(0, [9]), (1, [80]), (2, [132, 4, 1]), (5, [167, 255, 140]), (8, [132, 3, 255]), (11, [167, 255, 127]), (14, [42]), (15, [180, 1, 222]), (18, [154, 0, 7]), (21, [10]), (22, [167, 0, 4]), (25, [9])] : List (Nat × List UInt8)).all (fun x => prB x.2 ((cX11_findRest.data.toList.drop 129).drop x.1)) = true := by decide +kernel
theorem dX11_findRest_129 : decode cX11_findRest 129 = .ok (.lconst 0, 1) := op9 (bA_at bd03_dec_X11_2_104 0 rfl rfl)
theorem dX11_findRest_130 : decode cX11_findRest 130 = .ok (.lastore, 1) := op80 (bA_at bd03_dec_X11_2_104 1 rfl rfl)
theorem dX11_findRest_131 : decode cX11_findRest 131 = .ok (.iinc 4 1, 3) := op132 (bA_at bd03_dec_X11_2_104 2 rfl rfl) rfl (by decide +kernel)
theorem dX11_findRest_134 : decode cX11_findRest 134 = .ok (.goto (-116), 3) := op167 (bA_at bd03_dec_X11_2_104 3 rfl rfl) (by decide +kernel)
theorem dX11_findRest_137 : decode cX11_findRest 137 = .ok (.iinc 3 (-1), 3) := op132 (bA_at bd03_dec_X11_2_104 4 rfl rfl) rfl (by decide +kernel)
theorem dX11_findRest_140 : decode cX11_findRest 140 = .ok (.goto (-129), 3) := op167 (bA_at bd03_dec_X11_2_104 5 rfl rfl) (by decide +kernel)
theorem dX11_findRest_143 : decode cX11_findRest 143 = .ok (.aload_n 0, 1) := op42 (bA_at bd03_dec_X11_2_104 6 rfl rfl)
theorem dX11_findRest_144 : decode cX11_findRest 144 = .ok (.getfield 478, 3) := op180 (bA_at bd03_dec_X11_2_104 7 rfl rfl) rfl
theorem dX11_findRest_147 : decode cX11_findRest 147 = .ok (.ifCond .ne 7, 3) := op154 (bA_at bd03_dec_X11_2_104 8 rfl rfl) (by decide +kernel)
theorem dX11_findRest_150 : decode cX11_findRest 150 = .ok (.lconst 1, 1) := op10 (bA_at bd03_dec_X11_2_104 9 rfl rfl)
theorem dX11_findRest_151 : decode cX11_findRest 151 = .ok (.goto 4, 3) := op167 (bA_at bd03_dec_X11_2_104 10 rfl rfl) (by decide +kernel)
theorem dX11_findRest_154 : decode cX11_findRest 154 = .ok (.lconst 0, 1) := op9 (bA_at bd03_dec_X11_2_104 11 rfl rfl)
theorem bd03_dec_X11_2_105 : ([(0, [66]), (1, [3]), (2, [54, 5]), (4, [21, 5]), (6, [42]), (7, [180, 1, 222]), (10, [162, 0, 27]), (13, [33]), (14, [42]), (15, [180, 0, 84]), (18, [16, 9]), (20, [4])] : List (Nat × List UInt8)).all (fun x => prB x.2 ((cX11_findRest.data.toList.drop 155).drop x.1)) = true := by decide +kernel
theorem dX11_findRest_155 : decode cX11_findRest 155 = .ok (.lstore_n 3, 1) := op66 (bA_at bd03_dec_X11_2_105 0 rfl rfl)
theorem dX11_findRest_156 : decode cX11_findRest 156 = .ok (.iconst 0, 1) := op3 (bA_at bd03_dec_X11_2_105 1 rfl rfl)
theorem dX11_findRest_157 : decode cX11_findRest 157 = .ok (.istore 5, 2) := op54 (bA_at bd03_dec_X11_2_105 2 rfl rfl) rfl
theorem dX11_findRest_159 : decode cX11_findRest 159 = .ok (.iload 5, 2) := op21 (bA_at bd03_dec_X11_2_105 3 rfl rfl) rfl
theorem dX11_findRest_161 : decode cX11_findRest 161 = .ok (.aload_n 0, 1) := op42 (bA_at bd03_dec_X11_2_105 4 rfl rfl)
theorem dX11_findRest_162 : decode cX11_findRest 162 = .ok (.getfield 478, 3) := op180 (bA_at bd03_dec_X11_2_105 5 rfl rfl) rfl
theorem dX11_findRest_165 : decode cX11_findRest 165 = .ok (.if_icmp .ge 27, 3) := op162 (bA_at bd03_dec_X11_2_105 6 rfl rfl) (by decide +kernel)
theorem dX11_findRest_168 : decode cX11_findRest 168 = .ok (.lload_n 3, 1) := op33 (bA_at bd03_dec_X11_2_105 7 rfl rfl)
theorem dX11_findRest_169 : decode cX11_findRest 169 = .ok (.aload_n 0, 1) := op42 (bA_at bd03_dec_X11_2_105 8 rfl rfl)
theorem dX11_findRest_170 : decode cX11_findRest 170 = .ok (.getfield 84, 3) := op180 (bA_at bd03_dec_X11_2_105 9 rfl rfl) rfl
theorem dX11_findRest_173 : decode cX11_findRest 173 = .ok (.bipush 9, 2) := op16 (bA_at bd03_dec_X11_2_105 10 rfl rfl) (by decide +kernel)
theorem dX11_findRest_175 : decode cX11_findRest 175 = .ok (.iconst 1, 1) := op4 (bA_at bd03_dec_X11_2_105 11 rfl rfl)
theorem bd03_dec_X11_2_106 : ([(0, [21, 5]), (2, [120]), (3, [104]), (4, [21, 5]), (6, [96]), (7, [47]), (8, [97]), (9, [66]), (10, [132, 5, 1]), (13, [167, 255, 226]), (16, [33]), (17, [173])] : List (Nat × List UInt8)).all (fun x => prB x.2 ((cX11_findRest.data.toList.drop 176).drop x.1)) = true := by decide +kernel
theorem dX11_findRest_176 : decode cX11_findRest 176 = .ok (.iload 5, 2) := op21 (bA_at bd03_dec_X11_2_106 0 rfl rfl) rfl
theorem dX11_findRest_178 : decode cX11_findRest 178 = .ok (.ishl, 1) := op120 (bA_at bd03_dec_X11_2_106 1 rfl rfl)
theorem dX11_findRest_179 : decode cX11_findRest 179 = .ok (.imul, 1) := op104 (bA_at bd03_dec_X11_2_106 2 rfl rfl)
theorem dX11_findRest_180 : decode cX11_findRest 180 = .ok (.iload 5, 2) := op21 (bA_at bd03_dec_X11_2_106 3 rfl rfl) rfl
theorem dX11_findRest_182 : decode cX11_findRest 182 = .ok (.iadd, 1) := op96 (bA_at bd03_dec_X11_2_106 4 rfl rfl)
theorem dX11_findRest_183 : decode cX11_findRest 183 = .ok (.laload, 1) := op47 (bA_at bd03_dec_X11_2_106 5 rfl rfl)
theorem dX11_findRest_184 : decode cX11_findRest 184 = .ok (.ladd, 1) := op97 (bA_at bd03_dec_X11_2_106 6 rfl rfl)
theorem dX11_findRest_185 : decode cX11_findRest 185 = .ok (.lstore_n 3, 1) := op66 (bA_at bd03_dec_X11_2_106 7 rfl rfl)
theorem dX11_findRest_186 : decode cX11_findRest 186 = .ok (.iinc 5 1, 3) := op132 (bA_at bd03_dec_X11_2_106 8 rfl rfl) rfl (by decide +kernel)
theorem dX11_findRest_189 : decode cX11_findRest 189 = .ok (.goto (-30), 3) := op167 (bA_at bd03_dec_X11_2_106 9 rfl rfl) (by decide +kernel)
theorem dX11_findRest_192 : decode cX11_findRest 192 = .ok (.lload_n 3, 1) := op33 (bA_at bd03_dec_X11_2_106 10 rfl rfl)
theorem dX11_findRest_193 : decode cX11_findRest 193 = .ok (.lreturn, 1) := op173 (bA_at bd03_dec_X11_2_106 11 rfl rfl)
theorem bd03_dec_X11_2_107 : ([(0, [42]), (1, [180, 0, 35]), (4, [16, 20]), (6, [42]), (7, [180, 1, 219]), (10, [104]), (11, [16, 19]), (13, [96]), (14, [46]), (15, [172])] : List (Nat × List UInt8)).all (fun x => prB x.2 ((cX11_stepOf.data.toList.drop 0).drop x.1)) = true := by decide +kernel
theorem dX11_stepOf_0 : decode cX11_stepOf 0 = .ok (.aload_n 0, 1) := op42 (bA_at bd03_dec_X11_2_107 0 rfl rfl)
theorem dX11_stepOf_1 : decode cX11_stepOf 1 = .ok (.getfield 35, 3) := op180 (bA_at bd03_dec_X11_2_107 1 rfl rfl) rfl
theorem dX11_stepOf_4 : decode cX11_stepOf 4 = .ok (.bipush 20, 2) := op16 (bA_at bd03_dec_X11_2_107 2 rfl rfl) (by decide +kernel)
theorem dX11_stepOf_6 : decode cX11_stepOf 6 = .ok (.aload_n 0, 1) := op42 (bA_at bd03_dec_X11_2_107 3 rfl rfl)
theorem dX11_stepOf_7 : decode cX11_stepOf 7 = .ok (.getfield 475, 3) := op180 (bA_at bd03_dec_X11_2_107 4 rfl rfl) rfl
theorem dX11_stepOf_10 : decode cX11_stepOf 10 = .ok (.imul, 1) := op104 (bA_at bd03_dec_X11_2_107 5 rfl rfl)
theorem dX11_stepOf_11 : decode cX11_stepOf 11 = .ok (.bipush 19, 2) := op16 (bA_at bd03_dec_X11_2_107 6 rfl rfl) (by decide +kernel)
theorem dX11_stepOf_13 : decode cX11_stepOf 13 = .ok (.iadd, 1) := op96 (bA_at bd03_dec_X11_2_107 7 rfl rfl)
theorem dX11_stepOf_14 : decode cX11_stepOf 14 = .ok (.iaload, 1) := op46 (bA_at bd03_dec_X11_2_107 8 rfl rfl)
theorem dX11_stepOf_15 : decode cX11_stepOf 15 = .ok (.ireturn, 1) := op172 (bA_at bd03_dec_X11_2_107 9 rfl rfl)
theorem bd03_dec_X11_2_108 : ([(0, [3]), (1, [60]), (2, [27]), (3, [16, 9]), (5, [163, 0, 21]), (8, [42]), (9, [27]), (10, [182, 1, 231]), (13, [9]), (14, [148]), (15, [158, 0, 5]), (18, [27])] : List (Nat × List UInt8)).all (fun x => prB x.2 ((cX11_leastStep.data.toList.drop 0).drop x.1)) = true := by decide +kernel
theorem dX11_leastStep_0 : decode cX11_leastStep 0 = .ok (.iconst 0, 1) := op3 (bA_at bd03_dec_X11_2_108 0 rfl rfl)
theorem dX11_leastStep_1 : decode cX11_leastStep 1 = .ok (.istore_n 1, 1) := op60 (bA_at bd03_dec_X11_2_108 1 rfl rfl)
theorem dX11_leastStep_2 : decode cX11_leastStep 2 = .ok (.iload_n 1, 1) := op27 (bA_at bd03_dec_X11_2_108 2 rfl rfl)
theorem dX11_leastStep_3 : decode cX11_leastStep 3 = .ok (.bipush 9, 2) := op16 (bA_at bd03_dec_X11_2_108 3 rfl rfl) (by decide +kernel)
theorem dX11_leastStep_5 : decode cX11_leastStep 5 = .ok (.if_icmp .gt 21, 3) := op163 (bA_at bd03_dec_X11_2_108 4 rfl rfl) (by decide +kernel)
theorem dX11_leastStep_8 : decode cX11_leastStep 8 = .ok (.aload_n 0, 1) := op42 (bA_at bd03_dec_X11_2_108 5 rfl rfl)
theorem dX11_leastStep_9 : decode cX11_leastStep 9 = .ok (.iload_n 1, 1) := op27 (bA_at bd03_dec_X11_2_108 6 rfl rfl)
theorem dX11_leastStep_10 : decode cX11_leastStep 10 = .ok (.invokevirtual 487, 3) := op182 (bA_at bd03_dec_X11_2_108 7 rfl rfl) rfl
theorem dX11_leastStep_13 : decode cX11_leastStep 13 = .ok (.lconst 0, 1) := op9 (bA_at bd03_dec_X11_2_108 8 rfl rfl)
theorem dX11_leastStep_14 : decode cX11_leastStep 14 = .ok (.lcmp, 1) := op148 (bA_at bd03_dec_X11_2_108 9 rfl rfl)
theorem dX11_leastStep_15 : decode cX11_leastStep 15 = .ok (.ifCond .le 5, 3) := op158 (bA_at bd03_dec_X11_2_108 10 rfl rfl) (by decide +kernel)
theorem dX11_leastStep_18 : decode cX11_leastStep 18 = .ok (.iload_n 1, 1) := op27 (bA_at bd03_dec_X11_2_108 11 rfl rfl)
theorem bd03_dec_X11_2_109 : ([(0, [172]), (1, [132, 1, 1]), (4, [167, 255, 235]), (7, [2]), (8, [172])] : List (Nat × List UInt8)).all (fun x => prB x.2 ((cX11_leastStep.data.toList.drop 19).drop x.1)) = true := by decide +kernel
theorem dX11_leastStep_19 : decode cX11_leastStep 19 = .ok (.ireturn, 1) := op172 (bA_at bd03_dec_X11_2_109 0 rfl rfl)
theorem dX11_leastStep_20 : decode cX11_leastStep 20 = .ok (.iinc 1 1, 3) := op132 (bA_at bd03_dec_X11_2_109 1 rfl rfl) rfl (by decide +kernel)
theorem dX11_leastStep_23 : decode cX11_leastStep 23 = .ok (.goto (-21), 3) := op167 (bA_at bd03_dec_X11_2_109 2 rfl rfl) (by decide +kernel)
theorem dX11_leastStep_26 : decode cX11_leastStep 26 = .ok (.iconst (-1), 1) := op2 (bA_at bd03_dec_X11_2_109 3 rfl rfl)
theorem dX11_leastStep_27 : decode cX11_leastStep 27 = .ok (.ireturn, 1) := op172 (bA_at bd03_dec_X11_2_109 4 rfl rfl)
theorem bd03_dec_X11_2_110 : ([(0, [3]), (1, [60]), (2, [3]), (3, [61]), (4, [3]), (5, [62]), (6, [29]), (7, [42]), (8, [180, 1, 222]), (11, [162, 0, 41]), (14, [28]), (15, [27])] : List (Nat × List UInt8)).all (fun x => prB x.2 ((cX11_fall.data.toList.drop 0).drop x.1)) = true := by decide +kernel
theorem dX11_fall_0 : decode cX11_fall 0 = .ok (.iconst 0, 1) := op3 (bA_at bd03_dec_X11_2_110 0 rfl rfl)
theorem dX11_fall_1 : decode cX11_fall 1 = .ok (.istore_n 1, 1) := op60 (bA_at bd03_dec_X11_2_110 1 rfl rfl)
theorem dX11_fall_2 : decode cX11_fall 2 = .ok (.iconst 0, 1) := op3 (bA_at bd03_dec_X11_2_110 2 rfl rfl)
theorem dX11_fall_3 : decode cX11_fall 3 = .ok (.istore_n 2, 1) := op61 (bA_at bd03_dec_X11_2_110 3 rfl rfl)
theorem dX11_fall_4 : decode cX11_fall 4 = .ok (.iconst 0, 1) := op3 (bA_at bd03_dec_X11_2_110 4 rfl rfl)
theorem dX11_fall_5 : decode cX11_fall 5 = .ok (.istore_n 3, 1) := op62 (bA_at bd03_dec_X11_2_110 5 rfl rfl)
theorem dX11_fall_6 : decode cX11_fall 6 = .ok (.iload_n 3, 1) := op29 (bA_at bd03_dec_X11_2_110 6 rfl rfl)
theorem dX11_fall_7 : decode cX11_fall 7 = .ok (.aload_n 0, 1) := op42 (bA_at bd03_dec_X11_2_110 7 rfl rfl)
theorem dX11_fall_8 : decode cX11_fall 8 = .ok (.getfield 478, 3) := op180 (bA_at bd03_dec_X11_2_110 8 rfl rfl) rfl
theorem dX11_fall_11 : decode cX11_fall 11 = .ok (.if_icmp .ge 41, 3) := op162 (bA_at bd03_dec_X11_2_110 9 rfl rfl) (by decide +kernel)
theorem dX11_fall_14 : decode cX11_fall 14 = .ok (.iload_n 2, 1) := op28 (bA_at bd03_dec_X11_2_110 10 rfl rfl)
theorem dX11_fall_15 : decode cX11_fall 15 = .ok (.iload_n 1, 1) := op27 (bA_at bd03_dec_X11_2_110 11 rfl rfl)
theorem bd03_dec_X11_2_111 : ([(0, [42]), (1, [29]), (2, [4]), (3, [182, 1, 225]), (6, [184, 0, 101]), (9, [153, 0, 7]), (12, [3]), (13, [167, 0, 4]), (16, [4]), (17, [96]), (18, [61]), (19, [27])] : List (Nat × List UInt8)).all (fun x => prB x.2 ((cX11_fall.data.toList.drop 16).drop x.1)) = true := by decide +kernel
theorem dX11_fall_16 : decode cX11_fall 16 = .ok (.aload_n 0, 1) := op42 (bA_at bd03_dec_X11_2_111 0 rfl rfl)
theorem dX11_fall_17 : decode cX11_fall 17 = .ok (.iload_n 3, 1) := op29 (bA_at bd03_dec_X11_2_111 1 rfl rfl)
theorem dX11_fall_18 : decode cX11_fall 18 = .ok (.iconst 1, 1) := op4 (bA_at bd03_dec_X11_2_111 2 rfl rfl)
theorem dX11_fall_19 : decode cX11_fall 19 = .ok (.invokevirtual 481, 3) := op182 (bA_at bd03_dec_X11_2_111 3 rfl rfl) rfl
theorem dX11_fall_22 : decode cX11_fall 22 = .ok (.invokestatic 101, 3) := op184 (bA_at bd03_dec_X11_2_111 4 rfl rfl) rfl
theorem dX11_fall_25 : decode cX11_fall 25 = .ok (.ifCond .eq 7, 3) := op153 (bA_at bd03_dec_X11_2_111 5 rfl rfl) (by decide +kernel)
theorem dX11_fall_28 : decode cX11_fall 28 = .ok (.iconst 0, 1) := op3 (bA_at bd03_dec_X11_2_111 6 rfl rfl)
theorem dX11_fall_29 : decode cX11_fall 29 = .ok (.goto 4, 3) := op167 (bA_at bd03_dec_X11_2_111 7 rfl rfl) (by decide +kernel)
theorem dX11_fall_32 : decode cX11_fall 32 = .ok (.iconst 1, 1) := op4 (bA_at bd03_dec_X11_2_111 8 rfl rfl)
theorem dX11_fall_33 : decode cX11_fall 33 = .ok (.iadd, 1) := op96 (bA_at bd03_dec_X11_2_111 9 rfl rfl)
theorem dX11_fall_34 : decode cX11_fall 34 = .ok (.istore_n 2, 1) := op61 (bA_at bd03_dec_X11_2_111 10 rfl rfl)
theorem dX11_fall_35 : decode cX11_fall 35 = .ok (.iload_n 1, 1) := op27 (bA_at bd03_dec_X11_2_111 11 rfl rfl)
theorem bd03_dec_X11_2_112 : ([(0, [4]), (1, [42]), (2, [29]), (3, [4]), (4, [182, 1, 225]), (7, [120]), (8, [128]), (9, [60]), (10, [132, 3, 1]), (13, [167, 255, 213]), (16, [28]), (17, [172])] : List (Nat × List UInt8)).all (fun x => prB x.2 ((cX11_fall.data.toList.drop 36).drop x.1)) = true := by decide +kernel
theorem dX11_fall_36 : decode cX11_fall 36 = .ok (.iconst 1, 1) := op4 (bA_at bd03_dec_X11_2_112 0 rfl rfl)
theorem dX11_fall_37 : decode cX11_fall 37 = .ok (.aload_n 0, 1) := op42 (bA_at bd03_dec_X11_2_112 1 rfl rfl)
theorem dX11_fall_38 : decode cX11_fall 38 = .ok (.iload_n 3, 1) := op29 (bA_at bd03_dec_X11_2_112 2 rfl rfl)
theorem dX11_fall_39 : decode cX11_fall 39 = .ok (.iconst 1, 1) := op4 (bA_at bd03_dec_X11_2_112 3 rfl rfl)
theorem dX11_fall_40 : decode cX11_fall 40 = .ok (.invokevirtual 481, 3) := op182 (bA_at bd03_dec_X11_2_112 4 rfl rfl) rfl
theorem dX11_fall_43 : decode cX11_fall 43 = .ok (.ishl, 1) := op120 (bA_at bd03_dec_X11_2_112 5 rfl rfl)
theorem dX11_fall_44 : decode cX11_fall 44 = .ok (.ior, 1) := op128 (bA_at bd03_dec_X11_2_112 6 rfl rfl)
theorem dX11_fall_45 : decode cX11_fall 45 = .ok (.istore_n 1, 1) := op60 (bA_at bd03_dec_X11_2_112 7 rfl rfl)
theorem dX11_fall_46 : decode cX11_fall 46 = .ok (.iinc 3 1, 3) := op132 (bA_at bd03_dec_X11_2_112 8 rfl rfl) rfl (by decide +kernel)
theorem dX11_fall_49 : decode cX11_fall 49 = .ok (.goto (-43), 3) := op167 (bA_at bd03_dec_X11_2_112 9 rfl rfl) (by decide +kernel)
theorem dX11_fall_52 : decode cX11_fall 52 = .ok (.iload_n 2, 1) := op28 (bA_at bd03_dec_X11_2_112 10 rfl rfl)
theorem dX11_fall_53 : decode cX11_fall 53 = .ok (.ireturn, 1) := op172 (bA_at bd03_dec_X11_2_112 11 rfl rfl)
theorem bd03_dec_X11_2_113 : ([(0, [42]), (1, [3]), (2, [181, 0, 97]), (5, [42]), (6, [27]), (7, [182, 1, 235]), (10, [154, 0, 5]), (13, [2]), (14, [172]), (15, [28]), (16, [16, 10]), (18, [16, 9])] : List (Nat × List UInt8)).all (fun x => prB x.2 ((cX11_choir.data.toList.drop 0).drop x.1)) = true := by decide +kernel
theorem dX11_choir_0 : decode cX11_choir 0 = .ok (.aload_n 0, 1) := op42 (bA_at bd03_dec_X11_2_113 0 rfl rfl)
theorem dX11_choir_1 : decode cX11_choir 1 = .ok (.iconst 0, 1) := op3 (bA_at bd03_dec_X11_2_113 1 rfl rfl)
theorem dX11_choir_2 : decode cX11_choir 2 = .ok (.putfield 97, 3) := op181 (bA_at bd03_dec_X11_2_113 2 rfl rfl) rfl
theorem dX11_choir_5 : decode cX11_choir 5 = .ok (.aload_n 0, 1) := op42 (bA_at bd03_dec_X11_2_113 3 rfl rfl)
theorem dX11_choir_6 : decode cX11_choir 6 = .ok (.iload_n 1, 1) := op27 (bA_at bd03_dec_X11_2_113 4 rfl rfl)
theorem dX11_choir_7 : decode cX11_choir 7 = .ok (.invokevirtual 491, 3) := op182 (bA_at bd03_dec_X11_2_113 5 rfl rfl) rfl
theorem dX11_choir_10 : decode cX11_choir 10 = .ok (.ifCond .ne 5, 3) := op154 (bA_at bd03_dec_X11_2_113 6 rfl rfl) (by decide +kernel)
theorem dX11_choir_13 : decode cX11_choir 13 = .ok (.iconst (-1), 1) := op2 (bA_at bd03_dec_X11_2_113 7 rfl rfl)
theorem dX11_choir_14 : decode cX11_choir 14 = .ok (.ireturn, 1) := op172 (bA_at bd03_dec_X11_2_113 8 rfl rfl)
theorem dX11_choir_15 : decode cX11_choir 15 = .ok (.iload_n 2, 1) := op28 (bA_at bd03_dec_X11_2_113 9 rfl rfl)
theorem dX11_choir_16 : decode cX11_choir 16 = .ok (.bipush 10, 2) := op16 (bA_at bd03_dec_X11_2_113 10 rfl rfl) (by decide +kernel)
theorem dX11_choir_18 : decode cX11_choir 18 = .ok (.bipush 9, 2) := op16 (bA_at bd03_dec_X11_2_113 11 rfl rfl) (by decide +kernel)
theorem bd03_dec_X11_2_114 : ([(0, [42]), (1, [180, 1, 222]), (4, [96]), (5, [184, 0, 109]), (8, [153, 0, 13]), (11, [42]), (12, [28]), (13, [16, 10]), (15, [100]), (16, [3]), (17, [182, 1, 225]), (20, [172])] : List (Nat × List UInt8)).all (fun x => prB x.2 ((cX11_choir.data.toList.drop 20).drop x.1)) = true := by decide +kernel
theorem dX11_choir_20 : decode cX11_choir 20 = .ok (.aload_n 0, 1) := op42 (bA_at bd03_dec_X11_2_114 0 rfl rfl)
theorem dX11_choir_21 : decode cX11_choir 21 = .ok (.getfield 478, 3) := op180 (bA_at bd03_dec_X11_2_114 1 rfl rfl) rfl
theorem dX11_choir_24 : decode cX11_choir 24 = .ok (.iadd, 1) := op96 (bA_at bd03_dec_X11_2_114 2 rfl rfl)
theorem dX11_choir_25 : decode cX11_choir 25 = .ok (.invokestatic 109, 3) := op184 (bA_at bd03_dec_X11_2_114 3 rfl rfl) rfl
theorem dX11_choir_28 : decode cX11_choir 28 = .ok (.ifCond .eq 13, 3) := op153 (bA_at bd03_dec_X11_2_114 4 rfl rfl) (by decide +kernel)
theorem dX11_choir_31 : decode cX11_choir 31 = .ok (.aload_n 0, 1) := op42 (bA_at bd03_dec_X11_2_114 5 rfl rfl)
theorem dX11_choir_32 : decode cX11_choir 32 = .ok (.iload_n 2, 1) := op28 (bA_at bd03_dec_X11_2_114 6 rfl rfl)
theorem dX11_choir_33 : decode cX11_choir 33 = .ok (.bipush 10, 2) := op16 (bA_at bd03_dec_X11_2_114 7 rfl rfl) (by decide +kernel)
theorem dX11_choir_35 : decode cX11_choir 35 = .ok (.isub, 1) := op100 (bA_at bd03_dec_X11_2_114 8 rfl rfl)
theorem dX11_choir_36 : decode cX11_choir 36 = .ok (.iconst 0, 1) := op3 (bA_at bd03_dec_X11_2_114 9 rfl rfl)
theorem dX11_choir_37 : decode cX11_choir 37 = .ok (.invokevirtual 481, 3) := op182 (bA_at bd03_dec_X11_2_114 10 rfl rfl) rfl
theorem dX11_choir_40 : decode cX11_choir 40 = .ok (.ireturn, 1) := op172 (bA_at bd03_dec_X11_2_114 11 rfl rfl)
theorem bd03_dec_X11_2_115 : ([(0, [28]), (1, [16, 20]), (3, [16, 19]), (5, [42]), (6, [180, 1, 222]), (9, [96]), (10, [184, 0, 109]), (13, [153, 0, 13]), (16, [42]), (17, [28]), (18, [16, 20]), (20, [100])] : List (Nat × List UInt8)).all (fun x => prB x.2 ((cX11_choir.data.toList.drop 41).drop x.1)) = true := by decide +kernel
theorem dX11_choir_41 : decode cX11_choir 41 = .ok (.iload_n 2, 1) := op28 (bA_at bd03_dec_X11_2_115 0 rfl rfl)
theorem dX11_choir_42 : decode cX11_choir 42 = .ok (.bipush 20, 2) := op16 (bA_at bd03_dec_X11_2_115 1 rfl rfl) (by decide +kernel)
theorem dX11_choir_44 : decode cX11_choir 44 = .ok (.bipush 19, 2) := op16 (bA_at bd03_dec_X11_2_115 2 rfl rfl) (by decide +kernel)
theorem dX11_choir_46 : decode cX11_choir 46 = .ok (.aload_n 0, 1) := op42 (bA_at bd03_dec_X11_2_115 3 rfl rfl)
theorem dX11_choir_47 : decode cX11_choir 47 = .ok (.getfield 478, 3) := op180 (bA_at bd03_dec_X11_2_115 4 rfl rfl) rfl
theorem dX11_choir_50 : decode cX11_choir 50 = .ok (.iadd, 1) := op96 (bA_at bd03_dec_X11_2_115 5 rfl rfl)
theorem dX11_choir_51 : decode cX11_choir 51 = .ok (.invokestatic 109, 3) := op184 (bA_at bd03_dec_X11_2_115 6 rfl rfl) rfl
theorem dX11_choir_54 : decode cX11_choir 54 = .ok (.ifCond .eq 13, 3) := op153 (bA_at bd03_dec_X11_2_115 7 rfl rfl) (by decide +kernel)
theorem dX11_choir_57 : decode cX11_choir 57 = .ok (.aload_n 0, 1) := op42 (bA_at bd03_dec_X11_2_115 8 rfl rfl)
theorem dX11_choir_58 : decode cX11_choir 58 = .ok (.iload_n 2, 1) := op28 (bA_at bd03_dec_X11_2_115 9 rfl rfl)
theorem dX11_choir_59 : decode cX11_choir 59 = .ok (.bipush 20, 2) := op16 (bA_at bd03_dec_X11_2_115 10 rfl rfl) (by decide +kernel)
theorem dX11_choir_61 : decode cX11_choir 61 = .ok (.isub, 1) := op100 (bA_at bd03_dec_X11_2_115 11 rfl rfl)
theorem bd03_dec_X11_2_116 : ([(0, [4]), (1, [182, 1, 225]), (4, [172]), (5, [28]), (6, [154, 0, 10]), (9, [42]), (10, [180, 1, 222]), (13, [167, 0, 40]), (16, [28]), (17, [4]), (18, [160, 0, 10]), (21, [42])] : List (Nat × List UInt8)).all (fun x => prB x.2 ((cX11_choir.data.toList.drop 62).drop x.1)) = true := by decide +kernel
theorem dX11_choir_62 : decode cX11_choir 62 = .ok (.iconst 1, 1) := op4 (bA_at bd03_dec_X11_2_116 0 rfl rfl)
theorem dX11_choir_63 : decode cX11_choir 63 = .ok (.invokevirtual 481, 3) := op182 (bA_at bd03_dec_X11_2_116 1 rfl rfl) rfl
theorem dX11_choir_66 : decode cX11_choir 66 = .ok (.ireturn, 1) := op172 (bA_at bd03_dec_X11_2_116 2 rfl rfl)
theorem dX11_choir_67 : decode cX11_choir 67 = .ok (.iload_n 2, 1) := op28 (bA_at bd03_dec_X11_2_116 3 rfl rfl)
theorem dX11_choir_68 : decode cX11_choir 68 = .ok (.ifCond .ne 10, 3) := op154 (bA_at bd03_dec_X11_2_116 4 rfl rfl) (by decide +kernel)
theorem dX11_choir_71 : decode cX11_choir 71 = .ok (.aload_n 0, 1) := op42 (bA_at bd03_dec_X11_2_116 5 rfl rfl)
theorem dX11_choir_72 : decode cX11_choir 72 = .ok (.getfield 478, 3) := op180 (bA_at bd03_dec_X11_2_116 6 rfl rfl) rfl
theorem dX11_choir_75 : decode cX11_choir 75 = .ok (.goto 40, 3) := op167 (bA_at bd03_dec_X11_2_116 7 rfl rfl) (by decide +kernel)
theorem dX11_choir_78 : decode cX11_choir 78 = .ok (.iload_n 2, 1) := op28 (bA_at bd03_dec_X11_2_116 8 rfl rfl)
theorem dX11_choir_79 : decode cX11_choir 79 = .ok (.iconst 1, 1) := op4 (bA_at bd03_dec_X11_2_116 9 rfl rfl)
theorem dX11_choir_80 : decode cX11_choir 80 = .ok (.if_icmp .ne 10, 3) := op160 (bA_at bd03_dec_X11_2_116 10 rfl rfl) (by decide +kernel)
theorem dX11_choir_83 : decode cX11_choir 83 = .ok (.aload_n 0, 1) := op42 (bA_at bd03_dec_X11_2_116 11 rfl rfl)
theorem bd03_dec_X11_2_117 : ([(0, [182, 1, 238]), (3, [167, 0, 28]), (6, [28]), (7, [5]), (8, [160, 0, 10]), (11, [42]), (12, [182, 1, 241]), (15, [167, 0, 16]), (18, [28]), (19, [6]), (20, [160, 0, 10]), (23, [42])] : List (Nat × List UInt8)).all (fun x => prB x.2 ((cX11_choir.data.toList.drop 84).drop x.1)) = true := by decide +kernel
theorem dX11_choir_84 : decode cX11_choir 84 = .ok (.invokevirtual 494, 3) := op182 (bA_at bd03_dec_X11_2_117 0 rfl rfl) rfl
theorem dX11_choir_87 : decode cX11_choir 87 = .ok (.goto 28, 3) := op167 (bA_at bd03_dec_X11_2_117 1 rfl rfl) (by decide +kernel)
theorem dX11_choir_90 : decode cX11_choir 90 = .ok (.iload_n 2, 1) := op28 (bA_at bd03_dec_X11_2_117 2 rfl rfl)
theorem dX11_choir_91 : decode cX11_choir 91 = .ok (.iconst 2, 1) := op5 (bA_at bd03_dec_X11_2_117 3 rfl rfl)
theorem dX11_choir_92 : decode cX11_choir 92 = .ok (.if_icmp .ne 10, 3) := op160 (bA_at bd03_dec_X11_2_117 4 rfl rfl) (by decide +kernel)
theorem dX11_choir_95 : decode cX11_choir 95 = .ok (.aload_n 0, 1) := op42 (bA_at bd03_dec_X11_2_117 5 rfl rfl)
theorem dX11_choir_96 : decode cX11_choir 96 = .ok (.invokevirtual 497, 3) := op182 (bA_at bd03_dec_X11_2_117 6 rfl rfl) rfl
theorem dX11_choir_99 : decode cX11_choir 99 = .ok (.goto 16, 3) := op167 (bA_at bd03_dec_X11_2_117 7 rfl rfl) (by decide +kernel)
theorem dX11_choir_102 : decode cX11_choir 102 = .ok (.iload_n 2, 1) := op28 (bA_at bd03_dec_X11_2_117 8 rfl rfl)
theorem dX11_choir_103 : decode cX11_choir 103 = .ok (.iconst 3, 1) := op6 (bA_at bd03_dec_X11_2_117 9 rfl rfl)
theorem dX11_choir_104 : decode cX11_choir 104 = .ok (.if_icmp .ne 10, 3) := op160 (bA_at bd03_dec_X11_2_117 10 rfl rfl) (by decide +kernel)
theorem dX11_choir_107 : decode cX11_choir 107 = .ok (.aload_n 0, 1) := op42 (bA_at bd03_dec_X11_2_117 11 rfl rfl)
theorem bd03_dec_X11_2_118 : ([(0, [182, 1, 244]), (3, [167, 0, 4]), (6, [2]), (7, [172])] : List (Nat × List UInt8)).all (fun x => prB x.2 ((cX11_choir.data.toList.drop 108).drop x.1)) = true := by decide +kernel
theorem dX11_choir_108 : decode cX11_choir 108 = .ok (.invokevirtual 500, 3) := op182 (bA_at bd03_dec_X11_2_118 0 rfl rfl) rfl
theorem dX11_choir_111 : decode cX11_choir 111 = .ok (.goto 4, 3) := op167 (bA_at bd03_dec_X11_2_118 1 rfl rfl) (by decide +kernel)
theorem dX11_choir_114 : decode cX11_choir 114 = .ok (.iconst (-1), 1) := op2 (bA_at bd03_dec_X11_2_118 2 rfl rfl)
theorem dX11_choir_115 : decode cX11_choir 115 = .ok (.ireturn, 1) := op172 (bA_at bd03_dec_X11_2_118 3 rfl rfl)
theorem bd03_dec_X11_2_119 : ([(0, [42]), (1, [3]), (2, [181, 0, 97]), (5, [42]), (6, [27]), (7, [182, 1, 235]), (10, [153, 0, 14]), (13, [42]), (14, [42]), (15, [182, 1, 238]), (18, [182, 1, 231]), (21, [167, 0, 6])] : List (Nat × List UInt8)).all (fun x => prB x.2 ((cX11_orders.data.toList.drop 0).drop x.1)) = true := by decide +kernel
theorem dX11_orders_0 : decode cX11_orders 0 = .ok (.aload_n 0, 1) := op42 (bA_at bd03_dec_X11_2_119 0 rfl rfl)
theorem dX11_orders_1 : decode cX11_orders 1 = .ok (.iconst 0, 1) := op3 (bA_at bd03_dec_X11_2_119 1 rfl rfl)
theorem dX11_orders_2 : decode cX11_orders 2 = .ok (.putfield 97, 3) := op181 (bA_at bd03_dec_X11_2_119 2 rfl rfl) rfl
theorem dX11_orders_5 : decode cX11_orders 5 = .ok (.aload_n 0, 1) := op42 (bA_at bd03_dec_X11_2_119 3 rfl rfl)
theorem dX11_orders_6 : decode cX11_orders 6 = .ok (.iload_n 1, 1) := op27 (bA_at bd03_dec_X11_2_119 4 rfl rfl)
theorem dX11_orders_7 : decode cX11_orders 7 = .ok (.invokevirtual 491, 3) := op182 (bA_at bd03_dec_X11_2_119 5 rfl rfl) rfl
theorem dX11_orders_10 : decode cX11_orders 10 = .ok (.ifCond .eq 14, 3) := op153 (bA_at bd03_dec_X11_2_119 6 rfl rfl) (by decide +kernel)
theorem dX11_orders_13 : decode cX11_orders 13 = .ok (.aload_n 0, 1) := op42 (bA_at bd03_dec_X11_2_119 7 rfl rfl)
theorem dX11_orders_14 : decode cX11_orders 14 = .ok (.aload_n 0, 1) := op42 (bA_at bd03_dec_X11_2_119 8 rfl rfl)
theorem dX11_orders_15 : decode cX11_orders 15 = .ok (.invokevirtual 494, 3) := op182 (bA_at bd03_dec_X11_2_119 9 rfl rfl) rfl
theorem dX11_orders_18 : decode cX11_orders 18 = .ok (.invokevirtual 487, 3) := op182 (bA_at bd03_dec_X11_2_119 10 rfl rfl) rfl
theorem dX11_orders_21 : decode cX11_orders 21 = .ok (.goto 6, 3) := op167 (bA_at bd03_dec_X11_2_119 11 rfl rfl) (by decide +kernel)
theorem bd03_dec_X11_2_120 : ([(0, [20, 1, 247]), (3, [173])] : List (Nat × List UInt8)).all (fun x => prB x.2 ((cX11_orders.data.toList.drop 24).drop x.1)) = true := by decide +kernel
theorem dX11_orders_24 : decode cX11_orders 24 = .ok (.ldc2_w 503, 3) := op20 (bA_at bd03_dec_X11_2_120 0 rfl rfl) rfl
theorem dX11_orders_27 : decode cX11_orders 27 = .ok (.lreturn, 1) := op173 (bA_at bd03_dec_X11_2_120 1 rfl rfl)
theorem bd03_dec_X11_2_121 : ([(0, [42]), (1, [3]), (2, [181, 0, 97]), (5, [42]), (6, [27]), (7, [182, 1, 235]), (10, [153, 0, 30]), (13, [28]), (14, [3]), (15, [42]), (16, [180, 1, 222]), (19, [4])] : List (Nat × List UInt8)).all (fun x => prB x.2 ((cX11_order.data.toList.drop 0).drop x.1)) = true := by decide +kernel
theorem dX11_order_0 : decode cX11_order 0 = .ok (.aload_n 0, 1) := op42 (bA_at bd03_dec_X11_2_121 0 rfl rfl)
theorem dX11_order_1 : decode cX11_order 1 = .ok (.iconst 0, 1) := op3 (bA_at bd03_dec_X11_2_121 1 rfl rfl)
theorem dX11_order_2 : decode cX11_order 2 = .ok (.putfield 97, 3) := op181 (bA_at bd03_dec_X11_2_121 2 rfl rfl) rfl
theorem dX11_order_5 : decode cX11_order 5 = .ok (.aload_n 0, 1) := op42 (bA_at bd03_dec_X11_2_121 3 rfl rfl)
theorem dX11_order_6 : decode cX11_order 6 = .ok (.iload_n 1, 1) := op27 (bA_at bd03_dec_X11_2_121 4 rfl rfl)
theorem dX11_order_7 : decode cX11_order 7 = .ok (.invokevirtual 491, 3) := op182 (bA_at bd03_dec_X11_2_121 5 rfl rfl) rfl
theorem dX11_order_10 : decode cX11_order 10 = .ok (.ifCond .eq 30, 3) := op153 (bA_at bd03_dec_X11_2_121 6 rfl rfl) (by decide +kernel)
theorem dX11_order_13 : decode cX11_order 13 = .ok (.iload_n 2, 1) := op28 (bA_at bd03_dec_X11_2_121 7 rfl rfl)
theorem dX11_order_14 : decode cX11_order 14 = .ok (.iconst 0, 1) := op3 (bA_at bd03_dec_X11_2_121 8 rfl rfl)
theorem dX11_order_15 : decode cX11_order 15 = .ok (.aload_n 0, 1) := op42 (bA_at bd03_dec_X11_2_121 9 rfl rfl)
theorem dX11_order_16 : decode cX11_order 16 = .ok (.getfield 478, 3) := op180 (bA_at bd03_dec_X11_2_121 10 rfl rfl) rfl
theorem dX11_order_19 : decode cX11_order 19 = .ok (.iconst 1, 1) := op4 (bA_at bd03_dec_X11_2_121 11 rfl rfl)
theorem bd03_dec_X11_2_122 : ([(0, [100]), (1, [184, 0, 109]), (4, [153, 0, 16]), (7, [42]), (8, [42]), (9, [182, 1, 238]), (12, [182, 1, 231]), (15, [9]), (16, [148]), (17, [154, 0, 5]), (20, [2]), (21, [172])] : List (Nat × List UInt8)).all (fun x => prB x.2 ((cX11_order.data.toList.drop 20).drop x.1)) = true := by decide +kernel
theorem dX11_order_20 : decode cX11_order 20 = .ok (.isub, 1) := op100 (bA_at bd03_dec_X11_2_122 0 rfl rfl)
theorem dX11_order_21 : decode cX11_order 21 = .ok (.invokestatic 109, 3) := op184 (bA_at bd03_dec_X11_2_122 1 rfl rfl) rfl
theorem dX11_order_24 : decode cX11_order 24 = .ok (.ifCond .eq 16, 3) := op153 (bA_at bd03_dec_X11_2_122 2 rfl rfl) (by decide +kernel)
theorem dX11_order_27 : decode cX11_order 27 = .ok (.aload_n 0, 1) := op42 (bA_at bd03_dec_X11_2_122 3 rfl rfl)
theorem dX11_order_28 : decode cX11_order 28 = .ok (.aload_n 0, 1) := op42 (bA_at bd03_dec_X11_2_122 4 rfl rfl)
theorem dX11_order_29 : decode cX11_order 29 = .ok (.invokevirtual 494, 3) := op182 (bA_at bd03_dec_X11_2_122 5 rfl rfl) rfl
theorem dX11_order_32 : decode cX11_order 32 = .ok (.invokevirtual 487, 3) := op182 (bA_at bd03_dec_X11_2_122 6 rfl rfl) rfl
theorem dX11_order_35 : decode cX11_order 35 = .ok (.lconst 0, 1) := op9 (bA_at bd03_dec_X11_2_122 7 rfl rfl)
theorem dX11_order_36 : decode cX11_order 36 = .ok (.lcmp, 1) := op148 (bA_at bd03_dec_X11_2_122 8 rfl rfl)
theorem dX11_order_37 : decode cX11_order 37 = .ok (.ifCond .ne 5, 3) := op154 (bA_at bd03_dec_X11_2_122 9 rfl rfl) (by decide +kernel)
theorem dX11_order_40 : decode cX11_order 40 = .ok (.iconst (-1), 1) := op2 (bA_at bd03_dec_X11_2_122 10 rfl rfl)
theorem dX11_order_41 : decode cX11_order 41 = .ok (.ireturn, 1) := op172 (bA_at bd03_dec_X11_2_122 11 rfl rfl)
theorem bd03_dec_X11_2_123 : ([(0, [3]), (1, [62]), (2, [2]), (3, [54, 4]), (5, [3]), (6, [54, 5]), (8, [21, 5]), (10, [28]), (11, [163, 0, 81]), (14, [3]), (15, [54, 6]), (17, [29])] : List (Nat × List UInt8)).all (fun x => prB x.2 ((cX11_order.data.toList.drop 42).drop x.1)) = true := by decide +kernel
theorem dX11_order_42 : decode cX11_order 42 = .ok (.iconst 0, 1) := op3 (bA_at bd03_dec_X11_2_123 0 rfl rfl)
theorem dX11_order_43 : decode cX11_order 43 = .ok (.istore_n 3, 1) := op62 (bA_at bd03_dec_X11_2_123 1 rfl rfl)
theorem dX11_order_44 : decode cX11_order 44 = .ok (.iconst (-1), 1) := op2 (bA_at bd03_dec_X11_2_123 2 rfl rfl)
theorem dX11_order_45 : decode cX11_order 45 = .ok (.istore 4, 2) := op54 (bA_at bd03_dec_X11_2_123 3 rfl rfl) rfl
theorem dX11_order_47 : decode cX11_order 47 = .ok (.iconst 0, 1) := op3 (bA_at bd03_dec_X11_2_123 4 rfl rfl)
theorem dX11_order_48 : decode cX11_order 48 = .ok (.istore 5, 2) := op54 (bA_at bd03_dec_X11_2_123 5 rfl rfl) rfl
theorem dX11_order_50 : decode cX11_order 50 = .ok (.iload 5, 2) := op21 (bA_at bd03_dec_X11_2_123 6 rfl rfl) rfl
theorem dX11_order_52 : decode cX11_order 52 = .ok (.iload_n 2, 1) := op28 (bA_at bd03_dec_X11_2_123 7 rfl rfl)
theorem dX11_order_53 : decode cX11_order 53 = .ok (.if_icmp .gt 81, 3) := op163 (bA_at bd03_dec_X11_2_123 8 rfl rfl) (by decide +kernel)
theorem dX11_order_56 : decode cX11_order 56 = .ok (.iconst 0, 1) := op3 (bA_at bd03_dec_X11_2_123 9 rfl rfl)
theorem dX11_order_57 : decode cX11_order 57 = .ok (.istore 6, 2) := op54 (bA_at bd03_dec_X11_2_123 10 rfl rfl) rfl
theorem dX11_order_59 : decode cX11_order 59 = .ok (.iload_n 3, 1) := op29 (bA_at bd03_dec_X11_2_123 11 rfl rfl)
theorem bd03_dec_X11_2_124 : ([(0, [21, 6]), (2, [184, 0, 101]), (5, [154, 0, 46]), (8, [21, 4]), (10, [2]), (11, [159, 0, 18]), (14, [42]), (15, [21, 4]), (17, [21, 6]), (19, [42]), (20, [182, 1, 238]), (23, [182, 1, 228])] : List (Nat × List UInt8)).all (fun x => prB x.2 ((cX11_order.data.toList.drop 60).drop x.1)) = true := by decide +kernel
theorem dX11_order_60 : decode cX11_order 60 = .ok (.iload 6, 2) := op21 (bA_at bd03_dec_X11_2_124 0 rfl rfl) rfl
theorem dX11_order_62 : decode cX11_order 62 = .ok (.invokestatic 101, 3) := op184 (bA_at bd03_dec_X11_2_124 1 rfl rfl) rfl
theorem dX11_order_65 : decode cX11_order 65 = .ok (.ifCond .ne 46, 3) := op154 (bA_at bd03_dec_X11_2_124 2 rfl rfl) (by decide +kernel)
theorem dX11_order_68 : decode cX11_order 68 = .ok (.iload 4, 2) := op21 (bA_at bd03_dec_X11_2_124 3 rfl rfl) rfl
theorem dX11_order_70 : decode cX11_order 70 = .ok (.iconst (-1), 1) := op2 (bA_at bd03_dec_X11_2_124 4 rfl rfl)
theorem dX11_order_71 : decode cX11_order 71 = .ok (.if_icmp .eq 18, 3) := op159 (bA_at bd03_dec_X11_2_124 5 rfl rfl) (by decide +kernel)
theorem dX11_order_74 : decode cX11_order 74 = .ok (.aload_n 0, 1) := op42 (bA_at bd03_dec_X11_2_124 6 rfl rfl)
theorem dX11_order_75 : decode cX11_order 75 = .ok (.iload 4, 2) := op21 (bA_at bd03_dec_X11_2_124 7 rfl rfl) rfl
theorem dX11_order_77 : decode cX11_order 77 = .ok (.iload 6, 2) := op21 (bA_at bd03_dec_X11_2_124 8 rfl rfl) rfl
theorem dX11_order_79 : decode cX11_order 79 = .ok (.aload_n 0, 1) := op42 (bA_at bd03_dec_X11_2_124 9 rfl rfl)
theorem dX11_order_80 : decode cX11_order 80 = .ok (.invokevirtual 494, 3) := op182 (bA_at bd03_dec_X11_2_124 10 rfl rfl) rfl
theorem dX11_order_83 : decode cX11_order 83 = .ok (.invokevirtual 484, 3) := op182 (bA_at bd03_dec_X11_2_124 11 rfl rfl) rfl
theorem bd03_dec_X11_2_125 : ([(0, [153, 0, 25]), (3, [42]), (4, [180, 0, 84]), (7, [16, 9]), (9, [29]), (10, [4]), (11, [21, 6]), (13, [120]), (14, [128]), (15, [104]), (16, [21, 6]), (18, [96])] : List (Nat × List UInt8)).all (fun x => prB x.2 ((cX11_order.data.toList.drop 86).drop x.1)) = true := by decide +kernel
theorem dX11_order_86 : decode cX11_order 86 = .ok (.ifCond .eq 25, 3) := op153 (bA_at bd03_dec_X11_2_125 0 rfl rfl) (by decide +kernel)
theorem dX11_order_89 : decode cX11_order 89 = .ok (.aload_n 0, 1) := op42 (bA_at bd03_dec_X11_2_125 1 rfl rfl)
theorem dX11_order_90 : decode cX11_order 90 = .ok (.getfield 84, 3) := op180 (bA_at bd03_dec_X11_2_125 2 rfl rfl) rfl
theorem dX11_order_93 : decode cX11_order 93 = .ok (.bipush 9, 2) := op16 (bA_at bd03_dec_X11_2_125 3 rfl rfl) (by decide +kernel)
theorem dX11_order_95 : decode cX11_order 95 = .ok (.iload_n 3, 1) := op29 (bA_at bd03_dec_X11_2_125 4 rfl rfl)
theorem dX11_order_96 : decode cX11_order 96 = .ok (.iconst 1, 1) := op4 (bA_at bd03_dec_X11_2_125 5 rfl rfl)
theorem dX11_order_97 : decode cX11_order 97 = .ok (.iload 6, 2) := op21 (bA_at bd03_dec_X11_2_125 6 rfl rfl) rfl
theorem dX11_order_99 : decode cX11_order 99 = .ok (.ishl, 1) := op120 (bA_at bd03_dec_X11_2_125 7 rfl rfl)
theorem dX11_order_100 : decode cX11_order 100 = .ok (.ior, 1) := op128 (bA_at bd03_dec_X11_2_125 8 rfl rfl)
theorem dX11_order_101 : decode cX11_order 101 = .ok (.imul, 1) := op104 (bA_at bd03_dec_X11_2_125 9 rfl rfl)
theorem dX11_order_102 : decode cX11_order 102 = .ok (.iload 6, 2) := op21 (bA_at bd03_dec_X11_2_125 10 rfl rfl) rfl
theorem dX11_order_104 : decode cX11_order 104 = .ok (.iadd, 1) := op96 (bA_at bd03_dec_X11_2_125 11 rfl rfl)
theorem bd03_dec_X11_2_126 : ([(0, [47]), (1, [9]), (2, [148]), (3, [154, 0, 9]), (6, [132, 6, 1]), (9, [167, 255, 201]), (12, [21, 6]), (14, [54, 4]), (16, [29]), (17, [4]), (18, [21, 6]), (20, [120])] : List (Nat × List UInt8)).all (fun x => prB x.2 ((cX11_order.data.toList.drop 105).drop x.1)) = true := by decide +kernel
theorem dX11_order_105 : decode cX11_order 105 = .ok (.laload, 1) := op47 (bA_at bd03_dec_X11_2_126 0 rfl rfl)
theorem dX11_order_106 : decode cX11_order 106 = .ok (.lconst 0, 1) := op9 (bA_at bd03_dec_X11_2_126 1 rfl rfl)
theorem dX11_order_107 : decode cX11_order 107 = .ok (.lcmp, 1) := op148 (bA_at bd03_dec_X11_2_126 2 rfl rfl)
theorem dX11_order_108 : decode cX11_order 108 = .ok (.ifCond .ne 9, 3) := op154 (bA_at bd03_dec_X11_2_126 3 rfl rfl) (by decide +kernel)
theorem dX11_order_111 : decode cX11_order 111 = .ok (.iinc 6 1, 3) := op132 (bA_at bd03_dec_X11_2_126 4 rfl rfl) rfl (by decide +kernel)
theorem dX11_order_114 : decode cX11_order 114 = .ok (.goto (-55), 3) := op167 (bA_at bd03_dec_X11_2_126 5 rfl rfl) (by decide +kernel)
theorem dX11_order_117 : decode cX11_order 117 = .ok (.iload 6, 2) := op21 (bA_at bd03_dec_X11_2_126 6 rfl rfl) rfl
theorem dX11_order_119 : decode cX11_order 119 = .ok (.istore 4, 2) := op54 (bA_at bd03_dec_X11_2_126 7 rfl rfl) rfl
theorem dX11_order_121 : decode cX11_order 121 = .ok (.iload_n 3, 1) := op29 (bA_at bd03_dec_X11_2_126 8 rfl rfl)
theorem dX11_order_122 : decode cX11_order 122 = .ok (.iconst 1, 1) := op4 (bA_at bd03_dec_X11_2_126 9 rfl rfl)
theorem dX11_order_123 : decode cX11_order 123 = .ok (.iload 6, 2) := op21 (bA_at bd03_dec_X11_2_126 10 rfl rfl) rfl
theorem dX11_order_125 : decode cX11_order 125 = .ok (.ishl, 1) := op120 (bA_at bd03_dec_X11_2_126 11 rfl rfl)
theorem bd03_dec_X11_2_127 : ([(0, [128]), (1, [62]), (2, [132, 5, 1]), (5, [167, 255, 175]), (8, [21, 4]), (10, [172])] : List (Nat × List UInt8)).all (fun x => prB x.2 ((cX11_order.data.toList.drop 126).drop x.1)) = true := by decide +kernel
theorem dX11_order_126 : decode cX11_order 126 = .ok (.ior, 1) := op128 (bA_at bd03_dec_X11_2_127 0 rfl rfl)
theorem dX11_order_127 : decode cX11_order 127 = .ok (.istore_n 3, 1) := op62 (bA_at bd03_dec_X11_2_127 1 rfl rfl)
theorem dX11_order_128 : decode cX11_order 128 = .ok (.iinc 5 1, 3) := op132 (bA_at bd03_dec_X11_2_127 2 rfl rfl) rfl (by decide +kernel)
theorem dX11_order_131 : decode cX11_order 131 = .ok (.goto (-81), 3) := op167 (bA_at bd03_dec_X11_2_127 3 rfl rfl) (by decide +kernel)
theorem dX11_order_134 : decode cX11_order 134 = .ok (.iload 4, 2) := op21 (bA_at bd03_dec_X11_2_127 4 rfl rfl) rfl
theorem dX11_order_136 : decode cX11_order 136 = .ok (.ireturn, 1) := op172 (bA_at bd03_dec_X11_2_127 5 rfl rfl)
theorem bd03_dec_X11_2_128 : ([(0, [27]), (1, [155, 0, 25]), (4, [28]), (5, [155, 0, 21]), (8, [42]), (9, [180, 0, 88]), (12, [16, 61]), (14, [27]), (15, [104]), (16, [28]), (17, [96]), (18, [51])] : List (Nat × List UInt8)).all (fun x => prB x.2 ((cX11_won.data.toList.drop 0).drop x.1)) = true := by decide +kernel
theorem dX11_won_0 : decode cX11_won 0 = .ok (.iload_n 1, 1) := op27 (bA_at bd03_dec_X11_2_128 0 rfl rfl)
theorem dX11_won_1 : decode cX11_won 1 = .ok (.ifCond .lt 25, 3) := op155 (bA_at bd03_dec_X11_2_128 1 rfl rfl) (by decide +kernel)
theorem dX11_won_4 : decode cX11_won 4 = .ok (.iload_n 2, 1) := op28 (bA_at bd03_dec_X11_2_128 2 rfl rfl)
theorem dX11_won_5 : decode cX11_won 5 = .ok (.ifCond .lt 21, 3) := op155 (bA_at bd03_dec_X11_2_128 3 rfl rfl) (by decide +kernel)
theorem dX11_won_8 : decode cX11_won 8 = .ok (.aload_n 0, 1) := op42 (bA_at bd03_dec_X11_2_128 4 rfl rfl)
theorem dX11_won_9 : decode cX11_won 9 = .ok (.getfield 88, 3) := op180 (bA_at bd03_dec_X11_2_128 5 rfl rfl) rfl
theorem dX11_won_12 : decode cX11_won 12 = .ok (.bipush 61, 2) := op16 (bA_at bd03_dec_X11_2_128 6 rfl rfl) (by decide +kernel)
theorem dX11_won_14 : decode cX11_won 14 = .ok (.iload_n 1, 1) := op27 (bA_at bd03_dec_X11_2_128 7 rfl rfl)
theorem dX11_won_15 : decode cX11_won 15 = .ok (.imul, 1) := op104 (bA_at bd03_dec_X11_2_128 8 rfl rfl)
theorem dX11_won_16 : decode cX11_won 16 = .ok (.iload_n 2, 1) := op28 (bA_at bd03_dec_X11_2_128 9 rfl rfl)
theorem dX11_won_17 : decode cX11_won 17 = .ok (.iadd, 1) := op96 (bA_at bd03_dec_X11_2_128 10 rfl rfl)
theorem dX11_won_18 : decode cX11_won 18 = .ok (.baload, 1) := op51 (bA_at bd03_dec_X11_2_128 11 rfl rfl)
theorem bd03_dec_X11_2_129 : ([(0, [153, 0, 7]), (3, [4]), (4, [167, 0, 4]), (7, [3]), (8, [172])] : List (Nat × List UInt8)).all (fun x => prB x.2 ((cX11_won.data.toList.drop 19).drop x.1)) = true := by decide +kernel
theorem dX11_won_19 : decode cX11_won 19 = .ok (.ifCond .eq 7, 3) := op153 (bA_at bd03_dec_X11_2_129 0 rfl rfl) (by decide +kernel)
theorem dX11_won_22 : decode cX11_won 22 = .ok (.iconst 1, 1) := op4 (bA_at bd03_dec_X11_2_129 1 rfl rfl)
theorem dX11_won_23 : decode cX11_won 23 = .ok (.goto 4, 3) := op167 (bA_at bd03_dec_X11_2_129 2 rfl rfl) (by decide +kernel)
theorem dX11_won_26 : decode cX11_won 26 = .ok (.iconst 0, 1) := op3 (bA_at bd03_dec_X11_2_129 3 rfl rfl)
theorem dX11_won_27 : decode cX11_won 27 = .ok (.ireturn, 1) := op172 (bA_at bd03_dec_X11_2_129 4 rfl rfl)
theorem bd03_dec_X11_2_130 : ([(0, [27]), (1, [29]), (2, [161, 0, 27]), (5, [28]), (6, [21, 4]), (8, [161, 0, 21]), (11, [42]), (12, [27]), (13, [29]), (14, [100]), (15, [28]), (16, [21, 4])] : List (Nat × List UInt8)).all (fun x => prB x.2 ((cX11_isGood.data.toList.drop 0).drop x.1)) = true := by decide +kernel
theorem dX11_isGood_0 : decode cX11_isGood 0 = .ok (.iload_n 1, 1) := op27 (bA_at bd03_dec_X11_2_130 0 rfl rfl)
theorem dX11_isGood_1 : decode cX11_isGood 1 = .ok (.iload_n 3, 1) := op29 (bA_at bd03_dec_X11_2_130 1 rfl rfl)
theorem dX11_isGood_2 : decode cX11_isGood 2 = .ok (.if_icmp .lt 27, 3) := op161 (bA_at bd03_dec_X11_2_130 2 rfl rfl) (by decide +kernel)
theorem dX11_isGood_5 : decode cX11_isGood 5 = .ok (.iload_n 2, 1) := op28 (bA_at bd03_dec_X11_2_130 3 rfl rfl)
theorem dX11_isGood_6 : decode cX11_isGood 6 = .ok (.iload 4, 2) := op21 (bA_at bd03_dec_X11_2_130 4 rfl rfl) rfl
theorem dX11_isGood_8 : decode cX11_isGood 8 = .ok (.if_icmp .lt 21, 3) := op161 (bA_at bd03_dec_X11_2_130 5 rfl rfl) (by decide +kernel)
theorem dX11_isGood_11 : decode cX11_isGood 11 = .ok (.aload_n 0, 1) := op42 (bA_at bd03_dec_X11_2_130 6 rfl rfl)
theorem dX11_isGood_12 : decode cX11_isGood 12 = .ok (.iload_n 1, 1) := op27 (bA_at bd03_dec_X11_2_130 7 rfl rfl)
theorem dX11_isGood_13 : decode cX11_isGood 13 = .ok (.iload_n 3, 1) := op29 (bA_at bd03_dec_X11_2_130 8 rfl rfl)
theorem dX11_isGood_14 : decode cX11_isGood 14 = .ok (.isub, 1) := op100 (bA_at bd03_dec_X11_2_130 9 rfl rfl)
theorem dX11_isGood_15 : decode cX11_isGood 15 = .ok (.iload_n 2, 1) := op28 (bA_at bd03_dec_X11_2_130 10 rfl rfl)
theorem dX11_isGood_16 : decode cX11_isGood 16 = .ok (.iload 4, 2) := op21 (bA_at bd03_dec_X11_2_130 11 rfl rfl) rfl
theorem bd03_dec_X11_2_131 : ([(0, [100]), (1, [182, 1, 249]), (4, [154, 0, 7]), (7, [4]), (8, [167, 0, 4]), (11, [3]), (12, [172])] : List (Nat × List UInt8)).all (fun x => prB x.2 ((cX11_isGood.data.toList.drop 18).drop x.1)) = true := by decide +kernel
theorem dX11_isGood_18 : decode cX11_isGood 18 = .ok (.isub, 1) := op100 (bA_at bd03_dec_X11_2_131 0 rfl rfl)
theorem dX11_isGood_19 : decode cX11_isGood 19 = .ok (.invokevirtual 505, 3) := op182 (bA_at bd03_dec_X11_2_131 1 rfl rfl) rfl
theorem dX11_isGood_22 : decode cX11_isGood 22 = .ok (.ifCond .ne 7, 3) := op154 (bA_at bd03_dec_X11_2_131 2 rfl rfl) (by decide +kernel)
theorem dX11_isGood_25 : decode cX11_isGood 25 = .ok (.iconst 1, 1) := op4 (bA_at bd03_dec_X11_2_131 3 rfl rfl)
theorem dX11_isGood_26 : decode cX11_isGood 26 = .ok (.goto 4, 3) := op167 (bA_at bd03_dec_X11_2_131 4 rfl rfl) (by decide +kernel)
theorem dX11_isGood_29 : decode cX11_isGood 29 = .ok (.iconst 0, 1) := op3 (bA_at bd03_dec_X11_2_131 5 rfl rfl)
theorem dX11_isGood_30 : decode cX11_isGood 30 = .ok (.ireturn, 1) := op172 (bA_at bd03_dec_X11_2_131 6 rfl rfl)
theorem bd03_dec_X11_2_132 : ([(0, [42]), (1, [27]), (2, [28]), (3, [3]), (4, [5]), (5, [182, 1, 252]), (8, [153, 0, 5]), (11, [5]), (12, [172]), (13, [4]), (14, [54, 4]), (16, [21, 4])] : List (Nat × List UInt8)).all (fun x => prB x.2 ((cX11_firstTake.data.toList.drop 0).drop x.1)) = true := by decide +kernel
theorem dX11_firstTake_0 : decode cX11_firstTake 0 = .ok (.aload_n 0, 1) := op42 (bA_at bd03_dec_X11_2_132 0 rfl rfl)
theorem dX11_firstTake_1 : decode cX11_firstTake 1 = .ok (.iload_n 1, 1) := op27 (bA_at bd03_dec_X11_2_132 1 rfl rfl)
theorem dX11_firstTake_2 : decode cX11_firstTake 2 = .ok (.iload_n 2, 1) := op28 (bA_at bd03_dec_X11_2_132 2 rfl rfl)
theorem dX11_firstTake_3 : decode cX11_firstTake 3 = .ok (.iconst 0, 1) := op3 (bA_at bd03_dec_X11_2_132 3 rfl rfl)
theorem dX11_firstTake_4 : decode cX11_firstTake 4 = .ok (.iconst 2, 1) := op5 (bA_at bd03_dec_X11_2_132 4 rfl rfl)
theorem dX11_firstTake_5 : decode cX11_firstTake 5 = .ok (.invokevirtual 508, 3) := op182 (bA_at bd03_dec_X11_2_132 5 rfl rfl) rfl
theorem dX11_firstTake_8 : decode cX11_firstTake 8 = .ok (.ifCond .eq 5, 3) := op153 (bA_at bd03_dec_X11_2_132 6 rfl rfl) (by decide +kernel)
theorem dX11_firstTake_11 : decode cX11_firstTake 11 = .ok (.iconst 2, 1) := op5 (bA_at bd03_dec_X11_2_132 7 rfl rfl)
theorem dX11_firstTake_12 : decode cX11_firstTake 12 = .ok (.ireturn, 1) := op172 (bA_at bd03_dec_X11_2_132 8 rfl rfl)
theorem dX11_firstTake_13 : decode cX11_firstTake 13 = .ok (.iconst 1, 1) := op4 (bA_at bd03_dec_X11_2_132 9 rfl rfl)
theorem dX11_firstTake_14 : decode cX11_firstTake 14 = .ok (.istore 4, 2) := op54 (bA_at bd03_dec_X11_2_132 10 rfl rfl) rfl
theorem dX11_firstTake_16 : decode cX11_firstTake 16 = .ok (.iload 4, 2) := op21 (bA_at bd03_dec_X11_2_132 11 rfl rfl) rfl
theorem bd03_dec_X11_2_133 : ([(0, [29]), (1, [163, 0, 27]), (4, [42]), (5, [27]), (6, [28]), (7, [4]), (8, [21, 4]), (10, [182, 1, 252]), (13, [153, 0, 9]), (16, [16, 10]), (18, [21, 4]), (20, [96])] : List (Nat × List UInt8)).all (fun x => prB x.2 ((cX11_firstTake.data.toList.drop 18).drop x.1)) = true := by decide +kernel
theorem dX11_firstTake_18 : decode cX11_firstTake 18 = .ok (.iload_n 3, 1) := op29 (bA_at bd03_dec_X11_2_133 0 rfl rfl)
theorem dX11_firstTake_19 : decode cX11_firstTake 19 = .ok (.if_icmp .gt 27, 3) := op163 (bA_at bd03_dec_X11_2_133 1 rfl rfl) (by decide +kernel)
theorem dX11_firstTake_22 : decode cX11_firstTake 22 = .ok (.aload_n 0, 1) := op42 (bA_at bd03_dec_X11_2_133 2 rfl rfl)
theorem dX11_firstTake_23 : decode cX11_firstTake 23 = .ok (.iload_n 1, 1) := op27 (bA_at bd03_dec_X11_2_133 3 rfl rfl)
theorem dX11_firstTake_24 : decode cX11_firstTake 24 = .ok (.iload_n 2, 1) := op28 (bA_at bd03_dec_X11_2_133 4 rfl rfl)
theorem dX11_firstTake_25 : decode cX11_firstTake 25 = .ok (.iconst 1, 1) := op4 (bA_at bd03_dec_X11_2_133 5 rfl rfl)
theorem dX11_firstTake_26 : decode cX11_firstTake 26 = .ok (.iload 4, 2) := op21 (bA_at bd03_dec_X11_2_133 6 rfl rfl) rfl
theorem dX11_firstTake_28 : decode cX11_firstTake 28 = .ok (.invokevirtual 508, 3) := op182 (bA_at bd03_dec_X11_2_133 7 rfl rfl) rfl
theorem dX11_firstTake_31 : decode cX11_firstTake 31 = .ok (.ifCond .eq 9, 3) := op153 (bA_at bd03_dec_X11_2_133 8 rfl rfl) (by decide +kernel)
theorem dX11_firstTake_34 : decode cX11_firstTake 34 = .ok (.bipush 10, 2) := op16 (bA_at bd03_dec_X11_2_133 9 rfl rfl) (by decide +kernel)
theorem dX11_firstTake_36 : decode cX11_firstTake 36 = .ok (.iload 4, 2) := op21 (bA_at bd03_dec_X11_2_133 10 rfl rfl) rfl
theorem dX11_firstTake_38 : decode cX11_firstTake 38 = .ok (.iadd, 1) := op96 (bA_at bd03_dec_X11_2_133 11 rfl rfl)
theorem bd03_dec_X11_2_134 : ([(0, [172]), (1, [132, 4, 1]), (4, [167, 255, 229]), (7, [2]), (8, [172])] : List (Nat × List UInt8)).all (fun x => prB x.2 ((cX11_firstTake.data.toList.drop 39).drop x.1)) = true := by decide +kernel
theorem dX11_firstTake_39 : decode cX11_firstTake 39 = .ok (.ireturn, 1) := op172 (bA_at bd03_dec_X11_2_134 0 rfl rfl)
theorem dX11_firstTake_40 : decode cX11_firstTake 40 = .ok (.iinc 4 1, 3) := op132 (bA_at bd03_dec_X11_2_134 1 rfl rfl) rfl (by decide +kernel)
theorem dX11_firstTake_43 : decode cX11_firstTake 43 = .ok (.goto (-27), 3) := op167 (bA_at bd03_dec_X11_2_134 2 rfl rfl) (by decide +kernel)
theorem dX11_firstTake_46 : decode cX11_firstTake 46 = .ok (.iconst (-1), 1) := op2 (bA_at bd03_dec_X11_2_134 3 rfl rfl)
theorem dX11_firstTake_47 : decode cX11_firstTake 47 = .ok (.ireturn, 1) := op172 (bA_at bd03_dec_X11_2_134 4 rfl rfl)
theorem bd03_dec_X11_2_135 : ([(0, [42]), (1, [3]), (2, [181, 0, 97]), (5, [27]), (6, [3]), (7, [16, 60]), (9, [184, 0, 109]), (12, [153, 0, 23]), (15, [28]), (16, [3]), (17, [16, 60]), (19, [184, 0, 109])] : List (Nat × List UInt8)).all (fun x => prB x.2 ((cX11_trade.data.toList.drop 0).drop x.1)) = true := by decide +kernel
theorem dX11_trade_0 : decode cX11_trade 0 = .ok (.aload_n 0, 1) := op42 (bA_at bd03_dec_X11_2_135 0 rfl rfl)
theorem dX11_trade_1 : decode cX11_trade 1 = .ok (.iconst 0, 1) := op3 (bA_at bd03_dec_X11_2_135 1 rfl rfl)
theorem dX11_trade_2 : decode cX11_trade 2 = .ok (.putfield 97, 3) := op181 (bA_at bd03_dec_X11_2_135 2 rfl rfl) rfl
theorem dX11_trade_5 : decode cX11_trade 5 = .ok (.iload_n 1, 1) := op27 (bA_at bd03_dec_X11_2_135 3 rfl rfl)
theorem dX11_trade_6 : decode cX11_trade 6 = .ok (.iconst 0, 1) := op3 (bA_at bd03_dec_X11_2_135 4 rfl rfl)
theorem dX11_trade_7 : decode cX11_trade 7 = .ok (.bipush 60, 2) := op16 (bA_at bd03_dec_X11_2_135 5 rfl rfl) (by decide +kernel)
theorem dX11_trade_9 : decode cX11_trade 9 = .ok (.invokestatic 109, 3) := op184 (bA_at bd03_dec_X11_2_135 6 rfl rfl) rfl
theorem dX11_trade_12 : decode cX11_trade 12 = .ok (.ifCond .eq 23, 3) := op153 (bA_at bd03_dec_X11_2_135 7 rfl rfl) (by decide +kernel)
theorem dX11_trade_15 : decode cX11_trade 15 = .ok (.iload_n 2, 1) := op28 (bA_at bd03_dec_X11_2_135 8 rfl rfl)
theorem dX11_trade_16 : decode cX11_trade 16 = .ok (.iconst 0, 1) := op3 (bA_at bd03_dec_X11_2_135 9 rfl rfl)
theorem dX11_trade_17 : decode cX11_trade 17 = .ok (.bipush 60, 2) := op16 (bA_at bd03_dec_X11_2_135 10 rfl rfl) (by decide +kernel)
theorem dX11_trade_19 : decode cX11_trade 19 = .ok (.invokestatic 109, 3) := op184 (bA_at bd03_dec_X11_2_135 11 rfl rfl) rfl
theorem bd03_dec_X11_2_136 : ([(0, [153, 0, 13]), (3, [29]), (4, [4]), (5, [16, 9]), (7, [184, 0, 109]), (10, [154, 0, 6]), (13, [16, 254]), (15, [172]), (16, [3]), (17, [54, 5]), (19, [21, 5]), (21, [27])] : List (Nat × List UInt8)).all (fun x => prB x.2 ((cX11_trade.data.toList.drop 22).drop x.1)) = true := by decide +kernel
theorem dX11_trade_22 : decode cX11_trade 22 = .ok (.ifCond .eq 13, 3) := op153 (bA_at bd03_dec_X11_2_136 0 rfl rfl) (by decide +kernel)
theorem dX11_trade_25 : decode cX11_trade 25 = .ok (.iload_n 3, 1) := op29 (bA_at bd03_dec_X11_2_136 1 rfl rfl)
theorem dX11_trade_26 : decode cX11_trade 26 = .ok (.iconst 1, 1) := op4 (bA_at bd03_dec_X11_2_136 2 rfl rfl)
theorem dX11_trade_27 : decode cX11_trade 27 = .ok (.bipush 9, 2) := op16 (bA_at bd03_dec_X11_2_136 3 rfl rfl) (by decide +kernel)
theorem dX11_trade_29 : decode cX11_trade 29 = .ok (.invokestatic 109, 3) := op184 (bA_at bd03_dec_X11_2_136 4 rfl rfl) rfl
theorem dX11_trade_32 : decode cX11_trade 32 = .ok (.ifCond .ne 6, 3) := op154 (bA_at bd03_dec_X11_2_136 5 rfl rfl) (by decide +kernel)
theorem dX11_trade_35 : decode cX11_trade 35 = .ok (.bipush (-2), 2) := op16 (bA_at bd03_dec_X11_2_136 6 rfl rfl) (by decide +kernel)
theorem dX11_trade_37 : decode cX11_trade 37 = .ok (.ireturn, 1) := op172 (bA_at bd03_dec_X11_2_136 7 rfl rfl)
theorem dX11_trade_38 : decode cX11_trade 38 = .ok (.iconst 0, 1) := op3 (bA_at bd03_dec_X11_2_136 8 rfl rfl)
theorem dX11_trade_39 : decode cX11_trade 39 = .ok (.istore 5, 2) := op54 (bA_at bd03_dec_X11_2_136 9 rfl rfl) rfl
theorem dX11_trade_41 : decode cX11_trade 41 = .ok (.iload 5, 2) := op21 (bA_at bd03_dec_X11_2_136 10 rfl rfl) rfl
theorem dX11_trade_43 : decode cX11_trade 43 = .ok (.iload_n 1, 1) := op27 (bA_at bd03_dec_X11_2_136 11 rfl rfl)
theorem bd03_dec_X11_2_137 : ([(0, [163, 0, 55]), (3, [3]), (4, [54, 6]), (6, [21, 6]), (8, [28]), (9, [163, 0, 40]), (12, [42]), (13, [180, 0, 88]), (16, [16, 61]), (18, [21, 5]), (20, [104]), (21, [21, 6])] : List (Nat × List UInt8)).all (fun x => prB x.2 ((cX11_trade.data.toList.drop 44).drop x.1)) = true := by decide +kernel
theorem dX11_trade_44 : decode cX11_trade 44 = .ok (.if_icmp .gt 55, 3) := op163 (bA_at bd03_dec_X11_2_137 0 rfl rfl) (by decide +kernel)
theorem dX11_trade_47 : decode cX11_trade 47 = .ok (.iconst 0, 1) := op3 (bA_at bd03_dec_X11_2_137 1 rfl rfl)
theorem dX11_trade_48 : decode cX11_trade 48 = .ok (.istore 6, 2) := op54 (bA_at bd03_dec_X11_2_137 2 rfl rfl) rfl
theorem dX11_trade_50 : decode cX11_trade 50 = .ok (.iload 6, 2) := op21 (bA_at bd03_dec_X11_2_137 3 rfl rfl) rfl
theorem dX11_trade_52 : decode cX11_trade 52 = .ok (.iload_n 2, 1) := op28 (bA_at bd03_dec_X11_2_137 4 rfl rfl)
theorem dX11_trade_53 : decode cX11_trade 53 = .ok (.if_icmp .gt 40, 3) := op163 (bA_at bd03_dec_X11_2_137 5 rfl rfl) (by decide +kernel)
theorem dX11_trade_56 : decode cX11_trade 56 = .ok (.aload_n 0, 1) := op42 (bA_at bd03_dec_X11_2_137 6 rfl rfl)
theorem dX11_trade_57 : decode cX11_trade 57 = .ok (.getfield 88, 3) := op180 (bA_at bd03_dec_X11_2_137 7 rfl rfl) rfl
theorem dX11_trade_60 : decode cX11_trade 60 = .ok (.bipush 61, 2) := op16 (bA_at bd03_dec_X11_2_137 8 rfl rfl) (by decide +kernel)
theorem dX11_trade_62 : decode cX11_trade 62 = .ok (.iload 5, 2) := op21 (bA_at bd03_dec_X11_2_137 9 rfl rfl) rfl
theorem dX11_trade_64 : decode cX11_trade 64 = .ok (.imul, 1) := op104 (bA_at bd03_dec_X11_2_137 10 rfl rfl)
theorem dX11_trade_65 : decode cX11_trade 65 = .ok (.iload 6, 2) := op21 (bA_at bd03_dec_X11_2_137 11 rfl rfl) rfl
theorem bd03_dec_X11_2_138 : ([(0, [96]), (1, [42]), (2, [21, 5]), (4, [21, 6]), (6, [29]), (7, [182, 1, 255]), (10, [2]), (11, [159, 0, 7]), (14, [4]), (15, [167, 0, 4]), (18, [3]), (19, [84])] : List (Nat × List UInt8)).all (fun x => prB x.2 ((cX11_trade.data.toList.drop 67).drop x.1)) = true := by decide +kernel
theorem dX11_trade_67 : decode cX11_trade 67 = .ok (.iadd, 1) := op96 (bA_at bd03_dec_X11_2_138 0 rfl rfl)
theorem dX11_trade_68 : decode cX11_trade 68 = .ok (.aload_n 0, 1) := op42 (bA_at bd03_dec_X11_2_138 1 rfl rfl)
theorem dX11_trade_69 : decode cX11_trade 69 = .ok (.iload 5, 2) := op21 (bA_at bd03_dec_X11_2_138 2 rfl rfl) rfl
theorem dX11_trade_71 : decode cX11_trade 71 = .ok (.iload 6, 2) := op21 (bA_at bd03_dec_X11_2_138 3 rfl rfl) rfl
theorem dX11_trade_73 : decode cX11_trade 73 = .ok (.iload_n 3, 1) := op29 (bA_at bd03_dec_X11_2_138 4 rfl rfl)
theorem dX11_trade_74 : decode cX11_trade 74 = .ok (.invokevirtual 511, 3) := op182 (bA_at bd03_dec_X11_2_138 5 rfl rfl) rfl
theorem dX11_trade_77 : decode cX11_trade 77 = .ok (.iconst (-1), 1) := op2 (bA_at bd03_dec_X11_2_138 6 rfl rfl)
theorem dX11_trade_78 : decode cX11_trade 78 = .ok (.if_icmp .eq 7, 3) := op159 (bA_at bd03_dec_X11_2_138 7 rfl rfl) (by decide +kernel)
theorem dX11_trade_81 : decode cX11_trade 81 = .ok (.iconst 1, 1) := op4 (bA_at bd03_dec_X11_2_138 8 rfl rfl)
theorem dX11_trade_82 : decode cX11_trade 82 = .ok (.goto 4, 3) := op167 (bA_at bd03_dec_X11_2_138 9 rfl rfl) (by decide +kernel)
theorem dX11_trade_85 : decode cX11_trade 85 = .ok (.iconst 0, 1) := op3 (bA_at bd03_dec_X11_2_138 10 rfl rfl)
theorem dX11_trade_86 : decode cX11_trade 86 = .ok (.bastore, 1) := op84 (bA_at bd03_dec_X11_2_138 11 rfl rfl)
theorem bd03_dec_X11_2_139 : ([(0, [132, 6, 1]), (3, [167, 255, 216]), (6, [132, 5, 1]), (9, [167, 255, 201])] : List (Nat × List UInt8)).all (fun x => prB x.2 ((cX11_trade.data.toList.drop 87).drop x.1)) = true := by decide +kernel
theorem dX11_trade_87 : decode cX11_trade 87 = .ok (.iinc 6 1, 3) := op132 (bA_at bd03_dec_X11_2_139 0 rfl rfl) rfl (by decide +kernel)
theorem dX11_trade_90 : decode cX11_trade 90 = .ok (.goto (-40), 3) := op167 (bA_at bd03_dec_X11_2_139 1 rfl rfl) (by decide +kernel)
theorem dX11_trade_93 : decode cX11_trade 93 = .ok (.iinc 5 1, 3) := op132 (bA_at bd03_dec_X11_2_139 2 rfl rfl) rfl (by decide +kernel)
theorem dX11_trade_96 : decode cX11_trade 96 = .ok (.goto (-55), 3) := op167 (bA_at bd03_dec_X11_2_139 3 rfl rfl) (by decide +kernel)
end
section
theorem bd03_dec_X11_3_0 : ([(0, [21, 4]), (2, [153, 0, 13]), (5, [42]), (6, [27]), (7, [28]), (8, [29]), (9, [182, 1, 255]), (12, [167, 0, 22]), (15, [42]), (16, [180, 0, 88]), (19, [16, 61]), (21, [27])] : List (Nat × List UInt8)).all (fun x => prB x.2 ((cX11_trade.data.toList.drop 99).drop x.1)) = true := by decide +kernel
theorem dX11_trade_99 : decode cX11_trade 99 = .ok (.iload 4, 2) := op21 (bA_at bd03_dec_X11_3_0 0 rfl rfl) rfl
theorem dX11_trade_101 : decode cX11_trade 101 = .ok (.ifCond .eq 13, 3) := op153 (bA_at bd03_dec_X11_3_0 1 rfl rfl) (by decide +kernel)
theorem dX11_trade_104 : decode cX11_trade 104 = .ok (.aload_n 0, 1) := op42 (bA_at bd03_dec_X11_3_0 2 rfl rfl)
theorem dX11_trade_105 : decode cX11_trade 105 = .ok (.iload_n 1, 1) := op27 (bA_at bd03_dec_X11_3_0 3 rfl rfl)
theorem dX11_trade_106 : decode cX11_trade 106 = .ok (.iload_n 2, 1) := op28 (bA_at bd03_dec_X11_3_0 4 rfl rfl)
theorem dX11_trade_107 : decode cX11_trade 107 = .ok (.iload_n 3, 1) := op29 (bA_at bd03_dec_X11_3_0 5 rfl rfl)
theorem dX11_trade_108 : decode cX11_trade 108 = .ok (.invokevirtual 511, 3) := op182 (bA_at bd03_dec_X11_3_0 6 rfl rfl) rfl
theorem dX11_trade_111 : decode cX11_trade 111 = .ok (.goto 22, 3) := op167 (bA_at bd03_dec_X11_3_0 7 rfl rfl) (by decide +kernel)
theorem dX11_trade_114 : decode cX11_trade 114 = .ok (.aload_n 0, 1) := op42 (bA_at bd03_dec_X11_3_0 8 rfl rfl)
theorem dX11_trade_115 : decode cX11_trade 115 = .ok (.getfield 88, 3) := op180 (bA_at bd03_dec_X11_3_0 9 rfl rfl) rfl
theorem dX11_trade_118 : decode cX11_trade 118 = .ok (.bipush 61, 2) := op16 (bA_at bd03_dec_X11_3_0 10 rfl rfl) (by decide +kernel)
theorem dX11_trade_120 : decode cX11_trade 120 = .ok (.iload_n 1, 1) := op27 (bA_at bd03_dec_X11_3_0 11 rfl rfl)
theorem bd03_dec_X11_3_1 : ([(0, [104]), (1, [28]), (2, [96]), (3, [51]), (4, [153, 0, 7]), (7, [4]), (8, [167, 0, 4]), (11, [3]), (12, [172])] : List (Nat × List UInt8)).all (fun x => prB x.2 ((cX11_trade.data.toList.drop 121).drop x.1)) = true := by decide +kernel
theorem dX11_trade_121 : decode cX11_trade 121 = .ok (.imul, 1) := op104 (bA_at bd03_dec_X11_3_1 0 rfl rfl)
theorem dX11_trade_122 : decode cX11_trade 122 = .ok (.iload_n 2, 1) := op28 (bA_at bd03_dec_X11_3_1 1 rfl rfl)
theorem dX11_trade_123 : decode cX11_trade 123 = .ok (.iadd, 1) := op96 (bA_at bd03_dec_X11_3_1 2 rfl rfl)
theorem dX11_trade_124 : decode cX11_trade 124 = .ok (.baload, 1) := op51 (bA_at bd03_dec_X11_3_1 3 rfl rfl)
theorem dX11_trade_125 : decode cX11_trade 125 = .ok (.ifCond .eq 7, 3) := op153 (bA_at bd03_dec_X11_3_1 4 rfl rfl) (by decide +kernel)
theorem dX11_trade_128 : decode cX11_trade 128 = .ok (.iconst 1, 1) := op4 (bA_at bd03_dec_X11_3_1 5 rfl rfl)
theorem dX11_trade_129 : decode cX11_trade 129 = .ok (.goto 4, 3) := op167 (bA_at bd03_dec_X11_3_1 6 rfl rfl) (by decide +kernel)
theorem dX11_trade_132 : decode cX11_trade 132 = .ok (.iconst 0, 1) := op3 (bA_at bd03_dec_X11_3_1 7 rfl rfl)
theorem dX11_trade_133 : decode cX11_trade 133 = .ok (.ireturn, 1) := op172 (bA_at bd03_dec_X11_3_1 8 rfl rfl)
theorem bd03_dec_X11_3_2 : ([(0, [42]), (1, [3]), (2, [181, 0, 97]), (5, [29]), (6, [3]), (7, [5]), (8, [184, 0, 109]), (11, [153, 0, 12]), (14, [42]), (15, [27]), (16, [28]), (17, [182, 1, 127])] : List (Nat × List UInt8)).all (fun x => prB x.2 ((cX11_odds.data.toList.drop 0).drop x.1)) = true := by decide +kernel
theorem dX11_odds_0 : decode cX11_odds 0 = .ok (.aload_n 0, 1) := op42 (bA_at bd03_dec_X11_3_2 0 rfl rfl)
theorem dX11_odds_1 : decode cX11_odds 1 = .ok (.iconst 0, 1) := op3 (bA_at bd03_dec_X11_3_2 1 rfl rfl)
theorem dX11_odds_2 : decode cX11_odds 2 = .ok (.putfield 97, 3) := op181 (bA_at bd03_dec_X11_3_2 2 rfl rfl) rfl
theorem dX11_odds_5 : decode cX11_odds 5 = .ok (.iload_n 3, 1) := op29 (bA_at bd03_dec_X11_3_2 3 rfl rfl)
theorem dX11_odds_6 : decode cX11_odds 6 = .ok (.iconst 0, 1) := op3 (bA_at bd03_dec_X11_3_2 4 rfl rfl)
theorem dX11_odds_7 : decode cX11_odds 7 = .ok (.iconst 2, 1) := op5 (bA_at bd03_dec_X11_3_2 5 rfl rfl)
theorem dX11_odds_8 : decode cX11_odds 8 = .ok (.invokestatic 109, 3) := op184 (bA_at bd03_dec_X11_3_2 6 rfl rfl) rfl
theorem dX11_odds_11 : decode cX11_odds 11 = .ok (.ifCond .eq 12, 3) := op153 (bA_at bd03_dec_X11_3_2 7 rfl rfl) (by decide +kernel)
theorem dX11_odds_14 : decode cX11_odds 14 = .ok (.aload_n 0, 1) := op42 (bA_at bd03_dec_X11_3_2 8 rfl rfl)
theorem dX11_odds_15 : decode cX11_odds 15 = .ok (.iload_n 1, 1) := op27 (bA_at bd03_dec_X11_3_2 9 rfl rfl)
theorem dX11_odds_16 : decode cX11_odds 16 = .ok (.iload_n 2, 1) := op28 (bA_at bd03_dec_X11_3_2 10 rfl rfl)
theorem dX11_odds_17 : decode cX11_odds 17 = .ok (.invokevirtual 383, 3) := op182 (bA_at bd03_dec_X11_3_2 11 rfl rfl) rfl
theorem bd03_dec_X11_3_3 : ([(0, [154, 0, 7]), (3, [20, 1, 247]), (6, [173]), (7, [42]), (8, [42]), (9, [182, 1, 78]), (12, [182, 1, 130]), (15, [87]), (16, [29]), (17, [5]), (18, [160, 0, 19]), (21, [42])] : List (Nat × List UInt8)).all (fun x => prB x.2 ((cX11_odds.data.toList.drop 20).drop x.1)) = true := by decide +kernel
theorem dX11_odds_20 : decode cX11_odds 20 = .ok (.ifCond .ne 7, 3) := op154 (bA_at bd03_dec_X11_3_3 0 rfl rfl) (by decide +kernel)
theorem dX11_odds_23 : decode cX11_odds 23 = .ok (.ldc2_w 503, 3) := op20 (bA_at bd03_dec_X11_3_3 1 rfl rfl) rfl
theorem dX11_odds_26 : decode cX11_odds 26 = .ok (.lreturn, 1) := op173 (bA_at bd03_dec_X11_3_3 2 rfl rfl)
theorem dX11_odds_27 : decode cX11_odds 27 = .ok (.aload_n 0, 1) := op42 (bA_at bd03_dec_X11_3_3 3 rfl rfl)
theorem dX11_odds_28 : decode cX11_odds 28 = .ok (.aload_n 0, 1) := op42 (bA_at bd03_dec_X11_3_3 4 rfl rfl)
theorem dX11_odds_29 : decode cX11_odds 29 = .ok (.invokevirtual 334, 3) := op182 (bA_at bd03_dec_X11_3_3 5 rfl rfl) rfl
theorem dX11_odds_32 : decode cX11_odds 32 = .ok (.invokevirtual 386, 3) := op182 (bA_at bd03_dec_X11_3_3 6 rfl rfl) rfl
theorem dX11_odds_35 : decode cX11_odds 35 = .ok (.pop, 1) := op87 (bA_at bd03_dec_X11_3_3 7 rfl rfl)
theorem dX11_odds_36 : decode cX11_odds 36 = .ok (.iload_n 3, 1) := op29 (bA_at bd03_dec_X11_3_3 8 rfl rfl)
theorem dX11_odds_37 : decode cX11_odds 37 = .ok (.iconst 2, 1) := op5 (bA_at bd03_dec_X11_3_3 9 rfl rfl)
theorem dX11_odds_38 : decode cX11_odds 38 = .ok (.if_icmp .ne 19, 3) := op160 (bA_at bd03_dec_X11_3_3 10 rfl rfl) (by decide +kernel)
theorem dX11_odds_41 : decode cX11_odds 41 = .ok (.aload_n 0, 1) := op42 (bA_at bd03_dec_X11_3_3 11 rfl rfl)
theorem bd03_dec_X11_3_4 : ([(0, [180, 1, 90]), (3, [16, 10]), (5, [42]), (6, [16, 6]), (8, [182, 1, 47]), (11, [100]), (12, [104]), (13, [133]), (14, [173]), (15, [42]), (16, [180, 1, 90]), (19, [16, 18])] : List (Nat × List UInt8)).all (fun x => prB x.2 ((cX11_odds.data.toList.drop 42).drop x.1)) = true := by decide +kernel
theorem dX11_odds_42 : decode cX11_odds 42 = .ok (.getfield 346, 3) := op180 (bA_at bd03_dec_X11_3_4 0 rfl rfl) rfl
theorem dX11_odds_45 : decode cX11_odds 45 = .ok (.bipush 10, 2) := op16 (bA_at bd03_dec_X11_3_4 1 rfl rfl) (by decide +kernel)
theorem dX11_odds_47 : decode cX11_odds 47 = .ok (.aload_n 0, 1) := op42 (bA_at bd03_dec_X11_3_4 2 rfl rfl)
theorem dX11_odds_48 : decode cX11_odds 48 = .ok (.bipush 6, 2) := op16 (bA_at bd03_dec_X11_3_4 3 rfl rfl) (by decide +kernel)
theorem dX11_odds_50 : decode cX11_odds 50 = .ok (.invokevirtual 303, 3) := op182 (bA_at bd03_dec_X11_3_4 4 rfl rfl) rfl
theorem dX11_odds_53 : decode cX11_odds 53 = .ok (.isub, 1) := op100 (bA_at bd03_dec_X11_3_4 5 rfl rfl)
theorem dX11_odds_54 : decode cX11_odds 54 = .ok (.imul, 1) := op104 (bA_at bd03_dec_X11_3_4 6 rfl rfl)
theorem dX11_odds_55 : decode cX11_odds 55 = .ok (.i2l, 1) := op133 (bA_at bd03_dec_X11_3_4 7 rfl rfl)
theorem dX11_odds_56 : decode cX11_odds 56 = .ok (.lreturn, 1) := op173 (bA_at bd03_dec_X11_3_4 8 rfl rfl)
theorem dX11_odds_57 : decode cX11_odds 57 = .ok (.aload_n 0, 1) := op42 (bA_at bd03_dec_X11_3_4 9 rfl rfl)
theorem dX11_odds_58 : decode cX11_odds 58 = .ok (.getfield 346, 3) := op180 (bA_at bd03_dec_X11_3_4 10 rfl rfl) rfl
theorem dX11_odds_61 : decode cX11_odds 61 = .ok (.bipush 18, 2) := op16 (bA_at bd03_dec_X11_3_4 11 rfl rfl) (by decide +kernel)
theorem bd03_dec_X11_3_5 : ([(0, [164, 0, 7]), (3, [20, 1, 247]), (6, [173]), (7, [42]), (8, [16, 6]), (10, [182, 1, 47]), (13, [153, 0, 14]), (16, [42]), (17, [16, 6]), (19, [182, 1, 47]), (22, [16, 10]), (24, [160, 0, 8])] : List (Nat × List UInt8)).all (fun x => prB x.2 ((cX11_odds.data.toList.drop 63).drop x.1)) = true := by decide +kernel
theorem dX11_odds_63 : decode cX11_odds 63 = .ok (.if_icmp .le 7, 3) := op164 (bA_at bd03_dec_X11_3_5 0 rfl rfl) (by decide +kernel)
theorem dX11_odds_66 : decode cX11_odds 66 = .ok (.ldc2_w 503, 3) := op20 (bA_at bd03_dec_X11_3_5 1 rfl rfl) rfl
theorem dX11_odds_69 : decode cX11_odds 69 = .ok (.lreturn, 1) := op173 (bA_at bd03_dec_X11_3_5 2 rfl rfl)
theorem dX11_odds_70 : decode cX11_odds 70 = .ok (.aload_n 0, 1) := op42 (bA_at bd03_dec_X11_3_5 3 rfl rfl)
theorem dX11_odds_71 : decode cX11_odds 71 = .ok (.bipush 6, 2) := op16 (bA_at bd03_dec_X11_3_5 4 rfl rfl) (by decide +kernel)
theorem dX11_odds_73 : decode cX11_odds 73 = .ok (.invokevirtual 303, 3) := op182 (bA_at bd03_dec_X11_3_5 5 rfl rfl) rfl
theorem dX11_odds_76 : decode cX11_odds 76 = .ok (.ifCond .eq 14, 3) := op153 (bA_at bd03_dec_X11_3_5 6 rfl rfl) (by decide +kernel)
theorem dX11_odds_79 : decode cX11_odds 79 = .ok (.aload_n 0, 1) := op42 (bA_at bd03_dec_X11_3_5 7 rfl rfl)
theorem dX11_odds_80 : decode cX11_odds 80 = .ok (.bipush 6, 2) := op16 (bA_at bd03_dec_X11_3_5 8 rfl rfl) (by decide +kernel)
theorem dX11_odds_82 : decode cX11_odds 82 = .ok (.invokevirtual 303, 3) := op182 (bA_at bd03_dec_X11_3_5 9 rfl rfl) rfl
theorem dX11_odds_85 : decode cX11_odds 85 = .ok (.bipush 10, 2) := op16 (bA_at bd03_dec_X11_3_5 10 rfl rfl) (by decide +kernel)
theorem dX11_odds_87 : decode cX11_odds 87 = .ok (.if_icmp .ne 8, 3) := op160 (bA_at bd03_dec_X11_3_5 11 rfl rfl) (by decide +kernel)
theorem bd03_dec_X11_3_6 : ([(0, [16, 10]), (2, [167, 0, 33]), (5, [42]), (6, [16, 6]), (8, [182, 1, 47]), (11, [8]), (12, [160, 0, 7]), (15, [8]), (16, [167, 0, 19]), (19, [42]), (20, [16, 6]), (22, [182, 1, 47])] : List (Nat × List UInt8)).all (fun x => prB x.2 ((cX11_odds.data.toList.drop 90).drop x.1)) = true := by decide +kernel
theorem dX11_odds_90 : decode cX11_odds 90 = .ok (.bipush 10, 2) := op16 (bA_at bd03_dec_X11_3_6 0 rfl rfl) (by decide +kernel)
theorem dX11_odds_92 : decode cX11_odds 92 = .ok (.goto 33, 3) := op167 (bA_at bd03_dec_X11_3_6 1 rfl rfl) (by decide +kernel)
theorem dX11_odds_95 : decode cX11_odds 95 = .ok (.aload_n 0, 1) := op42 (bA_at bd03_dec_X11_3_6 2 rfl rfl)
theorem dX11_odds_96 : decode cX11_odds 96 = .ok (.bipush 6, 2) := op16 (bA_at bd03_dec_X11_3_6 3 rfl rfl) (by decide +kernel)
theorem dX11_odds_98 : decode cX11_odds 98 = .ok (.invokevirtual 303, 3) := op182 (bA_at bd03_dec_X11_3_6 4 rfl rfl) rfl
theorem dX11_odds_101 : decode cX11_odds 101 = .ok (.iconst 5, 1) := op8 (bA_at bd03_dec_X11_3_6 5 rfl rfl)
theorem dX11_odds_102 : decode cX11_odds 102 = .ok (.if_icmp .ne 7, 3) := op160 (bA_at bd03_dec_X11_3_6 6 rfl rfl) (by decide +kernel)
theorem dX11_odds_105 : decode cX11_odds 105 = .ok (.iconst 5, 1) := op8 (bA_at bd03_dec_X11_3_6 7 rfl rfl)
theorem dX11_odds_106 : decode cX11_odds 106 = .ok (.goto 19, 3) := op167 (bA_at bd03_dec_X11_3_6 8 rfl rfl) (by decide +kernel)
theorem dX11_odds_109 : decode cX11_odds 109 = .ok (.aload_n 0, 1) := op42 (bA_at bd03_dec_X11_3_6 9 rfl rfl)
theorem dX11_odds_110 : decode cX11_odds 110 = .ok (.bipush 6, 2) := op16 (bA_at bd03_dec_X11_3_6 10 rfl rfl) (by decide +kernel)
theorem dX11_odds_112 : decode cX11_odds 112 = .ok (.invokevirtual 303, 3) := op182 (bA_at bd03_dec_X11_3_6 11 rfl rfl) rfl
theorem bd03_dec_X11_3_7 : ([(0, [5]), (1, [112]), (2, [154, 0, 7]), (5, [5]), (6, [167, 0, 4]), (9, [4]), (10, [54, 4]), (12, [10]), (13, [55, 5]), (15, [10]), (16, [55, 7]), (18, [3])] : List (Nat × List UInt8)).all (fun x => prB x.2 ((cX11_odds.data.toList.drop 115).drop x.1)) = true := by decide +kernel
theorem dX11_odds_115 : decode cX11_odds 115 = .ok (.iconst 2, 1) := op5 (bA_at bd03_dec_X11_3_7 0 rfl rfl)
theorem dX11_odds_116 : decode cX11_odds 116 = .ok (.irem, 1) := op112 (bA_at bd03_dec_X11_3_7 1 rfl rfl)
theorem dX11_odds_117 : decode cX11_odds 117 = .ok (.ifCond .ne 7, 3) := op154 (bA_at bd03_dec_X11_3_7 2 rfl rfl) (by decide +kernel)
theorem dX11_odds_120 : decode cX11_odds 120 = .ok (.iconst 2, 1) := op5 (bA_at bd03_dec_X11_3_7 3 rfl rfl)
theorem dX11_odds_121 : decode cX11_odds 121 = .ok (.goto 4, 3) := op167 (bA_at bd03_dec_X11_3_7 4 rfl rfl) (by decide +kernel)
theorem dX11_odds_124 : decode cX11_odds 124 = .ok (.iconst 1, 1) := op4 (bA_at bd03_dec_X11_3_7 5 rfl rfl)
theorem dX11_odds_125 : decode cX11_odds 125 = .ok (.istore 4, 2) := op54 (bA_at bd03_dec_X11_3_7 6 rfl rfl) rfl
theorem dX11_odds_127 : decode cX11_odds 127 = .ok (.lconst 1, 1) := op10 (bA_at bd03_dec_X11_3_7 7 rfl rfl)
theorem dX11_odds_128 : decode cX11_odds 128 = .ok (.lstore 5, 2) := op55 (bA_at bd03_dec_X11_3_7 8 rfl rfl) rfl
theorem dX11_odds_130 : decode cX11_odds 130 = .ok (.lconst 1, 1) := op10 (bA_at bd03_dec_X11_3_7 9 rfl rfl)
theorem dX11_odds_131 : decode cX11_odds 131 = .ok (.lstore 7, 2) := op55 (bA_at bd03_dec_X11_3_7 10 rfl rfl) rfl
theorem dX11_odds_133 : decode cX11_odds 133 = .ok (.iconst 0, 1) := op3 (bA_at bd03_dec_X11_3_7 11 rfl rfl)
theorem bd03_dec_X11_3_8 : ([(0, [54, 9]), (2, [21, 9]), (4, [42]), (5, [180, 1, 90]), (8, [162, 0, 35]), (11, [22, 5]), (13, [42]), (14, [16, 6]), (16, [182, 1, 47]), (19, [21, 4]), (21, [108]), (22, [133])] : List (Nat × List UInt8)).all (fun x => prB x.2 ((cX11_odds.data.toList.drop 134).drop x.1)) = true := by decide +kernel
theorem dX11_odds_134 : decode cX11_odds 134 = .ok (.istore 9, 2) := op54 (bA_at bd03_dec_X11_3_8 0 rfl rfl) rfl
theorem dX11_odds_136 : decode cX11_odds 136 = .ok (.iload 9, 2) := op21 (bA_at bd03_dec_X11_3_8 1 rfl rfl) rfl
theorem dX11_odds_138 : decode cX11_odds 138 = .ok (.aload_n 0, 1) := op42 (bA_at bd03_dec_X11_3_8 2 rfl rfl)
theorem dX11_odds_139 : decode cX11_odds 139 = .ok (.getfield 346, 3) := op180 (bA_at bd03_dec_X11_3_8 3 rfl rfl) rfl
theorem dX11_odds_142 : decode cX11_odds 142 = .ok (.if_icmp .ge 35, 3) := op162 (bA_at bd03_dec_X11_3_8 4 rfl rfl) (by decide +kernel)
theorem dX11_odds_145 : decode cX11_odds 145 = .ok (.lload 5, 2) := op22 (bA_at bd03_dec_X11_3_8 5 rfl rfl) rfl
theorem dX11_odds_147 : decode cX11_odds 147 = .ok (.aload_n 0, 1) := op42 (bA_at bd03_dec_X11_3_8 6 rfl rfl)
theorem dX11_odds_148 : decode cX11_odds 148 = .ok (.bipush 6, 2) := op16 (bA_at bd03_dec_X11_3_8 7 rfl rfl) (by decide +kernel)
theorem dX11_odds_150 : decode cX11_odds 150 = .ok (.invokevirtual 303, 3) := op182 (bA_at bd03_dec_X11_3_8 8 rfl rfl) rfl
theorem dX11_odds_153 : decode cX11_odds 153 = .ok (.iload 4, 2) := op21 (bA_at bd03_dec_X11_3_8 9 rfl rfl) rfl
theorem dX11_odds_155 : decode cX11_odds 155 = .ok (.idiv, 1) := op108 (bA_at bd03_dec_X11_3_8 10 rfl rfl)
theorem dX11_odds_156 : decode cX11_odds 156 = .ok (.i2l, 1) := op133 (bA_at bd03_dec_X11_3_8 11 rfl rfl)
theorem bd03_dec_X11_3_9 : ([(0, [105]), (1, [55, 5]), (3, [22, 7]), (5, [16, 10]), (7, [21, 4]), (9, [108]), (10, [133]), (11, [105]), (12, [55, 7]), (14, [132, 9, 1]), (17, [167, 255, 218]), (20, [29])] : List (Nat × List UInt8)).all (fun x => prB x.2 ((cX11_odds.data.toList.drop 157).drop x.1)) = true := by decide +kernel
theorem dX11_odds_157 : decode cX11_odds 157 = .ok (.lmul, 1) := op105 (bA_at bd03_dec_X11_3_9 0 rfl rfl)
theorem dX11_odds_158 : decode cX11_odds 158 = .ok (.lstore 5, 2) := op55 (bA_at bd03_dec_X11_3_9 1 rfl rfl) rfl
theorem dX11_odds_160 : decode cX11_odds 160 = .ok (.lload 7, 2) := op22 (bA_at bd03_dec_X11_3_9 2 rfl rfl) rfl
theorem dX11_odds_162 : decode cX11_odds 162 = .ok (.bipush 10, 2) := op16 (bA_at bd03_dec_X11_3_9 3 rfl rfl) (by decide +kernel)
theorem dX11_odds_164 : decode cX11_odds 164 = .ok (.iload 4, 2) := op21 (bA_at bd03_dec_X11_3_9 4 rfl rfl) rfl
theorem dX11_odds_166 : decode cX11_odds 166 = .ok (.idiv, 1) := op108 (bA_at bd03_dec_X11_3_9 5 rfl rfl)
theorem dX11_odds_167 : decode cX11_odds 167 = .ok (.i2l, 1) := op133 (bA_at bd03_dec_X11_3_9 6 rfl rfl)
theorem dX11_odds_168 : decode cX11_odds 168 = .ok (.lmul, 1) := op105 (bA_at bd03_dec_X11_3_9 7 rfl rfl)
theorem dX11_odds_169 : decode cX11_odds 169 = .ok (.lstore 7, 2) := op55 (bA_at bd03_dec_X11_3_9 8 rfl rfl) rfl
theorem dX11_odds_171 : decode cX11_odds 171 = .ok (.iinc 9 1, 3) := op132 (bA_at bd03_dec_X11_3_9 9 rfl rfl) rfl (by decide +kernel)
theorem dX11_odds_174 : decode cX11_odds 174 = .ok (.goto (-38), 3) := op167 (bA_at bd03_dec_X11_3_9 10 rfl rfl) (by decide +kernel)
theorem dX11_odds_177 : decode cX11_odds 177 = .ok (.iload_n 3, 1) := op29 (bA_at bd03_dec_X11_3_9 11 rfl rfl)
theorem bd03_dec_X11_3_10 : ([(0, [154, 0, 8]), (3, [22, 5]), (5, [167, 0, 5]), (8, [22, 7]), (10, [173])] : List (Nat × List UInt8)).all (fun x => prB x.2 ((cX11_odds.data.toList.drop 178).drop x.1)) = true := by decide +kernel
theorem dX11_odds_178 : decode cX11_odds 178 = .ok (.ifCond .ne 8, 3) := op154 (bA_at bd03_dec_X11_3_10 0 rfl rfl) (by decide +kernel)
theorem dX11_odds_181 : decode cX11_odds 181 = .ok (.lload 5, 2) := op22 (bA_at bd03_dec_X11_3_10 1 rfl rfl) rfl
theorem dX11_odds_183 : decode cX11_odds 183 = .ok (.goto 5, 3) := op167 (bA_at bd03_dec_X11_3_10 2 rfl rfl) (by decide +kernel)
theorem dX11_odds_186 : decode cX11_odds 186 = .ok (.lload 7, 2) := op22 (bA_at bd03_dec_X11_3_10 3 rfl rfl) rfl
theorem dX11_odds_188 : decode cX11_odds 188 = .ok (.lreturn, 1) := op173 (bA_at bd03_dec_X11_3_10 4 rfl rfl)
theorem bd03_dec_X11_3_11 : ([(0, [42]), (1, [42]), (2, [180, 2, 3]), (5, [19, 2, 6]), (8, [104]), (9, [17, 48, 57]), (12, [96]), (13, [181, 2, 3]), (16, [42]), (17, [180, 2, 3]), (20, [16, 16]), (22, [124])] : List (Nat × List UInt8)).all (fun x => prB x.2 ((cX11_draw.data.toList.drop 0).drop x.1)) = true := by decide +kernel
theorem dX11_draw_0 : decode cX11_draw 0 = .ok (.aload_n 0, 1) := op42 (bA_at bd03_dec_X11_3_11 0 rfl rfl)
theorem dX11_draw_1 : decode cX11_draw 1 = .ok (.aload_n 0, 1) := op42 (bA_at bd03_dec_X11_3_11 1 rfl rfl)
theorem dX11_draw_2 : decode cX11_draw 2 = .ok (.getfield 515, 3) := op180 (bA_at bd03_dec_X11_3_11 2 rfl rfl) rfl
theorem dX11_draw_5 : decode cX11_draw 5 = .ok (.ldc_w 518, 3) := op19 (bA_at bd03_dec_X11_3_11 3 rfl rfl) rfl
theorem dX11_draw_8 : decode cX11_draw 8 = .ok (.imul, 1) := op104 (bA_at bd03_dec_X11_3_11 4 rfl rfl)
theorem dX11_draw_9 : decode cX11_draw 9 = .ok (.sipush 12345, 3) := op17 (bA_at bd03_dec_X11_3_11 5 rfl rfl) (by decide +kernel)
theorem dX11_draw_12 : decode cX11_draw 12 = .ok (.iadd, 1) := op96 (bA_at bd03_dec_X11_3_11 6 rfl rfl)
theorem dX11_draw_13 : decode cX11_draw 13 = .ok (.putfield 515, 3) := op181 (bA_at bd03_dec_X11_3_11 7 rfl rfl) rfl
theorem dX11_draw_16 : decode cX11_draw 16 = .ok (.aload_n 0, 1) := op42 (bA_at bd03_dec_X11_3_11 8 rfl rfl)
theorem dX11_draw_17 : decode cX11_draw 17 = .ok (.getfield 515, 3) := op180 (bA_at bd03_dec_X11_3_11 9 rfl rfl) rfl
theorem dX11_draw_20 : decode cX11_draw 20 = .ok (.bipush 16, 2) := op16 (bA_at bd03_dec_X11_3_11 10 rfl rfl) (by decide +kernel)
theorem dX11_draw_22 : decode cX11_draw 22 = .ok (.iushr, 1) := op124 (bA_at bd03_dec_X11_3_11 11 rfl rfl)
theorem bd03_dec_X11_3_12 : ([(0, [27]), (1, [112]), (2, [172])] : List (Nat × List UInt8)).all (fun x => prB x.2 ((cX11_draw.data.toList.drop 23).drop x.1)) = true := by decide +kernel
theorem dX11_draw_23 : decode cX11_draw 23 = .ok (.iload_n 1, 1) := op27 (bA_at bd03_dec_X11_3_12 0 rfl rfl)
theorem dX11_draw_24 : decode cX11_draw 24 = .ok (.irem, 1) := op112 (bA_at bd03_dec_X11_3_12 1 rfl rfl)
theorem dX11_draw_25 : decode cX11_draw 25 = .ok (.ireturn, 1) := op172 (bA_at bd03_dec_X11_3_12 2 rfl rfl)
theorem bd03_dec_X11_3_13 : ([(0, [42]), (1, [42]), (2, [180, 1, 54]), (5, [182, 2, 7]), (8, [60]), (9, [42]), (10, [16, 8]), (12, [182, 2, 7]), (15, [6]), (16, [162, 0, 18]), (19, [42]), (20, [27])] : List (Nat × List UInt8)).all (fun x => prB x.2 ((cX11_drawDeed.data.toList.drop 0).drop x.1)) = true := by decide +kernel
theorem dX11_drawDeed_0 : decode cX11_drawDeed 0 = .ok (.aload_n 0, 1) := op42 (bA_at bd03_dec_X11_3_13 0 rfl rfl)
theorem dX11_drawDeed_1 : decode cX11_drawDeed 1 = .ok (.aload_n 0, 1) := op42 (bA_at bd03_dec_X11_3_13 1 rfl rfl)
theorem dX11_drawDeed_2 : decode cX11_drawDeed 2 = .ok (.getfield 310, 3) := op180 (bA_at bd03_dec_X11_3_13 2 rfl rfl) rfl
theorem dX11_drawDeed_5 : decode cX11_drawDeed 5 = .ok (.invokevirtual 519, 3) := op182 (bA_at bd03_dec_X11_3_13 3 rfl rfl) rfl
theorem dX11_drawDeed_8 : decode cX11_drawDeed 8 = .ok (.istore_n 1, 1) := op60 (bA_at bd03_dec_X11_3_13 4 rfl rfl)
theorem dX11_drawDeed_9 : decode cX11_drawDeed 9 = .ok (.aload_n 0, 1) := op42 (bA_at bd03_dec_X11_3_13 5 rfl rfl)
theorem dX11_drawDeed_10 : decode cX11_drawDeed 10 = .ok (.bipush 8, 2) := op16 (bA_at bd03_dec_X11_3_13 6 rfl rfl) (by decide +kernel)
theorem dX11_drawDeed_12 : decode cX11_drawDeed 12 = .ok (.invokevirtual 519, 3) := op182 (bA_at bd03_dec_X11_3_13 7 rfl rfl) rfl
theorem dX11_drawDeed_15 : decode cX11_drawDeed 15 = .ok (.iconst 3, 1) := op6 (bA_at bd03_dec_X11_3_13 8 rfl rfl)
theorem dX11_drawDeed_16 : decode cX11_drawDeed 16 = .ok (.if_icmp .ge 18, 3) := op162 (bA_at bd03_dec_X11_3_13 9 rfl rfl) (by decide +kernel)
theorem dX11_drawDeed_19 : decode cX11_drawDeed 19 = .ok (.aload_n 0, 1) := op42 (bA_at bd03_dec_X11_3_13 10 rfl rfl)
theorem dX11_drawDeed_20 : decode cX11_drawDeed 20 = .ok (.iload_n 1, 1) := op27 (bA_at bd03_dec_X11_3_13 11 rfl rfl)
theorem bd03_dec_X11_3_14 : ([(0, [42]), (1, [42]), (2, [180, 1, 51]), (5, [182, 2, 7]), (8, [182, 1, 118]), (11, [87]), (12, [177]), (13, [42]), (14, [8]), (15, [182, 2, 7]), (18, [61]), (19, [42])] : List (Nat × List UInt8)).all (fun x => prB x.2 ((cX11_drawDeed.data.toList.drop 21).drop x.1)) = true := by decide +kernel
theorem dX11_drawDeed_21 : decode cX11_drawDeed 21 = .ok (.aload_n 0, 1) := op42 (bA_at bd03_dec_X11_3_14 0 rfl rfl)
theorem dX11_drawDeed_22 : decode cX11_drawDeed 22 = .ok (.aload_n 0, 1) := op42 (bA_at bd03_dec_X11_3_14 1 rfl rfl)
theorem dX11_drawDeed_23 : decode cX11_drawDeed 23 = .ok (.getfield 307, 3) := op180 (bA_at bd03_dec_X11_3_14 2 rfl rfl) rfl
theorem dX11_drawDeed_26 : decode cX11_drawDeed 26 = .ok (.invokevirtual 519, 3) := op182 (bA_at bd03_dec_X11_3_14 3 rfl rfl) rfl
theorem dX11_drawDeed_29 : decode cX11_drawDeed 29 = .ok (.invokevirtual 374, 3) := op182 (bA_at bd03_dec_X11_3_14 4 rfl rfl) rfl
theorem dX11_drawDeed_32 : decode cX11_drawDeed 32 = .ok (.pop, 1) := op87 (bA_at bd03_dec_X11_3_14 5 rfl rfl)
theorem dX11_drawDeed_33 : decode cX11_drawDeed 33 = .ok (.return_, 1) := op177 (bA_at bd03_dec_X11_3_14 6 rfl rfl)
theorem dX11_drawDeed_34 : decode cX11_drawDeed 34 = .ok (.aload_n 0, 1) := op42 (bA_at bd03_dec_X11_3_14 7 rfl rfl)
theorem dX11_drawDeed_35 : decode cX11_drawDeed 35 = .ok (.iconst 5, 1) := op8 (bA_at bd03_dec_X11_3_14 8 rfl rfl)
theorem dX11_drawDeed_36 : decode cX11_drawDeed 36 = .ok (.invokevirtual 519, 3) := op182 (bA_at bd03_dec_X11_3_14 9 rfl rfl) rfl
theorem dX11_drawDeed_39 : decode cX11_drawDeed 39 = .ok (.istore_n 2, 1) := op61 (bA_at bd03_dec_X11_3_14 10 rfl rfl)
theorem dX11_drawDeed_40 : decode cX11_drawDeed 40 = .ok (.aload_n 0, 1) := op42 (bA_at bd03_dec_X11_3_14 11 rfl rfl)
theorem bd03_dec_X11_3_15 : ([(0, [27]), (1, [28]), (2, [182, 1, 108]), (5, [153, 0, 12]), (8, [42]), (9, [27]), (10, [28]), (11, [182, 1, 102]), (14, [167, 0, 19]), (17, [42]), (18, [27]), (19, [28])] : List (Nat × List UInt8)).all (fun x => prB x.2 ((cX11_drawDeed.data.toList.drop 41).drop x.1)) = true := by decide +kernel
theorem dX11_drawDeed_41 : decode cX11_drawDeed 41 = .ok (.iload_n 1, 1) := op27 (bA_at bd03_dec_X11_3_15 0 rfl rfl)
theorem dX11_drawDeed_42 : decode cX11_drawDeed 42 = .ok (.iload_n 2, 1) := op28 (bA_at bd03_dec_X11_3_15 1 rfl rfl)
theorem dX11_drawDeed_43 : decode cX11_drawDeed 43 = .ok (.invokevirtual 364, 3) := op182 (bA_at bd03_dec_X11_3_15 2 rfl rfl) rfl
theorem dX11_drawDeed_46 : decode cX11_drawDeed 46 = .ok (.ifCond .eq 12, 3) := op153 (bA_at bd03_dec_X11_3_15 3 rfl rfl) (by decide +kernel)
theorem dX11_drawDeed_49 : decode cX11_drawDeed 49 = .ok (.aload_n 0, 1) := op42 (bA_at bd03_dec_X11_3_15 4 rfl rfl)
theorem dX11_drawDeed_50 : decode cX11_drawDeed 50 = .ok (.iload_n 1, 1) := op27 (bA_at bd03_dec_X11_3_15 5 rfl rfl)
theorem dX11_drawDeed_51 : decode cX11_drawDeed 51 = .ok (.iload_n 2, 1) := op28 (bA_at bd03_dec_X11_3_15 6 rfl rfl)
theorem dX11_drawDeed_52 : decode cX11_drawDeed 52 = .ok (.invokevirtual 358, 3) := op182 (bA_at bd03_dec_X11_3_15 7 rfl rfl) rfl
theorem dX11_drawDeed_55 : decode cX11_drawDeed 55 = .ok (.goto 19, 3) := op167 (bA_at bd03_dec_X11_3_15 8 rfl rfl) (by decide +kernel)
theorem dX11_drawDeed_58 : decode cX11_drawDeed 58 = .ok (.aload_n 0, 1) := op42 (bA_at bd03_dec_X11_3_15 9 rfl rfl)
theorem dX11_drawDeed_59 : decode cX11_drawDeed 59 = .ok (.iload_n 1, 1) := op27 (bA_at bd03_dec_X11_3_15 10 rfl rfl)
theorem dX11_drawDeed_60 : decode cX11_drawDeed 60 = .ok (.iload_n 2, 1) := op28 (bA_at bd03_dec_X11_3_15 11 rfl rfl)
theorem bd03_dec_X11_3_16 : ([(0, [182, 1, 111]), (3, [153, 0, 10]), (6, [42]), (7, [27]), (8, [28]), (9, [3]), (10, [182, 1, 114]), (13, [177])] : List (Nat × List UInt8)).all (fun x => prB x.2 ((cX11_drawDeed.data.toList.drop 61).drop x.1)) = true := by decide +kernel
theorem dX11_drawDeed_61 : decode cX11_drawDeed 61 = .ok (.invokevirtual 367, 3) := op182 (bA_at bd03_dec_X11_3_16 0 rfl rfl) rfl
theorem dX11_drawDeed_64 : decode cX11_drawDeed 64 = .ok (.ifCond .eq 10, 3) := op153 (bA_at bd03_dec_X11_3_16 1 rfl rfl) (by decide +kernel)
theorem dX11_drawDeed_67 : decode cX11_drawDeed 67 = .ok (.aload_n 0, 1) := op42 (bA_at bd03_dec_X11_3_16 2 rfl rfl)
theorem dX11_drawDeed_68 : decode cX11_drawDeed 68 = .ok (.iload_n 1, 1) := op27 (bA_at bd03_dec_X11_3_16 3 rfl rfl)
theorem dX11_drawDeed_69 : decode cX11_drawDeed 69 = .ok (.iload_n 2, 1) := op28 (bA_at bd03_dec_X11_3_16 4 rfl rfl)
theorem dX11_drawDeed_70 : decode cX11_drawDeed 70 = .ok (.iconst 0, 1) := op3 (bA_at bd03_dec_X11_3_16 5 rfl rfl)
theorem dX11_drawDeed_71 : decode cX11_drawDeed 71 = .ok (.invokevirtual 370, 3) := op182 (bA_at bd03_dec_X11_3_16 6 rfl rfl) rfl
theorem dX11_drawDeed_74 : decode cX11_drawDeed 74 = .ok (.return_, 1) := op177 (bA_at bd03_dec_X11_3_16 7 rfl rfl)
theorem bd03_dec_X11_3_17 : ([(0, [42]), (1, [3]), (2, [181, 0, 97]), (5, [29]), (6, [3]), (7, [16, 60]), (9, [184, 0, 109]), (12, [153, 0, 18]), (15, [42]), (16, [27]), (17, [182, 1, 57]), (20, [153, 0, 10])] : List (Nat × List UInt8)).all (fun x => prB x.2 ((cX11_drawn.data.toList.drop 0).drop x.1)) = true := by decide +kernel
theorem dX11_drawn_0 : decode cX11_drawn 0 = .ok (.aload_n 0, 1) := op42 (bA_at bd03_dec_X11_3_17 0 rfl rfl)
theorem dX11_drawn_1 : decode cX11_drawn 1 = .ok (.iconst 0, 1) := op3 (bA_at bd03_dec_X11_3_17 1 rfl rfl)
theorem dX11_drawn_2 : decode cX11_drawn 2 = .ok (.putfield 97, 3) := op181 (bA_at bd03_dec_X11_3_17 2 rfl rfl) rfl
theorem dX11_drawn_5 : decode cX11_drawn 5 = .ok (.iload_n 3, 1) := op29 (bA_at bd03_dec_X11_3_17 3 rfl rfl)
theorem dX11_drawn_6 : decode cX11_drawn 6 = .ok (.iconst 0, 1) := op3 (bA_at bd03_dec_X11_3_17 4 rfl rfl)
theorem dX11_drawn_7 : decode cX11_drawn 7 = .ok (.bipush 60, 2) := op16 (bA_at bd03_dec_X11_3_17 5 rfl rfl) (by decide +kernel)
theorem dX11_drawn_9 : decode cX11_drawn 9 = .ok (.invokestatic 109, 3) := op184 (bA_at bd03_dec_X11_3_17 6 rfl rfl) rfl
theorem dX11_drawn_12 : decode cX11_drawn 12 = .ok (.ifCond .eq 18, 3) := op153 (bA_at bd03_dec_X11_3_17 7 rfl rfl) (by decide +kernel)
theorem dX11_drawn_15 : decode cX11_drawn 15 = .ok (.aload_n 0, 1) := op42 (bA_at bd03_dec_X11_3_17 8 rfl rfl)
theorem dX11_drawn_16 : decode cX11_drawn 16 = .ok (.iload_n 1, 1) := op27 (bA_at bd03_dec_X11_3_17 9 rfl rfl)
theorem dX11_drawn_17 : decode cX11_drawn 17 = .ok (.invokevirtual 313, 3) := op182 (bA_at bd03_dec_X11_3_17 10 rfl rfl) rfl
theorem dX11_drawn_20 : decode cX11_drawn 20 = .ok (.ifCond .eq 10, 3) := op153 (bA_at bd03_dec_X11_3_17 11 rfl rfl) (by decide +kernel)
theorem bd03_dec_X11_3_18 : ([(0, [42]), (1, [180, 1, 54]), (4, [154, 0, 7]), (7, [17, 252, 24]), (10, [172]), (11, [42]), (12, [28]), (13, [181, 2, 3]), (16, [42]), (17, [182, 1, 121]), (20, [3]), (21, [54, 5])] : List (Nat × List UInt8)).all (fun x => prB x.2 ((cX11_drawn.data.toList.drop 23).drop x.1)) = true := by decide +kernel
theorem dX11_drawn_23 : decode cX11_drawn 23 = .ok (.aload_n 0, 1) := op42 (bA_at bd03_dec_X11_3_18 0 rfl rfl)
theorem dX11_drawn_24 : decode cX11_drawn 24 = .ok (.getfield 310, 3) := op180 (bA_at bd03_dec_X11_3_18 1 rfl rfl) rfl
theorem dX11_drawn_27 : decode cX11_drawn 27 = .ok (.ifCond .ne 7, 3) := op154 (bA_at bd03_dec_X11_3_18 2 rfl rfl) (by decide +kernel)
theorem dX11_drawn_30 : decode cX11_drawn 30 = .ok (.sipush (-1000), 3) := op17 (bA_at bd03_dec_X11_3_18 3 rfl rfl) (by decide +kernel)
theorem dX11_drawn_33 : decode cX11_drawn 33 = .ok (.ireturn, 1) := op172 (bA_at bd03_dec_X11_3_18 4 rfl rfl)
theorem dX11_drawn_34 : decode cX11_drawn 34 = .ok (.aload_n 0, 1) := op42 (bA_at bd03_dec_X11_3_18 5 rfl rfl)
theorem dX11_drawn_35 : decode cX11_drawn 35 = .ok (.iload_n 2, 1) := op28 (bA_at bd03_dec_X11_3_18 6 rfl rfl)
theorem dX11_drawn_36 : decode cX11_drawn 36 = .ok (.putfield 515, 3) := op181 (bA_at bd03_dec_X11_3_18 7 rfl rfl) rfl
theorem dX11_drawn_39 : decode cX11_drawn 39 = .ok (.aload_n 0, 1) := op42 (bA_at bd03_dec_X11_3_18 8 rfl rfl)
theorem dX11_drawn_40 : decode cX11_drawn 40 = .ok (.invokevirtual 377, 3) := op182 (bA_at bd03_dec_X11_3_18 9 rfl rfl) rfl
theorem dX11_drawn_43 : decode cX11_drawn 43 = .ok (.iconst 0, 1) := op3 (bA_at bd03_dec_X11_3_18 10 rfl rfl)
theorem dX11_drawn_44 : decode cX11_drawn 44 = .ok (.istore 5, 2) := op54 (bA_at bd03_dec_X11_3_18 11 rfl rfl) rfl
theorem bd03_dec_X11_3_19 : ([(0, [21, 5]), (2, [29]), (3, [162, 0, 13]), (6, [42]), (7, [182, 2, 10]), (10, [132, 5, 1]), (13, [167, 255, 243]), (16, [42]), (17, [21, 4]), (19, [182, 1, 151]), (22, [172])] : List (Nat × List UInt8)).all (fun x => prB x.2 ((cX11_drawn.data.toList.drop 46).drop x.1)) = true := by decide +kernel
theorem dX11_drawn_46 : decode cX11_drawn 46 = .ok (.iload 5, 2) := op21 (bA_at bd03_dec_X11_3_19 0 rfl rfl) rfl
theorem dX11_drawn_48 : decode cX11_drawn 48 = .ok (.iload_n 3, 1) := op29 (bA_at bd03_dec_X11_3_19 1 rfl rfl)
theorem dX11_drawn_49 : decode cX11_drawn 49 = .ok (.if_icmp .ge 13, 3) := op162 (bA_at bd03_dec_X11_3_19 2 rfl rfl) (by decide +kernel)
theorem dX11_drawn_52 : decode cX11_drawn 52 = .ok (.aload_n 0, 1) := op42 (bA_at bd03_dec_X11_3_19 3 rfl rfl)
theorem dX11_drawn_53 : decode cX11_drawn 53 = .ok (.invokevirtual 522, 3) := op182 (bA_at bd03_dec_X11_3_19 4 rfl rfl) rfl
theorem dX11_drawn_56 : decode cX11_drawn 56 = .ok (.iinc 5 1, 3) := op132 (bA_at bd03_dec_X11_3_19 5 rfl rfl) rfl (by decide +kernel)
theorem dX11_drawn_59 : decode cX11_drawn 59 = .ok (.goto (-13), 3) := op167 (bA_at bd03_dec_X11_3_19 6 rfl rfl) (by decide +kernel)
theorem dX11_drawn_62 : decode cX11_drawn 62 = .ok (.aload_n 0, 1) := op42 (bA_at bd03_dec_X11_3_19 7 rfl rfl)
theorem dX11_drawn_63 : decode cX11_drawn 63 = .ok (.iload 4, 2) := op21 (bA_at bd03_dec_X11_3_19 8 rfl rfl) rfl
theorem dX11_drawn_65 : decode cX11_drawn 65 = .ok (.invokevirtual 407, 3) := op182 (bA_at bd03_dec_X11_3_19 9 rfl rfl) rfl
theorem dX11_drawn_68 : decode cX11_drawn 68 = .ok (.ireturn, 1) := op172 (bA_at bd03_dec_X11_3_19 10 rfl rfl)
theorem bd03_dec_X11_3_20 : ([(0, [42]), (1, [3]), (2, [181, 0, 97]), (5, [42]), (6, [27]), (7, [182, 1, 57]), (10, [153, 0, 31]), (13, [42]), (14, [28]), (15, [182, 1, 60]), (18, [153, 0, 23]), (21, [29])] : List (Nat × List UInt8)).all (fun x => prB x.2 ((cX11_psalm.data.toList.drop 0).drop x.1)) = true := by decide +kernel
theorem dX11_psalm_0 : decode cX11_psalm 0 = .ok (.aload_n 0, 1) := op42 (bA_at bd03_dec_X11_3_20 0 rfl rfl)
theorem dX11_psalm_1 : decode cX11_psalm 1 = .ok (.iconst 0, 1) := op3 (bA_at bd03_dec_X11_3_20 1 rfl rfl)
theorem dX11_psalm_2 : decode cX11_psalm 2 = .ok (.putfield 97, 3) := op181 (bA_at bd03_dec_X11_3_20 2 rfl rfl) rfl
theorem dX11_psalm_5 : decode cX11_psalm 5 = .ok (.aload_n 0, 1) := op42 (bA_at bd03_dec_X11_3_20 3 rfl rfl)
theorem dX11_psalm_6 : decode cX11_psalm 6 = .ok (.iload_n 1, 1) := op27 (bA_at bd03_dec_X11_3_20 4 rfl rfl)
theorem dX11_psalm_7 : decode cX11_psalm 7 = .ok (.invokevirtual 313, 3) := op182 (bA_at bd03_dec_X11_3_20 5 rfl rfl) rfl
theorem dX11_psalm_10 : decode cX11_psalm 10 = .ok (.ifCond .eq 31, 3) := op153 (bA_at bd03_dec_X11_3_20 6 rfl rfl) (by decide +kernel)
theorem dX11_psalm_13 : decode cX11_psalm 13 = .ok (.aload_n 0, 1) := op42 (bA_at bd03_dec_X11_3_20 7 rfl rfl)
theorem dX11_psalm_14 : decode cX11_psalm 14 = .ok (.iload_n 2, 1) := op28 (bA_at bd03_dec_X11_3_20 8 rfl rfl)
theorem dX11_psalm_15 : decode cX11_psalm 15 = .ok (.invokevirtual 316, 3) := op182 (bA_at bd03_dec_X11_3_20 9 rfl rfl) rfl
theorem dX11_psalm_18 : decode cX11_psalm 18 = .ok (.ifCond .eq 23, 3) := op153 (bA_at bd03_dec_X11_3_20 10 rfl rfl) (by decide +kernel)
theorem dX11_psalm_21 : decode cX11_psalm 21 = .ok (.iload_n 3, 1) := op29 (bA_at bd03_dec_X11_3_20 11 rfl rfl)
theorem bd03_dec_X11_3_21 : ([(0, [3]), (1, [16, 99]), (3, [184, 0, 109]), (6, [153, 0, 13]), (9, [21, 4]), (11, [3]), (12, [5]), (13, [184, 0, 109]), (16, [154, 0, 6]), (19, [16, 254]), (21, [172]), (22, [3])] : List (Nat × List UInt8)).all (fun x => prB x.2 ((cX11_psalm.data.toList.drop 22).drop x.1)) = true := by decide +kernel
theorem dX11_psalm_22 : decode cX11_psalm 22 = .ok (.iconst 0, 1) := op3 (bA_at bd03_dec_X11_3_21 0 rfl rfl)
theorem dX11_psalm_23 : decode cX11_psalm 23 = .ok (.bipush 99, 2) := op16 (bA_at bd03_dec_X11_3_21 1 rfl rfl) (by decide +kernel)
theorem dX11_psalm_25 : decode cX11_psalm 25 = .ok (.invokestatic 109, 3) := op184 (bA_at bd03_dec_X11_3_21 2 rfl rfl) rfl
theorem dX11_psalm_28 : decode cX11_psalm 28 = .ok (.ifCond .eq 13, 3) := op153 (bA_at bd03_dec_X11_3_21 3 rfl rfl) (by decide +kernel)
theorem dX11_psalm_31 : decode cX11_psalm 31 = .ok (.iload 4, 2) := op21 (bA_at bd03_dec_X11_3_21 4 rfl rfl) rfl
theorem dX11_psalm_33 : decode cX11_psalm 33 = .ok (.iconst 0, 1) := op3 (bA_at bd03_dec_X11_3_21 5 rfl rfl)
theorem dX11_psalm_34 : decode cX11_psalm 34 = .ok (.iconst 2, 1) := op5 (bA_at bd03_dec_X11_3_21 6 rfl rfl)
theorem dX11_psalm_35 : decode cX11_psalm 35 = .ok (.invokestatic 109, 3) := op184 (bA_at bd03_dec_X11_3_21 7 rfl rfl) rfl
theorem dX11_psalm_38 : decode cX11_psalm 38 = .ok (.ifCond .ne 6, 3) := op154 (bA_at bd03_dec_X11_3_21 8 rfl rfl) (by decide +kernel)
theorem dX11_psalm_41 : decode cX11_psalm 41 = .ok (.bipush (-2), 2) := op16 (bA_at bd03_dec_X11_3_21 9 rfl rfl) (by decide +kernel)
theorem dX11_psalm_43 : decode cX11_psalm 43 = .ok (.ireturn, 1) := op172 (bA_at bd03_dec_X11_3_21 10 rfl rfl)
theorem dX11_psalm_44 : decode cX11_psalm 44 = .ok (.iconst 0, 1) := op3 (bA_at bd03_dec_X11_3_21 11 rfl rfl)
theorem bd03_dec_X11_3_22 : ([(0, [54, 5]), (2, [2]), (3, [54, 6]), (5, [19, 1, 154]), (8, [54, 7]), (10, [3]), (11, [54, 8]), (13, [21, 8]), (15, [42]), (16, [180, 1, 51]), (19, [162, 0, 78]), (22, [42])] : List (Nat × List UInt8)).all (fun x => prB x.2 ((cX11_psalm.data.toList.drop 45).drop x.1)) = true := by decide +kernel
theorem dX11_psalm_45 : decode cX11_psalm 45 = .ok (.istore 5, 2) := op54 (bA_at bd03_dec_X11_3_22 0 rfl rfl) rfl
theorem dX11_psalm_47 : decode cX11_psalm 47 = .ok (.iconst (-1), 1) := op2 (bA_at bd03_dec_X11_3_22 1 rfl rfl)
theorem dX11_psalm_48 : decode cX11_psalm 48 = .ok (.istore 6, 2) := op54 (bA_at bd03_dec_X11_3_22 2 rfl rfl) rfl
theorem dX11_psalm_50 : decode cX11_psalm 50 = .ok (.ldc_w 410, 3) := op19 (bA_at bd03_dec_X11_3_22 3 rfl rfl) rfl
theorem dX11_psalm_53 : decode cX11_psalm 53 = .ok (.istore 7, 2) := op54 (bA_at bd03_dec_X11_3_22 4 rfl rfl) rfl
theorem dX11_psalm_55 : decode cX11_psalm 55 = .ok (.iconst 0, 1) := op3 (bA_at bd03_dec_X11_3_22 5 rfl rfl)
theorem dX11_psalm_56 : decode cX11_psalm 56 = .ok (.istore 8, 2) := op54 (bA_at bd03_dec_X11_3_22 6 rfl rfl) rfl
theorem dX11_psalm_58 : decode cX11_psalm 58 = .ok (.iload 8, 2) := op21 (bA_at bd03_dec_X11_3_22 7 rfl rfl) rfl
theorem dX11_psalm_60 : decode cX11_psalm 60 = .ok (.aload_n 0, 1) := op42 (bA_at bd03_dec_X11_3_22 8 rfl rfl)
theorem dX11_psalm_61 : decode cX11_psalm 61 = .ok (.getfield 307, 3) := op180 (bA_at bd03_dec_X11_3_22 9 rfl rfl) rfl
theorem dX11_psalm_64 : decode cX11_psalm 64 = .ok (.if_icmp .ge 78, 3) := op162 (bA_at bd03_dec_X11_3_22 10 rfl rfl) (by decide +kernel)
theorem dX11_psalm_67 : decode cX11_psalm 67 = .ok (.aload_n 0, 1) := op42 (bA_at bd03_dec_X11_3_22 11 rfl rfl)
theorem bd03_dec_X11_3_23 : ([(0, [21, 8]), (2, [3]), (3, [182, 1, 158]), (6, [42]), (7, [180, 0, 59]), (10, [28]), (11, [46]), (12, [29]), (13, [163, 0, 55]), (16, [21, 5]), (18, [4]), (19, [21, 8])] : List (Nat × List UInt8)).all (fun x => prB x.2 ((cX11_psalm.data.toList.drop 68).drop x.1)) = true := by decide +kernel
theorem dX11_psalm_68 : decode cX11_psalm 68 = .ok (.iload 8, 2) := op21 (bA_at bd03_dec_X11_3_23 0 rfl rfl) rfl
theorem dX11_psalm_70 : decode cX11_psalm 70 = .ok (.iconst 0, 1) := op3 (bA_at bd03_dec_X11_3_23 1 rfl rfl)
theorem dX11_psalm_71 : decode cX11_psalm 71 = .ok (.invokevirtual 414, 3) := op182 (bA_at bd03_dec_X11_3_23 2 rfl rfl) rfl
theorem dX11_psalm_74 : decode cX11_psalm 74 = .ok (.aload_n 0, 1) := op42 (bA_at bd03_dec_X11_3_23 3 rfl rfl)
theorem dX11_psalm_75 : decode cX11_psalm 75 = .ok (.getfield 59, 3) := op180 (bA_at bd03_dec_X11_3_23 4 rfl rfl) rfl
theorem dX11_psalm_78 : decode cX11_psalm 78 = .ok (.iload_n 2, 1) := op28 (bA_at bd03_dec_X11_3_23 5 rfl rfl)
theorem dX11_psalm_79 : decode cX11_psalm 79 = .ok (.iaload, 1) := op46 (bA_at bd03_dec_X11_3_23 6 rfl rfl)
theorem dX11_psalm_80 : decode cX11_psalm 80 = .ok (.iload_n 3, 1) := op29 (bA_at bd03_dec_X11_3_23 7 rfl rfl)
theorem dX11_psalm_81 : decode cX11_psalm 81 = .ok (.if_icmp .gt 55, 3) := op163 (bA_at bd03_dec_X11_3_23 8 rfl rfl) (by decide +kernel)
theorem dX11_psalm_84 : decode cX11_psalm 84 = .ok (.iload 5, 2) := op21 (bA_at bd03_dec_X11_3_23 9 rfl rfl) rfl
theorem dX11_psalm_86 : decode cX11_psalm 86 = .ok (.iconst 1, 1) := op4 (bA_at bd03_dec_X11_3_23 10 rfl rfl)
theorem dX11_psalm_87 : decode cX11_psalm 87 = .ok (.iload 8, 2) := op21 (bA_at bd03_dec_X11_3_23 11 rfl rfl) rfl
theorem bd03_dec_X11_3_24 : ([(0, [120]), (1, [128]), (2, [54, 5]), (4, [21, 6]), (6, [2]), (7, [159, 0, 18]), (10, [42]), (11, [21, 8]), (13, [182, 1, 66]), (16, [42]), (17, [21, 6]), (19, [182, 1, 66])] : List (Nat × List UInt8)).all (fun x => prB x.2 ((cX11_psalm.data.toList.drop 89).drop x.1)) = true := by decide +kernel
theorem dX11_psalm_89 : decode cX11_psalm 89 = .ok (.ishl, 1) := op120 (bA_at bd03_dec_X11_3_24 0 rfl rfl)
theorem dX11_psalm_90 : decode cX11_psalm 90 = .ok (.ior, 1) := op128 (bA_at bd03_dec_X11_3_24 1 rfl rfl)
theorem dX11_psalm_91 : decode cX11_psalm 91 = .ok (.istore 5, 2) := op54 (bA_at bd03_dec_X11_3_24 2 rfl rfl) rfl
theorem dX11_psalm_93 : decode cX11_psalm 93 = .ok (.iload 6, 2) := op21 (bA_at bd03_dec_X11_3_24 3 rfl rfl) rfl
theorem dX11_psalm_95 : decode cX11_psalm 95 = .ok (.iconst (-1), 1) := op2 (bA_at bd03_dec_X11_3_24 4 rfl rfl)
theorem dX11_psalm_96 : decode cX11_psalm 96 = .ok (.if_icmp .eq 18, 3) := op159 (bA_at bd03_dec_X11_3_24 5 rfl rfl) (by decide +kernel)
theorem dX11_psalm_99 : decode cX11_psalm 99 = .ok (.aload_n 0, 1) := op42 (bA_at bd03_dec_X11_3_24 6 rfl rfl)
theorem dX11_psalm_100 : decode cX11_psalm 100 = .ok (.iload 8, 2) := op21 (bA_at bd03_dec_X11_3_24 7 rfl rfl) rfl
theorem dX11_psalm_102 : decode cX11_psalm 102 = .ok (.invokevirtual 322, 3) := op182 (bA_at bd03_dec_X11_3_24 8 rfl rfl) rfl
theorem dX11_psalm_105 : decode cX11_psalm 105 = .ok (.aload_n 0, 1) := op42 (bA_at bd03_dec_X11_3_24 9 rfl rfl)
theorem dX11_psalm_106 : decode cX11_psalm 106 = .ok (.iload 6, 2) := op21 (bA_at bd03_dec_X11_3_24 10 rfl rfl) rfl
theorem dX11_psalm_108 : decode cX11_psalm 108 = .ok (.invokevirtual 322, 3) := op182 (bA_at bd03_dec_X11_3_24 11 rfl rfl) rfl
theorem bd03_dec_X11_3_25 : ([(0, [164, 0, 8]), (3, [21, 8]), (5, [167, 0, 5]), (8, [21, 6]), (10, [54, 6]), (12, [21, 7]), (14, [42]), (15, [180, 0, 59]), (18, [28]), (19, [46]), (20, [184, 1, 155]), (23, [54, 7])] : List (Nat × List UInt8)).all (fun x => prB x.2 ((cX11_psalm.data.toList.drop 111).drop x.1)) = true := by decide +kernel
theorem dX11_psalm_111 : decode cX11_psalm 111 = .ok (.if_icmp .le 8, 3) := op164 (bA_at bd03_dec_X11_3_25 0 rfl rfl) (by decide +kernel)
theorem dX11_psalm_114 : decode cX11_psalm 114 = .ok (.iload 8, 2) := op21 (bA_at bd03_dec_X11_3_25 1 rfl rfl) rfl
theorem dX11_psalm_116 : decode cX11_psalm 116 = .ok (.goto 5, 3) := op167 (bA_at bd03_dec_X11_3_25 2 rfl rfl) (by decide +kernel)
theorem dX11_psalm_119 : decode cX11_psalm 119 = .ok (.iload 6, 2) := op21 (bA_at bd03_dec_X11_3_25 3 rfl rfl) rfl
theorem dX11_psalm_121 : decode cX11_psalm 121 = .ok (.istore 6, 2) := op54 (bA_at bd03_dec_X11_3_25 4 rfl rfl) rfl
theorem dX11_psalm_123 : decode cX11_psalm 123 = .ok (.iload 7, 2) := op21 (bA_at bd03_dec_X11_3_25 5 rfl rfl) rfl
theorem dX11_psalm_125 : decode cX11_psalm 125 = .ok (.aload_n 0, 1) := op42 (bA_at bd03_dec_X11_3_25 6 rfl rfl)
theorem dX11_psalm_126 : decode cX11_psalm 126 = .ok (.getfield 59, 3) := op180 (bA_at bd03_dec_X11_3_25 7 rfl rfl) rfl
theorem dX11_psalm_129 : decode cX11_psalm 129 = .ok (.iload_n 2, 1) := op28 (bA_at bd03_dec_X11_3_25 8 rfl rfl)
theorem dX11_psalm_130 : decode cX11_psalm 130 = .ok (.iaload, 1) := op46 (bA_at bd03_dec_X11_3_25 9 rfl rfl)
theorem dX11_psalm_131 : decode cX11_psalm 131 = .ok (.invokestatic 411, 3) := op184 (bA_at bd03_dec_X11_3_25 10 rfl rfl) rfl
theorem dX11_psalm_134 : decode cX11_psalm 134 = .ok (.istore 7, 2) := op54 (bA_at bd03_dec_X11_3_25 11 rfl rfl) rfl
theorem bd03_dec_X11_3_26 : ([(0, [132, 8, 1]), (3, [167, 255, 175]), (6, [21, 4]), (8, [154, 0, 8]), (11, [21, 5]), (13, [167, 0, 27]), (16, [21, 4]), (18, [4]), (19, [160, 0, 8]), (22, [21, 6]), (24, [167, 0, 16]), (27, [21, 5])] : List (Nat × List UInt8)).all (fun x => prB x.2 ((cX11_psalm.data.toList.drop 136).drop x.1)) = true := by decide +kernel
theorem dX11_psalm_136 : decode cX11_psalm 136 = .ok (.iinc 8 1, 3) := op132 (bA_at bd03_dec_X11_3_26 0 rfl rfl) rfl (by decide +kernel)
theorem dX11_psalm_139 : decode cX11_psalm 139 = .ok (.goto (-81), 3) := op167 (bA_at bd03_dec_X11_3_26 1 rfl rfl) (by decide +kernel)
theorem dX11_psalm_142 : decode cX11_psalm 142 = .ok (.iload 4, 2) := op21 (bA_at bd03_dec_X11_3_26 2 rfl rfl) rfl
theorem dX11_psalm_144 : decode cX11_psalm 144 = .ok (.ifCond .ne 8, 3) := op154 (bA_at bd03_dec_X11_3_26 3 rfl rfl) (by decide +kernel)
theorem dX11_psalm_147 : decode cX11_psalm 147 = .ok (.iload 5, 2) := op21 (bA_at bd03_dec_X11_3_26 4 rfl rfl) rfl
theorem dX11_psalm_149 : decode cX11_psalm 149 = .ok (.goto 27, 3) := op167 (bA_at bd03_dec_X11_3_26 5 rfl rfl) (by decide +kernel)
theorem dX11_psalm_152 : decode cX11_psalm 152 = .ok (.iload 4, 2) := op21 (bA_at bd03_dec_X11_3_26 6 rfl rfl) rfl
theorem dX11_psalm_154 : decode cX11_psalm 154 = .ok (.iconst 1, 1) := op4 (bA_at bd03_dec_X11_3_26 7 rfl rfl)
theorem dX11_psalm_155 : decode cX11_psalm 155 = .ok (.if_icmp .ne 8, 3) := op160 (bA_at bd03_dec_X11_3_26 8 rfl rfl) (by decide +kernel)
theorem dX11_psalm_158 : decode cX11_psalm 158 = .ok (.iload 6, 2) := op21 (bA_at bd03_dec_X11_3_26 9 rfl rfl) rfl
theorem dX11_psalm_160 : decode cX11_psalm 160 = .ok (.goto 16, 3) := op167 (bA_at bd03_dec_X11_3_26 10 rfl rfl) (by decide +kernel)
theorem dX11_psalm_163 : decode cX11_psalm 163 = .ok (.iload 5, 2) := op21 (bA_at bd03_dec_X11_3_26 11 rfl rfl) rfl
theorem bd03_dec_X11_3_27 : ([(0, [154, 0, 7]), (3, [2]), (4, [167, 0, 7]), (7, [29]), (8, [21, 7]), (10, [100]), (11, [172])] : List (Nat × List UInt8)).all (fun x => prB x.2 ((cX11_psalm.data.toList.drop 165).drop x.1)) = true := by decide +kernel
theorem dX11_psalm_165 : decode cX11_psalm 165 = .ok (.ifCond .ne 7, 3) := op154 (bA_at bd03_dec_X11_3_27 0 rfl rfl) (by decide +kernel)
theorem dX11_psalm_168 : decode cX11_psalm 168 = .ok (.iconst (-1), 1) := op2 (bA_at bd03_dec_X11_3_27 1 rfl rfl)
theorem dX11_psalm_169 : decode cX11_psalm 169 = .ok (.goto 7, 3) := op167 (bA_at bd03_dec_X11_3_27 2 rfl rfl) (by decide +kernel)
theorem dX11_psalm_172 : decode cX11_psalm 172 = .ok (.iload_n 3, 1) := op29 (bA_at bd03_dec_X11_3_27 3 rfl rfl)
theorem dX11_psalm_173 : decode cX11_psalm 173 = .ok (.iload 7, 2) := op21 (bA_at bd03_dec_X11_3_27 4 rfl rfl) rfl
theorem dX11_psalm_175 : decode cX11_psalm 175 = .ok (.isub, 1) := op100 (bA_at bd03_dec_X11_3_27 5 rfl rfl)
theorem dX11_psalm_176 : decode cX11_psalm 176 = .ok (.ireturn, 1) := op172 (bA_at bd03_dec_X11_3_27 6 rfl rfl)
theorem bd03_dec_X11_3_28 : ([(0, [42]), (1, [3]), (2, [181, 0, 97]), (5, [42]), (6, [27]), (7, [182, 1, 57]), (10, [153, 0, 24]), (13, [42]), (14, [28]), (15, [182, 1, 69]), (18, [153, 0, 16]), (21, [42])] : List (Nat × List UInt8)).all (fun x => prB x.2 ((cX11_meet.data.toList.drop 0).drop x.1)) = true := by decide +kernel
theorem dX11_meet_0 : decode cX11_meet 0 = .ok (.aload_n 0, 1) := op42 (bA_at bd03_dec_X11_3_28 0 rfl rfl)
theorem dX11_meet_1 : decode cX11_meet 1 = .ok (.iconst 0, 1) := op3 (bA_at bd03_dec_X11_3_28 1 rfl rfl)
theorem dX11_meet_2 : decode cX11_meet 2 = .ok (.putfield 97, 3) := op181 (bA_at bd03_dec_X11_3_28 2 rfl rfl) rfl
theorem dX11_meet_5 : decode cX11_meet 5 = .ok (.aload_n 0, 1) := op42 (bA_at bd03_dec_X11_3_28 3 rfl rfl)
theorem dX11_meet_6 : decode cX11_meet 6 = .ok (.iload_n 1, 1) := op27 (bA_at bd03_dec_X11_3_28 4 rfl rfl)
theorem dX11_meet_7 : decode cX11_meet 7 = .ok (.invokevirtual 313, 3) := op182 (bA_at bd03_dec_X11_3_28 5 rfl rfl) rfl
theorem dX11_meet_10 : decode cX11_meet 10 = .ok (.ifCond .eq 24, 3) := op153 (bA_at bd03_dec_X11_3_28 6 rfl rfl) (by decide +kernel)
theorem dX11_meet_13 : decode cX11_meet 13 = .ok (.aload_n 0, 1) := op42 (bA_at bd03_dec_X11_3_28 7 rfl rfl)
theorem dX11_meet_14 : decode cX11_meet 14 = .ok (.iload_n 2, 1) := op28 (bA_at bd03_dec_X11_3_28 8 rfl rfl)
theorem dX11_meet_15 : decode cX11_meet 15 = .ok (.invokevirtual 325, 3) := op182 (bA_at bd03_dec_X11_3_28 9 rfl rfl) rfl
theorem dX11_meet_18 : decode cX11_meet 18 = .ok (.ifCond .eq 16, 3) := op153 (bA_at bd03_dec_X11_3_28 10 rfl rfl) (by decide +kernel)
theorem dX11_meet_21 : decode cX11_meet 21 = .ok (.aload_n 0, 1) := op42 (bA_at bd03_dec_X11_3_28 11 rfl rfl)
theorem bd03_dec_X11_3_29 : ([(0, [29]), (1, [182, 1, 69]), (4, [153, 0, 8]), (7, [28]), (8, [29]), (9, [160, 0, 5]), (12, [2]), (13, [172]), (14, [42]), (15, [182, 1, 198]), (18, [2]), (19, [54, 5])] : List (Nat × List UInt8)).all (fun x => prB x.2 ((cX11_meet.data.toList.drop 22).drop x.1)) = true := by decide +kernel
theorem dX11_meet_22 : decode cX11_meet 22 = .ok (.iload_n 3, 1) := op29 (bA_at bd03_dec_X11_3_29 0 rfl rfl)
theorem dX11_meet_23 : decode cX11_meet 23 = .ok (.invokevirtual 325, 3) := op182 (bA_at bd03_dec_X11_3_29 1 rfl rfl) rfl
theorem dX11_meet_26 : decode cX11_meet 26 = .ok (.ifCond .eq 8, 3) := op153 (bA_at bd03_dec_X11_3_29 2 rfl rfl) (by decide +kernel)
theorem dX11_meet_29 : decode cX11_meet 29 = .ok (.iload_n 2, 1) := op28 (bA_at bd03_dec_X11_3_29 3 rfl rfl)
theorem dX11_meet_30 : decode cX11_meet 30 = .ok (.iload_n 3, 1) := op29 (bA_at bd03_dec_X11_3_29 4 rfl rfl)
theorem dX11_meet_31 : decode cX11_meet 31 = .ok (.if_icmp .ne 5, 3) := op160 (bA_at bd03_dec_X11_3_29 5 rfl rfl) (by decide +kernel)
theorem dX11_meet_34 : decode cX11_meet 34 = .ok (.iconst (-1), 1) := op2 (bA_at bd03_dec_X11_3_29 6 rfl rfl)
theorem dX11_meet_35 : decode cX11_meet 35 = .ok (.ireturn, 1) := op172 (bA_at bd03_dec_X11_3_29 7 rfl rfl)
theorem dX11_meet_36 : decode cX11_meet 36 = .ok (.aload_n 0, 1) := op42 (bA_at bd03_dec_X11_3_29 8 rfl rfl)
theorem dX11_meet_37 : decode cX11_meet 37 = .ok (.invokevirtual 454, 3) := op182 (bA_at bd03_dec_X11_3_29 9 rfl rfl) rfl
theorem dX11_meet_40 : decode cX11_meet 40 = .ok (.iconst (-1), 1) := op2 (bA_at bd03_dec_X11_3_29 10 rfl rfl)
theorem dX11_meet_41 : decode cX11_meet 41 = .ok (.istore 5, 2) := op54 (bA_at bd03_dec_X11_3_29 11 rfl rfl) rfl
theorem bd03_dec_X11_3_30 : ([(0, [19, 1, 154]), (3, [54, 6]), (5, [3]), (6, [54, 7]), (8, [21, 7]), (10, [42]), (11, [180, 1, 51]), (14, [162, 0, 77]), (17, [42]), (18, [180, 0, 78]), (21, [16, 9]), (23, [42])] : List (Nat × List UInt8)).all (fun x => prB x.2 ((cX11_meet.data.toList.drop 43).drop x.1)) = true := by decide +kernel
theorem dX11_meet_43 : decode cX11_meet 43 = .ok (.ldc_w 410, 3) := op19 (bA_at bd03_dec_X11_3_30 0 rfl rfl) rfl
theorem dX11_meet_46 : decode cX11_meet 46 = .ok (.istore 6, 2) := op54 (bA_at bd03_dec_X11_3_30 1 rfl rfl) rfl
theorem dX11_meet_48 : decode cX11_meet 48 = .ok (.iconst 0, 1) := op3 (bA_at bd03_dec_X11_3_30 2 rfl rfl)
theorem dX11_meet_49 : decode cX11_meet 49 = .ok (.istore 7, 2) := op54 (bA_at bd03_dec_X11_3_30 3 rfl rfl) rfl
theorem dX11_meet_51 : decode cX11_meet 51 = .ok (.iload 7, 2) := op21 (bA_at bd03_dec_X11_3_30 4 rfl rfl) rfl
theorem dX11_meet_53 : decode cX11_meet 53 = .ok (.aload_n 0, 1) := op42 (bA_at bd03_dec_X11_3_30 5 rfl rfl)
theorem dX11_meet_54 : decode cX11_meet 54 = .ok (.getfield 307, 3) := op180 (bA_at bd03_dec_X11_3_30 6 rfl rfl) rfl
theorem dX11_meet_57 : decode cX11_meet 57 = .ok (.if_icmp .ge 77, 3) := op162 (bA_at bd03_dec_X11_3_30 7 rfl rfl) (by decide +kernel)
theorem dX11_meet_60 : decode cX11_meet 60 = .ok (.aload_n 0, 1) := op42 (bA_at bd03_dec_X11_3_30 8 rfl rfl)
theorem dX11_meet_61 : decode cX11_meet 61 = .ok (.getfield 78, 3) := op180 (bA_at bd03_dec_X11_3_30 9 rfl rfl) rfl
theorem dX11_meet_64 : decode cX11_meet 64 = .ok (.bipush 9, 2) := op16 (bA_at bd03_dec_X11_3_30 10 rfl rfl) (by decide +kernel)
theorem dX11_meet_66 : decode cX11_meet 66 = .ok (.aload_n 0, 1) := op42 (bA_at bd03_dec_X11_3_30 11 rfl rfl)
theorem bd03_dec_X11_3_31 : ([(0, [16, 25]), (2, [28]), (3, [96]), (4, [182, 1, 47]), (7, [104]), (8, [21, 7]), (10, [96]), (11, [46]), (12, [42]), (13, [180, 0, 78]), (16, [16, 9]), (18, [42])] : List (Nat × List UInt8)).all (fun x => prB x.2 ((cX11_meet.data.toList.drop 67).drop x.1)) = true := by decide +kernel
theorem dX11_meet_67 : decode cX11_meet 67 = .ok (.bipush 25, 2) := op16 (bA_at bd03_dec_X11_3_31 0 rfl rfl) (by decide +kernel)
theorem dX11_meet_69 : decode cX11_meet 69 = .ok (.iload_n 2, 1) := op28 (bA_at bd03_dec_X11_3_31 1 rfl rfl)
theorem dX11_meet_70 : decode cX11_meet 70 = .ok (.iadd, 1) := op96 (bA_at bd03_dec_X11_3_31 2 rfl rfl)
theorem dX11_meet_71 : decode cX11_meet 71 = .ok (.invokevirtual 303, 3) := op182 (bA_at bd03_dec_X11_3_31 3 rfl rfl) rfl
theorem dX11_meet_74 : decode cX11_meet 74 = .ok (.imul, 1) := op104 (bA_at bd03_dec_X11_3_31 4 rfl rfl)
theorem dX11_meet_75 : decode cX11_meet 75 = .ok (.iload 7, 2) := op21 (bA_at bd03_dec_X11_3_31 5 rfl rfl) rfl
theorem dX11_meet_77 : decode cX11_meet 77 = .ok (.iadd, 1) := op96 (bA_at bd03_dec_X11_3_31 6 rfl rfl)
theorem dX11_meet_78 : decode cX11_meet 78 = .ok (.iaload, 1) := op46 (bA_at bd03_dec_X11_3_31 7 rfl rfl)
theorem dX11_meet_79 : decode cX11_meet 79 = .ok (.aload_n 0, 1) := op42 (bA_at bd03_dec_X11_3_31 8 rfl rfl)
theorem dX11_meet_80 : decode cX11_meet 80 = .ok (.getfield 78, 3) := op180 (bA_at bd03_dec_X11_3_31 9 rfl rfl) rfl
theorem dX11_meet_83 : decode cX11_meet 83 = .ok (.bipush 9, 2) := op16 (bA_at bd03_dec_X11_3_31 10 rfl rfl) (by decide +kernel)
theorem dX11_meet_85 : decode cX11_meet 85 = .ok (.aload_n 0, 1) := op42 (bA_at bd03_dec_X11_3_31 11 rfl rfl)
theorem bd03_dec_X11_3_32 : ([(0, [16, 25]), (2, [29]), (3, [96]), (4, [182, 1, 47]), (7, [104]), (8, [21, 7]), (10, [96]), (11, [46]), (12, [184, 0, 171]), (15, [54, 8]), (17, [21, 8]), (19, [21, 6])] : List (Nat × List UInt8)).all (fun x => prB x.2 ((cX11_meet.data.toList.drop 86).drop x.1)) = true := by decide +kernel
theorem dX11_meet_86 : decode cX11_meet 86 = .ok (.bipush 25, 2) := op16 (bA_at bd03_dec_X11_3_32 0 rfl rfl) (by decide +kernel)
theorem dX11_meet_88 : decode cX11_meet 88 = .ok (.iload_n 3, 1) := op29 (bA_at bd03_dec_X11_3_32 1 rfl rfl)
theorem dX11_meet_89 : decode cX11_meet 89 = .ok (.iadd, 1) := op96 (bA_at bd03_dec_X11_3_32 2 rfl rfl)
theorem dX11_meet_90 : decode cX11_meet 90 = .ok (.invokevirtual 303, 3) := op182 (bA_at bd03_dec_X11_3_32 3 rfl rfl) rfl
theorem dX11_meet_93 : decode cX11_meet 93 = .ok (.imul, 1) := op104 (bA_at bd03_dec_X11_3_32 4 rfl rfl)
theorem dX11_meet_94 : decode cX11_meet 94 = .ok (.iload 7, 2) := op21 (bA_at bd03_dec_X11_3_32 5 rfl rfl) rfl
theorem dX11_meet_96 : decode cX11_meet 96 = .ok (.iadd, 1) := op96 (bA_at bd03_dec_X11_3_32 6 rfl rfl)
theorem dX11_meet_97 : decode cX11_meet 97 = .ok (.iaload, 1) := op46 (bA_at bd03_dec_X11_3_32 7 rfl rfl)
theorem dX11_meet_98 : decode cX11_meet 98 = .ok (.invokestatic 171, 3) := op184 (bA_at bd03_dec_X11_3_32 8 rfl rfl) rfl
theorem dX11_meet_101 : decode cX11_meet 101 = .ok (.istore 8, 2) := op54 (bA_at bd03_dec_X11_3_32 9 rfl rfl) rfl
theorem dX11_meet_103 : decode cX11_meet 103 = .ok (.iload 8, 2) := op21 (bA_at bd03_dec_X11_3_32 10 rfl rfl) rfl
theorem dX11_meet_105 : decode cX11_meet 105 = .ok (.iload 6, 2) := op21 (bA_at bd03_dec_X11_3_32 11 rfl rfl) rfl
theorem bd03_dec_X11_3_33 : ([(0, [162, 0, 8]), (3, [21, 7]), (5, [167, 0, 5]), (8, [21, 5]), (10, [54, 5]), (12, [21, 6]), (14, [21, 8]), (16, [184, 1, 155]), (19, [54, 6]), (21, [132, 7, 1]), (24, [167, 255, 176]), (27, [21, 5])] : List (Nat × List UInt8)).all (fun x => prB x.2 ((cX11_meet.data.toList.drop 107).drop x.1)) = true := by decide +kernel
theorem dX11_meet_107 : decode cX11_meet 107 = .ok (.if_icmp .ge 8, 3) := op162 (bA_at bd03_dec_X11_3_33 0 rfl rfl) (by decide +kernel)
theorem dX11_meet_110 : decode cX11_meet 110 = .ok (.iload 7, 2) := op21 (bA_at bd03_dec_X11_3_33 1 rfl rfl) rfl
theorem dX11_meet_112 : decode cX11_meet 112 = .ok (.goto 5, 3) := op167 (bA_at bd03_dec_X11_3_33 2 rfl rfl) (by decide +kernel)
theorem dX11_meet_115 : decode cX11_meet 115 = .ok (.iload 5, 2) := op21 (bA_at bd03_dec_X11_3_33 3 rfl rfl) rfl
theorem dX11_meet_117 : decode cX11_meet 117 = .ok (.istore 5, 2) := op54 (bA_at bd03_dec_X11_3_33 4 rfl rfl) rfl
theorem dX11_meet_119 : decode cX11_meet 119 = .ok (.iload 6, 2) := op21 (bA_at bd03_dec_X11_3_33 5 rfl rfl) rfl
theorem dX11_meet_121 : decode cX11_meet 121 = .ok (.iload 8, 2) := op21 (bA_at bd03_dec_X11_3_33 6 rfl rfl) rfl
theorem dX11_meet_123 : decode cX11_meet 123 = .ok (.invokestatic 411, 3) := op184 (bA_at bd03_dec_X11_3_33 7 rfl rfl) rfl
theorem dX11_meet_126 : decode cX11_meet 126 = .ok (.istore 6, 2) := op54 (bA_at bd03_dec_X11_3_33 8 rfl rfl) rfl
theorem dX11_meet_128 : decode cX11_meet 128 = .ok (.iinc 7 1, 3) := op132 (bA_at bd03_dec_X11_3_33 9 rfl rfl) rfl (by decide +kernel)
theorem dX11_meet_131 : decode cX11_meet 131 = .ok (.goto (-80), 3) := op167 (bA_at bd03_dec_X11_3_33 10 rfl rfl) (by decide +kernel)
theorem dX11_meet_134 : decode cX11_meet 134 = .ok (.iload 5, 2) := op21 (bA_at bd03_dec_X11_3_33 11 rfl rfl) rfl
theorem bd03_dec_X11_3_34 : ([(0, [2]), (1, [159, 0, 8]), (4, [21, 4]), (6, [154, 0, 8]), (9, [21, 5]), (11, [167, 0, 5]), (14, [21, 6]), (16, [172])] : List (Nat × List UInt8)).all (fun x => prB x.2 ((cX11_meet.data.toList.drop 136).drop x.1)) = true := by decide +kernel
theorem dX11_meet_136 : decode cX11_meet 136 = .ok (.iconst (-1), 1) := op2 (bA_at bd03_dec_X11_3_34 0 rfl rfl)
theorem dX11_meet_137 : decode cX11_meet 137 = .ok (.if_icmp .eq 8, 3) := op159 (bA_at bd03_dec_X11_3_34 1 rfl rfl) (by decide +kernel)
theorem dX11_meet_140 : decode cX11_meet 140 = .ok (.iload 4, 2) := op21 (bA_at bd03_dec_X11_3_34 2 rfl rfl) rfl
theorem dX11_meet_142 : decode cX11_meet 142 = .ok (.ifCond .ne 8, 3) := op154 (bA_at bd03_dec_X11_3_34 3 rfl rfl) (by decide +kernel)
theorem dX11_meet_145 : decode cX11_meet 145 = .ok (.iload 5, 2) := op21 (bA_at bd03_dec_X11_3_34 4 rfl rfl) rfl
theorem dX11_meet_147 : decode cX11_meet 147 = .ok (.goto 5, 3) := op167 (bA_at bd03_dec_X11_3_34 5 rfl rfl) (by decide +kernel)
theorem dX11_meet_150 : decode cX11_meet 150 = .ok (.iload 6, 2) := op21 (bA_at bd03_dec_X11_3_34 6 rfl rfl) rfl
theorem dX11_meet_152 : decode cX11_meet 152 = .ok (.ireturn, 1) := op172 (bA_at bd03_dec_X11_3_34 7 rfl rfl)
theorem bd03_dec_X11_3_35 : ([(0, [42]), (1, [3]), (2, [181, 0, 97]), (5, [42]), (6, [27]), (7, [182, 1, 57]), (10, [153, 0, 11]), (13, [42]), (14, [28]), (15, [182, 1, 69]), (18, [154, 0, 5]), (21, [2])] : List (Nat × List UInt8)).all (fun x => prB x.2 ((cX11_carry.data.toList.drop 0).drop x.1)) = true := by decide +kernel
theorem dX11_carry_0 : decode cX11_carry 0 = .ok (.aload_n 0, 1) := op42 (bA_at bd03_dec_X11_3_35 0 rfl rfl)
theorem dX11_carry_1 : decode cX11_carry 1 = .ok (.iconst 0, 1) := op3 (bA_at bd03_dec_X11_3_35 1 rfl rfl)
theorem dX11_carry_2 : decode cX11_carry 2 = .ok (.putfield 97, 3) := op181 (bA_at bd03_dec_X11_3_35 2 rfl rfl) rfl
theorem dX11_carry_5 : decode cX11_carry 5 = .ok (.aload_n 0, 1) := op42 (bA_at bd03_dec_X11_3_35 3 rfl rfl)
theorem dX11_carry_6 : decode cX11_carry 6 = .ok (.iload_n 1, 1) := op27 (bA_at bd03_dec_X11_3_35 4 rfl rfl)
theorem dX11_carry_7 : decode cX11_carry 7 = .ok (.invokevirtual 313, 3) := op182 (bA_at bd03_dec_X11_3_35 5 rfl rfl) rfl
theorem dX11_carry_10 : decode cX11_carry 10 = .ok (.ifCond .eq 11, 3) := op153 (bA_at bd03_dec_X11_3_35 6 rfl rfl) (by decide +kernel)
theorem dX11_carry_13 : decode cX11_carry 13 = .ok (.aload_n 0, 1) := op42 (bA_at bd03_dec_X11_3_35 7 rfl rfl)
theorem dX11_carry_14 : decode cX11_carry 14 = .ok (.iload_n 2, 1) := op28 (bA_at bd03_dec_X11_3_35 8 rfl rfl)
theorem dX11_carry_15 : decode cX11_carry 15 = .ok (.invokevirtual 325, 3) := op182 (bA_at bd03_dec_X11_3_35 9 rfl rfl) rfl
theorem dX11_carry_18 : decode cX11_carry 18 = .ok (.ifCond .ne 5, 3) := op154 (bA_at bd03_dec_X11_3_35 10 rfl rfl) (by decide +kernel)
theorem dX11_carry_21 : decode cX11_carry 21 = .ok (.iconst (-1), 1) := op2 (bA_at bd03_dec_X11_3_35 11 rfl rfl)
theorem bd03_dec_X11_3_36 : ([(0, [172]), (1, [42]), (2, [182, 1, 198]), (5, [2]), (6, [54, 4]), (8, [19, 1, 154]), (11, [54, 5]), (13, [3]), (14, [54, 6]), (16, [21, 6]), (18, [42]), (19, [180, 1, 51])] : List (Nat × List UInt8)).all (fun x => prB x.2 ((cX11_carry.data.toList.drop 22).drop x.1)) = true := by decide +kernel
theorem dX11_carry_22 : decode cX11_carry 22 = .ok (.ireturn, 1) := op172 (bA_at bd03_dec_X11_3_36 0 rfl rfl)
theorem dX11_carry_23 : decode cX11_carry 23 = .ok (.aload_n 0, 1) := op42 (bA_at bd03_dec_X11_3_36 1 rfl rfl)
theorem dX11_carry_24 : decode cX11_carry 24 = .ok (.invokevirtual 454, 3) := op182 (bA_at bd03_dec_X11_3_36 2 rfl rfl) rfl
theorem dX11_carry_27 : decode cX11_carry 27 = .ok (.iconst (-1), 1) := op2 (bA_at bd03_dec_X11_3_36 3 rfl rfl)
theorem dX11_carry_28 : decode cX11_carry 28 = .ok (.istore 4, 2) := op54 (bA_at bd03_dec_X11_3_36 4 rfl rfl) rfl
theorem dX11_carry_30 : decode cX11_carry 30 = .ok (.ldc_w 410, 3) := op19 (bA_at bd03_dec_X11_3_36 5 rfl rfl) rfl
theorem dX11_carry_33 : decode cX11_carry 33 = .ok (.istore 5, 2) := op54 (bA_at bd03_dec_X11_3_36 6 rfl rfl) rfl
theorem dX11_carry_35 : decode cX11_carry 35 = .ok (.iconst 0, 1) := op3 (bA_at bd03_dec_X11_3_36 7 rfl rfl)
theorem dX11_carry_36 : decode cX11_carry 36 = .ok (.istore 6, 2) := op54 (bA_at bd03_dec_X11_3_36 8 rfl rfl) rfl
theorem dX11_carry_38 : decode cX11_carry 38 = .ok (.iload 6, 2) := op21 (bA_at bd03_dec_X11_3_36 9 rfl rfl) rfl
theorem dX11_carry_40 : decode cX11_carry 40 = .ok (.aload_n 0, 1) := op42 (bA_at bd03_dec_X11_3_36 10 rfl rfl)
theorem dX11_carry_41 : decode cX11_carry 41 = .ok (.getfield 307, 3) := op180 (bA_at bd03_dec_X11_3_36 11 rfl rfl) rfl
theorem bd03_dec_X11_3_37 : ([(0, [162, 0, 82]), (3, [42]), (4, [21, 6]), (6, [3]), (7, [182, 1, 158]), (10, [42]), (11, [21, 6]), (13, [182, 1, 99]), (16, [153, 0, 9]), (19, [19, 1, 154]), (22, [167, 0, 27]), (25, [42])] : List (Nat × List UInt8)).all (fun x => prB x.2 ((cX11_carry.data.toList.drop 44).drop x.1)) = true := by decide +kernel
theorem dX11_carry_44 : decode cX11_carry 44 = .ok (.if_icmp .ge 82, 3) := op162 (bA_at bd03_dec_X11_3_37 0 rfl rfl) (by decide +kernel)
theorem dX11_carry_47 : decode cX11_carry 47 = .ok (.aload_n 0, 1) := op42 (bA_at bd03_dec_X11_3_37 1 rfl rfl)
theorem dX11_carry_48 : decode cX11_carry 48 = .ok (.iload 6, 2) := op21 (bA_at bd03_dec_X11_3_37 2 rfl rfl) rfl
theorem dX11_carry_50 : decode cX11_carry 50 = .ok (.iconst 0, 1) := op3 (bA_at bd03_dec_X11_3_37 3 rfl rfl)
theorem dX11_carry_51 : decode cX11_carry 51 = .ok (.invokevirtual 414, 3) := op182 (bA_at bd03_dec_X11_3_37 4 rfl rfl) rfl
theorem dX11_carry_54 : decode cX11_carry 54 = .ok (.aload_n 0, 1) := op42 (bA_at bd03_dec_X11_3_37 5 rfl rfl)
theorem dX11_carry_55 : decode cX11_carry 55 = .ok (.iload 6, 2) := op21 (bA_at bd03_dec_X11_3_37 6 rfl rfl) rfl
theorem dX11_carry_57 : decode cX11_carry 57 = .ok (.invokevirtual 355, 3) := op182 (bA_at bd03_dec_X11_3_37 7 rfl rfl) rfl
theorem dX11_carry_60 : decode cX11_carry 60 = .ok (.ifCond .eq 9, 3) := op153 (bA_at bd03_dec_X11_3_37 8 rfl rfl) (by decide +kernel)
theorem dX11_carry_63 : decode cX11_carry 63 = .ok (.ldc_w 410, 3) := op19 (bA_at bd03_dec_X11_3_37 9 rfl rfl) rfl
theorem dX11_carry_66 : decode cX11_carry 66 = .ok (.goto 27, 3) := op167 (bA_at bd03_dec_X11_3_37 10 rfl rfl) (by decide +kernel)
theorem dX11_carry_69 : decode cX11_carry 69 = .ok (.aload_n 0, 1) := op42 (bA_at bd03_dec_X11_3_37 11 rfl rfl)
theorem bd03_dec_X11_3_38 : ([(0, [180, 0, 78]), (3, [16, 9]), (5, [42]), (6, [16, 25]), (8, [28]), (9, [96]), (10, [182, 1, 47]), (13, [104]), (14, [21, 6]), (16, [96]), (17, [46]), (18, [42])] : List (Nat × List UInt8)).all (fun x => prB x.2 ((cX11_carry.data.toList.drop 70).drop x.1)) = true := by decide +kernel
theorem dX11_carry_70 : decode cX11_carry 70 = .ok (.getfield 78, 3) := op180 (bA_at bd03_dec_X11_3_38 0 rfl rfl) rfl
theorem dX11_carry_73 : decode cX11_carry 73 = .ok (.bipush 9, 2) := op16 (bA_at bd03_dec_X11_3_38 1 rfl rfl) (by decide +kernel)
theorem dX11_carry_75 : decode cX11_carry 75 = .ok (.aload_n 0, 1) := op42 (bA_at bd03_dec_X11_3_38 2 rfl rfl)
theorem dX11_carry_76 : decode cX11_carry 76 = .ok (.bipush 25, 2) := op16 (bA_at bd03_dec_X11_3_38 3 rfl rfl) (by decide +kernel)
theorem dX11_carry_78 : decode cX11_carry 78 = .ok (.iload_n 2, 1) := op28 (bA_at bd03_dec_X11_3_38 4 rfl rfl)
theorem dX11_carry_79 : decode cX11_carry 79 = .ok (.iadd, 1) := op96 (bA_at bd03_dec_X11_3_38 5 rfl rfl)
theorem dX11_carry_80 : decode cX11_carry 80 = .ok (.invokevirtual 303, 3) := op182 (bA_at bd03_dec_X11_3_38 6 rfl rfl) rfl
theorem dX11_carry_83 : decode cX11_carry 83 = .ok (.imul, 1) := op104 (bA_at bd03_dec_X11_3_38 7 rfl rfl)
theorem dX11_carry_84 : decode cX11_carry 84 = .ok (.iload 6, 2) := op21 (bA_at bd03_dec_X11_3_38 8 rfl rfl) rfl
theorem dX11_carry_86 : decode cX11_carry 86 = .ok (.iadd, 1) := op96 (bA_at bd03_dec_X11_3_38 9 rfl rfl)
theorem dX11_carry_87 : decode cX11_carry 87 = .ok (.iaload, 1) := op46 (bA_at bd03_dec_X11_3_38 10 rfl rfl)
theorem dX11_carry_88 : decode cX11_carry 88 = .ok (.aload_n 0, 1) := op42 (bA_at bd03_dec_X11_3_38 11 rfl rfl)
theorem bd03_dec_X11_3_39 : ([(0, [182, 1, 170]), (3, [96]), (4, [54, 7]), (6, [21, 7]), (8, [21, 5]), (10, [162, 0, 8]), (13, [21, 6]), (15, [167, 0, 5]), (18, [21, 4]), (20, [54, 4]), (22, [21, 5]), (24, [21, 7])] : List (Nat × List UInt8)).all (fun x => prB x.2 ((cX11_carry.data.toList.drop 89).drop x.1)) = true := by decide +kernel
theorem dX11_carry_89 : decode cX11_carry 89 = .ok (.invokevirtual 426, 3) := op182 (bA_at bd03_dec_X11_3_39 0 rfl rfl) rfl
theorem dX11_carry_92 : decode cX11_carry 92 = .ok (.iadd, 1) := op96 (bA_at bd03_dec_X11_3_39 1 rfl rfl)
theorem dX11_carry_93 : decode cX11_carry 93 = .ok (.istore 7, 2) := op54 (bA_at bd03_dec_X11_3_39 2 rfl rfl) rfl
theorem dX11_carry_95 : decode cX11_carry 95 = .ok (.iload 7, 2) := op21 (bA_at bd03_dec_X11_3_39 3 rfl rfl) rfl
theorem dX11_carry_97 : decode cX11_carry 97 = .ok (.iload 5, 2) := op21 (bA_at bd03_dec_X11_3_39 4 rfl rfl) rfl
theorem dX11_carry_99 : decode cX11_carry 99 = .ok (.if_icmp .ge 8, 3) := op162 (bA_at bd03_dec_X11_3_39 5 rfl rfl) (by decide +kernel)
theorem dX11_carry_102 : decode cX11_carry 102 = .ok (.iload 6, 2) := op21 (bA_at bd03_dec_X11_3_39 6 rfl rfl) rfl
theorem dX11_carry_104 : decode cX11_carry 104 = .ok (.goto 5, 3) := op167 (bA_at bd03_dec_X11_3_39 7 rfl rfl) (by decide +kernel)
theorem dX11_carry_107 : decode cX11_carry 107 = .ok (.iload 4, 2) := op21 (bA_at bd03_dec_X11_3_39 8 rfl rfl) rfl
theorem dX11_carry_109 : decode cX11_carry 109 = .ok (.istore 4, 2) := op54 (bA_at bd03_dec_X11_3_39 9 rfl rfl) rfl
theorem dX11_carry_111 : decode cX11_carry 111 = .ok (.iload 5, 2) := op21 (bA_at bd03_dec_X11_3_39 10 rfl rfl) rfl
theorem dX11_carry_113 : decode cX11_carry 113 = .ok (.iload 7, 2) := op21 (bA_at bd03_dec_X11_3_39 11 rfl rfl) rfl
theorem bd03_dec_X11_3_40 : ([(0, [184, 1, 155]), (3, [54, 5]), (5, [132, 6, 1]), (8, [167, 255, 171]), (11, [21, 4]), (13, [2]), (14, [159, 0, 7]), (17, [29]), (18, [154, 0, 8]), (21, [21, 4]), (23, [167, 0, 5]), (26, [21, 5])] : List (Nat × List UInt8)).all (fun x => prB x.2 ((cX11_carry.data.toList.drop 115).drop x.1)) = true := by decide +kernel
theorem dX11_carry_115 : decode cX11_carry 115 = .ok (.invokestatic 411, 3) := op184 (bA_at bd03_dec_X11_3_40 0 rfl rfl) rfl
theorem dX11_carry_118 : decode cX11_carry 118 = .ok (.istore 5, 2) := op54 (bA_at bd03_dec_X11_3_40 1 rfl rfl) rfl
theorem dX11_carry_120 : decode cX11_carry 120 = .ok (.iinc 6 1, 3) := op132 (bA_at bd03_dec_X11_3_40 2 rfl rfl) rfl (by decide +kernel)
theorem dX11_carry_123 : decode cX11_carry 123 = .ok (.goto (-85), 3) := op167 (bA_at bd03_dec_X11_3_40 3 rfl rfl) (by decide +kernel)
theorem dX11_carry_126 : decode cX11_carry 126 = .ok (.iload 4, 2) := op21 (bA_at bd03_dec_X11_3_40 4 rfl rfl) rfl
theorem dX11_carry_128 : decode cX11_carry 128 = .ok (.iconst (-1), 1) := op2 (bA_at bd03_dec_X11_3_40 5 rfl rfl)
theorem dX11_carry_129 : decode cX11_carry 129 = .ok (.if_icmp .eq 7, 3) := op159 (bA_at bd03_dec_X11_3_40 6 rfl rfl) (by decide +kernel)
theorem dX11_carry_132 : decode cX11_carry 132 = .ok (.iload_n 3, 1) := op29 (bA_at bd03_dec_X11_3_40 7 rfl rfl)
theorem dX11_carry_133 : decode cX11_carry 133 = .ok (.ifCond .ne 8, 3) := op154 (bA_at bd03_dec_X11_3_40 8 rfl rfl) (by decide +kernel)
theorem dX11_carry_136 : decode cX11_carry 136 = .ok (.iload 4, 2) := op21 (bA_at bd03_dec_X11_3_40 9 rfl rfl) rfl
theorem dX11_carry_138 : decode cX11_carry 138 = .ok (.goto 5, 3) := op167 (bA_at bd03_dec_X11_3_40 10 rfl rfl) (by decide +kernel)
theorem dX11_carry_141 : decode cX11_carry 141 = .ok (.iload 5, 2) := op21 (bA_at bd03_dec_X11_3_40 11 rfl rfl) rfl
theorem bd03_dec_X11_3_41 : ([(0, [172])] : List (Nat × List UInt8)).all (fun x => prB x.2 ((cX11_carry.data.toList.drop 143).drop x.1)) = true := by decide +kernel
theorem dX11_carry_143 : decode cX11_carry 143 = .ok (.ireturn, 1) := op172 (bA_at bd03_dec_X11_3_41 0 rfl rfl)
theorem bd03_dec_X11_3_42 : ([(0, [42]), (1, [3]), (2, [181, 0, 97]), (5, [42]), (6, [27]), (7, [182, 1, 57]), (10, [153, 0, 19]), (13, [42]), (14, [28]), (15, [182, 1, 60]), (18, [153, 0, 11]), (21, [42])] : List (Nat × List UInt8)).all (fun x => prB x.2 ((cX11_join.data.toList.drop 0).drop x.1)) = true := by decide +kernel
theorem dX11_join_0 : decode cX11_join 0 = .ok (.aload_n 0, 1) := op42 (bA_at bd03_dec_X11_3_42 0 rfl rfl)
theorem dX11_join_1 : decode cX11_join 1 = .ok (.iconst 0, 1) := op3 (bA_at bd03_dec_X11_3_42 1 rfl rfl)
theorem dX11_join_2 : decode cX11_join 2 = .ok (.putfield 97, 3) := op181 (bA_at bd03_dec_X11_3_42 2 rfl rfl) rfl
theorem dX11_join_5 : decode cX11_join 5 = .ok (.aload_n 0, 1) := op42 (bA_at bd03_dec_X11_3_42 3 rfl rfl)
theorem dX11_join_6 : decode cX11_join 6 = .ok (.iload_n 1, 1) := op27 (bA_at bd03_dec_X11_3_42 4 rfl rfl)
theorem dX11_join_7 : decode cX11_join 7 = .ok (.invokevirtual 313, 3) := op182 (bA_at bd03_dec_X11_3_42 5 rfl rfl) rfl
theorem dX11_join_10 : decode cX11_join 10 = .ok (.ifCond .eq 19, 3) := op153 (bA_at bd03_dec_X11_3_42 6 rfl rfl) (by decide +kernel)
theorem dX11_join_13 : decode cX11_join 13 = .ok (.aload_n 0, 1) := op42 (bA_at bd03_dec_X11_3_42 7 rfl rfl)
theorem dX11_join_14 : decode cX11_join 14 = .ok (.iload_n 2, 1) := op28 (bA_at bd03_dec_X11_3_42 8 rfl rfl)
theorem dX11_join_15 : decode cX11_join 15 = .ok (.invokevirtual 316, 3) := op182 (bA_at bd03_dec_X11_3_42 9 rfl rfl) rfl
theorem dX11_join_18 : decode cX11_join 18 = .ok (.ifCond .eq 11, 3) := op153 (bA_at bd03_dec_X11_3_42 10 rfl rfl) (by decide +kernel)
theorem dX11_join_21 : decode cX11_join 21 = .ok (.aload_n 0, 1) := op42 (bA_at bd03_dec_X11_3_42 11 rfl rfl)
theorem bd03_dec_X11_3_43 : ([(0, [29]), (1, [182, 1, 60]), (4, [154, 0, 5]), (7, [2]), (8, [172]), (9, [42]), (10, [28]), (11, [3]), (12, [182, 1, 158]), (15, [3]), (16, [54, 5]), (18, [21, 5])] : List (Nat × List UInt8)).all (fun x => prB x.2 ((cX11_join.data.toList.drop 22).drop x.1)) = true := by decide +kernel
theorem dX11_join_22 : decode cX11_join 22 = .ok (.iload_n 3, 1) := op29 (bA_at bd03_dec_X11_3_43 0 rfl rfl)
theorem dX11_join_23 : decode cX11_join 23 = .ok (.invokevirtual 316, 3) := op182 (bA_at bd03_dec_X11_3_43 1 rfl rfl) rfl
theorem dX11_join_26 : decode cX11_join 26 = .ok (.ifCond .ne 5, 3) := op154 (bA_at bd03_dec_X11_3_43 2 rfl rfl) (by decide +kernel)
theorem dX11_join_29 : decode cX11_join 29 = .ok (.iconst (-1), 1) := op2 (bA_at bd03_dec_X11_3_43 3 rfl rfl)
theorem dX11_join_30 : decode cX11_join 30 = .ok (.ireturn, 1) := op172 (bA_at bd03_dec_X11_3_43 4 rfl rfl)
theorem dX11_join_31 : decode cX11_join 31 = .ok (.aload_n 0, 1) := op42 (bA_at bd03_dec_X11_3_43 5 rfl rfl)
theorem dX11_join_32 : decode cX11_join 32 = .ok (.iload_n 2, 1) := op28 (bA_at bd03_dec_X11_3_43 6 rfl rfl)
theorem dX11_join_33 : decode cX11_join 33 = .ok (.iconst 0, 1) := op3 (bA_at bd03_dec_X11_3_43 7 rfl rfl)
theorem dX11_join_34 : decode cX11_join 34 = .ok (.invokevirtual 414, 3) := op182 (bA_at bd03_dec_X11_3_43 8 rfl rfl) rfl
theorem dX11_join_37 : decode cX11_join 37 = .ok (.iconst 0, 1) := op3 (bA_at bd03_dec_X11_3_43 9 rfl rfl)
theorem dX11_join_38 : decode cX11_join 38 = .ok (.istore 5, 2) := op54 (bA_at bd03_dec_X11_3_43 10 rfl rfl) rfl
theorem dX11_join_40 : decode cX11_join 40 = .ok (.iload 5, 2) := op21 (bA_at bd03_dec_X11_3_43 11 rfl rfl) rfl
theorem bd03_dec_X11_3_44 : ([(0, [42]), (1, [180, 1, 51]), (4, [162, 0, 23]), (7, [42]), (8, [180, 0, 91]), (11, [21, 5]), (13, [42]), (14, [180, 0, 59]), (17, [21, 5]), (19, [46]), (20, [79]), (21, [132, 5, 1])] : List (Nat × List UInt8)).all (fun x => prB x.2 ((cX11_join.data.toList.drop 42).drop x.1)) = true := by decide +kernel
theorem dX11_join_42 : decode cX11_join 42 = .ok (.aload_n 0, 1) := op42 (bA_at bd03_dec_X11_3_44 0 rfl rfl)
theorem dX11_join_43 : decode cX11_join 43 = .ok (.getfield 307, 3) := op180 (bA_at bd03_dec_X11_3_44 1 rfl rfl) rfl
theorem dX11_join_46 : decode cX11_join 46 = .ok (.if_icmp .ge 23, 3) := op162 (bA_at bd03_dec_X11_3_44 2 rfl rfl) (by decide +kernel)
theorem dX11_join_49 : decode cX11_join 49 = .ok (.aload_n 0, 1) := op42 (bA_at bd03_dec_X11_3_44 3 rfl rfl)
theorem dX11_join_50 : decode cX11_join 50 = .ok (.getfield 91, 3) := op180 (bA_at bd03_dec_X11_3_44 4 rfl rfl) rfl
theorem dX11_join_53 : decode cX11_join 53 = .ok (.iload 5, 2) := op21 (bA_at bd03_dec_X11_3_44 5 rfl rfl) rfl
theorem dX11_join_55 : decode cX11_join 55 = .ok (.aload_n 0, 1) := op42 (bA_at bd03_dec_X11_3_44 6 rfl rfl)
theorem dX11_join_56 : decode cX11_join 56 = .ok (.getfield 59, 3) := op180 (bA_at bd03_dec_X11_3_44 7 rfl rfl) rfl
theorem dX11_join_59 : decode cX11_join 59 = .ok (.iload 5, 2) := op21 (bA_at bd03_dec_X11_3_44 8 rfl rfl) rfl
theorem dX11_join_61 : decode cX11_join 61 = .ok (.iaload, 1) := op46 (bA_at bd03_dec_X11_3_44 9 rfl rfl)
theorem dX11_join_62 : decode cX11_join 62 = .ok (.iastore, 1) := op79 (bA_at bd03_dec_X11_3_44 10 rfl rfl)
theorem dX11_join_63 : decode cX11_join 63 = .ok (.iinc 5 1, 3) := op132 (bA_at bd03_dec_X11_3_44 11 rfl rfl) rfl (by decide +kernel)
theorem bd03_dec_X11_3_45 : ([(0, [167, 255, 230]), (3, [42]), (4, [29]), (5, [3]), (6, [182, 1, 158]), (9, [2]), (10, [54, 5]), (12, [19, 1, 154]), (15, [54, 6]), (17, [3]), (18, [54, 7]), (20, [21, 7])] : List (Nat × List UInt8)).all (fun x => prB x.2 ((cX11_join.data.toList.drop 66).drop x.1)) = true := by decide +kernel
theorem dX11_join_66 : decode cX11_join 66 = .ok (.goto (-26), 3) := op167 (bA_at bd03_dec_X11_3_45 0 rfl rfl) (by decide +kernel)
theorem dX11_join_69 : decode cX11_join 69 = .ok (.aload_n 0, 1) := op42 (bA_at bd03_dec_X11_3_45 1 rfl rfl)
theorem dX11_join_70 : decode cX11_join 70 = .ok (.iload_n 3, 1) := op29 (bA_at bd03_dec_X11_3_45 2 rfl rfl)
theorem dX11_join_71 : decode cX11_join 71 = .ok (.iconst 0, 1) := op3 (bA_at bd03_dec_X11_3_45 3 rfl rfl)
theorem dX11_join_72 : decode cX11_join 72 = .ok (.invokevirtual 414, 3) := op182 (bA_at bd03_dec_X11_3_45 4 rfl rfl) rfl
theorem dX11_join_75 : decode cX11_join 75 = .ok (.iconst (-1), 1) := op2 (bA_at bd03_dec_X11_3_45 5 rfl rfl)
theorem dX11_join_76 : decode cX11_join 76 = .ok (.istore 5, 2) := op54 (bA_at bd03_dec_X11_3_45 6 rfl rfl) rfl
theorem dX11_join_78 : decode cX11_join 78 = .ok (.ldc_w 410, 3) := op19 (bA_at bd03_dec_X11_3_45 7 rfl rfl) rfl
theorem dX11_join_81 : decode cX11_join 81 = .ok (.istore 6, 2) := op54 (bA_at bd03_dec_X11_3_45 8 rfl rfl) rfl
theorem dX11_join_83 : decode cX11_join 83 = .ok (.iconst 0, 1) := op3 (bA_at bd03_dec_X11_3_45 9 rfl rfl)
theorem dX11_join_84 : decode cX11_join 84 = .ok (.istore 7, 2) := op54 (bA_at bd03_dec_X11_3_45 10 rfl rfl) rfl
theorem dX11_join_86 : decode cX11_join 86 = .ok (.iload 7, 2) := op21 (bA_at bd03_dec_X11_3_45 11 rfl rfl) rfl
theorem bd03_dec_X11_3_46 : ([(0, [42]), (1, [180, 1, 51]), (4, [162, 0, 53]), (7, [42]), (8, [180, 0, 59]), (11, [21, 7]), (13, [46]), (14, [42]), (15, [180, 0, 91]), (18, [21, 7]), (20, [46]), (21, [184, 0, 171])] : List (Nat × List UInt8)).all (fun x => prB x.2 ((cX11_join.data.toList.drop 88).drop x.1)) = true := by decide +kernel
theorem dX11_join_88 : decode cX11_join 88 = .ok (.aload_n 0, 1) := op42 (bA_at bd03_dec_X11_3_46 0 rfl rfl)
theorem dX11_join_89 : decode cX11_join 89 = .ok (.getfield 307, 3) := op180 (bA_at bd03_dec_X11_3_46 1 rfl rfl) rfl
theorem dX11_join_92 : decode cX11_join 92 = .ok (.if_icmp .ge 53, 3) := op162 (bA_at bd03_dec_X11_3_46 2 rfl rfl) (by decide +kernel)
theorem dX11_join_95 : decode cX11_join 95 = .ok (.aload_n 0, 1) := op42 (bA_at bd03_dec_X11_3_46 3 rfl rfl)
theorem dX11_join_96 : decode cX11_join 96 = .ok (.getfield 59, 3) := op180 (bA_at bd03_dec_X11_3_46 4 rfl rfl) rfl
theorem dX11_join_99 : decode cX11_join 99 = .ok (.iload 7, 2) := op21 (bA_at bd03_dec_X11_3_46 5 rfl rfl) rfl
theorem dX11_join_101 : decode cX11_join 101 = .ok (.iaload, 1) := op46 (bA_at bd03_dec_X11_3_46 6 rfl rfl)
theorem dX11_join_102 : decode cX11_join 102 = .ok (.aload_n 0, 1) := op42 (bA_at bd03_dec_X11_3_46 7 rfl rfl)
theorem dX11_join_103 : decode cX11_join 103 = .ok (.getfield 91, 3) := op180 (bA_at bd03_dec_X11_3_46 8 rfl rfl) rfl
theorem dX11_join_106 : decode cX11_join 106 = .ok (.iload 7, 2) := op21 (bA_at bd03_dec_X11_3_46 9 rfl rfl) rfl
theorem dX11_join_108 : decode cX11_join 108 = .ok (.iaload, 1) := op46 (bA_at bd03_dec_X11_3_46 10 rfl rfl)
theorem dX11_join_109 : decode cX11_join 109 = .ok (.invokestatic 171, 3) := op184 (bA_at bd03_dec_X11_3_46 11 rfl rfl) rfl
theorem bd03_dec_X11_3_47 : ([(0, [54, 8]), (2, [21, 8]), (4, [21, 6]), (6, [162, 0, 8]), (9, [21, 7]), (11, [167, 0, 5]), (14, [21, 5]), (16, [54, 5]), (18, [21, 6]), (20, [21, 8]), (22, [184, 1, 155]), (25, [54, 6])] : List (Nat × List UInt8)).all (fun x => prB x.2 ((cX11_join.data.toList.drop 112).drop x.1)) = true := by decide +kernel
theorem dX11_join_112 : decode cX11_join 112 = .ok (.istore 8, 2) := op54 (bA_at bd03_dec_X11_3_47 0 rfl rfl) rfl
theorem dX11_join_114 : decode cX11_join 114 = .ok (.iload 8, 2) := op21 (bA_at bd03_dec_X11_3_47 1 rfl rfl) rfl
theorem dX11_join_116 : decode cX11_join 116 = .ok (.iload 6, 2) := op21 (bA_at bd03_dec_X11_3_47 2 rfl rfl) rfl
theorem dX11_join_118 : decode cX11_join 118 = .ok (.if_icmp .ge 8, 3) := op162 (bA_at bd03_dec_X11_3_47 3 rfl rfl) (by decide +kernel)
theorem dX11_join_121 : decode cX11_join 121 = .ok (.iload 7, 2) := op21 (bA_at bd03_dec_X11_3_47 4 rfl rfl) rfl
theorem dX11_join_123 : decode cX11_join 123 = .ok (.goto 5, 3) := op167 (bA_at bd03_dec_X11_3_47 5 rfl rfl) (by decide +kernel)
theorem dX11_join_126 : decode cX11_join 126 = .ok (.iload 5, 2) := op21 (bA_at bd03_dec_X11_3_47 6 rfl rfl) rfl
theorem dX11_join_128 : decode cX11_join 128 = .ok (.istore 5, 2) := op54 (bA_at bd03_dec_X11_3_47 7 rfl rfl) rfl
theorem dX11_join_130 : decode cX11_join 130 = .ok (.iload 6, 2) := op21 (bA_at bd03_dec_X11_3_47 8 rfl rfl) rfl
theorem dX11_join_132 : decode cX11_join 132 = .ok (.iload 8, 2) := op21 (bA_at bd03_dec_X11_3_47 9 rfl rfl) rfl
theorem dX11_join_134 : decode cX11_join 134 = .ok (.invokestatic 411, 3) := op184 (bA_at bd03_dec_X11_3_47 10 rfl rfl) rfl
theorem dX11_join_137 : decode cX11_join 137 = .ok (.istore 6, 2) := op54 (bA_at bd03_dec_X11_3_47 11 rfl rfl) rfl
theorem bd03_dec_X11_3_48 : ([(0, [132, 7, 1]), (3, [167, 255, 200]), (6, [21, 5]), (8, [2]), (9, [159, 0, 8]), (12, [21, 4]), (14, [154, 0, 8]), (17, [21, 5]), (19, [167, 0, 5]), (22, [21, 6]), (24, [172])] : List (Nat × List UInt8)).all (fun x => prB x.2 ((cX11_join.data.toList.drop 139).drop x.1)) = true := by decide +kernel
theorem dX11_join_139 : decode cX11_join 139 = .ok (.iinc 7 1, 3) := op132 (bA_at bd03_dec_X11_3_48 0 rfl rfl) rfl (by decide +kernel)
theorem dX11_join_142 : decode cX11_join 142 = .ok (.goto (-56), 3) := op167 (bA_at bd03_dec_X11_3_48 1 rfl rfl) (by decide +kernel)
theorem dX11_join_145 : decode cX11_join 145 = .ok (.iload 5, 2) := op21 (bA_at bd03_dec_X11_3_48 2 rfl rfl) rfl
theorem dX11_join_147 : decode cX11_join 147 = .ok (.iconst (-1), 1) := op2 (bA_at bd03_dec_X11_3_48 3 rfl rfl)
theorem dX11_join_148 : decode cX11_join 148 = .ok (.if_icmp .eq 8, 3) := op159 (bA_at bd03_dec_X11_3_48 4 rfl rfl) (by decide +kernel)
theorem dX11_join_151 : decode cX11_join 151 = .ok (.iload 4, 2) := op21 (bA_at bd03_dec_X11_3_48 5 rfl rfl) rfl
theorem dX11_join_153 : decode cX11_join 153 = .ok (.ifCond .ne 8, 3) := op154 (bA_at bd03_dec_X11_3_48 6 rfl rfl) (by decide +kernel)
theorem dX11_join_156 : decode cX11_join 156 = .ok (.iload 5, 2) := op21 (bA_at bd03_dec_X11_3_48 7 rfl rfl) rfl
theorem dX11_join_158 : decode cX11_join 158 = .ok (.goto 5, 3) := op167 (bA_at bd03_dec_X11_3_48 8 rfl rfl) (by decide +kernel)
theorem dX11_join_161 : decode cX11_join 161 = .ok (.iload 6, 2) := op21 (bA_at bd03_dec_X11_3_48 9 rfl rfl) rfl
theorem dX11_join_163 : decode cX11_join 163 = .ok (.ireturn, 1) := op172 (bA_at bd03_dec_X11_3_48 10 rfl rfl)
theorem bd03_dec_X11_3_49 : ([(0, [42]), (1, [3]), (2, [181, 0, 97]), (5, [42]), (6, [27]), (7, [182, 1, 57]), (10, [153, 0, 12]), (13, [28]), (14, [3]), (15, [6]), (16, [184, 0, 109]), (19, [154, 0, 5])] : List (Nat × List UInt8)).all (fun x => prB x.2 ((cX11_slopes.data.toList.drop 0).drop x.1)) = true := by decide +kernel
theorem dX11_slopes_0 : decode cX11_slopes 0 = .ok (.aload_n 0, 1) := op42 (bA_at bd03_dec_X11_3_49 0 rfl rfl)
theorem dX11_slopes_1 : decode cX11_slopes 1 = .ok (.iconst 0, 1) := op3 (bA_at bd03_dec_X11_3_49 1 rfl rfl)
theorem dX11_slopes_2 : decode cX11_slopes 2 = .ok (.putfield 97, 3) := op181 (bA_at bd03_dec_X11_3_49 2 rfl rfl) rfl
theorem dX11_slopes_5 : decode cX11_slopes 5 = .ok (.aload_n 0, 1) := op42 (bA_at bd03_dec_X11_3_49 3 rfl rfl)
theorem dX11_slopes_6 : decode cX11_slopes 6 = .ok (.iload_n 1, 1) := op27 (bA_at bd03_dec_X11_3_49 4 rfl rfl)
theorem dX11_slopes_7 : decode cX11_slopes 7 = .ok (.invokevirtual 313, 3) := op182 (bA_at bd03_dec_X11_3_49 5 rfl rfl) rfl
theorem dX11_slopes_10 : decode cX11_slopes 10 = .ok (.ifCond .eq 12, 3) := op153 (bA_at bd03_dec_X11_3_49 6 rfl rfl) (by decide +kernel)
theorem dX11_slopes_13 : decode cX11_slopes 13 = .ok (.iload_n 2, 1) := op28 (bA_at bd03_dec_X11_3_49 7 rfl rfl)
theorem dX11_slopes_14 : decode cX11_slopes 14 = .ok (.iconst 0, 1) := op3 (bA_at bd03_dec_X11_3_49 8 rfl rfl)
theorem dX11_slopes_15 : decode cX11_slopes 15 = .ok (.iconst 3, 1) := op6 (bA_at bd03_dec_X11_3_49 9 rfl rfl)
theorem dX11_slopes_16 : decode cX11_slopes 16 = .ok (.invokestatic 109, 3) := op184 (bA_at bd03_dec_X11_3_49 10 rfl rfl) rfl
theorem dX11_slopes_19 : decode cX11_slopes 19 = .ok (.ifCond .ne 5, 3) := op154 (bA_at bd03_dec_X11_3_49 11 rfl rfl) (by decide +kernel)
theorem bd03_dec_X11_3_50 : ([(0, [2]), (1, [172]), (2, [3]), (3, [62]), (4, [3]), (5, [54, 4]), (7, [3]), (8, [54, 5]), (10, [3]), (11, [54, 6]), (13, [3]), (14, [54, 7])] : List (Nat × List UInt8)).all (fun x => prB x.2 ((cX11_slopes.data.toList.drop 22).drop x.1)) = true := by decide +kernel
theorem dX11_slopes_22 : decode cX11_slopes 22 = .ok (.iconst (-1), 1) := op2 (bA_at bd03_dec_X11_3_50 0 rfl rfl)
theorem dX11_slopes_23 : decode cX11_slopes 23 = .ok (.ireturn, 1) := op172 (bA_at bd03_dec_X11_3_50 1 rfl rfl)
theorem dX11_slopes_24 : decode cX11_slopes 24 = .ok (.iconst 0, 1) := op3 (bA_at bd03_dec_X11_3_50 2 rfl rfl)
theorem dX11_slopes_25 : decode cX11_slopes 25 = .ok (.istore_n 3, 1) := op62 (bA_at bd03_dec_X11_3_50 3 rfl rfl)
theorem dX11_slopes_26 : decode cX11_slopes 26 = .ok (.iconst 0, 1) := op3 (bA_at bd03_dec_X11_3_50 4 rfl rfl)
theorem dX11_slopes_27 : decode cX11_slopes 27 = .ok (.istore 4, 2) := op54 (bA_at bd03_dec_X11_3_50 5 rfl rfl) rfl
theorem dX11_slopes_29 : decode cX11_slopes 29 = .ok (.iconst 0, 1) := op3 (bA_at bd03_dec_X11_3_50 6 rfl rfl)
theorem dX11_slopes_30 : decode cX11_slopes 30 = .ok (.istore 5, 2) := op54 (bA_at bd03_dec_X11_3_50 7 rfl rfl) rfl
theorem dX11_slopes_32 : decode cX11_slopes 32 = .ok (.iconst 0, 1) := op3 (bA_at bd03_dec_X11_3_50 8 rfl rfl)
theorem dX11_slopes_33 : decode cX11_slopes 33 = .ok (.istore 6, 2) := op54 (bA_at bd03_dec_X11_3_50 9 rfl rfl) rfl
theorem dX11_slopes_35 : decode cX11_slopes 35 = .ok (.iconst 0, 1) := op3 (bA_at bd03_dec_X11_3_50 10 rfl rfl)
theorem dX11_slopes_36 : decode cX11_slopes 36 = .ok (.istore 7, 2) := op54 (bA_at bd03_dec_X11_3_50 11 rfl rfl) rfl
theorem bd03_dec_X11_3_51 : ([(0, [21, 7]), (2, [42]), (3, [180, 1, 51]), (6, [162, 0, 112]), (9, [42]), (10, [21, 7]), (12, [3]), (13, [182, 1, 158]), (16, [42]), (17, [19, 1, 194]), (20, [182, 1, 167]), (23, [4])] : List (Nat × List UInt8)).all (fun x => prB x.2 ((cX11_slopes.data.toList.drop 38).drop x.1)) = true := by decide +kernel
theorem dX11_slopes_38 : decode cX11_slopes 38 = .ok (.iload 7, 2) := op21 (bA_at bd03_dec_X11_3_51 0 rfl rfl) rfl
theorem dX11_slopes_40 : decode cX11_slopes 40 = .ok (.aload_n 0, 1) := op42 (bA_at bd03_dec_X11_3_51 1 rfl rfl)
theorem dX11_slopes_41 : decode cX11_slopes 41 = .ok (.getfield 307, 3) := op180 (bA_at bd03_dec_X11_3_51 2 rfl rfl) rfl
theorem dX11_slopes_44 : decode cX11_slopes 44 = .ok (.if_icmp .ge 112, 3) := op162 (bA_at bd03_dec_X11_3_51 3 rfl rfl) (by decide +kernel)
theorem dX11_slopes_47 : decode cX11_slopes 47 = .ok (.aload_n 0, 1) := op42 (bA_at bd03_dec_X11_3_51 4 rfl rfl)
theorem dX11_slopes_48 : decode cX11_slopes 48 = .ok (.iload 7, 2) := op21 (bA_at bd03_dec_X11_3_51 5 rfl rfl) rfl
theorem dX11_slopes_50 : decode cX11_slopes 50 = .ok (.iconst 0, 1) := op3 (bA_at bd03_dec_X11_3_51 6 rfl rfl)
theorem dX11_slopes_51 : decode cX11_slopes 51 = .ok (.invokevirtual 414, 3) := op182 (bA_at bd03_dec_X11_3_51 7 rfl rfl) rfl
theorem dX11_slopes_54 : decode cX11_slopes 54 = .ok (.aload_n 0, 1) := op42 (bA_at bd03_dec_X11_3_51 8 rfl rfl)
theorem dX11_slopes_55 : decode cX11_slopes 55 = .ok (.ldc_w 450, 3) := op19 (bA_at bd03_dec_X11_3_51 9 rfl rfl) rfl
theorem dX11_slopes_58 : decode cX11_slopes 58 = .ok (.invokevirtual 423, 3) := op182 (bA_at bd03_dec_X11_3_51 10 rfl rfl) rfl
theorem dX11_slopes_61 : decode cX11_slopes 61 = .ok (.iconst 1, 1) := op4 (bA_at bd03_dec_X11_3_51 11 rfl rfl)
theorem bd03_dec_X11_3_52 : ([(0, [21, 7]), (2, [120]), (3, [2]), (4, [130]), (5, [126]), (6, [54, 8]), (8, [29]), (9, [21, 8]), (11, [128]), (12, [62]), (13, [21, 4]), (15, [21, 8])] : List (Nat × List UInt8)).all (fun x => prB x.2 ((cX11_slopes.data.toList.drop 62).drop x.1)) = true := by decide +kernel
theorem dX11_slopes_62 : decode cX11_slopes 62 = .ok (.iload 7, 2) := op21 (bA_at bd03_dec_X11_3_52 0 rfl rfl) rfl
theorem dX11_slopes_64 : decode cX11_slopes 64 = .ok (.ishl, 1) := op120 (bA_at bd03_dec_X11_3_52 1 rfl rfl)
theorem dX11_slopes_65 : decode cX11_slopes 65 = .ok (.iconst (-1), 1) := op2 (bA_at bd03_dec_X11_3_52 2 rfl rfl)
theorem dX11_slopes_66 : decode cX11_slopes 66 = .ok (.ixor, 1) := op130 (bA_at bd03_dec_X11_3_52 3 rfl rfl)
theorem dX11_slopes_67 : decode cX11_slopes 67 = .ok (.iand, 1) := op126 (bA_at bd03_dec_X11_3_52 4 rfl rfl)
theorem dX11_slopes_68 : decode cX11_slopes 68 = .ok (.istore 8, 2) := op54 (bA_at bd03_dec_X11_3_52 5 rfl rfl) rfl
theorem dX11_slopes_70 : decode cX11_slopes 70 = .ok (.iload_n 3, 1) := op29 (bA_at bd03_dec_X11_3_52 6 rfl rfl)
theorem dX11_slopes_71 : decode cX11_slopes 71 = .ok (.iload 8, 2) := op21 (bA_at bd03_dec_X11_3_52 7 rfl rfl) rfl
theorem dX11_slopes_73 : decode cX11_slopes 73 = .ok (.ior, 1) := op128 (bA_at bd03_dec_X11_3_52 8 rfl rfl)
theorem dX11_slopes_74 : decode cX11_slopes 74 = .ok (.istore_n 3, 1) := op62 (bA_at bd03_dec_X11_3_52 9 rfl rfl)
theorem dX11_slopes_75 : decode cX11_slopes 75 = .ok (.iload 4, 2) := op21 (bA_at bd03_dec_X11_3_52 10 rfl rfl) rfl
theorem dX11_slopes_77 : decode cX11_slopes 77 = .ok (.iload 8, 2) := op21 (bA_at bd03_dec_X11_3_52 11 rfl rfl) rfl
theorem bd03_dec_X11_3_53 : ([(0, [154, 0, 19]), (3, [42]), (4, [21, 7]), (6, [182, 1, 99]), (9, [154, 0, 10]), (12, [4]), (13, [21, 7]), (15, [120]), (16, [167, 0, 4]), (19, [3]), (20, [128]), (21, [54, 4])] : List (Nat × List UInt8)).all (fun x => prB x.2 ((cX11_slopes.data.toList.drop 79).drop x.1)) = true := by decide +kernel
theorem dX11_slopes_79 : decode cX11_slopes 79 = .ok (.ifCond .ne 19, 3) := op154 (bA_at bd03_dec_X11_3_53 0 rfl rfl) (by decide +kernel)
theorem dX11_slopes_82 : decode cX11_slopes 82 = .ok (.aload_n 0, 1) := op42 (bA_at bd03_dec_X11_3_53 1 rfl rfl)
theorem dX11_slopes_83 : decode cX11_slopes 83 = .ok (.iload 7, 2) := op21 (bA_at bd03_dec_X11_3_53 2 rfl rfl) rfl
theorem dX11_slopes_85 : decode cX11_slopes 85 = .ok (.invokevirtual 355, 3) := op182 (bA_at bd03_dec_X11_3_53 3 rfl rfl) rfl
theorem dX11_slopes_88 : decode cX11_slopes 88 = .ok (.ifCond .ne 10, 3) := op154 (bA_at bd03_dec_X11_3_53 4 rfl rfl) (by decide +kernel)
theorem dX11_slopes_91 : decode cX11_slopes 91 = .ok (.iconst 1, 1) := op4 (bA_at bd03_dec_X11_3_53 5 rfl rfl)
theorem dX11_slopes_92 : decode cX11_slopes 92 = .ok (.iload 7, 2) := op21 (bA_at bd03_dec_X11_3_53 6 rfl rfl) rfl
theorem dX11_slopes_94 : decode cX11_slopes 94 = .ok (.ishl, 1) := op120 (bA_at bd03_dec_X11_3_53 7 rfl rfl)
theorem dX11_slopes_95 : decode cX11_slopes 95 = .ok (.goto 4, 3) := op167 (bA_at bd03_dec_X11_3_53 8 rfl rfl) (by decide +kernel)
theorem dX11_slopes_98 : decode cX11_slopes 98 = .ok (.iconst 0, 1) := op3 (bA_at bd03_dec_X11_3_53 9 rfl rfl)
theorem dX11_slopes_99 : decode cX11_slopes 99 = .ok (.ior, 1) := op128 (bA_at bd03_dec_X11_3_53 10 rfl rfl)
theorem dX11_slopes_100 : decode cX11_slopes 100 = .ok (.istore 4, 2) := op54 (bA_at bd03_dec_X11_3_53 11 rfl rfl) rfl
theorem bd03_dec_X11_3_54 : ([(0, [21, 5]), (2, [21, 8]), (4, [184, 1, 173]), (7, [96]), (8, [54, 5]), (10, [42]), (11, [21, 7]), (13, [182, 1, 191]), (16, [3]), (17, [54, 9]), (19, [21, 9]), (21, [42])] : List (Nat × List UInt8)).all (fun x => prB x.2 ((cX11_slopes.data.toList.drop 102).drop x.1)) = true := by decide +kernel
theorem dX11_slopes_102 : decode cX11_slopes 102 = .ok (.iload 5, 2) := op21 (bA_at bd03_dec_X11_3_54 0 rfl rfl) rfl
theorem dX11_slopes_104 : decode cX11_slopes 104 = .ok (.iload 8, 2) := op21 (bA_at bd03_dec_X11_3_54 1 rfl rfl) rfl
theorem dX11_slopes_106 : decode cX11_slopes 106 = .ok (.invokestatic 429, 3) := op184 (bA_at bd03_dec_X11_3_54 2 rfl rfl) rfl
theorem dX11_slopes_109 : decode cX11_slopes 109 = .ok (.iadd, 1) := op96 (bA_at bd03_dec_X11_3_54 3 rfl rfl)
theorem dX11_slopes_110 : decode cX11_slopes 110 = .ok (.istore 5, 2) := op54 (bA_at bd03_dec_X11_3_54 4 rfl rfl) rfl
theorem dX11_slopes_112 : decode cX11_slopes 112 = .ok (.aload_n 0, 1) := op42 (bA_at bd03_dec_X11_3_54 5 rfl rfl)
theorem dX11_slopes_113 : decode cX11_slopes 113 = .ok (.iload 7, 2) := op21 (bA_at bd03_dec_X11_3_54 6 rfl rfl) rfl
theorem dX11_slopes_115 : decode cX11_slopes 115 = .ok (.invokevirtual 447, 3) := op182 (bA_at bd03_dec_X11_3_54 7 rfl rfl) rfl
theorem dX11_slopes_118 : decode cX11_slopes 118 = .ok (.iconst 0, 1) := op3 (bA_at bd03_dec_X11_3_54 8 rfl rfl)
theorem dX11_slopes_119 : decode cX11_slopes 119 = .ok (.istore 9, 2) := op54 (bA_at bd03_dec_X11_3_54 9 rfl rfl) rfl
theorem dX11_slopes_121 : decode cX11_slopes 121 = .ok (.iload 9, 2) := op21 (bA_at bd03_dec_X11_3_54 10 rfl rfl) rfl
theorem dX11_slopes_123 : decode cX11_slopes 123 = .ok (.aload_n 0, 1) := op42 (bA_at bd03_dec_X11_3_54 11 rfl rfl)
theorem bd03_dec_X11_3_55 : ([(0, [180, 1, 51]), (3, [162, 0, 23]), (6, [21, 6]), (8, [42]), (9, [180, 0, 68]), (12, [21, 9]), (14, [46]), (15, [184, 0, 171]), (18, [54, 6]), (20, [132, 9, 1]), (23, [167, 255, 230]), (26, [132, 7, 1])] : List (Nat × List UInt8)).all (fun x => prB x.2 ((cX11_slopes.data.toList.drop 124).drop x.1)) = true := by decide +kernel
theorem dX11_slopes_124 : decode cX11_slopes 124 = .ok (.getfield 307, 3) := op180 (bA_at bd03_dec_X11_3_55 0 rfl rfl) rfl
theorem dX11_slopes_127 : decode cX11_slopes 127 = .ok (.if_icmp .ge 23, 3) := op162 (bA_at bd03_dec_X11_3_55 1 rfl rfl) (by decide +kernel)
theorem dX11_slopes_130 : decode cX11_slopes 130 = .ok (.iload 6, 2) := op21 (bA_at bd03_dec_X11_3_55 2 rfl rfl) rfl
theorem dX11_slopes_132 : decode cX11_slopes 132 = .ok (.aload_n 0, 1) := op42 (bA_at bd03_dec_X11_3_55 3 rfl rfl)
theorem dX11_slopes_133 : decode cX11_slopes 133 = .ok (.getfield 68, 3) := op180 (bA_at bd03_dec_X11_3_55 4 rfl rfl) rfl
theorem dX11_slopes_136 : decode cX11_slopes 136 = .ok (.iload 9, 2) := op21 (bA_at bd03_dec_X11_3_55 5 rfl rfl) rfl
theorem dX11_slopes_138 : decode cX11_slopes 138 = .ok (.iaload, 1) := op46 (bA_at bd03_dec_X11_3_55 6 rfl rfl)
theorem dX11_slopes_139 : decode cX11_slopes 139 = .ok (.invokestatic 171, 3) := op184 (bA_at bd03_dec_X11_3_55 7 rfl rfl) rfl
theorem dX11_slopes_142 : decode cX11_slopes 142 = .ok (.istore 6, 2) := op54 (bA_at bd03_dec_X11_3_55 8 rfl rfl) rfl
theorem dX11_slopes_144 : decode cX11_slopes 144 = .ok (.iinc 9 1, 3) := op132 (bA_at bd03_dec_X11_3_55 9 rfl rfl) rfl (by decide +kernel)
theorem dX11_slopes_147 : decode cX11_slopes 147 = .ok (.goto (-26), 3) := op167 (bA_at bd03_dec_X11_3_55 10 rfl rfl) (by decide +kernel)
theorem dX11_slopes_150 : decode cX11_slopes 150 = .ok (.iinc 7 1, 3) := op132 (bA_at bd03_dec_X11_3_55 11 rfl rfl) rfl (by decide +kernel)
theorem bd03_dec_X11_3_56 : ([(0, [167, 255, 141]), (3, [28]), (4, [154, 0, 14]), (7, [42]), (8, [182, 1, 179]), (11, [29]), (12, [2]), (13, [130]), (14, [126]), (15, [167, 0, 25]), (18, [28]), (19, [4])] : List (Nat × List UInt8)).all (fun x => prB x.2 ((cX11_slopes.data.toList.drop 153).drop x.1)) = true := by decide +kernel
theorem dX11_slopes_153 : decode cX11_slopes 153 = .ok (.goto (-115), 3) := op167 (bA_at bd03_dec_X11_3_56 0 rfl rfl) (by decide +kernel)
theorem dX11_slopes_156 : decode cX11_slopes 156 = .ok (.iload_n 2, 1) := op28 (bA_at bd03_dec_X11_3_56 1 rfl rfl)
theorem dX11_slopes_157 : decode cX11_slopes 157 = .ok (.ifCond .ne 14, 3) := op154 (bA_at bd03_dec_X11_3_56 2 rfl rfl) (by decide +kernel)
theorem dX11_slopes_160 : decode cX11_slopes 160 = .ok (.aload_n 0, 1) := op42 (bA_at bd03_dec_X11_3_56 3 rfl rfl)
theorem dX11_slopes_161 : decode cX11_slopes 161 = .ok (.invokevirtual 435, 3) := op182 (bA_at bd03_dec_X11_3_56 4 rfl rfl) rfl
theorem dX11_slopes_164 : decode cX11_slopes 164 = .ok (.iload_n 3, 1) := op29 (bA_at bd03_dec_X11_3_56 5 rfl rfl)
theorem dX11_slopes_165 : decode cX11_slopes 165 = .ok (.iconst (-1), 1) := op2 (bA_at bd03_dec_X11_3_56 6 rfl rfl)
theorem dX11_slopes_166 : decode cX11_slopes 166 = .ok (.ixor, 1) := op130 (bA_at bd03_dec_X11_3_56 7 rfl rfl)
theorem dX11_slopes_167 : decode cX11_slopes 167 = .ok (.iand, 1) := op126 (bA_at bd03_dec_X11_3_56 8 rfl rfl)
theorem dX11_slopes_168 : decode cX11_slopes 168 = .ok (.goto 25, 3) := op167 (bA_at bd03_dec_X11_3_56 9 rfl rfl) (by decide +kernel)
theorem dX11_slopes_171 : decode cX11_slopes 171 = .ok (.iload_n 2, 1) := op28 (bA_at bd03_dec_X11_3_56 10 rfl rfl)
theorem dX11_slopes_172 : decode cX11_slopes 172 = .ok (.iconst 1, 1) := op4 (bA_at bd03_dec_X11_3_56 11 rfl rfl)
theorem bd03_dec_X11_3_57 : ([(0, [160, 0, 8]), (3, [21, 4]), (5, [167, 0, 15]), (8, [28]), (9, [5]), (10, [160, 0, 8]), (13, [21, 5]), (15, [167, 0, 5]), (18, [21, 6]), (20, [172])] : List (Nat × List UInt8)).all (fun x => prB x.2 ((cX11_slopes.data.toList.drop 173).drop x.1)) = true := by decide +kernel
theorem dX11_slopes_173 : decode cX11_slopes 173 = .ok (.if_icmp .ne 8, 3) := op160 (bA_at bd03_dec_X11_3_57 0 rfl rfl) (by decide +kernel)
theorem dX11_slopes_176 : decode cX11_slopes 176 = .ok (.iload 4, 2) := op21 (bA_at bd03_dec_X11_3_57 1 rfl rfl) rfl
theorem dX11_slopes_178 : decode cX11_slopes 178 = .ok (.goto 15, 3) := op167 (bA_at bd03_dec_X11_3_57 2 rfl rfl) (by decide +kernel)
theorem dX11_slopes_181 : decode cX11_slopes 181 = .ok (.iload_n 2, 1) := op28 (bA_at bd03_dec_X11_3_57 3 rfl rfl)
theorem dX11_slopes_182 : decode cX11_slopes 182 = .ok (.iconst 2, 1) := op5 (bA_at bd03_dec_X11_3_57 4 rfl rfl)
theorem dX11_slopes_183 : decode cX11_slopes 183 = .ok (.if_icmp .ne 8, 3) := op160 (bA_at bd03_dec_X11_3_57 5 rfl rfl) (by decide +kernel)
theorem dX11_slopes_186 : decode cX11_slopes 186 = .ok (.iload 5, 2) := op21 (bA_at bd03_dec_X11_3_57 6 rfl rfl) rfl
theorem dX11_slopes_188 : decode cX11_slopes 188 = .ok (.goto 5, 3) := op167 (bA_at bd03_dec_X11_3_57 7 rfl rfl) (by decide +kernel)
theorem dX11_slopes_191 : decode cX11_slopes 191 = .ok (.iload 6, 2) := op21 (bA_at bd03_dec_X11_3_57 8 rfl rfl) rfl
theorem dX11_slopes_193 : decode cX11_slopes 193 = .ok (.ireturn, 1) := op172 (bA_at bd03_dec_X11_3_57 9 rfl rfl)
theorem bd03_dec_X11_3_58 : ([(0, [42]), (1, [3]), (2, [181, 0, 97]), (5, [42]), (6, [27]), (7, [182, 1, 57]), (10, [153, 0, 40]), (13, [42]), (14, [28]), (15, [182, 1, 60]), (18, [153, 0, 32]), (21, [42])] : List (Nat × List UInt8)).all (fun x => prB x.2 ((cX11_flood.data.toList.drop 0).drop x.1)) = true := by decide +kernel
theorem dX11_flood_0 : decode cX11_flood 0 = .ok (.aload_n 0, 1) := op42 (bA_at bd03_dec_X11_3_58 0 rfl rfl)
theorem dX11_flood_1 : decode cX11_flood 1 = .ok (.iconst 0, 1) := op3 (bA_at bd03_dec_X11_3_58 1 rfl rfl)
theorem dX11_flood_2 : decode cX11_flood 2 = .ok (.putfield 97, 3) := op181 (bA_at bd03_dec_X11_3_58 2 rfl rfl) rfl
theorem dX11_flood_5 : decode cX11_flood 5 = .ok (.aload_n 0, 1) := op42 (bA_at bd03_dec_X11_3_58 3 rfl rfl)
theorem dX11_flood_6 : decode cX11_flood 6 = .ok (.iload_n 1, 1) := op27 (bA_at bd03_dec_X11_3_58 4 rfl rfl)
theorem dX11_flood_7 : decode cX11_flood 7 = .ok (.invokevirtual 313, 3) := op182 (bA_at bd03_dec_X11_3_58 5 rfl rfl) rfl
theorem dX11_flood_10 : decode cX11_flood 10 = .ok (.ifCond .eq 40, 3) := op153 (bA_at bd03_dec_X11_3_58 6 rfl rfl) (by decide +kernel)
theorem dX11_flood_13 : decode cX11_flood 13 = .ok (.aload_n 0, 1) := op42 (bA_at bd03_dec_X11_3_58 7 rfl rfl)
theorem dX11_flood_14 : decode cX11_flood 14 = .ok (.iload_n 2, 1) := op28 (bA_at bd03_dec_X11_3_58 8 rfl rfl)
theorem dX11_flood_15 : decode cX11_flood 15 = .ok (.invokevirtual 316, 3) := op182 (bA_at bd03_dec_X11_3_58 9 rfl rfl) rfl
theorem dX11_flood_18 : decode cX11_flood 18 = .ok (.ifCond .eq 32, 3) := op153 (bA_at bd03_dec_X11_3_58 10 rfl rfl) (by decide +kernel)
theorem dX11_flood_21 : decode cX11_flood 21 = .ok (.aload_n 0, 1) := op42 (bA_at bd03_dec_X11_3_58 11 rfl rfl)
theorem bd03_dec_X11_3_59 : ([(0, [29]), (1, [182, 1, 60]), (4, [153, 0, 24]), (7, [28]), (8, [29]), (9, [159, 0, 19]), (12, [42]), (13, [28]), (14, [182, 1, 99]), (17, [154, 0, 11]), (20, [42]), (21, [29])] : List (Nat × List UInt8)).all (fun x => prB x.2 ((cX11_flood.data.toList.drop 22).drop x.1)) = true := by decide +kernel
theorem dX11_flood_22 : decode cX11_flood 22 = .ok (.iload_n 3, 1) := op29 (bA_at bd03_dec_X11_3_59 0 rfl rfl)
theorem dX11_flood_23 : decode cX11_flood 23 = .ok (.invokevirtual 316, 3) := op182 (bA_at bd03_dec_X11_3_59 1 rfl rfl) rfl
theorem dX11_flood_26 : decode cX11_flood 26 = .ok (.ifCond .eq 24, 3) := op153 (bA_at bd03_dec_X11_3_59 2 rfl rfl) (by decide +kernel)
theorem dX11_flood_29 : decode cX11_flood 29 = .ok (.iload_n 2, 1) := op28 (bA_at bd03_dec_X11_3_59 3 rfl rfl)
theorem dX11_flood_30 : decode cX11_flood 30 = .ok (.iload_n 3, 1) := op29 (bA_at bd03_dec_X11_3_59 4 rfl rfl)
theorem dX11_flood_31 : decode cX11_flood 31 = .ok (.if_icmp .eq 19, 3) := op159 (bA_at bd03_dec_X11_3_59 5 rfl rfl) (by decide +kernel)
theorem dX11_flood_34 : decode cX11_flood 34 = .ok (.aload_n 0, 1) := op42 (bA_at bd03_dec_X11_3_59 6 rfl rfl)
theorem dX11_flood_35 : decode cX11_flood 35 = .ok (.iload_n 2, 1) := op28 (bA_at bd03_dec_X11_3_59 7 rfl rfl)
theorem dX11_flood_36 : decode cX11_flood 36 = .ok (.invokevirtual 355, 3) := op182 (bA_at bd03_dec_X11_3_59 8 rfl rfl) rfl
theorem dX11_flood_39 : decode cX11_flood 39 = .ok (.ifCond .ne 11, 3) := op154 (bA_at bd03_dec_X11_3_59 9 rfl rfl) (by decide +kernel)
theorem dX11_flood_42 : decode cX11_flood 42 = .ok (.aload_n 0, 1) := op42 (bA_at bd03_dec_X11_3_59 10 rfl rfl)
theorem dX11_flood_43 : decode cX11_flood 43 = .ok (.iload_n 3, 1) := op29 (bA_at bd03_dec_X11_3_59 11 rfl rfl)
theorem bd03_dec_X11_3_60 : ([(0, [182, 1, 99]), (3, [153, 0, 5]), (6, [2]), (7, [172]), (8, [2]), (9, [54, 5]), (11, [3]), (12, [54, 6]), (14, [21, 6]), (16, [4]), (17, [42]), (18, [180, 1, 51])] : List (Nat × List UInt8)).all (fun x => prB x.2 ((cX11_flood.data.toList.drop 44).drop x.1)) = true := by decide +kernel
theorem dX11_flood_44 : decode cX11_flood 44 = .ok (.invokevirtual 355, 3) := op182 (bA_at bd03_dec_X11_3_60 0 rfl rfl) rfl
theorem dX11_flood_47 : decode cX11_flood 47 = .ok (.ifCond .eq 5, 3) := op153 (bA_at bd03_dec_X11_3_60 1 rfl rfl) (by decide +kernel)
theorem dX11_flood_50 : decode cX11_flood 50 = .ok (.iconst (-1), 1) := op2 (bA_at bd03_dec_X11_3_60 2 rfl rfl)
theorem dX11_flood_51 : decode cX11_flood 51 = .ok (.ireturn, 1) := op172 (bA_at bd03_dec_X11_3_60 3 rfl rfl)
theorem dX11_flood_52 : decode cX11_flood 52 = .ok (.iconst (-1), 1) := op2 (bA_at bd03_dec_X11_3_60 4 rfl rfl)
theorem dX11_flood_53 : decode cX11_flood 53 = .ok (.istore 5, 2) := op54 (bA_at bd03_dec_X11_3_60 5 rfl rfl) rfl
theorem dX11_flood_55 : decode cX11_flood 55 = .ok (.iconst 0, 1) := op3 (bA_at bd03_dec_X11_3_60 6 rfl rfl)
theorem dX11_flood_56 : decode cX11_flood 56 = .ok (.istore 6, 2) := op54 (bA_at bd03_dec_X11_3_60 7 rfl rfl) rfl
theorem dX11_flood_58 : decode cX11_flood 58 = .ok (.iload 6, 2) := op21 (bA_at bd03_dec_X11_3_60 8 rfl rfl) rfl
theorem dX11_flood_60 : decode cX11_flood 60 = .ok (.iconst 1, 1) := op4 (bA_at bd03_dec_X11_3_60 9 rfl rfl)
theorem dX11_flood_61 : decode cX11_flood 61 = .ok (.aload_n 0, 1) := op42 (bA_at bd03_dec_X11_3_60 10 rfl rfl)
theorem dX11_flood_62 : decode cX11_flood 62 = .ok (.getfield 307, 3) := op180 (bA_at bd03_dec_X11_3_60 11 rfl rfl) rfl
theorem bd03_dec_X11_3_61 : ([(0, [120]), (1, [162, 0, 86]), (4, [42]), (5, [28]), (6, [21, 6]), (8, [182, 1, 158]), (11, [21, 6]), (13, [28]), (14, [184, 0, 101]), (17, [154, 0, 28]), (20, [21, 6]), (22, [29])] : List (Nat × List UInt8)).all (fun x => prB x.2 ((cX11_flood.data.toList.drop 65).drop x.1)) = true := by decide +kernel
theorem dX11_flood_65 : decode cX11_flood 65 = .ok (.ishl, 1) := op120 (bA_at bd03_dec_X11_3_61 0 rfl rfl)
theorem dX11_flood_66 : decode cX11_flood 66 = .ok (.if_icmp .ge 86, 3) := op162 (bA_at bd03_dec_X11_3_61 1 rfl rfl) (by decide +kernel)
theorem dX11_flood_69 : decode cX11_flood 69 = .ok (.aload_n 0, 1) := op42 (bA_at bd03_dec_X11_3_61 2 rfl rfl)
theorem dX11_flood_70 : decode cX11_flood 70 = .ok (.iload_n 2, 1) := op28 (bA_at bd03_dec_X11_3_61 3 rfl rfl)
theorem dX11_flood_71 : decode cX11_flood 71 = .ok (.iload 6, 2) := op21 (bA_at bd03_dec_X11_3_61 4 rfl rfl) rfl
theorem dX11_flood_73 : decode cX11_flood 73 = .ok (.invokevirtual 414, 3) := op182 (bA_at bd03_dec_X11_3_61 5 rfl rfl) rfl
theorem dX11_flood_76 : decode cX11_flood 76 = .ok (.iload 6, 2) := op21 (bA_at bd03_dec_X11_3_61 6 rfl rfl) rfl
theorem dX11_flood_78 : decode cX11_flood 78 = .ok (.iload_n 2, 1) := op28 (bA_at bd03_dec_X11_3_61 7 rfl rfl)
theorem dX11_flood_79 : decode cX11_flood 79 = .ok (.invokestatic 101, 3) := op184 (bA_at bd03_dec_X11_3_61 8 rfl rfl) rfl
theorem dX11_flood_82 : decode cX11_flood 82 = .ok (.ifCond .ne 28, 3) := op154 (bA_at bd03_dec_X11_3_61 9 rfl rfl) (by decide +kernel)
theorem dX11_flood_85 : decode cX11_flood 85 = .ok (.iload 6, 2) := op21 (bA_at bd03_dec_X11_3_61 10 rfl rfl) rfl
theorem dX11_flood_87 : decode cX11_flood 87 = .ok (.iload_n 3, 1) := op29 (bA_at bd03_dec_X11_3_61 11 rfl rfl)
theorem bd03_dec_X11_3_62 : ([(0, [184, 0, 101]), (3, [154, 0, 19]), (6, [42]), (7, [180, 0, 59]), (10, [29]), (11, [46]), (12, [19, 1, 154]), (15, [161, 0, 7]), (18, [4]), (19, [167, 0, 4]), (22, [3]), (23, [54, 7])] : List (Nat × List UInt8)).all (fun x => prB x.2 ((cX11_flood.data.toList.drop 88).drop x.1)) = true := by decide +kernel
theorem dX11_flood_88 : decode cX11_flood 88 = .ok (.invokestatic 101, 3) := op184 (bA_at bd03_dec_X11_3_62 0 rfl rfl) rfl
theorem dX11_flood_91 : decode cX11_flood 91 = .ok (.ifCond .ne 19, 3) := op154 (bA_at bd03_dec_X11_3_62 1 rfl rfl) (by decide +kernel)
theorem dX11_flood_94 : decode cX11_flood 94 = .ok (.aload_n 0, 1) := op42 (bA_at bd03_dec_X11_3_62 2 rfl rfl)
theorem dX11_flood_95 : decode cX11_flood 95 = .ok (.getfield 59, 3) := op180 (bA_at bd03_dec_X11_3_62 3 rfl rfl) rfl
theorem dX11_flood_98 : decode cX11_flood 98 = .ok (.iload_n 3, 1) := op29 (bA_at bd03_dec_X11_3_62 4 rfl rfl)
theorem dX11_flood_99 : decode cX11_flood 99 = .ok (.iaload, 1) := op46 (bA_at bd03_dec_X11_3_62 5 rfl rfl)
theorem dX11_flood_100 : decode cX11_flood 100 = .ok (.ldc_w 410, 3) := op19 (bA_at bd03_dec_X11_3_62 6 rfl rfl) rfl
theorem dX11_flood_103 : decode cX11_flood 103 = .ok (.if_icmp .lt 7, 3) := op161 (bA_at bd03_dec_X11_3_62 7 rfl rfl) (by decide +kernel)
theorem dX11_flood_106 : decode cX11_flood 106 = .ok (.iconst 1, 1) := op4 (bA_at bd03_dec_X11_3_62 8 rfl rfl)
theorem dX11_flood_107 : decode cX11_flood 107 = .ok (.goto 4, 3) := op167 (bA_at bd03_dec_X11_3_62 9 rfl rfl) (by decide +kernel)
theorem dX11_flood_110 : decode cX11_flood 110 = .ok (.iconst 0, 1) := op3 (bA_at bd03_dec_X11_3_62 10 rfl rfl)
theorem dX11_flood_111 : decode cX11_flood 111 = .ok (.istore 7, 2) := op54 (bA_at bd03_dec_X11_3_62 11 rfl rfl) rfl
theorem bd03_dec_X11_3_63 : ([(0, [21, 7]), (2, [153, 0, 27]), (5, [21, 5]), (7, [2]), (8, [159, 0, 16]), (11, [21, 6]), (13, [184, 1, 173]), (16, [21, 5]), (18, [184, 1, 173]), (21, [162, 0, 8]), (24, [21, 6]), (26, [167, 0, 5])] : List (Nat × List UInt8)).all (fun x => prB x.2 ((cX11_flood.data.toList.drop 113).drop x.1)) = true := by decide +kernel
theorem dX11_flood_113 : decode cX11_flood 113 = .ok (.iload 7, 2) := op21 (bA_at bd03_dec_X11_3_63 0 rfl rfl) rfl
theorem dX11_flood_115 : decode cX11_flood 115 = .ok (.ifCond .eq 27, 3) := op153 (bA_at bd03_dec_X11_3_63 1 rfl rfl) (by decide +kernel)
theorem dX11_flood_118 : decode cX11_flood 118 = .ok (.iload 5, 2) := op21 (bA_at bd03_dec_X11_3_63 2 rfl rfl) rfl
theorem dX11_flood_120 : decode cX11_flood 120 = .ok (.iconst (-1), 1) := op2 (bA_at bd03_dec_X11_3_63 3 rfl rfl)
theorem dX11_flood_121 : decode cX11_flood 121 = .ok (.if_icmp .eq 16, 3) := op159 (bA_at bd03_dec_X11_3_63 4 rfl rfl) (by decide +kernel)
theorem dX11_flood_124 : decode cX11_flood 124 = .ok (.iload 6, 2) := op21 (bA_at bd03_dec_X11_3_63 5 rfl rfl) rfl
theorem dX11_flood_126 : decode cX11_flood 126 = .ok (.invokestatic 429, 3) := op184 (bA_at bd03_dec_X11_3_63 6 rfl rfl) rfl
theorem dX11_flood_129 : decode cX11_flood 129 = .ok (.iload 5, 2) := op21 (bA_at bd03_dec_X11_3_63 7 rfl rfl) rfl
theorem dX11_flood_131 : decode cX11_flood 131 = .ok (.invokestatic 429, 3) := op184 (bA_at bd03_dec_X11_3_63 8 rfl rfl) rfl
theorem dX11_flood_134 : decode cX11_flood 134 = .ok (.if_icmp .ge 8, 3) := op162 (bA_at bd03_dec_X11_3_63 9 rfl rfl) (by decide +kernel)
theorem dX11_flood_137 : decode cX11_flood 137 = .ok (.iload 6, 2) := op21 (bA_at bd03_dec_X11_3_63 10 rfl rfl) rfl
theorem dX11_flood_139 : decode cX11_flood 139 = .ok (.goto 5, 3) := op167 (bA_at bd03_dec_X11_3_63 11 rfl rfl) (by decide +kernel)
theorem bd03_dec_X11_3_64 : ([(0, [21, 5]), (2, [54, 5]), (4, [132, 6, 1]), (7, [167, 255, 165]), (10, [21, 5]), (12, [2]), (13, [159, 0, 8]), (16, [21, 4]), (18, [153, 0, 8]), (21, [21, 5]), (23, [167, 0, 8]), (26, [21, 5])] : List (Nat × List UInt8)).all (fun x => prB x.2 ((cX11_flood.data.toList.drop 142).drop x.1)) = true := by decide +kernel
theorem dX11_flood_142 : decode cX11_flood 142 = .ok (.iload 5, 2) := op21 (bA_at bd03_dec_X11_3_64 0 rfl rfl) rfl
theorem dX11_flood_144 : decode cX11_flood 144 = .ok (.istore 5, 2) := op54 (bA_at bd03_dec_X11_3_64 1 rfl rfl) rfl
theorem dX11_flood_146 : decode cX11_flood 146 = .ok (.iinc 6 1, 3) := op132 (bA_at bd03_dec_X11_3_64 2 rfl rfl) rfl (by decide +kernel)
theorem dX11_flood_149 : decode cX11_flood 149 = .ok (.goto (-91), 3) := op167 (bA_at bd03_dec_X11_3_64 3 rfl rfl) (by decide +kernel)
theorem dX11_flood_152 : decode cX11_flood 152 = .ok (.iload 5, 2) := op21 (bA_at bd03_dec_X11_3_64 4 rfl rfl) rfl
theorem dX11_flood_154 : decode cX11_flood 154 = .ok (.iconst (-1), 1) := op2 (bA_at bd03_dec_X11_3_64 5 rfl rfl)
theorem dX11_flood_155 : decode cX11_flood 155 = .ok (.if_icmp .eq 8, 3) := op159 (bA_at bd03_dec_X11_3_64 6 rfl rfl) (by decide +kernel)
theorem dX11_flood_158 : decode cX11_flood 158 = .ok (.iload 4, 2) := op21 (bA_at bd03_dec_X11_3_64 7 rfl rfl) rfl
theorem dX11_flood_160 : decode cX11_flood 160 = .ok (.ifCond .eq 8, 3) := op153 (bA_at bd03_dec_X11_3_64 8 rfl rfl) (by decide +kernel)
theorem dX11_flood_163 : decode cX11_flood 163 = .ok (.iload 5, 2) := op21 (bA_at bd03_dec_X11_3_64 9 rfl rfl) rfl
theorem dX11_flood_165 : decode cX11_flood 165 = .ok (.goto 8, 3) := op167 (bA_at bd03_dec_X11_3_64 10 rfl rfl) (by decide +kernel)
theorem dX11_flood_168 : decode cX11_flood 168 = .ok (.iload 5, 2) := op21 (bA_at bd03_dec_X11_3_64 11 rfl rfl) rfl
theorem bd03_dec_X11_3_65 : ([(0, [184, 1, 173]), (3, [172])] : List (Nat × List UInt8)).all (fun x => prB x.2 ((cX11_flood.data.toList.drop 170).drop x.1)) = true := by decide +kernel
theorem dX11_flood_170 : decode cX11_flood 170 = .ok (.invokestatic 429, 3) := op184 (bA_at bd03_dec_X11_3_65 0 rfl rfl) rfl
theorem dX11_flood_173 : decode cX11_flood 173 = .ok (.ireturn, 1) := op172 (bA_at bd03_dec_X11_3_65 1 rfl rfl)
theorem bd03_dec_X11_3_66 : ([(0, [3]), (1, [62]), (2, [42]), (3, [180, 1, 84]), (6, [28]), (7, [184, 0, 101]), (10, [153, 0, 12]), (13, [42]), (14, [180, 0, 56]), (17, [28]), (18, [46]), (19, [167, 0, 6])] : List (Nat × List UInt8)).all (fun x => prB x.2 ((cX11_taught.data.toList.drop 0).drop x.1)) = true := by decide +kernel
theorem dX11_taught_0 : decode cX11_taught 0 = .ok (.iconst 0, 1) := op3 (bA_at bd03_dec_X11_3_66 0 rfl rfl)
theorem dX11_taught_1 : decode cX11_taught 1 = .ok (.istore_n 3, 1) := op62 (bA_at bd03_dec_X11_3_66 1 rfl rfl)
theorem dX11_taught_2 : decode cX11_taught 2 = .ok (.aload_n 0, 1) := op42 (bA_at bd03_dec_X11_3_66 2 rfl rfl)
theorem dX11_taught_3 : decode cX11_taught 3 = .ok (.getfield 340, 3) := op180 (bA_at bd03_dec_X11_3_66 3 rfl rfl) rfl
theorem dX11_taught_6 : decode cX11_taught 6 = .ok (.iload_n 2, 1) := op28 (bA_at bd03_dec_X11_3_66 4 rfl rfl)
theorem dX11_taught_7 : decode cX11_taught 7 = .ok (.invokestatic 101, 3) := op184 (bA_at bd03_dec_X11_3_66 5 rfl rfl) rfl
theorem dX11_taught_10 : decode cX11_taught 10 = .ok (.ifCond .eq 12, 3) := op153 (bA_at bd03_dec_X11_3_66 6 rfl rfl) (by decide +kernel)
theorem dX11_taught_13 : decode cX11_taught 13 = .ok (.aload_n 0, 1) := op42 (bA_at bd03_dec_X11_3_66 7 rfl rfl)
theorem dX11_taught_14 : decode cX11_taught 14 = .ok (.getfield 56, 3) := op180 (bA_at bd03_dec_X11_3_66 8 rfl rfl) rfl
theorem dX11_taught_17 : decode cX11_taught 17 = .ok (.iload_n 2, 1) := op28 (bA_at bd03_dec_X11_3_66 9 rfl rfl)
theorem dX11_taught_18 : decode cX11_taught 18 = .ok (.iaload, 1) := op46 (bA_at bd03_dec_X11_3_66 10 rfl rfl)
theorem dX11_taught_19 : decode cX11_taught 19 = .ok (.goto 6, 3) := op167 (bA_at bd03_dec_X11_3_66 11 rfl rfl) (by decide +kernel)
theorem bd03_dec_X11_3_67 : ([(0, [19, 1, 154]), (3, [54, 4]), (5, [27]), (6, [54, 5]), (8, [3]), (9, [54, 6]), (11, [21, 6]), (13, [42]), (14, [180, 1, 54]), (17, [162, 0, 34]), (20, [29]), (21, [42])] : List (Nat × List UInt8)).all (fun x => prB x.2 ((cX11_taught.data.toList.drop 22).drop x.1)) = true := by decide +kernel
theorem dX11_taught_22 : decode cX11_taught 22 = .ok (.ldc_w 410, 3) := op19 (bA_at bd03_dec_X11_3_67 0 rfl rfl) rfl
theorem dX11_taught_25 : decode cX11_taught 25 = .ok (.istore 4, 2) := op54 (bA_at bd03_dec_X11_3_67 1 rfl rfl) rfl
theorem dX11_taught_27 : decode cX11_taught 27 = .ok (.iload_n 1, 1) := op27 (bA_at bd03_dec_X11_3_67 2 rfl rfl)
theorem dX11_taught_28 : decode cX11_taught 28 = .ok (.istore 5, 2) := op54 (bA_at bd03_dec_X11_3_67 3 rfl rfl) rfl
theorem dX11_taught_30 : decode cX11_taught 30 = .ok (.iconst 0, 1) := op3 (bA_at bd03_dec_X11_3_67 4 rfl rfl)
theorem dX11_taught_31 : decode cX11_taught 31 = .ok (.istore 6, 2) := op54 (bA_at bd03_dec_X11_3_67 5 rfl rfl) rfl
theorem dX11_taught_33 : decode cX11_taught 33 = .ok (.iload 6, 2) := op21 (bA_at bd03_dec_X11_3_67 6 rfl rfl) rfl
theorem dX11_taught_35 : decode cX11_taught 35 = .ok (.aload_n 0, 1) := op42 (bA_at bd03_dec_X11_3_67 7 rfl rfl)
theorem dX11_taught_36 : decode cX11_taught 36 = .ok (.getfield 310, 3) := op180 (bA_at bd03_dec_X11_3_67 8 rfl rfl) rfl
theorem dX11_taught_39 : decode cX11_taught 39 = .ok (.if_icmp .ge 34, 3) := op162 (bA_at bd03_dec_X11_3_67 9 rfl rfl) (by decide +kernel)
theorem dX11_taught_42 : decode cX11_taught 42 = .ok (.iload_n 3, 1) := op29 (bA_at bd03_dec_X11_3_67 10 rfl rfl)
theorem dX11_taught_43 : decode cX11_taught 43 = .ok (.aload_n 0, 1) := op42 (bA_at bd03_dec_X11_3_67 11 rfl rfl)
theorem bd03_dec_X11_3_68 : ([(0, [180, 0, 47]), (3, [21, 6]), (5, [46]), (6, [28]), (7, [184, 0, 101]), (10, [153, 0, 10]), (13, [4]), (14, [21, 6]), (16, [120]), (17, [167, 0, 4]), (20, [3]), (21, [128])] : List (Nat × List UInt8)).all (fun x => prB x.2 ((cX11_taught.data.toList.drop 44).drop x.1)) = true := by decide +kernel
theorem dX11_taught_44 : decode cX11_taught 44 = .ok (.getfield 47, 3) := op180 (bA_at bd03_dec_X11_3_68 0 rfl rfl) rfl
theorem dX11_taught_47 : decode cX11_taught 47 = .ok (.iload 6, 2) := op21 (bA_at bd03_dec_X11_3_68 1 rfl rfl) rfl
theorem dX11_taught_49 : decode cX11_taught 49 = .ok (.iaload, 1) := op46 (bA_at bd03_dec_X11_3_68 2 rfl rfl)
theorem dX11_taught_50 : decode cX11_taught 50 = .ok (.iload_n 2, 1) := op28 (bA_at bd03_dec_X11_3_68 3 rfl rfl)
theorem dX11_taught_51 : decode cX11_taught 51 = .ok (.invokestatic 101, 3) := op184 (bA_at bd03_dec_X11_3_68 4 rfl rfl) rfl
theorem dX11_taught_54 : decode cX11_taught 54 = .ok (.ifCond .eq 10, 3) := op153 (bA_at bd03_dec_X11_3_68 5 rfl rfl) (by decide +kernel)
theorem dX11_taught_57 : decode cX11_taught 57 = .ok (.iconst 1, 1) := op4 (bA_at bd03_dec_X11_3_68 6 rfl rfl)
theorem dX11_taught_58 : decode cX11_taught 58 = .ok (.iload 6, 2) := op21 (bA_at bd03_dec_X11_3_68 7 rfl rfl) rfl
theorem dX11_taught_60 : decode cX11_taught 60 = .ok (.ishl, 1) := op120 (bA_at bd03_dec_X11_3_68 8 rfl rfl)
theorem dX11_taught_61 : decode cX11_taught 61 = .ok (.goto 4, 3) := op167 (bA_at bd03_dec_X11_3_68 9 rfl rfl) (by decide +kernel)
theorem dX11_taught_64 : decode cX11_taught 64 = .ok (.iconst 0, 1) := op3 (bA_at bd03_dec_X11_3_68 10 rfl rfl)
theorem dX11_taught_65 : decode cX11_taught 65 = .ok (.ior, 1) := op128 (bA_at bd03_dec_X11_3_68 11 rfl rfl)
theorem bd03_dec_X11_3_69 : ([(0, [62]), (1, [132, 6, 1]), (4, [167, 255, 219]), (7, [21, 5]), (9, [153, 0, 179]), (12, [2]), (13, [54, 6]), (15, [3]), (16, [54, 7]), (18, [21, 7]), (20, [42]), (21, [180, 1, 54])] : List (Nat × List UInt8)).all (fun x => prB x.2 ((cX11_taught.data.toList.drop 66).drop x.1)) = true := by decide +kernel
theorem dX11_taught_66 : decode cX11_taught 66 = .ok (.istore_n 3, 1) := op62 (bA_at bd03_dec_X11_3_69 0 rfl rfl)
theorem dX11_taught_67 : decode cX11_taught 67 = .ok (.iinc 6 1, 3) := op132 (bA_at bd03_dec_X11_3_69 1 rfl rfl) rfl (by decide +kernel)
theorem dX11_taught_70 : decode cX11_taught 70 = .ok (.goto (-37), 3) := op167 (bA_at bd03_dec_X11_3_69 2 rfl rfl) (by decide +kernel)
theorem dX11_taught_73 : decode cX11_taught 73 = .ok (.iload 5, 2) := op21 (bA_at bd03_dec_X11_3_69 3 rfl rfl) rfl
theorem dX11_taught_75 : decode cX11_taught 75 = .ok (.ifCond .eq 179, 3) := op153 (bA_at bd03_dec_X11_3_69 4 rfl rfl) (by decide +kernel)
theorem dX11_taught_78 : decode cX11_taught 78 = .ok (.iconst (-1), 1) := op2 (bA_at bd03_dec_X11_3_69 5 rfl rfl)
theorem dX11_taught_79 : decode cX11_taught 79 = .ok (.istore 6, 2) := op54 (bA_at bd03_dec_X11_3_69 6 rfl rfl) rfl
theorem dX11_taught_81 : decode cX11_taught 81 = .ok (.iconst 0, 1) := op3 (bA_at bd03_dec_X11_3_69 7 rfl rfl)
theorem dX11_taught_82 : decode cX11_taught 82 = .ok (.istore 7, 2) := op54 (bA_at bd03_dec_X11_3_69 8 rfl rfl) rfl
theorem dX11_taught_84 : decode cX11_taught 84 = .ok (.iload 7, 2) := op21 (bA_at bd03_dec_X11_3_69 9 rfl rfl) rfl
theorem dX11_taught_86 : decode cX11_taught 86 = .ok (.aload_n 0, 1) := op42 (bA_at bd03_dec_X11_3_69 10 rfl rfl)
theorem dX11_taught_87 : decode cX11_taught 87 = .ok (.getfield 310, 3) := op180 (bA_at bd03_dec_X11_3_69 11 rfl rfl) rfl
theorem bd03_dec_X11_3_70 : ([(0, [162, 0, 49]), (3, [21, 5]), (5, [21, 7]), (7, [184, 0, 101]), (10, [153, 0, 29]), (13, [21, 6]), (15, [2]), (16, [159, 0, 18]), (19, [42]), (20, [21, 7]), (22, [182, 1, 96]), (25, [42])] : List (Nat × List UInt8)).all (fun x => prB x.2 ((cX11_taught.data.toList.drop 90).drop x.1)) = true := by decide +kernel
theorem dX11_taught_90 : decode cX11_taught 90 = .ok (.if_icmp .ge 49, 3) := op162 (bA_at bd03_dec_X11_3_70 0 rfl rfl) (by decide +kernel)
theorem dX11_taught_93 : decode cX11_taught 93 = .ok (.iload 5, 2) := op21 (bA_at bd03_dec_X11_3_70 1 rfl rfl) rfl
theorem dX11_taught_95 : decode cX11_taught 95 = .ok (.iload 7, 2) := op21 (bA_at bd03_dec_X11_3_70 2 rfl rfl) rfl
theorem dX11_taught_97 : decode cX11_taught 97 = .ok (.invokestatic 101, 3) := op184 (bA_at bd03_dec_X11_3_70 3 rfl rfl) rfl
theorem dX11_taught_100 : decode cX11_taught 100 = .ok (.ifCond .eq 29, 3) := op153 (bA_at bd03_dec_X11_3_70 4 rfl rfl) (by decide +kernel)
theorem dX11_taught_103 : decode cX11_taught 103 = .ok (.iload 6, 2) := op21 (bA_at bd03_dec_X11_3_70 5 rfl rfl) rfl
theorem dX11_taught_105 : decode cX11_taught 105 = .ok (.iconst (-1), 1) := op2 (bA_at bd03_dec_X11_3_70 6 rfl rfl)
theorem dX11_taught_106 : decode cX11_taught 106 = .ok (.if_icmp .eq 18, 3) := op159 (bA_at bd03_dec_X11_3_70 7 rfl rfl) (by decide +kernel)
theorem dX11_taught_109 : decode cX11_taught 109 = .ok (.aload_n 0, 1) := op42 (bA_at bd03_dec_X11_3_70 8 rfl rfl)
theorem dX11_taught_110 : decode cX11_taught 110 = .ok (.iload 7, 2) := op21 (bA_at bd03_dec_X11_3_70 9 rfl rfl) rfl
theorem dX11_taught_112 : decode cX11_taught 112 = .ok (.invokevirtual 352, 3) := op182 (bA_at bd03_dec_X11_3_70 10 rfl rfl) rfl
theorem dX11_taught_115 : decode cX11_taught 115 = .ok (.aload_n 0, 1) := op42 (bA_at bd03_dec_X11_3_70 11 rfl rfl)
theorem bd03_dec_X11_3_71 : ([(0, [21, 6]), (2, [182, 1, 96]), (5, [164, 0, 8]), (8, [21, 7]), (10, [167, 0, 5]), (13, [21, 6]), (15, [54, 6]), (17, [132, 7, 1]), (20, [167, 255, 204]), (23, [29]), (24, [21, 6]), (26, [184, 0, 101])] : List (Nat × List UInt8)).all (fun x => prB x.2 ((cX11_taught.data.toList.drop 116).drop x.1)) = true := by decide +kernel
theorem dX11_taught_116 : decode cX11_taught 116 = .ok (.iload 6, 2) := op21 (bA_at bd03_dec_X11_3_71 0 rfl rfl) rfl
theorem dX11_taught_118 : decode cX11_taught 118 = .ok (.invokevirtual 352, 3) := op182 (bA_at bd03_dec_X11_3_71 1 rfl rfl) rfl
theorem dX11_taught_121 : decode cX11_taught 121 = .ok (.if_icmp .le 8, 3) := op164 (bA_at bd03_dec_X11_3_71 2 rfl rfl) (by decide +kernel)
theorem dX11_taught_124 : decode cX11_taught 124 = .ok (.iload 7, 2) := op21 (bA_at bd03_dec_X11_3_71 3 rfl rfl) rfl
theorem dX11_taught_126 : decode cX11_taught 126 = .ok (.goto 5, 3) := op167 (bA_at bd03_dec_X11_3_71 4 rfl rfl) (by decide +kernel)
theorem dX11_taught_129 : decode cX11_taught 129 = .ok (.iload 6, 2) := op21 (bA_at bd03_dec_X11_3_71 5 rfl rfl) rfl
theorem dX11_taught_131 : decode cX11_taught 131 = .ok (.istore 6, 2) := op54 (bA_at bd03_dec_X11_3_71 6 rfl rfl) rfl
theorem dX11_taught_133 : decode cX11_taught 133 = .ok (.iinc 7 1, 3) := op132 (bA_at bd03_dec_X11_3_71 7 rfl rfl) rfl (by decide +kernel)
theorem dX11_taught_136 : decode cX11_taught 136 = .ok (.goto (-52), 3) := op167 (bA_at bd03_dec_X11_3_71 8 rfl rfl) (by decide +kernel)
theorem dX11_taught_139 : decode cX11_taught 139 = .ok (.iload_n 3, 1) := op29 (bA_at bd03_dec_X11_3_71 9 rfl rfl)
theorem dX11_taught_140 : decode cX11_taught 140 = .ok (.iload 6, 2) := op21 (bA_at bd03_dec_X11_3_71 10 rfl rfl) rfl
theorem dX11_taught_142 : decode cX11_taught 142 = .ok (.invokestatic 101, 3) := op184 (bA_at bd03_dec_X11_3_71 11 rfl rfl) rfl
theorem bd03_dec_X11_3_72 : ([(0, [153, 0, 28]), (3, [42]), (4, [21, 6]), (6, [182, 1, 96]), (9, [21, 4]), (11, [162, 0, 17]), (14, [42]), (15, [42]), (16, [180, 0, 44]), (19, [21, 6]), (21, [46]), (22, [182, 1, 99])] : List (Nat × List UInt8)).all (fun x => prB x.2 ((cX11_taught.data.toList.drop 145).drop x.1)) = true := by decide +kernel
theorem dX11_taught_145 : decode cX11_taught 145 = .ok (.ifCond .eq 28, 3) := op153 (bA_at bd03_dec_X11_3_72 0 rfl rfl) (by decide +kernel)
theorem dX11_taught_148 : decode cX11_taught 148 = .ok (.aload_n 0, 1) := op42 (bA_at bd03_dec_X11_3_72 1 rfl rfl)
theorem dX11_taught_149 : decode cX11_taught 149 = .ok (.iload 6, 2) := op21 (bA_at bd03_dec_X11_3_72 2 rfl rfl) rfl
theorem dX11_taught_151 : decode cX11_taught 151 = .ok (.invokevirtual 352, 3) := op182 (bA_at bd03_dec_X11_3_72 3 rfl rfl) rfl
theorem dX11_taught_154 : decode cX11_taught 154 = .ok (.iload 4, 2) := op21 (bA_at bd03_dec_X11_3_72 4 rfl rfl) rfl
theorem dX11_taught_156 : decode cX11_taught 156 = .ok (.if_icmp .ge 17, 3) := op162 (bA_at bd03_dec_X11_3_72 5 rfl rfl) (by decide +kernel)
theorem dX11_taught_159 : decode cX11_taught 159 = .ok (.aload_n 0, 1) := op42 (bA_at bd03_dec_X11_3_72 6 rfl rfl)
theorem dX11_taught_160 : decode cX11_taught 160 = .ok (.aload_n 0, 1) := op42 (bA_at bd03_dec_X11_3_72 7 rfl rfl)
theorem dX11_taught_161 : decode cX11_taught 161 = .ok (.getfield 44, 3) := op180 (bA_at bd03_dec_X11_3_72 8 rfl rfl) rfl
theorem dX11_taught_164 : decode cX11_taught 164 = .ok (.iload 6, 2) := op21 (bA_at bd03_dec_X11_3_72 9 rfl rfl) rfl
theorem dX11_taught_166 : decode cX11_taught 166 = .ok (.iaload, 1) := op46 (bA_at bd03_dec_X11_3_72 10 rfl rfl)
theorem dX11_taught_167 : decode cX11_taught 167 = .ok (.invokevirtual 355, 3) := op182 (bA_at bd03_dec_X11_3_72 11 rfl rfl) rfl
theorem bd03_dec_X11_3_73 : ([(0, [153, 0, 5]), (3, [2]), (4, [172]), (5, [42]), (6, [21, 6]), (8, [182, 1, 96]), (11, [54, 4]), (13, [21, 5]), (15, [4]), (16, [21, 6]), (18, [120]), (19, [2])] : List (Nat × List UInt8)).all (fun x => prB x.2 ((cX11_taught.data.toList.drop 170).drop x.1)) = true := by decide +kernel
theorem dX11_taught_170 : decode cX11_taught 170 = .ok (.ifCond .eq 5, 3) := op153 (bA_at bd03_dec_X11_3_73 0 rfl rfl) (by decide +kernel)
theorem dX11_taught_173 : decode cX11_taught 173 = .ok (.iconst (-1), 1) := op2 (bA_at bd03_dec_X11_3_73 1 rfl rfl)
theorem dX11_taught_174 : decode cX11_taught 174 = .ok (.ireturn, 1) := op172 (bA_at bd03_dec_X11_3_73 2 rfl rfl)
theorem dX11_taught_175 : decode cX11_taught 175 = .ok (.aload_n 0, 1) := op42 (bA_at bd03_dec_X11_3_73 3 rfl rfl)
theorem dX11_taught_176 : decode cX11_taught 176 = .ok (.iload 6, 2) := op21 (bA_at bd03_dec_X11_3_73 4 rfl rfl) rfl
theorem dX11_taught_178 : decode cX11_taught 178 = .ok (.invokevirtual 352, 3) := op182 (bA_at bd03_dec_X11_3_73 5 rfl rfl) rfl
theorem dX11_taught_181 : decode cX11_taught 181 = .ok (.istore 4, 2) := op54 (bA_at bd03_dec_X11_3_73 6 rfl rfl) rfl
theorem dX11_taught_183 : decode cX11_taught 183 = .ok (.iload 5, 2) := op21 (bA_at bd03_dec_X11_3_73 7 rfl rfl) rfl
theorem dX11_taught_185 : decode cX11_taught 185 = .ok (.iconst 1, 1) := op4 (bA_at bd03_dec_X11_3_73 8 rfl rfl)
theorem dX11_taught_186 : decode cX11_taught 186 = .ok (.iload 6, 2) := op21 (bA_at bd03_dec_X11_3_73 9 rfl rfl) rfl
theorem dX11_taught_188 : decode cX11_taught 188 = .ok (.ishl, 1) := op120 (bA_at bd03_dec_X11_3_73 10 rfl rfl)
theorem dX11_taught_189 : decode cX11_taught 189 = .ok (.iconst (-1), 1) := op2 (bA_at bd03_dec_X11_3_73 11 rfl rfl)
theorem bd03_dec_X11_3_74 : ([(0, [130]), (1, [126]), (2, [54, 5]), (4, [42]), (5, [42]), (6, [180, 0, 44]), (9, [21, 6]), (11, [46]), (12, [182, 1, 93]), (15, [54, 7]), (17, [3]), (18, [54, 8])] : List (Nat × List UInt8)).all (fun x => prB x.2 ((cX11_taught.data.toList.drop 190).drop x.1)) = true := by decide +kernel
theorem dX11_taught_190 : decode cX11_taught 190 = .ok (.ixor, 1) := op130 (bA_at bd03_dec_X11_3_74 0 rfl rfl)
theorem dX11_taught_191 : decode cX11_taught 191 = .ok (.iand, 1) := op126 (bA_at bd03_dec_X11_3_74 1 rfl rfl)
theorem dX11_taught_192 : decode cX11_taught 192 = .ok (.istore 5, 2) := op54 (bA_at bd03_dec_X11_3_74 2 rfl rfl) rfl
theorem dX11_taught_194 : decode cX11_taught 194 = .ok (.aload_n 0, 1) := op42 (bA_at bd03_dec_X11_3_74 3 rfl rfl)
theorem dX11_taught_195 : decode cX11_taught 195 = .ok (.aload_n 0, 1) := op42 (bA_at bd03_dec_X11_3_74 4 rfl rfl)
theorem dX11_taught_196 : decode cX11_taught 196 = .ok (.getfield 44, 3) := op180 (bA_at bd03_dec_X11_3_74 5 rfl rfl) rfl
theorem dX11_taught_199 : decode cX11_taught 199 = .ok (.iload 6, 2) := op21 (bA_at bd03_dec_X11_3_74 6 rfl rfl) rfl
theorem dX11_taught_201 : decode cX11_taught 201 = .ok (.iaload, 1) := op46 (bA_at bd03_dec_X11_3_74 7 rfl rfl)
theorem dX11_taught_202 : decode cX11_taught 202 = .ok (.invokevirtual 349, 3) := op182 (bA_at bd03_dec_X11_3_74 8 rfl rfl) rfl
theorem dX11_taught_205 : decode cX11_taught 205 = .ok (.istore 7, 2) := op54 (bA_at bd03_dec_X11_3_74 9 rfl rfl) rfl
theorem dX11_taught_207 : decode cX11_taught 207 = .ok (.iconst 0, 1) := op3 (bA_at bd03_dec_X11_3_74 10 rfl rfl)
theorem dX11_taught_208 : decode cX11_taught 208 = .ok (.istore 8, 2) := op54 (bA_at bd03_dec_X11_3_74 11 rfl rfl) rfl
theorem bd03_dec_X11_3_75 : ([(0, [21, 8]), (2, [42]), (3, [180, 1, 54]), (6, [162, 0, 35]), (9, [29]), (10, [21, 7]), (12, [42]), (13, [180, 0, 44]), (16, [21, 8]), (18, [46]), (19, [184, 0, 101]), (22, [153, 0, 10])] : List (Nat × List UInt8)).all (fun x => prB x.2 ((cX11_taught.data.toList.drop 210).drop x.1)) = true := by decide +kernel
theorem dX11_taught_210 : decode cX11_taught 210 = .ok (.iload 8, 2) := op21 (bA_at bd03_dec_X11_3_75 0 rfl rfl) rfl
theorem dX11_taught_212 : decode cX11_taught 212 = .ok (.aload_n 0, 1) := op42 (bA_at bd03_dec_X11_3_75 1 rfl rfl)
theorem dX11_taught_213 : decode cX11_taught 213 = .ok (.getfield 310, 3) := op180 (bA_at bd03_dec_X11_3_75 2 rfl rfl) rfl
theorem dX11_taught_216 : decode cX11_taught 216 = .ok (.if_icmp .ge 35, 3) := op162 (bA_at bd03_dec_X11_3_75 3 rfl rfl) (by decide +kernel)
theorem dX11_taught_219 : decode cX11_taught 219 = .ok (.iload_n 3, 1) := op29 (bA_at bd03_dec_X11_3_75 4 rfl rfl)
theorem dX11_taught_220 : decode cX11_taught 220 = .ok (.iload 7, 2) := op21 (bA_at bd03_dec_X11_3_75 5 rfl rfl) rfl
theorem dX11_taught_222 : decode cX11_taught 222 = .ok (.aload_n 0, 1) := op42 (bA_at bd03_dec_X11_3_75 6 rfl rfl)
theorem dX11_taught_223 : decode cX11_taught 223 = .ok (.getfield 44, 3) := op180 (bA_at bd03_dec_X11_3_75 7 rfl rfl) rfl
theorem dX11_taught_226 : decode cX11_taught 226 = .ok (.iload 8, 2) := op21 (bA_at bd03_dec_X11_3_75 8 rfl rfl) rfl
theorem dX11_taught_228 : decode cX11_taught 228 = .ok (.iaload, 1) := op46 (bA_at bd03_dec_X11_3_75 9 rfl rfl)
theorem dX11_taught_229 : decode cX11_taught 229 = .ok (.invokestatic 101, 3) := op184 (bA_at bd03_dec_X11_3_75 10 rfl rfl) rfl
theorem dX11_taught_232 : decode cX11_taught 232 = .ok (.ifCond .eq 10, 3) := op153 (bA_at bd03_dec_X11_3_75 11 rfl rfl) (by decide +kernel)
theorem bd03_dec_X11_3_76 : ([(0, [4]), (1, [21, 8]), (3, [120]), (4, [167, 0, 4]), (7, [3]), (8, [128]), (9, [62]), (10, [132, 8, 1]), (13, [167, 255, 218]), (16, [167, 255, 78]), (19, [29]), (20, [172])] : List (Nat × List UInt8)).all (fun x => prB x.2 ((cX11_taught.data.toList.drop 235).drop x.1)) = true := by decide +kernel
theorem dX11_taught_235 : decode cX11_taught 235 = .ok (.iconst 1, 1) := op4 (bA_at bd03_dec_X11_3_76 0 rfl rfl)
theorem dX11_taught_236 : decode cX11_taught 236 = .ok (.iload 8, 2) := op21 (bA_at bd03_dec_X11_3_76 1 rfl rfl) rfl
theorem dX11_taught_238 : decode cX11_taught 238 = .ok (.ishl, 1) := op120 (bA_at bd03_dec_X11_3_76 2 rfl rfl)
theorem dX11_taught_239 : decode cX11_taught 239 = .ok (.goto 4, 3) := op167 (bA_at bd03_dec_X11_3_76 3 rfl rfl) (by decide +kernel)
theorem dX11_taught_242 : decode cX11_taught 242 = .ok (.iconst 0, 1) := op3 (bA_at bd03_dec_X11_3_76 4 rfl rfl)
theorem dX11_taught_243 : decode cX11_taught 243 = .ok (.ior, 1) := op128 (bA_at bd03_dec_X11_3_76 5 rfl rfl)
theorem dX11_taught_244 : decode cX11_taught 244 = .ok (.istore_n 3, 1) := op62 (bA_at bd03_dec_X11_3_76 6 rfl rfl)
theorem dX11_taught_245 : decode cX11_taught 245 = .ok (.iinc 8 1, 3) := op132 (bA_at bd03_dec_X11_3_76 7 rfl rfl) rfl (by decide +kernel)
theorem dX11_taught_248 : decode cX11_taught 248 = .ok (.goto (-38), 3) := op167 (bA_at bd03_dec_X11_3_76 8 rfl rfl) (by decide +kernel)
theorem dX11_taught_251 : decode cX11_taught 251 = .ok (.goto (-178), 3) := op167 (bA_at bd03_dec_X11_3_76 9 rfl rfl) (by decide +kernel)
theorem dX11_taught_254 : decode cX11_taught 254 = .ok (.iload_n 3, 1) := op29 (bA_at bd03_dec_X11_3_76 10 rfl rfl)
theorem dX11_taught_255 : decode cX11_taught 255 = .ok (.ireturn, 1) := op172 (bA_at bd03_dec_X11_3_76 11 rfl rfl)
theorem bd03_dec_X11_3_77 : ([(0, [42]), (1, [3]), (2, [181, 0, 97]), (5, [42]), (6, [27]), (7, [28]), (8, [182, 1, 127]), (11, [153, 0, 34]), (14, [29]), (15, [3]), (16, [42]), (17, [182, 1, 78])] : List (Nat × List UInt8)).all (fun x => prB x.2 ((cX11_teach.data.toList.drop 0).drop x.1)) = true := by decide +kernel
theorem dX11_teach_0 : decode cX11_teach 0 = .ok (.aload_n 0, 1) := op42 (bA_at bd03_dec_X11_3_77 0 rfl rfl)
theorem dX11_teach_1 : decode cX11_teach 1 = .ok (.iconst 0, 1) := op3 (bA_at bd03_dec_X11_3_77 1 rfl rfl)
theorem dX11_teach_2 : decode cX11_teach 2 = .ok (.putfield 97, 3) := op181 (bA_at bd03_dec_X11_3_77 2 rfl rfl) rfl
theorem dX11_teach_5 : decode cX11_teach 5 = .ok (.aload_n 0, 1) := op42 (bA_at bd03_dec_X11_3_77 3 rfl rfl)
theorem dX11_teach_6 : decode cX11_teach 6 = .ok (.iload_n 1, 1) := op27 (bA_at bd03_dec_X11_3_77 4 rfl rfl)
theorem dX11_teach_7 : decode cX11_teach 7 = .ok (.iload_n 2, 1) := op28 (bA_at bd03_dec_X11_3_77 5 rfl rfl)
theorem dX11_teach_8 : decode cX11_teach 8 = .ok (.invokevirtual 383, 3) := op182 (bA_at bd03_dec_X11_3_77 6 rfl rfl) rfl
theorem dX11_teach_11 : decode cX11_teach 11 = .ok (.ifCond .eq 34, 3) := op153 (bA_at bd03_dec_X11_3_77 7 rfl rfl) (by decide +kernel)
theorem dX11_teach_14 : decode cX11_teach 14 = .ok (.iload_n 3, 1) := op29 (bA_at bd03_dec_X11_3_77 8 rfl rfl)
theorem dX11_teach_15 : decode cX11_teach 15 = .ok (.iconst 0, 1) := op3 (bA_at bd03_dec_X11_3_77 9 rfl rfl)
theorem dX11_teach_16 : decode cX11_teach 16 = .ok (.aload_n 0, 1) := op42 (bA_at bd03_dec_X11_3_77 10 rfl rfl)
theorem dX11_teach_17 : decode cX11_teach 17 = .ok (.invokevirtual 334, 3) := op182 (bA_at bd03_dec_X11_3_77 11 rfl rfl) rfl
theorem bd03_dec_X11_3_78 : ([(0, [184, 0, 109]), (3, [153, 0, 22]), (6, [42]), (7, [29]), (8, [182, 1, 130]), (11, [29]), (12, [161, 0, 13]), (15, [21, 4]), (17, [3]), (18, [7]), (19, [184, 0, 109]), (22, [154, 0, 5])] : List (Nat × List UInt8)).all (fun x => prB x.2 ((cX11_teach.data.toList.drop 20).drop x.1)) = true := by decide +kernel
theorem dX11_teach_20 : decode cX11_teach 20 = .ok (.invokestatic 109, 3) := op184 (bA_at bd03_dec_X11_3_78 0 rfl rfl) rfl
theorem dX11_teach_23 : decode cX11_teach 23 = .ok (.ifCond .eq 22, 3) := op153 (bA_at bd03_dec_X11_3_78 1 rfl rfl) (by decide +kernel)
theorem dX11_teach_26 : decode cX11_teach 26 = .ok (.aload_n 0, 1) := op42 (bA_at bd03_dec_X11_3_78 2 rfl rfl)
theorem dX11_teach_27 : decode cX11_teach 27 = .ok (.iload_n 3, 1) := op29 (bA_at bd03_dec_X11_3_78 3 rfl rfl)
theorem dX11_teach_28 : decode cX11_teach 28 = .ok (.invokevirtual 386, 3) := op182 (bA_at bd03_dec_X11_3_78 4 rfl rfl) rfl
theorem dX11_teach_31 : decode cX11_teach 31 = .ok (.iload_n 3, 1) := op29 (bA_at bd03_dec_X11_3_78 5 rfl rfl)
theorem dX11_teach_32 : decode cX11_teach 32 = .ok (.if_icmp .lt 13, 3) := op161 (bA_at bd03_dec_X11_3_78 6 rfl rfl) (by decide +kernel)
theorem dX11_teach_35 : decode cX11_teach 35 = .ok (.iload 4, 2) := op21 (bA_at bd03_dec_X11_3_78 7 rfl rfl) rfl
theorem dX11_teach_37 : decode cX11_teach 37 = .ok (.iconst 0, 1) := op3 (bA_at bd03_dec_X11_3_78 8 rfl rfl)
theorem dX11_teach_38 : decode cX11_teach 38 = .ok (.iconst 4, 1) := op7 (bA_at bd03_dec_X11_3_78 9 rfl rfl)
theorem dX11_teach_39 : decode cX11_teach 39 = .ok (.invokestatic 109, 3) := op184 (bA_at bd03_dec_X11_3_78 10 rfl rfl) rfl
theorem dX11_teach_42 : decode cX11_teach 42 = .ok (.ifCond .ne 5, 3) := op154 (bA_at bd03_dec_X11_3_78 11 rfl rfl) (by decide +kernel)
theorem bd03_dec_X11_3_79 : ([(0, [2]), (1, [172]), (2, [2]), (3, [54, 5]), (5, [3]), (6, [54, 6]), (8, [21, 6]), (10, [4]), (11, [42]), (12, [180, 1, 54]), (15, [120]), (16, [162, 0, 68])] : List (Nat × List UInt8)).all (fun x => prB x.2 ((cX11_teach.data.toList.drop 45).drop x.1)) = true := by decide +kernel
theorem dX11_teach_45 : decode cX11_teach 45 = .ok (.iconst (-1), 1) := op2 (bA_at bd03_dec_X11_3_79 0 rfl rfl)
theorem dX11_teach_46 : decode cX11_teach 46 = .ok (.ireturn, 1) := op172 (bA_at bd03_dec_X11_3_79 1 rfl rfl)
theorem dX11_teach_47 : decode cX11_teach 47 = .ok (.iconst (-1), 1) := op2 (bA_at bd03_dec_X11_3_79 2 rfl rfl)
theorem dX11_teach_48 : decode cX11_teach 48 = .ok (.istore 5, 2) := op54 (bA_at bd03_dec_X11_3_79 3 rfl rfl) rfl
theorem dX11_teach_50 : decode cX11_teach 50 = .ok (.iconst 0, 1) := op3 (bA_at bd03_dec_X11_3_79 4 rfl rfl)
theorem dX11_teach_51 : decode cX11_teach 51 = .ok (.istore 6, 2) := op54 (bA_at bd03_dec_X11_3_79 5 rfl rfl) rfl
theorem dX11_teach_53 : decode cX11_teach 53 = .ok (.iload 6, 2) := op21 (bA_at bd03_dec_X11_3_79 6 rfl rfl) rfl
theorem dX11_teach_55 : decode cX11_teach 55 = .ok (.iconst 1, 1) := op4 (bA_at bd03_dec_X11_3_79 7 rfl rfl)
theorem dX11_teach_56 : decode cX11_teach 56 = .ok (.aload_n 0, 1) := op42 (bA_at bd03_dec_X11_3_79 8 rfl rfl)
theorem dX11_teach_57 : decode cX11_teach 57 = .ok (.getfield 310, 3) := op180 (bA_at bd03_dec_X11_3_79 9 rfl rfl) rfl
theorem dX11_teach_60 : decode cX11_teach 60 = .ok (.ishl, 1) := op120 (bA_at bd03_dec_X11_3_79 10 rfl rfl)
theorem dX11_teach_61 : decode cX11_teach 61 = .ok (.if_icmp .ge 68, 3) := op162 (bA_at bd03_dec_X11_3_79 11 rfl rfl) (by decide +kernel)
theorem bd03_dec_X11_3_80 : ([(0, [42]), (1, [21, 6]), (3, [21, 4]), (5, [182, 2, 13]), (8, [4]), (9, [42]), (10, [180, 1, 54]), (13, [120]), (14, [4]), (15, [100]), (16, [160, 0, 7]), (19, [4])] : List (Nat × List UInt8)).all (fun x => prB x.2 ((cX11_teach.data.toList.drop 64).drop x.1)) = true := by decide +kernel
theorem dX11_teach_64 : decode cX11_teach 64 = .ok (.aload_n 0, 1) := op42 (bA_at bd03_dec_X11_3_80 0 rfl rfl)
theorem dX11_teach_65 : decode cX11_teach 65 = .ok (.iload 6, 2) := op21 (bA_at bd03_dec_X11_3_80 1 rfl rfl) rfl
theorem dX11_teach_67 : decode cX11_teach 67 = .ok (.iload 4, 2) := op21 (bA_at bd03_dec_X11_3_80 2 rfl rfl) rfl
theorem dX11_teach_69 : decode cX11_teach 69 = .ok (.invokevirtual 525, 3) := op182 (bA_at bd03_dec_X11_3_80 3 rfl rfl) rfl
theorem dX11_teach_72 : decode cX11_teach 72 = .ok (.iconst 1, 1) := op4 (bA_at bd03_dec_X11_3_80 4 rfl rfl)
theorem dX11_teach_73 : decode cX11_teach 73 = .ok (.aload_n 0, 1) := op42 (bA_at bd03_dec_X11_3_80 5 rfl rfl)
theorem dX11_teach_74 : decode cX11_teach 74 = .ok (.getfield 310, 3) := op180 (bA_at bd03_dec_X11_3_80 6 rfl rfl) rfl
theorem dX11_teach_77 : decode cX11_teach 77 = .ok (.ishl, 1) := op120 (bA_at bd03_dec_X11_3_80 7 rfl rfl)
theorem dX11_teach_78 : decode cX11_teach 78 = .ok (.iconst 1, 1) := op4 (bA_at bd03_dec_X11_3_80 8 rfl rfl)
theorem dX11_teach_79 : decode cX11_teach 79 = .ok (.isub, 1) := op100 (bA_at bd03_dec_X11_3_80 9 rfl rfl)
theorem dX11_teach_80 : decode cX11_teach 80 = .ok (.if_icmp .ne 7, 3) := op160 (bA_at bd03_dec_X11_3_80 10 rfl rfl) (by decide +kernel)
theorem dX11_teach_83 : decode cX11_teach 83 = .ok (.iconst 1, 1) := op4 (bA_at bd03_dec_X11_3_80 11 rfl rfl)
theorem bd03_dec_X11_3_81 : ([(0, [167, 0, 4]), (3, [3]), (4, [54, 7]), (6, [21, 7]), (8, [153, 0, 27]), (11, [21, 5]), (13, [2]), (14, [159, 0, 13]), (17, [21, 6]), (19, [184, 1, 173]), (22, [21, 5]), (24, [162, 0, 11])] : List (Nat × List UInt8)).all (fun x => prB x.2 ((cX11_teach.data.toList.drop 84).drop x.1)) = true := by decide +kernel
theorem dX11_teach_84 : decode cX11_teach 84 = .ok (.goto 4, 3) := op167 (bA_at bd03_dec_X11_3_81 0 rfl rfl) (by decide +kernel)
theorem dX11_teach_87 : decode cX11_teach 87 = .ok (.iconst 0, 1) := op3 (bA_at bd03_dec_X11_3_81 1 rfl rfl)
theorem dX11_teach_88 : decode cX11_teach 88 = .ok (.istore 7, 2) := op54 (bA_at bd03_dec_X11_3_81 2 rfl rfl) rfl
theorem dX11_teach_90 : decode cX11_teach 90 = .ok (.iload 7, 2) := op21 (bA_at bd03_dec_X11_3_81 3 rfl rfl) rfl
theorem dX11_teach_92 : decode cX11_teach 92 = .ok (.ifCond .eq 27, 3) := op153 (bA_at bd03_dec_X11_3_81 4 rfl rfl) (by decide +kernel)
theorem dX11_teach_95 : decode cX11_teach 95 = .ok (.iload 5, 2) := op21 (bA_at bd03_dec_X11_3_81 5 rfl rfl) rfl
theorem dX11_teach_97 : decode cX11_teach 97 = .ok (.iconst (-1), 1) := op2 (bA_at bd03_dec_X11_3_81 6 rfl rfl)
theorem dX11_teach_98 : decode cX11_teach 98 = .ok (.if_icmp .eq 13, 3) := op159 (bA_at bd03_dec_X11_3_81 7 rfl rfl) (by decide +kernel)
theorem dX11_teach_101 : decode cX11_teach 101 = .ok (.iload 6, 2) := op21 (bA_at bd03_dec_X11_3_81 8 rfl rfl) rfl
theorem dX11_teach_103 : decode cX11_teach 103 = .ok (.invokestatic 429, 3) := op184 (bA_at bd03_dec_X11_3_81 9 rfl rfl) rfl
theorem dX11_teach_106 : decode cX11_teach 106 = .ok (.iload 5, 2) := op21 (bA_at bd03_dec_X11_3_81 10 rfl rfl) rfl
theorem dX11_teach_108 : decode cX11_teach 108 = .ok (.if_icmp .ge 11, 3) := op162 (bA_at bd03_dec_X11_3_81 11 rfl rfl) (by decide +kernel)
theorem bd03_dec_X11_3_82 : ([(0, [21, 6]), (2, [184, 1, 173]), (5, [167, 0, 5]), (8, [21, 5]), (10, [54, 5]), (12, [132, 6, 1]), (15, [167, 255, 183]), (18, [21, 5]), (20, [172])] : List (Nat × List UInt8)).all (fun x => prB x.2 ((cX11_teach.data.toList.drop 111).drop x.1)) = true := by decide +kernel
theorem dX11_teach_111 : decode cX11_teach 111 = .ok (.iload 6, 2) := op21 (bA_at bd03_dec_X11_3_82 0 rfl rfl) rfl
theorem dX11_teach_113 : decode cX11_teach 113 = .ok (.invokestatic 429, 3) := op184 (bA_at bd03_dec_X11_3_82 1 rfl rfl) rfl
theorem dX11_teach_116 : decode cX11_teach 116 = .ok (.goto 5, 3) := op167 (bA_at bd03_dec_X11_3_82 2 rfl rfl) (by decide +kernel)
theorem dX11_teach_119 : decode cX11_teach 119 = .ok (.iload 5, 2) := op21 (bA_at bd03_dec_X11_3_82 3 rfl rfl) rfl
theorem dX11_teach_121 : decode cX11_teach 121 = .ok (.istore 5, 2) := op54 (bA_at bd03_dec_X11_3_82 4 rfl rfl) rfl
theorem dX11_teach_123 : decode cX11_teach 123 = .ok (.iinc 6 1, 3) := op132 (bA_at bd03_dec_X11_3_82 5 rfl rfl) rfl (by decide +kernel)
theorem dX11_teach_126 : decode cX11_teach 126 = .ok (.goto (-73), 3) := op167 (bA_at bd03_dec_X11_3_82 6 rfl rfl) (by decide +kernel)
theorem dX11_teach_129 : decode cX11_teach 129 = .ok (.iload 5, 2) := op21 (bA_at bd03_dec_X11_3_82 7 rfl rfl) rfl
theorem dX11_teach_131 : decode cX11_teach 131 = .ok (.ireturn, 1) := op172 (bA_at bd03_dec_X11_3_82 8 rfl rfl)
theorem bd03_dec_X11_3_83 : ([(0, [42]), (1, [3]), (2, [181, 0, 97]), (5, [27]), (6, [3]), (7, [6]), (8, [184, 0, 109]), (11, [153, 0, 12]), (14, [42]), (15, [180, 0, 23]), (18, [27]), (19, [46])] : List (Nat × List UInt8)).all (fun x => prB x.2 ((cX11_count.data.toList.drop 0).drop x.1)) = true := by decide +kernel
theorem dX11_count_0 : decode cX11_count 0 = .ok (.aload_n 0, 1) := op42 (bA_at bd03_dec_X11_3_83 0 rfl rfl)
theorem dX11_count_1 : decode cX11_count 1 = .ok (.iconst 0, 1) := op3 (bA_at bd03_dec_X11_3_83 1 rfl rfl)
theorem dX11_count_2 : decode cX11_count 2 = .ok (.putfield 97, 3) := op181 (bA_at bd03_dec_X11_3_83 2 rfl rfl) rfl
theorem dX11_count_5 : decode cX11_count 5 = .ok (.iload_n 1, 1) := op27 (bA_at bd03_dec_X11_3_83 3 rfl rfl)
theorem dX11_count_6 : decode cX11_count 6 = .ok (.iconst 0, 1) := op3 (bA_at bd03_dec_X11_3_83 4 rfl rfl)
theorem dX11_count_7 : decode cX11_count 7 = .ok (.iconst 3, 1) := op6 (bA_at bd03_dec_X11_3_83 5 rfl rfl)
theorem dX11_count_8 : decode cX11_count 8 = .ok (.invokestatic 109, 3) := op184 (bA_at bd03_dec_X11_3_83 6 rfl rfl) rfl
theorem dX11_count_11 : decode cX11_count 11 = .ok (.ifCond .eq 12, 3) := op153 (bA_at bd03_dec_X11_3_83 7 rfl rfl) (by decide +kernel)
theorem dX11_count_14 : decode cX11_count 14 = .ok (.aload_n 0, 1) := op42 (bA_at bd03_dec_X11_3_83 8 rfl rfl)
theorem dX11_count_15 : decode cX11_count 15 = .ok (.getfield 23, 3) := op180 (bA_at bd03_dec_X11_3_83 9 rfl rfl) rfl
theorem dX11_count_18 : decode cX11_count 18 = .ok (.iload_n 1, 1) := op27 (bA_at bd03_dec_X11_3_83 10 rfl rfl)
theorem dX11_count_19 : decode cX11_count 19 = .ok (.iaload, 1) := op46 (bA_at bd03_dec_X11_3_83 11 rfl rfl)
theorem bd03_dec_X11_3_84 : ([(0, [167, 0, 5]), (3, [16, 254]), (5, [172])] : List (Nat × List UInt8)).all (fun x => prB x.2 ((cX11_count.data.toList.drop 20).drop x.1)) = true := by decide +kernel
theorem dX11_count_20 : decode cX11_count 20 = .ok (.goto 5, 3) := op167 (bA_at bd03_dec_X11_3_84 0 rfl rfl) (by decide +kernel)
theorem dX11_count_23 : decode cX11_count 23 = .ok (.bipush (-2), 2) := op16 (bA_at bd03_dec_X11_3_84 1 rfl rfl) (by decide +kernel)
theorem dX11_count_25 : decode cX11_count 25 = .ok (.ireturn, 1) := op172 (bA_at bd03_dec_X11_3_84 2 rfl rfl)
theorem bd03_dec_X11_3_85 : ([(0, [42]), (1, [3]), (2, [181, 0, 97]), (5, [27]), (6, [3]), (7, [5]), (8, [184, 0, 109]), (11, [154, 0, 5]), (14, [3]), (15, [172]), (16, [42]), (17, [3])] : List (Nat × List UInt8)).all (fun x => prB x.2 ((cX11_image.data.toList.drop 0).drop x.1)) = true := by decide +kernel
theorem dX11_image_0 : decode cX11_image 0 = .ok (.aload_n 0, 1) := op42 (bA_at bd03_dec_X11_3_85 0 rfl rfl)
theorem dX11_image_1 : decode cX11_image 1 = .ok (.iconst 0, 1) := op3 (bA_at bd03_dec_X11_3_85 1 rfl rfl)
theorem dX11_image_2 : decode cX11_image 2 = .ok (.putfield 97, 3) := op181 (bA_at bd03_dec_X11_3_85 2 rfl rfl) rfl
theorem dX11_image_5 : decode cX11_image 5 = .ok (.iload_n 1, 1) := op27 (bA_at bd03_dec_X11_3_85 3 rfl rfl)
theorem dX11_image_6 : decode cX11_image 6 = .ok (.iconst 0, 1) := op3 (bA_at bd03_dec_X11_3_85 4 rfl rfl)
theorem dX11_image_7 : decode cX11_image 7 = .ok (.iconst 2, 1) := op5 (bA_at bd03_dec_X11_3_85 5 rfl rfl)
theorem dX11_image_8 : decode cX11_image 8 = .ok (.invokestatic 109, 3) := op184 (bA_at bd03_dec_X11_3_85 6 rfl rfl) rfl
theorem dX11_image_11 : decode cX11_image 11 = .ok (.ifCond .ne 5, 3) := op154 (bA_at bd03_dec_X11_3_85 7 rfl rfl) (by decide +kernel)
theorem dX11_image_14 : decode cX11_image 14 = .ok (.iconst 0, 1) := op3 (bA_at bd03_dec_X11_3_85 8 rfl rfl)
theorem dX11_image_15 : decode cX11_image 15 = .ok (.ireturn, 1) := op172 (bA_at bd03_dec_X11_3_85 9 rfl rfl)
theorem dX11_image_16 : decode cX11_image 16 = .ok (.aload_n 0, 1) := op42 (bA_at bd03_dec_X11_3_85 10 rfl rfl)
theorem dX11_image_17 : decode cX11_image 17 = .ok (.iconst 0, 1) := op3 (bA_at bd03_dec_X11_3_85 11 rfl rfl)
theorem bd03_dec_X11_3_86 : ([(0, [27]), (1, [4]), (2, [96]), (3, [182, 2, 16]), (6, [42]), (7, [180, 0, 94]), (10, [27]), (11, [4]), (12, [84]), (13, [4]), (14, [172])] : List (Nat × List UInt8)).all (fun x => prB x.2 ((cX11_image.data.toList.drop 18).drop x.1)) = true := by decide +kernel
theorem dX11_image_18 : decode cX11_image 18 = .ok (.iload_n 1, 1) := op27 (bA_at bd03_dec_X11_3_86 0 rfl rfl)
theorem dX11_image_19 : decode cX11_image 19 = .ok (.iconst 1, 1) := op4 (bA_at bd03_dec_X11_3_86 1 rfl rfl)
theorem dX11_image_20 : decode cX11_image 20 = .ok (.iadd, 1) := op96 (bA_at bd03_dec_X11_3_86 2 rfl rfl)
theorem dX11_image_21 : decode cX11_image 21 = .ok (.invokevirtual 528, 3) := op182 (bA_at bd03_dec_X11_3_86 3 rfl rfl) rfl
theorem dX11_image_24 : decode cX11_image 24 = .ok (.aload_n 0, 1) := op42 (bA_at bd03_dec_X11_3_86 4 rfl rfl)
theorem dX11_image_25 : decode cX11_image 25 = .ok (.getfield 94, 3) := op180 (bA_at bd03_dec_X11_3_86 5 rfl rfl) rfl
theorem dX11_image_28 : decode cX11_image 28 = .ok (.iload_n 1, 1) := op27 (bA_at bd03_dec_X11_3_86 6 rfl rfl)
theorem dX11_image_29 : decode cX11_image 29 = .ok (.iconst 1, 1) := op4 (bA_at bd03_dec_X11_3_86 7 rfl rfl)
theorem dX11_image_30 : decode cX11_image 30 = .ok (.bastore, 1) := op84 (bA_at bd03_dec_X11_3_86 8 rfl rfl)
theorem dX11_image_31 : decode cX11_image 31 = .ok (.iconst 1, 1) := op4 (bA_at bd03_dec_X11_3_86 9 rfl rfl)
theorem dX11_image_32 : decode cX11_image 32 = .ok (.ireturn, 1) := op172 (bA_at bd03_dec_X11_3_86 10 rfl rfl)
theorem bd03_dec_X11_3_87 : ([(0, [42]), (1, [3]), (2, [181, 0, 97]), (5, [27]), (6, [3]), (7, [5]), (8, [184, 0, 109]), (11, [153, 0, 12]), (14, [42]), (15, [180, 0, 94]), (18, [27]), (19, [51])] : List (Nat × List UInt8)).all (fun x => prB x.2 ((cX11_again.data.toList.drop 0).drop x.1)) = true := by decide +kernel
theorem dX11_again_0 : decode cX11_again 0 = .ok (.aload_n 0, 1) := op42 (bA_at bd03_dec_X11_3_87 0 rfl rfl)
theorem dX11_again_1 : decode cX11_again 1 = .ok (.iconst 0, 1) := op3 (bA_at bd03_dec_X11_3_87 1 rfl rfl)
theorem dX11_again_2 : decode cX11_again 2 = .ok (.putfield 97, 3) := op181 (bA_at bd03_dec_X11_3_87 2 rfl rfl) rfl
theorem dX11_again_5 : decode cX11_again 5 = .ok (.iload_n 1, 1) := op27 (bA_at bd03_dec_X11_3_87 3 rfl rfl)
theorem dX11_again_6 : decode cX11_again 6 = .ok (.iconst 0, 1) := op3 (bA_at bd03_dec_X11_3_87 4 rfl rfl)
theorem dX11_again_7 : decode cX11_again 7 = .ok (.iconst 2, 1) := op5 (bA_at bd03_dec_X11_3_87 5 rfl rfl)
theorem dX11_again_8 : decode cX11_again 8 = .ok (.invokestatic 109, 3) := op184 (bA_at bd03_dec_X11_3_87 6 rfl rfl) rfl
theorem dX11_again_11 : decode cX11_again 11 = .ok (.ifCond .eq 12, 3) := op153 (bA_at bd03_dec_X11_3_87 7 rfl rfl) (by decide +kernel)
theorem dX11_again_14 : decode cX11_again 14 = .ok (.aload_n 0, 1) := op42 (bA_at bd03_dec_X11_3_87 8 rfl rfl)
theorem dX11_again_15 : decode cX11_again 15 = .ok (.getfield 94, 3) := op180 (bA_at bd03_dec_X11_3_87 9 rfl rfl) rfl
theorem dX11_again_18 : decode cX11_again 18 = .ok (.iload_n 1, 1) := op27 (bA_at bd03_dec_X11_3_87 10 rfl rfl)
theorem dX11_again_19 : decode cX11_again 19 = .ok (.baload, 1) := op51 (bA_at bd03_dec_X11_3_87 11 rfl rfl)
theorem bd03_dec_X11_3_88 : ([(0, [154, 0, 5]), (3, [3]), (4, [172]), (5, [42]), (6, [27]), (7, [4]), (8, [96]), (9, [3]), (10, [182, 2, 16]), (13, [4]), (14, [172])] : List (Nat × List UInt8)).all (fun x => prB x.2 ((cX11_again.data.toList.drop 20).drop x.1)) = true := by decide +kernel
theorem dX11_again_20 : decode cX11_again 20 = .ok (.ifCond .ne 5, 3) := op154 (bA_at bd03_dec_X11_3_88 0 rfl rfl) (by decide +kernel)
theorem dX11_again_23 : decode cX11_again 23 = .ok (.iconst 0, 1) := op3 (bA_at bd03_dec_X11_3_88 1 rfl rfl)
theorem dX11_again_24 : decode cX11_again 24 = .ok (.ireturn, 1) := op172 (bA_at bd03_dec_X11_3_88 2 rfl rfl)
theorem dX11_again_25 : decode cX11_again 25 = .ok (.aload_n 0, 1) := op42 (bA_at bd03_dec_X11_3_88 3 rfl rfl)
theorem dX11_again_26 : decode cX11_again 26 = .ok (.iload_n 1, 1) := op27 (bA_at bd03_dec_X11_3_88 4 rfl rfl)
theorem dX11_again_27 : decode cX11_again 27 = .ok (.iconst 1, 1) := op4 (bA_at bd03_dec_X11_3_88 5 rfl rfl)
theorem dX11_again_28 : decode cX11_again 28 = .ok (.iadd, 1) := op96 (bA_at bd03_dec_X11_3_88 6 rfl rfl)
theorem dX11_again_29 : decode cX11_again 29 = .ok (.iconst 0, 1) := op3 (bA_at bd03_dec_X11_3_88 7 rfl rfl)
theorem dX11_again_30 : decode cX11_again 30 = .ok (.invokevirtual 528, 3) := op182 (bA_at bd03_dec_X11_3_88 8 rfl rfl) rfl
theorem dX11_again_33 : decode cX11_again 33 = .ok (.iconst 1, 1) := op4 (bA_at bd03_dec_X11_3_88 9 rfl rfl)
theorem dX11_again_34 : decode cX11_again 34 = .ok (.ireturn, 1) := op172 (bA_at bd03_dec_X11_3_88 10 rfl rfl)
end
section
theorem bd03_dec_X2_0_0 : ([(0, [42]), (1, [43]), (2, [180, 0, 43]), (5, [181, 0, 43]), (8, [42]), (9, [43]), (10, [180, 0, 46]), (13, [181, 0, 46]), (16, [42]), (17, [43]), (18, [180, 0, 49]), (21, [181, 0, 49])] : List (Nat × List UInt8)).all (fun x => prB x.2 ((cX2_copyFrom.data.toList.drop 0).drop x.1)) = true := by decide +kernel
theorem dX2_copyFrom_0 : decode cX2_copyFrom 0 = .ok (.aload_n 0, 1) := op42 (bA_at bd03_dec_X2_0_0 0 rfl rfl)
theorem dX2_copyFrom_1 : decode cX2_copyFrom 1 = .ok (.aload_n 1, 1) := op43 (bA_at bd03_dec_X2_0_0 1 rfl rfl)
theorem dX2_copyFrom_2 : decode cX2_copyFrom 2 = .ok (.getfield 43, 3) := op180 (bA_at bd03_dec_X2_0_0 2 rfl rfl) rfl
theorem dX2_copyFrom_5 : decode cX2_copyFrom 5 = .ok (.putfield 43, 3) := op181 (bA_at bd03_dec_X2_0_0 3 rfl rfl) rfl
theorem dX2_copyFrom_8 : decode cX2_copyFrom 8 = .ok (.aload_n 0, 1) := op42 (bA_at bd03_dec_X2_0_0 4 rfl rfl)
theorem dX2_copyFrom_9 : decode cX2_copyFrom 9 = .ok (.aload_n 1, 1) := op43 (bA_at bd03_dec_X2_0_0 5 rfl rfl)
theorem dX2_copyFrom_10 : decode cX2_copyFrom 10 = .ok (.getfield 46, 3) := op180 (bA_at bd03_dec_X2_0_0 6 rfl rfl) rfl
theorem dX2_copyFrom_13 : decode cX2_copyFrom 13 = .ok (.putfield 46, 3) := op181 (bA_at bd03_dec_X2_0_0 7 rfl rfl) rfl
theorem dX2_copyFrom_16 : decode cX2_copyFrom 16 = .ok (.aload_n 0, 1) := op42 (bA_at bd03_dec_X2_0_0 8 rfl rfl)
theorem dX2_copyFrom_17 : decode cX2_copyFrom 17 = .ok (.aload_n 1, 1) := op43 (bA_at bd03_dec_X2_0_0 9 rfl rfl)
theorem dX2_copyFrom_18 : decode cX2_copyFrom 18 = .ok (.getfield 49, 3) := op180 (bA_at bd03_dec_X2_0_0 10 rfl rfl) rfl
theorem dX2_copyFrom_21 : decode cX2_copyFrom 21 = .ok (.putfield 49, 3) := op181 (bA_at bd03_dec_X2_0_0 11 rfl rfl) rfl
theorem bd03_dec_X2_0_1 : ([(0, [42]), (1, [43]), (2, [180, 0, 52]), (5, [181, 0, 52]), (8, [42]), (9, [43]), (10, [180, 0, 55]), (13, [181, 0, 55]), (16, [42]), (17, [43]), (18, [180, 0, 9]), (21, [181, 0, 9])] : List (Nat × List UInt8)).all (fun x => prB x.2 ((cX2_copyFrom.data.toList.drop 24).drop x.1)) = true := by decide +kernel
theorem dX2_copyFrom_24 : decode cX2_copyFrom 24 = .ok (.aload_n 0, 1) := op42 (bA_at bd03_dec_X2_0_1 0 rfl rfl)
theorem dX2_copyFrom_25 : decode cX2_copyFrom 25 = .ok (.aload_n 1, 1) := op43 (bA_at bd03_dec_X2_0_1 1 rfl rfl)
theorem dX2_copyFrom_26 : decode cX2_copyFrom 26 = .ok (.getfield 52, 3) := op180 (bA_at bd03_dec_X2_0_1 2 rfl rfl) rfl
theorem dX2_copyFrom_29 : decode cX2_copyFrom 29 = .ok (.putfield 52, 3) := op181 (bA_at bd03_dec_X2_0_1 3 rfl rfl) rfl
theorem dX2_copyFrom_32 : decode cX2_copyFrom 32 = .ok (.aload_n 0, 1) := op42 (bA_at bd03_dec_X2_0_1 4 rfl rfl)
theorem dX2_copyFrom_33 : decode cX2_copyFrom 33 = .ok (.aload_n 1, 1) := op43 (bA_at bd03_dec_X2_0_1 5 rfl rfl)
theorem dX2_copyFrom_34 : decode cX2_copyFrom 34 = .ok (.getfield 55, 3) := op180 (bA_at bd03_dec_X2_0_1 6 rfl rfl) rfl
theorem dX2_copyFrom_37 : decode cX2_copyFrom 37 = .ok (.putfield 55, 3) := op181 (bA_at bd03_dec_X2_0_1 7 rfl rfl) rfl
theorem dX2_copyFrom_40 : decode cX2_copyFrom 40 = .ok (.aload_n 0, 1) := op42 (bA_at bd03_dec_X2_0_1 8 rfl rfl)
theorem dX2_copyFrom_41 : decode cX2_copyFrom 41 = .ok (.aload_n 1, 1) := op43 (bA_at bd03_dec_X2_0_1 9 rfl rfl)
theorem dX2_copyFrom_42 : decode cX2_copyFrom 42 = .ok (.getfield 9, 3) := op180 (bA_at bd03_dec_X2_0_1 10 rfl rfl) rfl
theorem dX2_copyFrom_45 : decode cX2_copyFrom 45 = .ok (.putfield 9, 3) := op181 (bA_at bd03_dec_X2_0_1 11 rfl rfl) rfl
theorem bd03_dec_X2_0_2 : ([(0, [42]), (1, [43]), (2, [180, 0, 15]), (5, [181, 0, 15]), (8, [43]), (9, [180, 0, 18]), (12, [3]), (13, [42]), (14, [180, 0, 18]), (17, [3]), (18, [16, 9]), (20, [184, 0, 64])] : List (Nat × List UInt8)).all (fun x => prB x.2 ((cX2_copyFrom.data.toList.drop 48).drop x.1)) = true := by decide +kernel
theorem dX2_copyFrom_48 : decode cX2_copyFrom 48 = .ok (.aload_n 0, 1) := op42 (bA_at bd03_dec_X2_0_2 0 rfl rfl)
theorem dX2_copyFrom_49 : decode cX2_copyFrom 49 = .ok (.aload_n 1, 1) := op43 (bA_at bd03_dec_X2_0_2 1 rfl rfl)
theorem dX2_copyFrom_50 : decode cX2_copyFrom 50 = .ok (.getfield 15, 3) := op180 (bA_at bd03_dec_X2_0_2 2 rfl rfl) rfl
theorem dX2_copyFrom_53 : decode cX2_copyFrom 53 = .ok (.putfield 15, 3) := op181 (bA_at bd03_dec_X2_0_2 3 rfl rfl) rfl
theorem dX2_copyFrom_56 : decode cX2_copyFrom 56 = .ok (.aload_n 1, 1) := op43 (bA_at bd03_dec_X2_0_2 4 rfl rfl)
theorem dX2_copyFrom_57 : decode cX2_copyFrom 57 = .ok (.getfield 18, 3) := op180 (bA_at bd03_dec_X2_0_2 5 rfl rfl) rfl
theorem dX2_copyFrom_60 : decode cX2_copyFrom 60 = .ok (.iconst 0, 1) := op3 (bA_at bd03_dec_X2_0_2 6 rfl rfl)
theorem dX2_copyFrom_61 : decode cX2_copyFrom 61 = .ok (.aload_n 0, 1) := op42 (bA_at bd03_dec_X2_0_2 7 rfl rfl)
theorem dX2_copyFrom_62 : decode cX2_copyFrom 62 = .ok (.getfield 18, 3) := op180 (bA_at bd03_dec_X2_0_2 8 rfl rfl) rfl
theorem dX2_copyFrom_65 : decode cX2_copyFrom 65 = .ok (.iconst 0, 1) := op3 (bA_at bd03_dec_X2_0_2 9 rfl rfl)
theorem dX2_copyFrom_66 : decode cX2_copyFrom 66 = .ok (.bipush 9, 2) := op16 (bA_at bd03_dec_X2_0_2 10 rfl rfl) (by decide +kernel)
theorem dX2_copyFrom_68 : decode cX2_copyFrom 68 = .ok (.invokestatic 64, 3) := op184 (bA_at bd03_dec_X2_0_2 11 rfl rfl) rfl
theorem bd03_dec_X2_0_3 : ([(0, [43]), (1, [180, 0, 22]), (4, [3]), (5, [42]), (6, [180, 0, 22]), (9, [3]), (10, [16, 9]), (12, [184, 0, 64]), (15, [43]), (16, [180, 0, 25]), (19, [3]), (20, [42])] : List (Nat × List UInt8)).all (fun x => prB x.2 ((cX2_copyFrom.data.toList.drop 71).drop x.1)) = true := by decide +kernel
theorem dX2_copyFrom_71 : decode cX2_copyFrom 71 = .ok (.aload_n 1, 1) := op43 (bA_at bd03_dec_X2_0_3 0 rfl rfl)
theorem dX2_copyFrom_72 : decode cX2_copyFrom 72 = .ok (.getfield 22, 3) := op180 (bA_at bd03_dec_X2_0_3 1 rfl rfl) rfl
theorem dX2_copyFrom_75 : decode cX2_copyFrom 75 = .ok (.iconst 0, 1) := op3 (bA_at bd03_dec_X2_0_3 2 rfl rfl)
theorem dX2_copyFrom_76 : decode cX2_copyFrom 76 = .ok (.aload_n 0, 1) := op42 (bA_at bd03_dec_X2_0_3 3 rfl rfl)
theorem dX2_copyFrom_77 : decode cX2_copyFrom 77 = .ok (.getfield 22, 3) := op180 (bA_at bd03_dec_X2_0_3 4 rfl rfl) rfl
theorem dX2_copyFrom_80 : decode cX2_copyFrom 80 = .ok (.iconst 0, 1) := op3 (bA_at bd03_dec_X2_0_3 5 rfl rfl)
theorem dX2_copyFrom_81 : decode cX2_copyFrom 81 = .ok (.bipush 9, 2) := op16 (bA_at bd03_dec_X2_0_3 6 rfl rfl) (by decide +kernel)
theorem dX2_copyFrom_83 : decode cX2_copyFrom 83 = .ok (.invokestatic 64, 3) := op184 (bA_at bd03_dec_X2_0_3 7 rfl rfl) rfl
theorem dX2_copyFrom_86 : decode cX2_copyFrom 86 = .ok (.aload_n 1, 1) := op43 (bA_at bd03_dec_X2_0_3 8 rfl rfl)
theorem dX2_copyFrom_87 : decode cX2_copyFrom 87 = .ok (.getfield 25, 3) := op180 (bA_at bd03_dec_X2_0_3 9 rfl rfl) rfl
theorem dX2_copyFrom_90 : decode cX2_copyFrom 90 = .ok (.iconst 0, 1) := op3 (bA_at bd03_dec_X2_0_3 10 rfl rfl)
theorem dX2_copyFrom_91 : decode cX2_copyFrom 91 = .ok (.aload_n 0, 1) := op42 (bA_at bd03_dec_X2_0_3 11 rfl rfl)
theorem bd03_dec_X2_0_4 : ([(0, [180, 0, 25]), (3, [3]), (4, [16, 81]), (6, [184, 0, 64]), (9, [43]), (10, [180, 0, 28]), (13, [3]), (14, [42]), (15, [180, 0, 28]), (18, [3]), (19, [7]), (20, [184, 0, 64])] : List (Nat × List UInt8)).all (fun x => prB x.2 ((cX2_copyFrom.data.toList.drop 92).drop x.1)) = true := by decide +kernel
theorem dX2_copyFrom_92 : decode cX2_copyFrom 92 = .ok (.getfield 25, 3) := op180 (bA_at bd03_dec_X2_0_4 0 rfl rfl) rfl
theorem dX2_copyFrom_95 : decode cX2_copyFrom 95 = .ok (.iconst 0, 1) := op3 (bA_at bd03_dec_X2_0_4 1 rfl rfl)
theorem dX2_copyFrom_96 : decode cX2_copyFrom 96 = .ok (.bipush 81, 2) := op16 (bA_at bd03_dec_X2_0_4 2 rfl rfl) (by decide +kernel)
theorem dX2_copyFrom_98 : decode cX2_copyFrom 98 = .ok (.invokestatic 64, 3) := op184 (bA_at bd03_dec_X2_0_4 3 rfl rfl) rfl
theorem dX2_copyFrom_101 : decode cX2_copyFrom 101 = .ok (.aload_n 1, 1) := op43 (bA_at bd03_dec_X2_0_4 4 rfl rfl)
theorem dX2_copyFrom_102 : decode cX2_copyFrom 102 = .ok (.getfield 28, 3) := op180 (bA_at bd03_dec_X2_0_4 5 rfl rfl) rfl
theorem dX2_copyFrom_105 : decode cX2_copyFrom 105 = .ok (.iconst 0, 1) := op3 (bA_at bd03_dec_X2_0_4 6 rfl rfl)
theorem dX2_copyFrom_106 : decode cX2_copyFrom 106 = .ok (.aload_n 0, 1) := op42 (bA_at bd03_dec_X2_0_4 7 rfl rfl)
theorem dX2_copyFrom_107 : decode cX2_copyFrom 107 = .ok (.getfield 28, 3) := op180 (bA_at bd03_dec_X2_0_4 8 rfl rfl) rfl
theorem dX2_copyFrom_110 : decode cX2_copyFrom 110 = .ok (.iconst 0, 1) := op3 (bA_at bd03_dec_X2_0_4 9 rfl rfl)
theorem dX2_copyFrom_111 : decode cX2_copyFrom 111 = .ok (.iconst 4, 1) := op7 (bA_at bd03_dec_X2_0_4 10 rfl rfl)
theorem dX2_copyFrom_112 : decode cX2_copyFrom 112 = .ok (.invokestatic 64, 3) := op184 (bA_at bd03_dec_X2_0_4 11 rfl rfl) rfl
theorem bd03_dec_X2_0_5 : ([(0, [43]), (1, [180, 0, 31]), (4, [3]), (5, [42]), (6, [180, 0, 31]), (9, [3]), (10, [7]), (11, [184, 0, 64]), (14, [43]), (15, [180, 0, 34]), (18, [3]), (19, [42])] : List (Nat × List UInt8)).all (fun x => prB x.2 ((cX2_copyFrom.data.toList.drop 115).drop x.1)) = true := by decide +kernel
theorem dX2_copyFrom_115 : decode cX2_copyFrom 115 = .ok (.aload_n 1, 1) := op43 (bA_at bd03_dec_X2_0_5 0 rfl rfl)
theorem dX2_copyFrom_116 : decode cX2_copyFrom 116 = .ok (.getfield 31, 3) := op180 (bA_at bd03_dec_X2_0_5 1 rfl rfl) rfl
theorem dX2_copyFrom_119 : decode cX2_copyFrom 119 = .ok (.iconst 0, 1) := op3 (bA_at bd03_dec_X2_0_5 2 rfl rfl)
theorem dX2_copyFrom_120 : decode cX2_copyFrom 120 = .ok (.aload_n 0, 1) := op42 (bA_at bd03_dec_X2_0_5 3 rfl rfl)
theorem dX2_copyFrom_121 : decode cX2_copyFrom 121 = .ok (.getfield 31, 3) := op180 (bA_at bd03_dec_X2_0_5 4 rfl rfl) rfl
theorem dX2_copyFrom_124 : decode cX2_copyFrom 124 = .ok (.iconst 0, 1) := op3 (bA_at bd03_dec_X2_0_5 5 rfl rfl)
theorem dX2_copyFrom_125 : decode cX2_copyFrom 125 = .ok (.iconst 4, 1) := op7 (bA_at bd03_dec_X2_0_5 6 rfl rfl)
theorem dX2_copyFrom_126 : decode cX2_copyFrom 126 = .ok (.invokestatic 64, 3) := op184 (bA_at bd03_dec_X2_0_5 7 rfl rfl) rfl
theorem dX2_copyFrom_129 : decode cX2_copyFrom 129 = .ok (.aload_n 1, 1) := op43 (bA_at bd03_dec_X2_0_5 8 rfl rfl)
theorem dX2_copyFrom_130 : decode cX2_copyFrom 130 = .ok (.getfield 34, 3) := op180 (bA_at bd03_dec_X2_0_5 9 rfl rfl) rfl
theorem dX2_copyFrom_133 : decode cX2_copyFrom 133 = .ok (.iconst 0, 1) := op3 (bA_at bd03_dec_X2_0_5 10 rfl rfl)
theorem dX2_copyFrom_134 : decode cX2_copyFrom 134 = .ok (.aload_n 0, 1) := op42 (bA_at bd03_dec_X2_0_5 11 rfl rfl)
theorem bd03_dec_X2_0_6 : ([(0, [180, 0, 34]), (3, [3]), (4, [16, 6]), (6, [184, 0, 64]), (9, [43]), (10, [180, 0, 37]), (13, [3]), (14, [42]), (15, [180, 0, 37]), (18, [3]), (19, [16, 6]), (21, [184, 0, 64])] : List (Nat × List UInt8)).all (fun x => prB x.2 ((cX2_copyFrom.data.toList.drop 135).drop x.1)) = true := by decide +kernel
theorem dX2_copyFrom_135 : decode cX2_copyFrom 135 = .ok (.getfield 34, 3) := op180 (bA_at bd03_dec_X2_0_6 0 rfl rfl) rfl
theorem dX2_copyFrom_138 : decode cX2_copyFrom 138 = .ok (.iconst 0, 1) := op3 (bA_at bd03_dec_X2_0_6 1 rfl rfl)
theorem dX2_copyFrom_139 : decode cX2_copyFrom 139 = .ok (.bipush 6, 2) := op16 (bA_at bd03_dec_X2_0_6 2 rfl rfl) (by decide +kernel)
theorem dX2_copyFrom_141 : decode cX2_copyFrom 141 = .ok (.invokestatic 64, 3) := op184 (bA_at bd03_dec_X2_0_6 3 rfl rfl) rfl
theorem dX2_copyFrom_144 : decode cX2_copyFrom 144 = .ok (.aload_n 1, 1) := op43 (bA_at bd03_dec_X2_0_6 4 rfl rfl)
theorem dX2_copyFrom_145 : decode cX2_copyFrom 145 = .ok (.getfield 37, 3) := op180 (bA_at bd03_dec_X2_0_6 5 rfl rfl) rfl
theorem dX2_copyFrom_148 : decode cX2_copyFrom 148 = .ok (.iconst 0, 1) := op3 (bA_at bd03_dec_X2_0_6 6 rfl rfl)
theorem dX2_copyFrom_149 : decode cX2_copyFrom 149 = .ok (.aload_n 0, 1) := op42 (bA_at bd03_dec_X2_0_6 7 rfl rfl)
theorem dX2_copyFrom_150 : decode cX2_copyFrom 150 = .ok (.getfield 37, 3) := op180 (bA_at bd03_dec_X2_0_6 8 rfl rfl) rfl
theorem dX2_copyFrom_153 : decode cX2_copyFrom 153 = .ok (.iconst 0, 1) := op3 (bA_at bd03_dec_X2_0_6 9 rfl rfl)
theorem dX2_copyFrom_154 : decode cX2_copyFrom 154 = .ok (.bipush 6, 2) := op16 (bA_at bd03_dec_X2_0_6 10 rfl rfl) (by decide +kernel)
theorem dX2_copyFrom_156 : decode cX2_copyFrom 156 = .ok (.invokestatic 64, 3) := op184 (bA_at bd03_dec_X2_0_6 11 rfl rfl) rfl
theorem bd03_dec_X2_0_7 : ([(0, [43]), (1, [180, 0, 40]), (4, [3]), (5, [42]), (6, [180, 0, 40]), (9, [3]), (10, [16, 6]), (12, [184, 0, 64]), (15, [177])] : List (Nat × List UInt8)).all (fun x => prB x.2 ((cX2_copyFrom.data.toList.drop 159).drop x.1)) = true := by decide +kernel
theorem dX2_copyFrom_159 : decode cX2_copyFrom 159 = .ok (.aload_n 1, 1) := op43 (bA_at bd03_dec_X2_0_7 0 rfl rfl)
theorem dX2_copyFrom_160 : decode cX2_copyFrom 160 = .ok (.getfield 40, 3) := op180 (bA_at bd03_dec_X2_0_7 1 rfl rfl) rfl
theorem dX2_copyFrom_163 : decode cX2_copyFrom 163 = .ok (.iconst 0, 1) := op3 (bA_at bd03_dec_X2_0_7 2 rfl rfl)
theorem dX2_copyFrom_164 : decode cX2_copyFrom 164 = .ok (.aload_n 0, 1) := op42 (bA_at bd03_dec_X2_0_7 3 rfl rfl)
theorem dX2_copyFrom_165 : decode cX2_copyFrom 165 = .ok (.getfield 40, 3) := op180 (bA_at bd03_dec_X2_0_7 4 rfl rfl) rfl
theorem dX2_copyFrom_168 : decode cX2_copyFrom 168 = .ok (.iconst 0, 1) := op3 (bA_at bd03_dec_X2_0_7 5 rfl rfl)
theorem dX2_copyFrom_169 : decode cX2_copyFrom 169 = .ok (.bipush 6, 2) := op16 (bA_at bd03_dec_X2_0_7 6 rfl rfl) (by decide +kernel)
theorem dX2_copyFrom_171 : decode cX2_copyFrom 171 = .ok (.invokestatic 64, 3) := op184 (bA_at bd03_dec_X2_0_7 7 rfl rfl) rfl
theorem dX2_copyFrom_174 : decode cX2_copyFrom 174 = .ok (.return_, 1) := op177 (bA_at bd03_dec_X2_0_7 8 rfl rfl)
theorem bd03_dec_X2_0_8 : ([(0, [27]), (1, [155, 0, 15]), (4, [27]), (5, [42]), (6, [180, 0, 43]), (9, [162, 0, 7]), (12, [4]), (13, [167, 0, 4]), (16, [3]), (17, [172])] : List (Nat × List UInt8)).all (fun x => prB x.2 ((cX2_hasHut.data.toList.drop 0).drop x.1)) = true := by decide +kernel
theorem dX2_hasHut_0 : decode cX2_hasHut 0 = .ok (.iload_n 1, 1) := op27 (bA_at bd03_dec_X2_0_8 0 rfl rfl)
theorem dX2_hasHut_1 : decode cX2_hasHut 1 = .ok (.ifCond .lt 15, 3) := op155 (bA_at bd03_dec_X2_0_8 1 rfl rfl) (by decide +kernel)
theorem dX2_hasHut_4 : decode cX2_hasHut 4 = .ok (.iload_n 1, 1) := op27 (bA_at bd03_dec_X2_0_8 2 rfl rfl)
theorem dX2_hasHut_5 : decode cX2_hasHut 5 = .ok (.aload_n 0, 1) := op42 (bA_at bd03_dec_X2_0_8 3 rfl rfl)
theorem dX2_hasHut_6 : decode cX2_hasHut 6 = .ok (.getfield 43, 3) := op180 (bA_at bd03_dec_X2_0_8 4 rfl rfl) rfl
theorem dX2_hasHut_9 : decode cX2_hasHut 9 = .ok (.if_icmp .ge 7, 3) := op162 (bA_at bd03_dec_X2_0_8 5 rfl rfl) (by decide +kernel)
theorem dX2_hasHut_12 : decode cX2_hasHut 12 = .ok (.iconst 1, 1) := op4 (bA_at bd03_dec_X2_0_8 6 rfl rfl)
theorem dX2_hasHut_13 : decode cX2_hasHut 13 = .ok (.goto 4, 3) := op167 (bA_at bd03_dec_X2_0_8 7 rfl rfl) (by decide +kernel)
theorem dX2_hasHut_16 : decode cX2_hasHut 16 = .ok (.iconst 0, 1) := op3 (bA_at bd03_dec_X2_0_8 8 rfl rfl)
theorem dX2_hasHut_17 : decode cX2_hasHut 17 = .ok (.ireturn, 1) := op172 (bA_at bd03_dec_X2_0_8 9 rfl rfl)
theorem bd03_dec_X2_0_9 : ([(0, [27]), (1, [155, 0, 15]), (4, [27]), (5, [42]), (6, [180, 0, 46]), (9, [162, 0, 7]), (12, [4]), (13, [167, 0, 4]), (16, [3]), (17, [172])] : List (Nat × List UInt8)).all (fun x => prB x.2 ((cX2_hasSinger.data.toList.drop 0).drop x.1)) = true := by decide +kernel
theorem dX2_hasSinger_0 : decode cX2_hasSinger 0 = .ok (.iload_n 1, 1) := op27 (bA_at bd03_dec_X2_0_9 0 rfl rfl)
theorem dX2_hasSinger_1 : decode cX2_hasSinger 1 = .ok (.ifCond .lt 15, 3) := op155 (bA_at bd03_dec_X2_0_9 1 rfl rfl) (by decide +kernel)
theorem dX2_hasSinger_4 : decode cX2_hasSinger 4 = .ok (.iload_n 1, 1) := op27 (bA_at bd03_dec_X2_0_9 2 rfl rfl)
theorem dX2_hasSinger_5 : decode cX2_hasSinger 5 = .ok (.aload_n 0, 1) := op42 (bA_at bd03_dec_X2_0_9 3 rfl rfl)
theorem dX2_hasSinger_6 : decode cX2_hasSinger 6 = .ok (.getfield 46, 3) := op180 (bA_at bd03_dec_X2_0_9 4 rfl rfl) rfl
theorem dX2_hasSinger_9 : decode cX2_hasSinger 9 = .ok (.if_icmp .ge 7, 3) := op162 (bA_at bd03_dec_X2_0_9 5 rfl rfl) (by decide +kernel)
theorem dX2_hasSinger_12 : decode cX2_hasSinger 12 = .ok (.iconst 1, 1) := op4 (bA_at bd03_dec_X2_0_9 6 rfl rfl)
theorem dX2_hasSinger_13 : decode cX2_hasSinger 13 = .ok (.goto 4, 3) := op167 (bA_at bd03_dec_X2_0_9 7 rfl rfl) (by decide +kernel)
theorem dX2_hasSinger_16 : decode cX2_hasSinger 16 = .ok (.iconst 0, 1) := op3 (bA_at bd03_dec_X2_0_9 8 rfl rfl)
theorem dX2_hasSinger_17 : decode cX2_hasSinger 17 = .ok (.ireturn, 1) := op172 (bA_at bd03_dec_X2_0_9 9 rfl rfl)
theorem bd03_dec_X2_0_10 : ([(0, [42]), (1, [180, 0, 52]), (4, [27]), (5, [122]), (6, [4]), (7, [126]), (8, [153, 0, 7]), (11, [4]), (12, [167, 0, 4]), (15, [3]), (16, [172])] : List (Nat × List UInt8)).all (fun x => prB x.2 ((cX2_isDam.data.toList.drop 0).drop x.1)) = true := by decide +kernel
theorem dX2_isDam_0 : decode cX2_isDam 0 = .ok (.aload_n 0, 1) := op42 (bA_at bd03_dec_X2_0_10 0 rfl rfl)
theorem dX2_isDam_1 : decode cX2_isDam 1 = .ok (.getfield 52, 3) := op180 (bA_at bd03_dec_X2_0_10 1 rfl rfl) rfl
theorem dX2_isDam_4 : decode cX2_isDam 4 = .ok (.iload_n 1, 1) := op27 (bA_at bd03_dec_X2_0_10 2 rfl rfl)
theorem dX2_isDam_5 : decode cX2_isDam 5 = .ok (.ishr, 1) := op122 (bA_at bd03_dec_X2_0_10 3 rfl rfl)
theorem dX2_isDam_6 : decode cX2_isDam 6 = .ok (.iconst 1, 1) := op4 (bA_at bd03_dec_X2_0_10 4 rfl rfl)
theorem dX2_isDam_7 : decode cX2_isDam 7 = .ok (.iand, 1) := op126 (bA_at bd03_dec_X2_0_10 5 rfl rfl)
theorem dX2_isDam_8 : decode cX2_isDam 8 = .ok (.ifCond .eq 7, 3) := op153 (bA_at bd03_dec_X2_0_10 6 rfl rfl) (by decide +kernel)
theorem dX2_isDam_11 : decode cX2_isDam 11 = .ok (.iconst 1, 1) := op4 (bA_at bd03_dec_X2_0_10 7 rfl rfl)
theorem dX2_isDam_12 : decode cX2_isDam 12 = .ok (.goto 4, 3) := op167 (bA_at bd03_dec_X2_0_10 8 rfl rfl) (by decide +kernel)
theorem dX2_isDam_15 : decode cX2_isDam 15 = .ok (.iconst 0, 1) := op3 (bA_at bd03_dec_X2_0_10 9 rfl rfl)
theorem dX2_isDam_16 : decode cX2_isDam 16 = .ok (.ireturn, 1) := op172 (bA_at bd03_dec_X2_0_10 10 rfl rfl)
theorem bd03_dec_X2_0_11 : ([(0, [42]), (1, [27]), (2, [182, 0, 70]), (5, [153, 0, 15]), (8, [42]), (9, [27]), (10, [182, 0, 74]), (13, [154, 0, 7]), (16, [4]), (17, [167, 0, 4]), (20, [3]), (21, [172])] : List (Nat × List UInt8)).all (fun x => prB x.2 ((cX2_isOpen.data.toList.drop 0).drop x.1)) = true := by decide +kernel
theorem dX2_isOpen_0 : decode cX2_isOpen 0 = .ok (.aload_n 0, 1) := op42 (bA_at bd03_dec_X2_0_11 0 rfl rfl)
theorem dX2_isOpen_1 : decode cX2_isOpen 1 = .ok (.iload_n 1, 1) := op27 (bA_at bd03_dec_X2_0_11 1 rfl rfl)
theorem dX2_isOpen_2 : decode cX2_isOpen 2 = .ok (.invokevirtual 70, 3) := op182 (bA_at bd03_dec_X2_0_11 2 rfl rfl) rfl
theorem dX2_isOpen_5 : decode cX2_isOpen 5 = .ok (.ifCond .eq 15, 3) := op153 (bA_at bd03_dec_X2_0_11 3 rfl rfl) (by decide +kernel)
theorem dX2_isOpen_8 : decode cX2_isOpen 8 = .ok (.aload_n 0, 1) := op42 (bA_at bd03_dec_X2_0_11 4 rfl rfl)
theorem dX2_isOpen_9 : decode cX2_isOpen 9 = .ok (.iload_n 1, 1) := op27 (bA_at bd03_dec_X2_0_11 5 rfl rfl)
theorem dX2_isOpen_10 : decode cX2_isOpen 10 = .ok (.invokevirtual 74, 3) := op182 (bA_at bd03_dec_X2_0_11 6 rfl rfl) rfl
theorem dX2_isOpen_13 : decode cX2_isOpen 13 = .ok (.ifCond .ne 7, 3) := op154 (bA_at bd03_dec_X2_0_11 7 rfl rfl) (by decide +kernel)
theorem dX2_isOpen_16 : decode cX2_isOpen 16 = .ok (.iconst 1, 1) := op4 (bA_at bd03_dec_X2_0_11 8 rfl rfl)
theorem dX2_isOpen_17 : decode cX2_isOpen 17 = .ok (.goto 4, 3) := op167 (bA_at bd03_dec_X2_0_11 9 rfl rfl) (by decide +kernel)
theorem dX2_isOpen_20 : decode cX2_isOpen 20 = .ok (.iconst 0, 1) := op3 (bA_at bd03_dec_X2_0_11 10 rfl rfl)
theorem dX2_isOpen_21 : decode cX2_isOpen 21 = .ok (.ireturn, 1) := op172 (bA_at bd03_dec_X2_0_11 11 rfl rfl)
theorem bd03_dec_X2_0_12 : ([(0, [42]), (1, [180, 0, 25]), (4, [27]), (5, [16, 9]), (7, [104]), (8, [28]), (9, [96]), (10, [46]), (11, [158, 0, 38]), (14, [42]), (15, [180, 0, 18]), (18, [28])] : List (Nat × List UInt8)).all (fun x => prB x.2 ((cX2_leads.data.toList.drop 0).drop x.1)) = true := by decide +kernel
theorem dX2_leads_0 : decode cX2_leads 0 = .ok (.aload_n 0, 1) := op42 (bA_at bd03_dec_X2_0_12 0 rfl rfl)
theorem dX2_leads_1 : decode cX2_leads 1 = .ok (.getfield 25, 3) := op180 (bA_at bd03_dec_X2_0_12 1 rfl rfl) rfl
theorem dX2_leads_4 : decode cX2_leads 4 = .ok (.iload_n 1, 1) := op27 (bA_at bd03_dec_X2_0_12 2 rfl rfl)
theorem dX2_leads_5 : decode cX2_leads 5 = .ok (.bipush 9, 2) := op16 (bA_at bd03_dec_X2_0_12 3 rfl rfl) (by decide +kernel)
theorem dX2_leads_7 : decode cX2_leads 7 = .ok (.imul, 1) := op104 (bA_at bd03_dec_X2_0_12 4 rfl rfl)
theorem dX2_leads_8 : decode cX2_leads 8 = .ok (.iload_n 2, 1) := op28 (bA_at bd03_dec_X2_0_12 5 rfl rfl)
theorem dX2_leads_9 : decode cX2_leads 9 = .ok (.iadd, 1) := op96 (bA_at bd03_dec_X2_0_12 6 rfl rfl)
theorem dX2_leads_10 : decode cX2_leads 10 = .ok (.iaload, 1) := op46 (bA_at bd03_dec_X2_0_12 7 rfl rfl)
theorem dX2_leads_11 : decode cX2_leads 11 = .ok (.ifCond .le 38, 3) := op158 (bA_at bd03_dec_X2_0_12 8 rfl rfl) (by decide +kernel)
theorem dX2_leads_14 : decode cX2_leads 14 = .ok (.aload_n 0, 1) := op42 (bA_at bd03_dec_X2_0_12 9 rfl rfl)
theorem dX2_leads_15 : decode cX2_leads 15 = .ok (.getfield 18, 3) := op180 (bA_at bd03_dec_X2_0_12 10 rfl rfl) rfl
theorem dX2_leads_18 : decode cX2_leads 18 = .ok (.iload_n 2, 1) := op28 (bA_at bd03_dec_X2_0_12 11 rfl rfl)
theorem bd03_dec_X2_0_13 : ([(0, [46]), (1, [42]), (2, [180, 0, 18]), (5, [27]), (6, [46]), (7, [162, 0, 23]), (10, [42]), (11, [27]), (12, [182, 0, 74]), (15, [154, 0, 15]), (18, [42]), (19, [28])] : List (Nat × List UInt8)).all (fun x => prB x.2 ((cX2_leads.data.toList.drop 19).drop x.1)) = true := by decide +kernel
theorem dX2_leads_19 : decode cX2_leads 19 = .ok (.iaload, 1) := op46 (bA_at bd03_dec_X2_0_13 0 rfl rfl)
theorem dX2_leads_20 : decode cX2_leads 20 = .ok (.aload_n 0, 1) := op42 (bA_at bd03_dec_X2_0_13 1 rfl rfl)
theorem dX2_leads_21 : decode cX2_leads 21 = .ok (.getfield 18, 3) := op180 (bA_at bd03_dec_X2_0_13 2 rfl rfl) rfl
theorem dX2_leads_24 : decode cX2_leads 24 = .ok (.iload_n 1, 1) := op27 (bA_at bd03_dec_X2_0_13 3 rfl rfl)
theorem dX2_leads_25 : decode cX2_leads 25 = .ok (.iaload, 1) := op46 (bA_at bd03_dec_X2_0_13 4 rfl rfl)
theorem dX2_leads_26 : decode cX2_leads 26 = .ok (.if_icmp .ge 23, 3) := op162 (bA_at bd03_dec_X2_0_13 5 rfl rfl) (by decide +kernel)
theorem dX2_leads_29 : decode cX2_leads 29 = .ok (.aload_n 0, 1) := op42 (bA_at bd03_dec_X2_0_13 6 rfl rfl)
theorem dX2_leads_30 : decode cX2_leads 30 = .ok (.iload_n 1, 1) := op27 (bA_at bd03_dec_X2_0_13 7 rfl rfl)
theorem dX2_leads_31 : decode cX2_leads 31 = .ok (.invokevirtual 74, 3) := op182 (bA_at bd03_dec_X2_0_13 8 rfl rfl) rfl
theorem dX2_leads_34 : decode cX2_leads 34 = .ok (.ifCond .ne 15, 3) := op154 (bA_at bd03_dec_X2_0_13 9 rfl rfl) (by decide +kernel)
theorem dX2_leads_37 : decode cX2_leads 37 = .ok (.aload_n 0, 1) := op42 (bA_at bd03_dec_X2_0_13 10 rfl rfl)
theorem dX2_leads_38 : decode cX2_leads 38 = .ok (.iload_n 2, 1) := op28 (bA_at bd03_dec_X2_0_13 11 rfl rfl)
theorem bd03_dec_X2_0_14 : ([(0, [182, 0, 74]), (3, [154, 0, 7]), (6, [4]), (7, [167, 0, 4]), (10, [3]), (11, [172])] : List (Nat × List UInt8)).all (fun x => prB x.2 ((cX2_leads.data.toList.drop 39).drop x.1)) = true := by decide +kernel
theorem dX2_leads_39 : decode cX2_leads 39 = .ok (.invokevirtual 74, 3) := op182 (bA_at bd03_dec_X2_0_14 0 rfl rfl) rfl
theorem dX2_leads_42 : decode cX2_leads 42 = .ok (.ifCond .ne 7, 3) := op154 (bA_at bd03_dec_X2_0_14 1 rfl rfl) (by decide +kernel)
theorem dX2_leads_45 : decode cX2_leads 45 = .ok (.iconst 1, 1) := op4 (bA_at bd03_dec_X2_0_14 2 rfl rfl)
theorem dX2_leads_46 : decode cX2_leads 46 = .ok (.goto 4, 3) := op167 (bA_at bd03_dec_X2_0_14 3 rfl rfl) (by decide +kernel)
theorem dX2_leads_49 : decode cX2_leads 49 = .ok (.iconst 0, 1) := op3 (bA_at bd03_dec_X2_0_14 4 rfl rfl)
theorem dX2_leads_50 : decode cX2_leads 50 = .ok (.ireturn, 1) := op172 (bA_at bd03_dec_X2_0_14 5 rfl rfl)
theorem bd03_dec_X2_0_15 : ([(0, [42]), (1, [27]), (2, [182, 0, 74]), (5, [153, 0, 7]), (8, [3]), (9, [167, 0, 6]), (12, [4]), (13, [27]), (14, [120]), (15, [61]), (16, [3]), (17, [62])] : List (Nat × List UInt8)).all (fun x => prB x.2 ((cX2_earshot.data.toList.drop 0).drop x.1)) = true := by decide +kernel
theorem dX2_earshot_0 : decode cX2_earshot 0 = .ok (.aload_n 0, 1) := op42 (bA_at bd03_dec_X2_0_15 0 rfl rfl)
theorem dX2_earshot_1 : decode cX2_earshot 1 = .ok (.iload_n 1, 1) := op27 (bA_at bd03_dec_X2_0_15 1 rfl rfl)
theorem dX2_earshot_2 : decode cX2_earshot 2 = .ok (.invokevirtual 74, 3) := op182 (bA_at bd03_dec_X2_0_15 2 rfl rfl) rfl
theorem dX2_earshot_5 : decode cX2_earshot 5 = .ok (.ifCond .eq 7, 3) := op153 (bA_at bd03_dec_X2_0_15 3 rfl rfl) (by decide +kernel)
theorem dX2_earshot_8 : decode cX2_earshot 8 = .ok (.iconst 0, 1) := op3 (bA_at bd03_dec_X2_0_15 4 rfl rfl)
theorem dX2_earshot_9 : decode cX2_earshot 9 = .ok (.goto 6, 3) := op167 (bA_at bd03_dec_X2_0_15 5 rfl rfl) (by decide +kernel)
theorem dX2_earshot_12 : decode cX2_earshot 12 = .ok (.iconst 1, 1) := op4 (bA_at bd03_dec_X2_0_15 6 rfl rfl)
theorem dX2_earshot_13 : decode cX2_earshot 13 = .ok (.iload_n 1, 1) := op27 (bA_at bd03_dec_X2_0_15 7 rfl rfl)
theorem dX2_earshot_14 : decode cX2_earshot 14 = .ok (.ishl, 1) := op120 (bA_at bd03_dec_X2_0_15 8 rfl rfl)
theorem dX2_earshot_15 : decode cX2_earshot 15 = .ok (.istore_n 2, 1) := op61 (bA_at bd03_dec_X2_0_15 9 rfl rfl)
theorem dX2_earshot_16 : decode cX2_earshot 16 = .ok (.iconst 0, 1) := op3 (bA_at bd03_dec_X2_0_15 10 rfl rfl)
theorem dX2_earshot_17 : decode cX2_earshot 17 = .ok (.istore_n 3, 1) := op62 (bA_at bd03_dec_X2_0_15 11 rfl rfl)
theorem bd03_dec_X2_0_16 : ([(0, [29]), (1, [42]), (2, [180, 0, 55]), (5, [162, 0, 43]), (8, [42]), (9, [180, 0, 28]), (12, [29]), (13, [46]), (14, [27]), (15, [160, 0, 27]), (18, [42]), (19, [42])] : List (Nat × List UInt8)).all (fun x => prB x.2 ((cX2_earshot.data.toList.drop 18).drop x.1)) = true := by decide +kernel
theorem dX2_earshot_18 : decode cX2_earshot 18 = .ok (.iload_n 3, 1) := op29 (bA_at bd03_dec_X2_0_16 0 rfl rfl)
theorem dX2_earshot_19 : decode cX2_earshot 19 = .ok (.aload_n 0, 1) := op42 (bA_at bd03_dec_X2_0_16 1 rfl rfl)
theorem dX2_earshot_20 : decode cX2_earshot 20 = .ok (.getfield 55, 3) := op180 (bA_at bd03_dec_X2_0_16 2 rfl rfl) rfl
theorem dX2_earshot_23 : decode cX2_earshot 23 = .ok (.if_icmp .ge 43, 3) := op162 (bA_at bd03_dec_X2_0_16 3 rfl rfl) (by decide +kernel)
theorem dX2_earshot_26 : decode cX2_earshot 26 = .ok (.aload_n 0, 1) := op42 (bA_at bd03_dec_X2_0_16 4 rfl rfl)
theorem dX2_earshot_27 : decode cX2_earshot 27 = .ok (.getfield 28, 3) := op180 (bA_at bd03_dec_X2_0_16 5 rfl rfl) rfl
theorem dX2_earshot_30 : decode cX2_earshot 30 = .ok (.iload_n 3, 1) := op29 (bA_at bd03_dec_X2_0_16 6 rfl rfl)
theorem dX2_earshot_31 : decode cX2_earshot 31 = .ok (.iaload, 1) := op46 (bA_at bd03_dec_X2_0_16 7 rfl rfl)
theorem dX2_earshot_32 : decode cX2_earshot 32 = .ok (.iload_n 1, 1) := op27 (bA_at bd03_dec_X2_0_16 8 rfl rfl)
theorem dX2_earshot_33 : decode cX2_earshot 33 = .ok (.if_icmp .ne 27, 3) := op160 (bA_at bd03_dec_X2_0_16 9 rfl rfl) (by decide +kernel)
theorem dX2_earshot_36 : decode cX2_earshot 36 = .ok (.aload_n 0, 1) := op42 (bA_at bd03_dec_X2_0_16 10 rfl rfl)
theorem dX2_earshot_37 : decode cX2_earshot 37 = .ok (.aload_n 0, 1) := op42 (bA_at bd03_dec_X2_0_16 11 rfl rfl)
theorem bd03_dec_X2_0_17 : ([(0, [180, 0, 31]), (3, [29]), (4, [46]), (5, [182, 0, 74]), (8, [154, 0, 14]), (11, [28]), (12, [4]), (13, [42]), (14, [180, 0, 31]), (17, [29]), (18, [46]), (19, [120])] : List (Nat × List UInt8)).all (fun x => prB x.2 ((cX2_earshot.data.toList.drop 38).drop x.1)) = true := by decide +kernel
theorem dX2_earshot_38 : decode cX2_earshot 38 = .ok (.getfield 31, 3) := op180 (bA_at bd03_dec_X2_0_17 0 rfl rfl) rfl
theorem dX2_earshot_41 : decode cX2_earshot 41 = .ok (.iload_n 3, 1) := op29 (bA_at bd03_dec_X2_0_17 1 rfl rfl)
theorem dX2_earshot_42 : decode cX2_earshot 42 = .ok (.iaload, 1) := op46 (bA_at bd03_dec_X2_0_17 2 rfl rfl)
theorem dX2_earshot_43 : decode cX2_earshot 43 = .ok (.invokevirtual 74, 3) := op182 (bA_at bd03_dec_X2_0_17 3 rfl rfl) rfl
theorem dX2_earshot_46 : decode cX2_earshot 46 = .ok (.ifCond .ne 14, 3) := op154 (bA_at bd03_dec_X2_0_17 4 rfl rfl) (by decide +kernel)
theorem dX2_earshot_49 : decode cX2_earshot 49 = .ok (.iload_n 2, 1) := op28 (bA_at bd03_dec_X2_0_17 5 rfl rfl)
theorem dX2_earshot_50 : decode cX2_earshot 50 = .ok (.iconst 1, 1) := op4 (bA_at bd03_dec_X2_0_17 6 rfl rfl)
theorem dX2_earshot_51 : decode cX2_earshot 51 = .ok (.aload_n 0, 1) := op42 (bA_at bd03_dec_X2_0_17 7 rfl rfl)
theorem dX2_earshot_52 : decode cX2_earshot 52 = .ok (.getfield 31, 3) := op180 (bA_at bd03_dec_X2_0_17 8 rfl rfl) rfl
theorem dX2_earshot_55 : decode cX2_earshot 55 = .ok (.iload_n 3, 1) := op29 (bA_at bd03_dec_X2_0_17 9 rfl rfl)
theorem dX2_earshot_56 : decode cX2_earshot 56 = .ok (.iaload, 1) := op46 (bA_at bd03_dec_X2_0_17 10 rfl rfl)
theorem dX2_earshot_57 : decode cX2_earshot 57 = .ok (.ishl, 1) := op120 (bA_at bd03_dec_X2_0_17 11 rfl rfl)
theorem bd03_dec_X2_0_18 : ([(0, [128]), (1, [61]), (2, [132, 3, 1]), (5, [167, 255, 211]), (8, [28]), (9, [172])] : List (Nat × List UInt8)).all (fun x => prB x.2 ((cX2_earshot.data.toList.drop 58).drop x.1)) = true := by decide +kernel
theorem dX2_earshot_58 : decode cX2_earshot 58 = .ok (.ior, 1) := op128 (bA_at bd03_dec_X2_0_18 0 rfl rfl)
theorem dX2_earshot_59 : decode cX2_earshot 59 = .ok (.istore_n 2, 1) := op61 (bA_at bd03_dec_X2_0_18 1 rfl rfl)
theorem dX2_earshot_60 : decode cX2_earshot 60 = .ok (.iinc 3 1, 3) := op132 (bA_at bd03_dec_X2_0_18 2 rfl rfl) rfl (by decide +kernel)
theorem dX2_earshot_63 : decode cX2_earshot 63 = .ok (.goto (-45), 3) := op167 (bA_at bd03_dec_X2_0_18 3 rfl rfl) (by decide +kernel)
theorem dX2_earshot_66 : decode cX2_earshot 66 = .ok (.iload_n 2, 1) := op28 (bA_at bd03_dec_X2_0_18 4 rfl rfl)
theorem dX2_earshot_67 : decode cX2_earshot 67 = .ok (.ireturn, 1) := op172 (bA_at bd03_dec_X2_0_18 5 rfl rfl)
theorem bd03_dec_X2_0_19 : ([(0, [2]), (1, [61]), (2, [3]), (3, [62]), (4, [29]), (5, [42]), (6, [180, 0, 43]), (9, [162, 0, 39]), (12, [27]), (13, [29]), (14, [184, 0, 77]), (17, [153, 0, 25])] : List (Nat × List UInt8)).all (fun x => prB x.2 ((cX2_highest.data.toList.drop 0).drop x.1)) = true := by decide +kernel
theorem dX2_highest_0 : decode cX2_highest 0 = .ok (.iconst (-1), 1) := op2 (bA_at bd03_dec_X2_0_19 0 rfl rfl)
theorem dX2_highest_1 : decode cX2_highest 1 = .ok (.istore_n 2, 1) := op61 (bA_at bd03_dec_X2_0_19 1 rfl rfl)
theorem dX2_highest_2 : decode cX2_highest 2 = .ok (.iconst 0, 1) := op3 (bA_at bd03_dec_X2_0_19 2 rfl rfl)
theorem dX2_highest_3 : decode cX2_highest 3 = .ok (.istore_n 3, 1) := op62 (bA_at bd03_dec_X2_0_19 3 rfl rfl)
theorem dX2_highest_4 : decode cX2_highest 4 = .ok (.iload_n 3, 1) := op29 (bA_at bd03_dec_X2_0_19 4 rfl rfl)
theorem dX2_highest_5 : decode cX2_highest 5 = .ok (.aload_n 0, 1) := op42 (bA_at bd03_dec_X2_0_19 5 rfl rfl)
theorem dX2_highest_6 : decode cX2_highest 6 = .ok (.getfield 43, 3) := op180 (bA_at bd03_dec_X2_0_19 6 rfl rfl) rfl
theorem dX2_highest_9 : decode cX2_highest 9 = .ok (.if_icmp .ge 39, 3) := op162 (bA_at bd03_dec_X2_0_19 7 rfl rfl) (by decide +kernel)
theorem dX2_highest_12 : decode cX2_highest 12 = .ok (.iload_n 1, 1) := op27 (bA_at bd03_dec_X2_0_19 8 rfl rfl)
theorem dX2_highest_13 : decode cX2_highest 13 = .ok (.iload_n 3, 1) := op29 (bA_at bd03_dec_X2_0_19 9 rfl rfl)
theorem dX2_highest_14 : decode cX2_highest 14 = .ok (.invokestatic 77, 3) := op184 (bA_at bd03_dec_X2_0_19 10 rfl rfl) rfl
theorem dX2_highest_17 : decode cX2_highest 17 = .ok (.ifCond .eq 25, 3) := op153 (bA_at bd03_dec_X2_0_19 11 rfl rfl) (by decide +kernel)
theorem bd03_dec_X2_0_20 : ([(0, [28]), (1, [2]), (2, [159, 0, 18]), (5, [42]), (6, [180, 0, 18]), (9, [29]), (10, [46]), (11, [42]), (12, [180, 0, 18]), (15, [28]), (16, [46]), (17, [164, 0, 5])] : List (Nat × List UInt8)).all (fun x => prB x.2 ((cX2_highest.data.toList.drop 20).drop x.1)) = true := by decide +kernel
theorem dX2_highest_20 : decode cX2_highest 20 = .ok (.iload_n 2, 1) := op28 (bA_at bd03_dec_X2_0_20 0 rfl rfl)
theorem dX2_highest_21 : decode cX2_highest 21 = .ok (.iconst (-1), 1) := op2 (bA_at bd03_dec_X2_0_20 1 rfl rfl)
theorem dX2_highest_22 : decode cX2_highest 22 = .ok (.if_icmp .eq 18, 3) := op159 (bA_at bd03_dec_X2_0_20 2 rfl rfl) (by decide +kernel)
theorem dX2_highest_25 : decode cX2_highest 25 = .ok (.aload_n 0, 1) := op42 (bA_at bd03_dec_X2_0_20 3 rfl rfl)
theorem dX2_highest_26 : decode cX2_highest 26 = .ok (.getfield 18, 3) := op180 (bA_at bd03_dec_X2_0_20 4 rfl rfl) rfl
theorem dX2_highest_29 : decode cX2_highest 29 = .ok (.iload_n 3, 1) := op29 (bA_at bd03_dec_X2_0_20 5 rfl rfl)
theorem dX2_highest_30 : decode cX2_highest 30 = .ok (.iaload, 1) := op46 (bA_at bd03_dec_X2_0_20 6 rfl rfl)
theorem dX2_highest_31 : decode cX2_highest 31 = .ok (.aload_n 0, 1) := op42 (bA_at bd03_dec_X2_0_20 7 rfl rfl)
theorem dX2_highest_32 : decode cX2_highest 32 = .ok (.getfield 18, 3) := op180 (bA_at bd03_dec_X2_0_20 8 rfl rfl) rfl
theorem dX2_highest_35 : decode cX2_highest 35 = .ok (.iload_n 2, 1) := op28 (bA_at bd03_dec_X2_0_20 9 rfl rfl)
theorem dX2_highest_36 : decode cX2_highest 36 = .ok (.iaload, 1) := op46 (bA_at bd03_dec_X2_0_20 10 rfl rfl)
theorem dX2_highest_37 : decode cX2_highest 37 = .ok (.if_icmp .le 5, 3) := op164 (bA_at bd03_dec_X2_0_20 11 rfl rfl) (by decide +kernel)
theorem bd03_dec_X2_0_21 : ([(0, [29]), (1, [61]), (2, [132, 3, 1]), (5, [167, 255, 215]), (8, [28]), (9, [172])] : List (Nat × List UInt8)).all (fun x => prB x.2 ((cX2_highest.data.toList.drop 40).drop x.1)) = true := by decide +kernel
theorem dX2_highest_40 : decode cX2_highest 40 = .ok (.iload_n 3, 1) := op29 (bA_at bd03_dec_X2_0_21 0 rfl rfl)
theorem dX2_highest_41 : decode cX2_highest 41 = .ok (.istore_n 2, 1) := op61 (bA_at bd03_dec_X2_0_21 1 rfl rfl)
theorem dX2_highest_42 : decode cX2_highest 42 = .ok (.iinc 3 1, 3) := op132 (bA_at bd03_dec_X2_0_21 2 rfl rfl) rfl (by decide +kernel)
theorem dX2_highest_45 : decode cX2_highest 45 = .ok (.goto (-41), 3) := op167 (bA_at bd03_dec_X2_0_21 3 rfl rfl) (by decide +kernel)
theorem dX2_highest_48 : decode cX2_highest 48 = .ok (.iload_n 2, 1) := op28 (bA_at bd03_dec_X2_0_21 4 rfl rfl)
theorem dX2_highest_49 : decode cX2_highest 49 = .ok (.ireturn, 1) := op172 (bA_at bd03_dec_X2_0_21 5 rfl rfl)
theorem bd03_dec_X2_0_22 : ([(0, [27]), (1, [155, 0, 10]), (4, [27]), (5, [17, 0, 141]), (8, [161, 0, 5]), (11, [2]), (12, [172]), (13, [27]), (14, [16, 60]), (16, [161, 0, 51]), (19, [27]), (20, [16, 60])] : List (Nat × List UInt8)).all (fun x => prB x.2 ((cX2_look.data.toList.drop 0).drop x.1)) = true := by decide +kernel
theorem dX2_look_0 : decode cX2_look 0 = .ok (.iload_n 1, 1) := op27 (bA_at bd03_dec_X2_0_22 0 rfl rfl)
theorem dX2_look_1 : decode cX2_look 1 = .ok (.ifCond .lt 10, 3) := op155 (bA_at bd03_dec_X2_0_22 1 rfl rfl) (by decide +kernel)
theorem dX2_look_4 : decode cX2_look 4 = .ok (.iload_n 1, 1) := op27 (bA_at bd03_dec_X2_0_22 2 rfl rfl)
theorem dX2_look_5 : decode cX2_look 5 = .ok (.sipush 141, 3) := op17 (bA_at bd03_dec_X2_0_22 3 rfl rfl) (by decide +kernel)
theorem dX2_look_8 : decode cX2_look 8 = .ok (.if_icmp .lt 5, 3) := op161 (bA_at bd03_dec_X2_0_22 4 rfl rfl) (by decide +kernel)
theorem dX2_look_11 : decode cX2_look 11 = .ok (.iconst (-1), 1) := op2 (bA_at bd03_dec_X2_0_22 5 rfl rfl)
theorem dX2_look_12 : decode cX2_look 12 = .ok (.ireturn, 1) := op172 (bA_at bd03_dec_X2_0_22 6 rfl rfl)
theorem dX2_look_13 : decode cX2_look 13 = .ok (.iload_n 1, 1) := op27 (bA_at bd03_dec_X2_0_22 7 rfl rfl)
theorem dX2_look_14 : decode cX2_look 14 = .ok (.bipush 60, 2) := op16 (bA_at bd03_dec_X2_0_22 8 rfl rfl) (by decide +kernel)
theorem dX2_look_16 : decode cX2_look 16 = .ok (.if_icmp .lt 51, 3) := op161 (bA_at bd03_dec_X2_0_22 9 rfl rfl) (by decide +kernel)
theorem dX2_look_19 : decode cX2_look 19 = .ok (.iload_n 1, 1) := op27 (bA_at bd03_dec_X2_0_22 10 rfl rfl)
theorem dX2_look_20 : decode cX2_look 20 = .ok (.bipush 60, 2) := op16 (bA_at bd03_dec_X2_0_22 11 rfl rfl) (by decide +kernel)
theorem bd03_dec_X2_0_23 : ([(0, [100]), (1, [16, 9]), (3, [108]), (4, [61]), (5, [27]), (6, [16, 60]), (8, [100]), (9, [16, 9]), (11, [112]), (12, [62]), (13, [42]), (14, [28])] : List (Nat × List UInt8)).all (fun x => prB x.2 ((cX2_look.data.toList.drop 22).drop x.1)) = true := by decide +kernel
theorem dX2_look_22 : decode cX2_look 22 = .ok (.isub, 1) := op100 (bA_at bd03_dec_X2_0_23 0 rfl rfl)
theorem dX2_look_23 : decode cX2_look 23 = .ok (.bipush 9, 2) := op16 (bA_at bd03_dec_X2_0_23 1 rfl rfl) (by decide +kernel)
theorem dX2_look_25 : decode cX2_look 25 = .ok (.idiv, 1) := op108 (bA_at bd03_dec_X2_0_23 2 rfl rfl)
theorem dX2_look_26 : decode cX2_look 26 = .ok (.istore_n 2, 1) := op61 (bA_at bd03_dec_X2_0_23 3 rfl rfl)
theorem dX2_look_27 : decode cX2_look 27 = .ok (.iload_n 1, 1) := op27 (bA_at bd03_dec_X2_0_23 4 rfl rfl)
theorem dX2_look_28 : decode cX2_look 28 = .ok (.bipush 60, 2) := op16 (bA_at bd03_dec_X2_0_23 5 rfl rfl) (by decide +kernel)
theorem dX2_look_30 : decode cX2_look 30 = .ok (.isub, 1) := op100 (bA_at bd03_dec_X2_0_23 6 rfl rfl)
theorem dX2_look_31 : decode cX2_look 31 = .ok (.bipush 9, 2) := op16 (bA_at bd03_dec_X2_0_23 7 rfl rfl) (by decide +kernel)
theorem dX2_look_33 : decode cX2_look 33 = .ok (.irem, 1) := op112 (bA_at bd03_dec_X2_0_23 8 rfl rfl)
theorem dX2_look_34 : decode cX2_look 34 = .ok (.istore_n 3, 1) := op62 (bA_at bd03_dec_X2_0_23 9 rfl rfl)
theorem dX2_look_35 : decode cX2_look 35 = .ok (.aload_n 0, 1) := op42 (bA_at bd03_dec_X2_0_23 10 rfl rfl)
theorem dX2_look_36 : decode cX2_look 36 = .ok (.iload_n 2, 1) := op28 (bA_at bd03_dec_X2_0_23 11 rfl rfl)
theorem bd03_dec_X2_0_24 : ([(0, [182, 0, 70]), (3, [153, 0, 25]), (6, [42]), (7, [29]), (8, [182, 0, 70]), (11, [153, 0, 17]), (14, [42]), (15, [180, 0, 25]), (18, [28]), (19, [16, 9]), (21, [104]), (22, [29])] : List (Nat × List UInt8)).all (fun x => prB x.2 ((cX2_look.data.toList.drop 37).drop x.1)) = true := by decide +kernel
theorem dX2_look_37 : decode cX2_look 37 = .ok (.invokevirtual 70, 3) := op182 (bA_at bd03_dec_X2_0_24 0 rfl rfl) rfl
theorem dX2_look_40 : decode cX2_look 40 = .ok (.ifCond .eq 25, 3) := op153 (bA_at bd03_dec_X2_0_24 1 rfl rfl) (by decide +kernel)
theorem dX2_look_43 : decode cX2_look 43 = .ok (.aload_n 0, 1) := op42 (bA_at bd03_dec_X2_0_24 2 rfl rfl)
theorem dX2_look_44 : decode cX2_look 44 = .ok (.iload_n 3, 1) := op29 (bA_at bd03_dec_X2_0_24 3 rfl rfl)
theorem dX2_look_45 : decode cX2_look 45 = .ok (.invokevirtual 70, 3) := op182 (bA_at bd03_dec_X2_0_24 4 rfl rfl) rfl
theorem dX2_look_48 : decode cX2_look 48 = .ok (.ifCond .eq 17, 3) := op153 (bA_at bd03_dec_X2_0_24 5 rfl rfl) (by decide +kernel)
theorem dX2_look_51 : decode cX2_look 51 = .ok (.aload_n 0, 1) := op42 (bA_at bd03_dec_X2_0_24 6 rfl rfl)
theorem dX2_look_52 : decode cX2_look 52 = .ok (.getfield 25, 3) := op180 (bA_at bd03_dec_X2_0_24 7 rfl rfl) rfl
theorem dX2_look_55 : decode cX2_look 55 = .ok (.iload_n 2, 1) := op28 (bA_at bd03_dec_X2_0_24 8 rfl rfl)
theorem dX2_look_56 : decode cX2_look 56 = .ok (.bipush 9, 2) := op16 (bA_at bd03_dec_X2_0_24 9 rfl rfl) (by decide +kernel)
theorem dX2_look_58 : decode cX2_look 58 = .ok (.imul, 1) := op104 (bA_at bd03_dec_X2_0_24 10 rfl rfl)
theorem dX2_look_59 : decode cX2_look 59 = .ok (.iload_n 3, 1) := op29 (bA_at bd03_dec_X2_0_24 11 rfl rfl)
theorem bd03_dec_X2_0_25 : ([(0, [96]), (1, [46]), (2, [167, 0, 4]), (5, [2]), (6, [172]), (7, [27]), (8, [16, 10]), (10, [162, 0, 9]), (13, [42]), (14, [27]), (15, [182, 0, 81]), (18, [172])] : List (Nat × List UInt8)).all (fun x => prB x.2 ((cX2_look.data.toList.drop 60).drop x.1)) = true := by decide +kernel
theorem dX2_look_60 : decode cX2_look 60 = .ok (.iadd, 1) := op96 (bA_at bd03_dec_X2_0_25 0 rfl rfl)
theorem dX2_look_61 : decode cX2_look 61 = .ok (.iaload, 1) := op46 (bA_at bd03_dec_X2_0_25 1 rfl rfl)
theorem dX2_look_62 : decode cX2_look 62 = .ok (.goto 4, 3) := op167 (bA_at bd03_dec_X2_0_25 2 rfl rfl) (by decide +kernel)
theorem dX2_look_65 : decode cX2_look 65 = .ok (.iconst (-1), 1) := op2 (bA_at bd03_dec_X2_0_25 3 rfl rfl)
theorem dX2_look_66 : decode cX2_look 66 = .ok (.ireturn, 1) := op172 (bA_at bd03_dec_X2_0_25 4 rfl rfl)
theorem dX2_look_67 : decode cX2_look 67 = .ok (.iload_n 1, 1) := op27 (bA_at bd03_dec_X2_0_25 5 rfl rfl)
theorem dX2_look_68 : decode cX2_look 68 = .ok (.bipush 10, 2) := op16 (bA_at bd03_dec_X2_0_25 6 rfl rfl) (by decide +kernel)
theorem dX2_look_70 : decode cX2_look 70 = .ok (.if_icmp .ge 9, 3) := op162 (bA_at bd03_dec_X2_0_25 7 rfl rfl) (by decide +kernel)
theorem dX2_look_73 : decode cX2_look 73 = .ok (.aload_n 0, 1) := op42 (bA_at bd03_dec_X2_0_25 8 rfl rfl)
theorem dX2_look_74 : decode cX2_look 74 = .ok (.iload_n 1, 1) := op27 (bA_at bd03_dec_X2_0_25 9 rfl rfl)
theorem dX2_look_75 : decode cX2_look 75 = .ok (.invokevirtual 81, 3) := op182 (bA_at bd03_dec_X2_0_25 10 rfl rfl) rfl
theorem dX2_look_78 : decode cX2_look 78 = .ok (.ireturn, 1) := op172 (bA_at bd03_dec_X2_0_25 11 rfl rfl)
theorem bd03_dec_X2_0_26 : ([(0, [27]), (1, [16, 10]), (3, [112]), (4, [61]), (5, [27]), (6, [16, 30]), (8, [162, 0, 15]), (11, [42]), (12, [27]), (13, [16, 10]), (15, [108]), (16, [28])] : List (Nat × List UInt8)).all (fun x => prB x.2 ((cX2_look.data.toList.drop 79).drop x.1)) = true := by decide +kernel
theorem dX2_look_79 : decode cX2_look 79 = .ok (.iload_n 1, 1) := op27 (bA_at bd03_dec_X2_0_26 0 rfl rfl)
theorem dX2_look_80 : decode cX2_look 80 = .ok (.bipush 10, 2) := op16 (bA_at bd03_dec_X2_0_26 1 rfl rfl) (by decide +kernel)
theorem dX2_look_82 : decode cX2_look 82 = .ok (.irem, 1) := op112 (bA_at bd03_dec_X2_0_26 2 rfl rfl)
theorem dX2_look_83 : decode cX2_look 83 = .ok (.istore_n 2, 1) := op61 (bA_at bd03_dec_X2_0_26 3 rfl rfl)
theorem dX2_look_84 : decode cX2_look 84 = .ok (.iload_n 1, 1) := op27 (bA_at bd03_dec_X2_0_26 4 rfl rfl)
theorem dX2_look_85 : decode cX2_look 85 = .ok (.bipush 30, 2) := op16 (bA_at bd03_dec_X2_0_26 5 rfl rfl) (by decide +kernel)
theorem dX2_look_87 : decode cX2_look 87 = .ok (.if_icmp .ge 15, 3) := op162 (bA_at bd03_dec_X2_0_26 6 rfl rfl) (by decide +kernel)
theorem dX2_look_90 : decode cX2_look 90 = .ok (.aload_n 0, 1) := op42 (bA_at bd03_dec_X2_0_26 7 rfl rfl)
theorem dX2_look_91 : decode cX2_look 91 = .ok (.iload_n 1, 1) := op27 (bA_at bd03_dec_X2_0_26 8 rfl rfl)
theorem dX2_look_92 : decode cX2_look 92 = .ok (.bipush 10, 2) := op16 (bA_at bd03_dec_X2_0_26 9 rfl rfl) (by decide +kernel)
theorem dX2_look_94 : decode cX2_look 94 = .ok (.idiv, 1) := op108 (bA_at bd03_dec_X2_0_26 10 rfl rfl)
theorem dX2_look_95 : decode cX2_look 95 = .ok (.iload_n 2, 1) := op28 (bA_at bd03_dec_X2_0_26 11 rfl rfl)
theorem bd03_dec_X2_0_27 : ([(0, [182, 0, 85]), (3, [167, 0, 12]), (6, [42]), (7, [27]), (8, [16, 10]), (10, [108]), (11, [28]), (12, [182, 0, 89]), (15, [172])] : List (Nat × List UInt8)).all (fun x => prB x.2 ((cX2_look.data.toList.drop 96).drop x.1)) = true := by decide +kernel
theorem dX2_look_96 : decode cX2_look 96 = .ok (.invokevirtual 85, 3) := op182 (bA_at bd03_dec_X2_0_27 0 rfl rfl) rfl
theorem dX2_look_99 : decode cX2_look 99 = .ok (.goto 12, 3) := op167 (bA_at bd03_dec_X2_0_27 1 rfl rfl) (by decide +kernel)
theorem dX2_look_102 : decode cX2_look 102 = .ok (.aload_n 0, 1) := op42 (bA_at bd03_dec_X2_0_27 2 rfl rfl)
theorem dX2_look_103 : decode cX2_look 103 = .ok (.iload_n 1, 1) := op27 (bA_at bd03_dec_X2_0_27 3 rfl rfl)
theorem dX2_look_104 : decode cX2_look 104 = .ok (.bipush 10, 2) := op16 (bA_at bd03_dec_X2_0_27 4 rfl rfl) (by decide +kernel)
theorem dX2_look_106 : decode cX2_look 106 = .ok (.idiv, 1) := op108 (bA_at bd03_dec_X2_0_27 5 rfl rfl)
theorem dX2_look_107 : decode cX2_look 107 = .ok (.iload_n 2, 1) := op28 (bA_at bd03_dec_X2_0_27 6 rfl rfl)
theorem dX2_look_108 : decode cX2_look 108 = .ok (.invokevirtual 89, 3) := op182 (bA_at bd03_dec_X2_0_27 7 rfl rfl) rfl
theorem dX2_look_111 : decode cX2_look 111 = .ok (.ireturn, 1) := op172 (bA_at bd03_dec_X2_0_27 8 rfl rfl)
theorem dX2_lookWhole_1 : decode cX2_lookWhole 1 = .ok (.tableswitch 78 0 6 #[43, 48, 53, 58, 63, 68, 73], 43) := by decide +kernel
theorem bd03_dec_X2_0_28 : ([(0, [27]), (44, [42]), (45, [180, 0, 43]), (48, [172]), (49, [42]), (50, [180, 0, 46]), (53, [172]), (54, [42]), (55, [180, 0, 49]), (58, [172]), (59, [42])] : List (Nat × List UInt8)).all (fun x => prB x.2 ((cX2_lookWhole.data.toList.drop 0).drop x.1)) = true := by decide +kernel
theorem dX2_lookWhole_0 : decode cX2_lookWhole 0 = .ok (.iload_n 1, 1) := op27 (bA_at bd03_dec_X2_0_28 0 rfl rfl)
theorem dX2_lookWhole_44 : decode cX2_lookWhole 44 = .ok (.aload_n 0, 1) := op42 (bA_at bd03_dec_X2_0_28 1 rfl rfl)
theorem dX2_lookWhole_45 : decode cX2_lookWhole 45 = .ok (.getfield 43, 3) := op180 (bA_at bd03_dec_X2_0_28 2 rfl rfl) rfl
theorem dX2_lookWhole_48 : decode cX2_lookWhole 48 = .ok (.ireturn, 1) := op172 (bA_at bd03_dec_X2_0_28 3 rfl rfl)
theorem dX2_lookWhole_49 : decode cX2_lookWhole 49 = .ok (.aload_n 0, 1) := op42 (bA_at bd03_dec_X2_0_28 4 rfl rfl)
theorem dX2_lookWhole_50 : decode cX2_lookWhole 50 = .ok (.getfield 46, 3) := op180 (bA_at bd03_dec_X2_0_28 5 rfl rfl) rfl
theorem dX2_lookWhole_53 : decode cX2_lookWhole 53 = .ok (.ireturn, 1) := op172 (bA_at bd03_dec_X2_0_28 6 rfl rfl)
theorem dX2_lookWhole_54 : decode cX2_lookWhole 54 = .ok (.aload_n 0, 1) := op42 (bA_at bd03_dec_X2_0_28 7 rfl rfl)
theorem dX2_lookWhole_55 : decode cX2_lookWhole 55 = .ok (.getfield 49, 3) := op180 (bA_at bd03_dec_X2_0_28 8 rfl rfl) rfl
theorem dX2_lookWhole_58 : decode cX2_lookWhole 58 = .ok (.ireturn, 1) := op172 (bA_at bd03_dec_X2_0_28 9 rfl rfl)
theorem dX2_lookWhole_59 : decode cX2_lookWhole 59 = .ok (.aload_n 0, 1) := op42 (bA_at bd03_dec_X2_0_28 10 rfl rfl)
theorem bd03_dec_X2_0_29 : ([(0, [180, 0, 52]), (3, [172]), (4, [42]), (5, [180, 0, 55]), (8, [172]), (9, [42]), (10, [180, 0, 9]), (13, [172]), (14, [42]), (15, [180, 0, 15]), (18, [172]), (19, [2])] : List (Nat × List UInt8)).all (fun x => prB x.2 ((cX2_lookWhole.data.toList.drop 60).drop x.1)) = true := by decide +kernel
theorem dX2_lookWhole_60 : decode cX2_lookWhole 60 = .ok (.getfield 52, 3) := op180 (bA_at bd03_dec_X2_0_29 0 rfl rfl) rfl
theorem dX2_lookWhole_63 : decode cX2_lookWhole 63 = .ok (.ireturn, 1) := op172 (bA_at bd03_dec_X2_0_29 1 rfl rfl)
theorem dX2_lookWhole_64 : decode cX2_lookWhole 64 = .ok (.aload_n 0, 1) := op42 (bA_at bd03_dec_X2_0_29 2 rfl rfl)
theorem dX2_lookWhole_65 : decode cX2_lookWhole 65 = .ok (.getfield 55, 3) := op180 (bA_at bd03_dec_X2_0_29 3 rfl rfl) rfl
theorem dX2_lookWhole_68 : decode cX2_lookWhole 68 = .ok (.ireturn, 1) := op172 (bA_at bd03_dec_X2_0_29 4 rfl rfl)
theorem dX2_lookWhole_69 : decode cX2_lookWhole 69 = .ok (.aload_n 0, 1) := op42 (bA_at bd03_dec_X2_0_29 5 rfl rfl)
theorem dX2_lookWhole_70 : decode cX2_lookWhole 70 = .ok (.getfield 9, 3) := op180 (bA_at bd03_dec_X2_0_29 6 rfl rfl) rfl
theorem dX2_lookWhole_73 : decode cX2_lookWhole 73 = .ok (.ireturn, 1) := op172 (bA_at bd03_dec_X2_0_29 7 rfl rfl)
theorem dX2_lookWhole_74 : decode cX2_lookWhole 74 = .ok (.aload_n 0, 1) := op42 (bA_at bd03_dec_X2_0_29 8 rfl rfl)
theorem dX2_lookWhole_75 : decode cX2_lookWhole 75 = .ok (.getfield 15, 3) := op180 (bA_at bd03_dec_X2_0_29 9 rfl rfl) rfl
theorem dX2_lookWhole_78 : decode cX2_lookWhole 78 = .ok (.ireturn, 1) := op172 (bA_at bd03_dec_X2_0_29 10 rfl rfl)
theorem dX2_lookWhole_79 : decode cX2_lookWhole 79 = .ok (.iconst (-1), 1) := op2 (bA_at bd03_dec_X2_0_29 11 rfl rfl)
theorem bd03_dec_X2_0_30 : ([(0, [172])] : List (Nat × List UInt8)).all (fun x => prB x.2 ((cX2_lookWhole.data.toList.drop 80).drop x.1)) = true := by decide +kernel
theorem dX2_lookWhole_80 : decode cX2_lookWhole 80 = .ok (.ireturn, 1) := op172 (bA_at bd03_dec_X2_0_30 0 rfl rfl)
theorem bd03_dec_X2_0_31 : ([(0, [42]), (1, [28]), (2, [182, 0, 70]), (5, [154, 0, 5]), (8, [2]), (9, [172]), (10, [27]), (11, [4]), (12, [160, 0, 12]), (15, [42]), (16, [180, 0, 18]), (19, [28])] : List (Nat × List UInt8)).all (fun x => prB x.2 ((cX2_lookHut.data.toList.drop 0).drop x.1)) = true := by decide +kernel
theorem dX2_lookHut_0 : decode cX2_lookHut 0 = .ok (.aload_n 0, 1) := op42 (bA_at bd03_dec_X2_0_31 0 rfl rfl)
theorem dX2_lookHut_1 : decode cX2_lookHut 1 = .ok (.iload_n 2, 1) := op28 (bA_at bd03_dec_X2_0_31 1 rfl rfl)
theorem dX2_lookHut_2 : decode cX2_lookHut 2 = .ok (.invokevirtual 70, 3) := op182 (bA_at bd03_dec_X2_0_31 2 rfl rfl) rfl
theorem dX2_lookHut_5 : decode cX2_lookHut 5 = .ok (.ifCond .ne 5, 3) := op154 (bA_at bd03_dec_X2_0_31 3 rfl rfl) (by decide +kernel)
theorem dX2_lookHut_8 : decode cX2_lookHut 8 = .ok (.iconst (-1), 1) := op2 (bA_at bd03_dec_X2_0_31 4 rfl rfl)
theorem dX2_lookHut_9 : decode cX2_lookHut 9 = .ok (.ireturn, 1) := op172 (bA_at bd03_dec_X2_0_31 5 rfl rfl)
theorem dX2_lookHut_10 : decode cX2_lookHut 10 = .ok (.iload_n 1, 1) := op27 (bA_at bd03_dec_X2_0_31 6 rfl rfl)
theorem dX2_lookHut_11 : decode cX2_lookHut 11 = .ok (.iconst 1, 1) := op4 (bA_at bd03_dec_X2_0_31 7 rfl rfl)
theorem dX2_lookHut_12 : decode cX2_lookHut 12 = .ok (.if_icmp .ne 12, 3) := op160 (bA_at bd03_dec_X2_0_31 8 rfl rfl) (by decide +kernel)
theorem dX2_lookHut_15 : decode cX2_lookHut 15 = .ok (.aload_n 0, 1) := op42 (bA_at bd03_dec_X2_0_31 9 rfl rfl)
theorem dX2_lookHut_16 : decode cX2_lookHut 16 = .ok (.getfield 18, 3) := op180 (bA_at bd03_dec_X2_0_31 10 rfl rfl) rfl
theorem dX2_lookHut_19 : decode cX2_lookHut 19 = .ok (.iload_n 2, 1) := op28 (bA_at bd03_dec_X2_0_31 11 rfl rfl)
theorem bd03_dec_X2_0_32 : ([(0, [46]), (1, [167, 0, 9]), (4, [42]), (5, [180, 0, 22]), (8, [28]), (9, [46]), (10, [172])] : List (Nat × List UInt8)).all (fun x => prB x.2 ((cX2_lookHut.data.toList.drop 20).drop x.1)) = true := by decide +kernel
theorem dX2_lookHut_20 : decode cX2_lookHut 20 = .ok (.iaload, 1) := op46 (bA_at bd03_dec_X2_0_32 0 rfl rfl)
theorem dX2_lookHut_21 : decode cX2_lookHut 21 = .ok (.goto 9, 3) := op167 (bA_at bd03_dec_X2_0_32 1 rfl rfl) (by decide +kernel)
theorem dX2_lookHut_24 : decode cX2_lookHut 24 = .ok (.aload_n 0, 1) := op42 (bA_at bd03_dec_X2_0_32 2 rfl rfl)
theorem dX2_lookHut_25 : decode cX2_lookHut 25 = .ok (.getfield 22, 3) := op180 (bA_at bd03_dec_X2_0_32 3 rfl rfl) rfl
theorem dX2_lookHut_28 : decode cX2_lookHut 28 = .ok (.iload_n 2, 1) := op28 (bA_at bd03_dec_X2_0_32 4 rfl rfl)
theorem dX2_lookHut_29 : decode cX2_lookHut 29 = .ok (.iaload, 1) := op46 (bA_at bd03_dec_X2_0_32 5 rfl rfl)
theorem dX2_lookHut_30 : decode cX2_lookHut 30 = .ok (.ireturn, 1) := op172 (bA_at bd03_dec_X2_0_32 6 rfl rfl)
theorem bd03_dec_X2_0_33 : ([(0, [42]), (1, [28]), (2, [182, 0, 92]), (5, [154, 0, 5]), (8, [2]), (9, [172]), (10, [27]), (11, [6]), (12, [160, 0, 10]), (15, [42]), (16, [180, 0, 34]), (19, [28])] : List (Nat × List UInt8)).all (fun x => prB x.2 ((cX2_lookSinger.data.toList.drop 0).drop x.1)) = true := by decide +kernel
theorem dX2_lookSinger_0 : decode cX2_lookSinger 0 = .ok (.aload_n 0, 1) := op42 (bA_at bd03_dec_X2_0_33 0 rfl rfl)
theorem dX2_lookSinger_1 : decode cX2_lookSinger 1 = .ok (.iload_n 2, 1) := op28 (bA_at bd03_dec_X2_0_33 1 rfl rfl)
theorem dX2_lookSinger_2 : decode cX2_lookSinger 2 = .ok (.invokevirtual 92, 3) := op182 (bA_at bd03_dec_X2_0_33 2 rfl rfl) rfl
theorem dX2_lookSinger_5 : decode cX2_lookSinger 5 = .ok (.ifCond .ne 5, 3) := op154 (bA_at bd03_dec_X2_0_33 3 rfl rfl) (by decide +kernel)
theorem dX2_lookSinger_8 : decode cX2_lookSinger 8 = .ok (.iconst (-1), 1) := op2 (bA_at bd03_dec_X2_0_33 4 rfl rfl)
theorem dX2_lookSinger_9 : decode cX2_lookSinger 9 = .ok (.ireturn, 1) := op172 (bA_at bd03_dec_X2_0_33 5 rfl rfl)
theorem dX2_lookSinger_10 : decode cX2_lookSinger 10 = .ok (.iload_n 1, 1) := op27 (bA_at bd03_dec_X2_0_33 6 rfl rfl)
theorem dX2_lookSinger_11 : decode cX2_lookSinger 11 = .ok (.iconst 3, 1) := op6 (bA_at bd03_dec_X2_0_33 7 rfl rfl)
theorem dX2_lookSinger_12 : decode cX2_lookSinger 12 = .ok (.if_icmp .ne 10, 3) := op160 (bA_at bd03_dec_X2_0_33 8 rfl rfl) (by decide +kernel)
theorem dX2_lookSinger_15 : decode cX2_lookSinger 15 = .ok (.aload_n 0, 1) := op42 (bA_at bd03_dec_X2_0_33 9 rfl rfl)
theorem dX2_lookSinger_16 : decode cX2_lookSinger 16 = .ok (.getfield 34, 3) := op180 (bA_at bd03_dec_X2_0_33 10 rfl rfl) rfl
theorem dX2_lookSinger_19 : decode cX2_lookSinger 19 = .ok (.iload_n 2, 1) := op28 (bA_at bd03_dec_X2_0_33 11 rfl rfl)
theorem bd03_dec_X2_0_34 : ([(0, [46]), (1, [172]), (2, [27]), (3, [7]), (4, [160, 0, 12]), (7, [42]), (8, [180, 0, 37]), (11, [28]), (12, [46]), (13, [167, 0, 9]), (16, [42]), (17, [180, 0, 40])] : List (Nat × List UInt8)).all (fun x => prB x.2 ((cX2_lookSinger.data.toList.drop 20).drop x.1)) = true := by decide +kernel
theorem dX2_lookSinger_20 : decode cX2_lookSinger 20 = .ok (.iaload, 1) := op46 (bA_at bd03_dec_X2_0_34 0 rfl rfl)
theorem dX2_lookSinger_21 : decode cX2_lookSinger 21 = .ok (.ireturn, 1) := op172 (bA_at bd03_dec_X2_0_34 1 rfl rfl)
theorem dX2_lookSinger_22 : decode cX2_lookSinger 22 = .ok (.iload_n 1, 1) := op27 (bA_at bd03_dec_X2_0_34 2 rfl rfl)
theorem dX2_lookSinger_23 : decode cX2_lookSinger 23 = .ok (.iconst 4, 1) := op7 (bA_at bd03_dec_X2_0_34 3 rfl rfl)
theorem dX2_lookSinger_24 : decode cX2_lookSinger 24 = .ok (.if_icmp .ne 12, 3) := op160 (bA_at bd03_dec_X2_0_34 4 rfl rfl) (by decide +kernel)
theorem dX2_lookSinger_27 : decode cX2_lookSinger 27 = .ok (.aload_n 0, 1) := op42 (bA_at bd03_dec_X2_0_34 5 rfl rfl)
theorem dX2_lookSinger_28 : decode cX2_lookSinger 28 = .ok (.getfield 37, 3) := op180 (bA_at bd03_dec_X2_0_34 6 rfl rfl) rfl
theorem dX2_lookSinger_31 : decode cX2_lookSinger 31 = .ok (.iload_n 2, 1) := op28 (bA_at bd03_dec_X2_0_34 7 rfl rfl)
theorem dX2_lookSinger_32 : decode cX2_lookSinger 32 = .ok (.iaload, 1) := op46 (bA_at bd03_dec_X2_0_34 8 rfl rfl)
theorem dX2_lookSinger_33 : decode cX2_lookSinger 33 = .ok (.goto 9, 3) := op167 (bA_at bd03_dec_X2_0_34 9 rfl rfl) (by decide +kernel)
theorem dX2_lookSinger_36 : decode cX2_lookSinger 36 = .ok (.aload_n 0, 1) := op42 (bA_at bd03_dec_X2_0_34 10 rfl rfl)
theorem dX2_lookSinger_37 : decode cX2_lookSinger 37 = .ok (.getfield 40, 3) := op180 (bA_at bd03_dec_X2_0_34 11 rfl rfl) rfl
theorem bd03_dec_X2_0_35 : ([(0, [28]), (1, [46]), (2, [172])] : List (Nat × List UInt8)).all (fun x => prB x.2 ((cX2_lookSinger.data.toList.drop 40).drop x.1)) = true := by decide +kernel
theorem dX2_lookSinger_40 : decode cX2_lookSinger 40 = .ok (.iload_n 2, 1) := op28 (bA_at bd03_dec_X2_0_35 0 rfl rfl)
theorem dX2_lookSinger_41 : decode cX2_lookSinger 41 = .ok (.iaload, 1) := op46 (bA_at bd03_dec_X2_0_35 1 rfl rfl)
theorem dX2_lookSinger_42 : decode cX2_lookSinger 42 = .ok (.ireturn, 1) := op172 (bA_at bd03_dec_X2_0_35 2 rfl rfl)
end
