theorem bd03_dec_X8_0_0 : ([(0, [3]), (1, [54, 4]), (3, [21, 4]), (5, [27]), (6, [163, 0, 56]), (9, [42]), (10, [180, 0, 15]), (13, [3]), (14, [42]), (15, [180, 0, 9]), (18, [3]), (19, [28]), (20, [4]), (21, [96]), (22, [184, 0, 18]), (25, [3]), (26, [54, 5]), (28, [21, 5]), (30, [28]), (31, [163, 0, 25]), (34, [42]), (35, [180, 0, 15]), (38, [21, 5]), (40, [42]), (41, [21, 4]), (43, [21, 5]), (45, [29]), (46, [182, 0, 24]), (49, [79]), (50, [132, 5, 1]), (53, [167, 255, 231]), (56, [132, 4, 1]), (59, [167, 255, 200]), (62, [177])] : List (Nat × List UInt8)).all (fun x => prB x.2 ((cX8_lay.data.toList.drop 0).drop x.1)) = true := by decide +kernel
theorem dX8_lay_0 : decode cX8_lay 0 = .ok (.iconst 0, 1) := op3 (bA_at bd03_dec_X8_0_0 0 rfl rfl)
theorem dX8_lay_1 : decode cX8_lay 1 = .ok (.istore 4, 2) := op54 (bA_at bd03_dec_X8_0_0 1 rfl rfl) rfl
theorem dX8_lay_3 : decode cX8_lay 3 = .ok (.iload 4, 2) := op21 (bA_at bd03_dec_X8_0_0 2 rfl rfl) rfl
theorem dX8_lay_5 : decode cX8_lay 5 = .ok (.iload_n 1, 1) := op27 (bA_at bd03_dec_X8_0_0 3 rfl rfl)
theorem dX8_lay_6 : decode cX8_lay 6 = .ok (.if_icmp .gt 56, 3) := op163 (bA_at bd03_dec_X8_0_0 4 rfl rfl) (by decide +kernel)
theorem dX8_lay_9 : decode cX8_lay 9 = .ok (.aload_n 0, 1) := op42 (bA_at bd03_dec_X8_0_0 5 rfl rfl)
theorem dX8_lay_10 : decode cX8_lay 10 = .ok (.getfield 15, 3) := op180 (bA_at bd03_dec_X8_0_0 6 rfl rfl) rfl
theorem dX8_lay_13 : decode cX8_lay 13 = .ok (.iconst 0, 1) := op3 (bA_at bd03_dec_X8_0_0 7 rfl rfl)
theorem dX8_lay_14 : decode cX8_lay 14 = .ok (.aload_n 0, 1) := op42 (bA_at bd03_dec_X8_0_0 8 rfl rfl)
theorem dX8_lay_15 : decode cX8_lay 15 = .ok (.getfield 9, 3) := op180 (bA_at bd03_dec_X8_0_0 9 rfl rfl) rfl
theorem dX8_lay_18 : decode cX8_lay 18 = .ok (.iconst 0, 1) := op3 (bA_at bd03_dec_X8_0_0 10 rfl rfl)
theorem dX8_lay_19 : decode cX8_lay 19 = .ok (.iload_n 2, 1) := op28 (bA_at bd03_dec_X8_0_0 11 rfl rfl)
theorem dX8_lay_20 : decode cX8_lay 20 = .ok (.iconst 1, 1) := op4 (bA_at bd03_dec_X8_0_0 12 rfl rfl)
theorem dX8_lay_21 : decode cX8_lay 21 = .ok (.iadd, 1) := op96 (bA_at bd03_dec_X8_0_0 13 rfl rfl)
theorem dX8_lay_22 : decode cX8_lay 22 = .ok (.invokestatic 18, 3) := op184 (bA_at bd03_dec_X8_0_0 14 rfl rfl) rfl
theorem dX8_lay_25 : decode cX8_lay 25 = .ok (.iconst 0, 1) := op3 (bA_at bd03_dec_X8_0_0 15 rfl rfl)
theorem dX8_lay_26 : decode cX8_lay 26 = .ok (.istore 5, 2) := op54 (bA_at bd03_dec_X8_0_0 16 rfl rfl) rfl
theorem dX8_lay_28 : decode cX8_lay 28 = .ok (.iload 5, 2) := op21 (bA_at bd03_dec_X8_0_0 17 rfl rfl) rfl
theorem dX8_lay_30 : decode cX8_lay 30 = .ok (.iload_n 2, 1) := op28 (bA_at bd03_dec_X8_0_0 18 rfl rfl)
theorem dX8_lay_31 : decode cX8_lay 31 = .ok (.if_icmp .gt 25, 3) := op163 (bA_at bd03_dec_X8_0_0 19 rfl rfl) (by decide +kernel)
theorem dX8_lay_34 : decode cX8_lay 34 = .ok (.aload_n 0, 1) := op42 (bA_at bd03_dec_X8_0_0 20 rfl rfl)
theorem dX8_lay_35 : decode cX8_lay 35 = .ok (.getfield 15, 3) := op180 (bA_at bd03_dec_X8_0_0 21 rfl rfl) rfl
theorem dX8_lay_38 : decode cX8_lay 38 = .ok (.iload 5, 2) := op21 (bA_at bd03_dec_X8_0_0 22 rfl rfl) rfl
theorem dX8_lay_40 : decode cX8_lay 40 = .ok (.aload_n 0, 1) := op42 (bA_at bd03_dec_X8_0_0 23 rfl rfl)
theorem dX8_lay_41 : decode cX8_lay 41 = .ok (.iload 4, 2) := op21 (bA_at bd03_dec_X8_0_0 24 rfl rfl) rfl
theorem dX8_lay_43 : decode cX8_lay 43 = .ok (.iload 5, 2) := op21 (bA_at bd03_dec_X8_0_0 25 rfl rfl) rfl
theorem dX8_lay_45 : decode cX8_lay 45 = .ok (.iload_n 3, 1) := op29 (bA_at bd03_dec_X8_0_0 26 rfl rfl)
theorem dX8_lay_46 : decode cX8_lay 46 = .ok (.invokevirtual 24, 3) := op182 (bA_at bd03_dec_X8_0_0 27 rfl rfl) rfl
theorem dX8_lay_49 : decode cX8_lay 49 = .ok (.iastore, 1) := op79 (bA_at bd03_dec_X8_0_0 28 rfl rfl)
theorem dX8_lay_50 : decode cX8_lay 50 = .ok (.iinc 5 1, 3) := op132 (bA_at bd03_dec_X8_0_0 29 rfl rfl) rfl (by decide +kernel)
theorem dX8_lay_53 : decode cX8_lay 53 = .ok (.goto (-25), 3) := op167 (bA_at bd03_dec_X8_0_0 30 rfl rfl) (by decide +kernel)
theorem dX8_lay_56 : decode cX8_lay 56 = .ok (.iinc 4 1, 3) := op132 (bA_at bd03_dec_X8_0_0 31 rfl rfl) rfl (by decide +kernel)
theorem dX8_lay_59 : decode cX8_lay 59 = .ok (.goto (-56), 3) := op167 (bA_at bd03_dec_X8_0_0 32 rfl rfl) (by decide +kernel)
theorem dX8_lay_62 : decode cX8_lay 62 = .ok (.return_, 1) := op177 (bA_at bd03_dec_X8_0_0 33 rfl rfl)
theorem bd03_dec_X8_0_1 : ([(0, [28]), (1, [5]), (2, [161, 0, 17]), (5, [42]), (6, [180, 0, 15]), (9, [28]), (10, [5]), (11, [100]), (12, [46]), (13, [2]), (14, [160, 0, 5]), (17, [5]), (18, [172]), (19, [4]), (20, [54, 4]), (22, [27]), (23, [158, 0, 40]), (26, [21, 4]), (28, [29]), (29, [163, 0, 34]), (32, [21, 4]), (34, [28]), (35, [163, 0, 28]), (38, [42]), (39, [180, 0, 9]), (42, [28]), (43, [21, 4]), (45, [100]), (46, [46]), (47, [2]), (48, [160, 0, 9]), (51, [16, 10]), (53, [21, 4]), (55, [96]), (56, [172]), (57, [132, 4, 1]), (60, [167, 255, 218]), (63, [2]), (64, [172])] : List (Nat × List UInt8)).all (fun x => prB x.2 ((cX8_firstTake.data.toList.drop 0).drop x.1)) = true := by decide +kernel
theorem dX8_firstTake_0 : decode cX8_firstTake 0 = .ok (.iload_n 2, 1) := op28 (bA_at bd03_dec_X8_0_1 0 rfl rfl)
theorem dX8_firstTake_1 : decode cX8_firstTake 1 = .ok (.iconst 2, 1) := op5 (bA_at bd03_dec_X8_0_1 1 rfl rfl)
theorem dX8_firstTake_2 : decode cX8_firstTake 2 = .ok (.if_icmp .lt 17, 3) := op161 (bA_at bd03_dec_X8_0_1 2 rfl rfl) (by decide +kernel)
theorem dX8_firstTake_5 : decode cX8_firstTake 5 = .ok (.aload_n 0, 1) := op42 (bA_at bd03_dec_X8_0_1 3 rfl rfl)
theorem dX8_firstTake_6 : decode cX8_firstTake 6 = .ok (.getfield 15, 3) := op180 (bA_at bd03_dec_X8_0_1 4 rfl rfl) rfl
theorem dX8_firstTake_9 : decode cX8_firstTake 9 = .ok (.iload_n 2, 1) := op28 (bA_at bd03_dec_X8_0_1 5 rfl rfl)
theorem dX8_firstTake_10 : decode cX8_firstTake 10 = .ok (.iconst 2, 1) := op5 (bA_at bd03_dec_X8_0_1 6 rfl rfl)
theorem dX8_firstTake_11 : decode cX8_firstTake 11 = .ok (.isub, 1) := op100 (bA_at bd03_dec_X8_0_1 7 rfl rfl)
theorem dX8_firstTake_12 : decode cX8_firstTake 12 = .ok (.iaload, 1) := op46 (bA_at bd03_dec_X8_0_1 8 rfl rfl)
theorem dX8_firstTake_13 : decode cX8_firstTake 13 = .ok (.iconst (-1), 1) := op2 (bA_at bd03_dec_X8_0_1 9 rfl rfl)
theorem dX8_firstTake_14 : decode cX8_firstTake 14 = .ok (.if_icmp .ne 5, 3) := op160 (bA_at bd03_dec_X8_0_1 10 rfl rfl) (by decide +kernel)
theorem dX8_firstTake_17 : decode cX8_firstTake 17 = .ok (.iconst 2, 1) := op5 (bA_at bd03_dec_X8_0_1 11 rfl rfl)
theorem dX8_firstTake_18 : decode cX8_firstTake 18 = .ok (.ireturn, 1) := op172 (bA_at bd03_dec_X8_0_1 12 rfl rfl)
theorem dX8_firstTake_19 : decode cX8_firstTake 19 = .ok (.iconst 1, 1) := op4 (bA_at bd03_dec_X8_0_1 13 rfl rfl)
theorem dX8_firstTake_20 : decode cX8_firstTake 20 = .ok (.istore 4, 2) := op54 (bA_at bd03_dec_X8_0_1 14 rfl rfl) rfl
theorem dX8_firstTake_22 : decode cX8_firstTake 22 = .ok (.iload_n 1, 1) := op27 (bA_at bd03_dec_X8_0_1 15 rfl rfl)
theorem dX8_firstTake_23 : decode cX8_firstTake 23 = .ok (.ifCond .le 40, 3) := op158 (bA_at bd03_dec_X8_0_1 16 rfl rfl) (by decide +kernel)
theorem dX8_firstTake_26 : decode cX8_firstTake 26 = .ok (.iload 4, 2) := op21 (bA_at bd03_dec_X8_0_1 17 rfl rfl) rfl
theorem dX8_firstTake_28 : decode cX8_firstTake 28 = .ok (.iload_n 3, 1) := op29 (bA_at bd03_dec_X8_0_1 18 rfl rfl)
theorem dX8_firstTake_29 : decode cX8_firstTake 29 = .ok (.if_icmp .gt 34, 3) := op163 (bA_at bd03_dec_X8_0_1 19 rfl rfl) (by decide +kernel)
theorem dX8_firstTake_32 : decode cX8_firstTake 32 = .ok (.iload 4, 2) := op21 (bA_at bd03_dec_X8_0_1 20 rfl rfl) rfl
theorem dX8_firstTake_34 : decode cX8_firstTake 34 = .ok (.iload_n 2, 1) := op28 (bA_at bd03_dec_X8_0_1 21 rfl rfl)
theorem dX8_firstTake_35 : decode cX8_firstTake 35 = .ok (.if_icmp .gt 28, 3) := op163 (bA_at bd03_dec_X8_0_1 22 rfl rfl) (by decide +kernel)
theorem dX8_firstTake_38 : decode cX8_firstTake 38 = .ok (.aload_n 0, 1) := op42 (bA_at bd03_dec_X8_0_1 23 rfl rfl)
theorem dX8_firstTake_39 : decode cX8_firstTake 39 = .ok (.getfield 9, 3) := op180 (bA_at bd03_dec_X8_0_1 24 rfl rfl) rfl
theorem dX8_firstTake_42 : decode cX8_firstTake 42 = .ok (.iload_n 2, 1) := op28 (bA_at bd03_dec_X8_0_1 25 rfl rfl)
theorem dX8_firstTake_43 : decode cX8_firstTake 43 = .ok (.iload 4, 2) := op21 (bA_at bd03_dec_X8_0_1 26 rfl rfl) rfl
theorem dX8_firstTake_45 : decode cX8_firstTake 45 = .ok (.isub, 1) := op100 (bA_at bd03_dec_X8_0_1 27 rfl rfl)
theorem dX8_firstTake_46 : decode cX8_firstTake 46 = .ok (.iaload, 1) := op46 (bA_at bd03_dec_X8_0_1 28 rfl rfl)
theorem dX8_firstTake_47 : decode cX8_firstTake 47 = .ok (.iconst (-1), 1) := op2 (bA_at bd03_dec_X8_0_1 29 rfl rfl)
theorem dX8_firstTake_48 : decode cX8_firstTake 48 = .ok (.if_icmp .ne 9, 3) := op160 (bA_at bd03_dec_X8_0_1 30 rfl rfl) (by decide +kernel)
theorem dX8_firstTake_51 : decode cX8_firstTake 51 = .ok (.bipush 10, 2) := op16 (bA_at bd03_dec_X8_0_1 31 rfl rfl) (by decide +kernel)
theorem dX8_firstTake_53 : decode cX8_firstTake 53 = .ok (.iload 4, 2) := op21 (bA_at bd03_dec_X8_0_1 32 rfl rfl) rfl
theorem dX8_firstTake_55 : decode cX8_firstTake 55 = .ok (.iadd, 1) := op96 (bA_at bd03_dec_X8_0_1 33 rfl rfl)
theorem dX8_firstTake_56 : decode cX8_firstTake 56 = .ok (.ireturn, 1) := op172 (bA_at bd03_dec_X8_0_1 34 rfl rfl)
theorem dX8_firstTake_57 : decode cX8_firstTake 57 = .ok (.iinc 4 1, 3) := op132 (bA_at bd03_dec_X8_0_1 35 rfl rfl) rfl (by decide +kernel)
theorem dX8_firstTake_60 : decode cX8_firstTake 60 = .ok (.goto (-38), 3) := op167 (bA_at bd03_dec_X8_0_1 36 rfl rfl) (by decide +kernel)
theorem dX8_firstTake_63 : decode cX8_firstTake 63 = .ok (.iconst (-1), 1) := op2 (bA_at bd03_dec_X8_0_1 37 rfl rfl)
theorem dX8_firstTake_64 : decode cX8_firstTake 64 = .ok (.ireturn, 1) := op172 (bA_at bd03_dec_X8_0_1 38 rfl rfl)

