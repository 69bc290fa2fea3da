theorem bd09_89_dec_0 : ([(0, [42]), (1, [180, 0, 18]), (4, [16, 9]), (6, [162, 0, 33]), (9, [42]), (10, [180, 0, 9]), (13, [42]), (14, [180, 0, 18]), (17, [27]), (18, [79]), (19, [42]), (20, [180, 0, 15])] : List (Nat × List UInt8)).all (fun x => prB x.2 ((cX0_tell.data.toList.drop 0).drop x.1)) = true := by decide +kernel
theorem dX0_tell_0 : decode cX0_tell 0 = .ok (.aload_n 0, 1) := op42 (bA_at bd09_89_dec_0 0 rfl rfl)
theorem dX0_tell_1 : decode cX0_tell 1 = .ok (.getfield 18, 3) := op180 (bA_at bd09_89_dec_0 1 rfl rfl) rfl
theorem dX0_tell_4 : decode cX0_tell 4 = .ok (.bipush 9, 2) := op16 (bA_at bd09_89_dec_0 2 rfl rfl) (by decide +kernel)
theorem dX0_tell_6 : decode cX0_tell 6 = .ok (.if_icmp .ge 33, 3) := op162 (bA_at bd09_89_dec_0 3 rfl rfl) (by decide +kernel)
theorem dX0_tell_9 : decode cX0_tell 9 = .ok (.aload_n 0, 1) := op42 (bA_at bd09_89_dec_0 4 rfl rfl)
theorem dX0_tell_10 : decode cX0_tell 10 = .ok (.getfield 9, 3) := op180 (bA_at bd09_89_dec_0 5 rfl rfl) rfl
theorem dX0_tell_13 : decode cX0_tell 13 = .ok (.aload_n 0, 1) := op42 (bA_at bd09_89_dec_0 6 rfl rfl)
theorem dX0_tell_14 : decode cX0_tell 14 = .ok (.getfield 18, 3) := op180 (bA_at bd09_89_dec_0 7 rfl rfl) rfl
theorem dX0_tell_17 : decode cX0_tell 17 = .ok (.iload_n 1, 1) := op27 (bA_at bd09_89_dec_0 8 rfl rfl)
theorem dX0_tell_18 : decode cX0_tell 18 = .ok (.iastore, 1) := op79 (bA_at bd09_89_dec_0 9 rfl rfl)
theorem dX0_tell_19 : decode cX0_tell 19 = .ok (.aload_n 0, 1) := op42 (bA_at bd09_89_dec_0 10 rfl rfl)
theorem dX0_tell_20 : decode cX0_tell 20 = .ok (.getfield 15, 3) := op180 (bA_at bd09_89_dec_0 11 rfl rfl) rfl
theorem bd09_89_dec_1 : ([(0, [42]), (1, [180, 0, 18]), (4, [28]), (5, [79]), (6, [42]), (7, [89]), (8, [180, 0, 18]), (11, [4]), (12, [96]), (13, [181, 0, 18]), (16, [177])] : List (Nat × List UInt8)).all (fun x => prB x.2 ((cX0_tell.data.toList.drop 23).drop x.1)) = true := by decide +kernel
theorem dX0_tell_23 : decode cX0_tell 23 = .ok (.aload_n 0, 1) := op42 (bA_at bd09_89_dec_1 0 rfl rfl)
theorem dX0_tell_24 : decode cX0_tell 24 = .ok (.getfield 18, 3) := op180 (bA_at bd09_89_dec_1 1 rfl rfl) rfl
theorem dX0_tell_27 : decode cX0_tell 27 = .ok (.iload_n 2, 1) := op28 (bA_at bd09_89_dec_1 2 rfl rfl)
theorem dX0_tell_28 : decode cX0_tell 28 = .ok (.iastore, 1) := op79 (bA_at bd09_89_dec_1 3 rfl rfl)
theorem dX0_tell_29 : decode cX0_tell 29 = .ok (.aload_n 0, 1) := op42 (bA_at bd09_89_dec_1 4 rfl rfl)
theorem dX0_tell_30 : decode cX0_tell 30 = .ok (.dup, 1) := op89 (bA_at bd09_89_dec_1 5 rfl rfl)
theorem dX0_tell_31 : decode cX0_tell 31 = .ok (.getfield 18, 3) := op180 (bA_at bd09_89_dec_1 6 rfl rfl) rfl
theorem dX0_tell_34 : decode cX0_tell 34 = .ok (.iconst 1, 1) := op4 (bA_at bd09_89_dec_1 7 rfl rfl)
theorem dX0_tell_35 : decode cX0_tell 35 = .ok (.iadd, 1) := op96 (bA_at bd09_89_dec_1 8 rfl rfl)
theorem dX0_tell_36 : decode cX0_tell 36 = .ok (.putfield 18, 3) := op181 (bA_at bd09_89_dec_1 9 rfl rfl) rfl
theorem dX0_tell_39 : decode cX0_tell 39 = .ok (.return_, 1) := op177 (bA_at bd09_89_dec_1 10 rfl rfl)
theorem bd09_89_dec_2 : ([(0, [42]), (1, [180, 0, 9]), (4, [27]), (5, [46]), (6, [42]), (7, [180, 0, 9]), (10, [28]), (11, [46]), (12, [160, 0, 9]), (15, [17, 3, 232]), (18, [167, 0, 20]), (21, [3])] : List (Nat × List UInt8)).all (fun x => prB x.2 ((cX0_stepBetween.data.toList.drop 0).drop x.1)) = true := by decide +kernel
theorem dX0_stepBetween_0 : decode cX0_stepBetween 0 = .ok (.aload_n 0, 1) := op42 (bA_at bd09_89_dec_2 0 rfl rfl)
theorem dX0_stepBetween_1 : decode cX0_stepBetween 1 = .ok (.getfield 9, 3) := op180 (bA_at bd09_89_dec_2 1 rfl rfl) rfl
theorem dX0_stepBetween_4 : decode cX0_stepBetween 4 = .ok (.iload_n 1, 1) := op27 (bA_at bd09_89_dec_2 2 rfl rfl)
theorem dX0_stepBetween_5 : decode cX0_stepBetween 5 = .ok (.iaload, 1) := op46 (bA_at bd09_89_dec_2 3 rfl rfl)
theorem dX0_stepBetween_6 : decode cX0_stepBetween 6 = .ok (.aload_n 0, 1) := op42 (bA_at bd09_89_dec_2 4 rfl rfl)
theorem dX0_stepBetween_7 : decode cX0_stepBetween 7 = .ok (.getfield 9, 3) := op180 (bA_at bd09_89_dec_2 5 rfl rfl) rfl
theorem dX0_stepBetween_10 : decode cX0_stepBetween 10 = .ok (.iload_n 2, 1) := op28 (bA_at bd09_89_dec_2 6 rfl rfl)
theorem dX0_stepBetween_11 : decode cX0_stepBetween 11 = .ok (.iaload, 1) := op46 (bA_at bd09_89_dec_2 7 rfl rfl)
theorem dX0_stepBetween_12 : decode cX0_stepBetween 12 = .ok (.if_icmp .ne 9, 3) := op160 (bA_at bd09_89_dec_2 8 rfl rfl) (by decide +kernel)
theorem dX0_stepBetween_15 : decode cX0_stepBetween 15 = .ok (.sipush 1000, 3) := op17 (bA_at bd09_89_dec_2 9 rfl rfl) (by decide +kernel)
theorem dX0_stepBetween_18 : decode cX0_stepBetween 18 = .ok (.goto 20, 3) := op167 (bA_at bd09_89_dec_2 10 rfl rfl) (by decide +kernel)
theorem dX0_stepBetween_21 : decode cX0_stepBetween 21 = .ok (.iconst 0, 1) := op3 (bA_at bd09_89_dec_2 11 rfl rfl)
theorem bd09_89_dec_3 : ([(0, [42]), (1, [180, 0, 15]), (4, [28]), (5, [46]), (6, [42]), (7, [180, 0, 15]), (10, [27]), (11, [46]), (12, [100]), (13, [184, 0, 31]), (16, [172])] : List (Nat × List UInt8)).all (fun x => prB x.2 ((cX0_stepBetween.data.toList.drop 22).drop x.1)) = true := by decide +kernel
theorem dX0_stepBetween_22 : decode cX0_stepBetween 22 = .ok (.aload_n 0, 1) := op42 (bA_at bd09_89_dec_3 0 rfl rfl)
theorem dX0_stepBetween_23 : decode cX0_stepBetween 23 = .ok (.getfield 15, 3) := op180 (bA_at bd09_89_dec_3 1 rfl rfl) rfl
theorem dX0_stepBetween_26 : decode cX0_stepBetween 26 = .ok (.iload_n 2, 1) := op28 (bA_at bd09_89_dec_3 2 rfl rfl)
theorem dX0_stepBetween_27 : decode cX0_stepBetween 27 = .ok (.iaload, 1) := op46 (bA_at bd09_89_dec_3 3 rfl rfl)
theorem dX0_stepBetween_28 : decode cX0_stepBetween 28 = .ok (.aload_n 0, 1) := op42 (bA_at bd09_89_dec_3 4 rfl rfl)
theorem dX0_stepBetween_29 : decode cX0_stepBetween 29 = .ok (.getfield 15, 3) := op180 (bA_at bd09_89_dec_3 5 rfl rfl) rfl
theorem dX0_stepBetween_32 : decode cX0_stepBetween 32 = .ok (.iload_n 1, 1) := op27 (bA_at bd09_89_dec_3 6 rfl rfl)
theorem dX0_stepBetween_33 : decode cX0_stepBetween 33 = .ok (.iaload, 1) := op46 (bA_at bd09_89_dec_3 7 rfl rfl)
theorem dX0_stepBetween_34 : decode cX0_stepBetween 34 = .ok (.isub, 1) := op100 (bA_at bd09_89_dec_3 8 rfl rfl)
theorem dX0_stepBetween_35 : decode cX0_stepBetween 35 = .ok (.invokestatic 31, 3) := op184 (bA_at bd09_89_dec_3 9 rfl rfl) rfl
theorem dX0_stepBetween_38 : decode cX0_stepBetween 38 = .ok (.ireturn, 1) := op172 (bA_at bd09_89_dec_3 10 rfl rfl)
theorem bd09_89_dec_4 : ([(0, [42]), (1, [180, 0, 21]), (4, [16, 40]), (6, [162, 0, 43]), (9, [42]), (10, [180, 0, 9]), (13, [42]), (14, [180, 0, 21]), (17, [27]), (18, [79]), (19, [42]), (20, [180, 0, 15])] : List (Nat × List UInt8)).all (fun x => prB x.2 ((cX1_tell.data.toList.drop 0).drop x.1)) = true := by decide +kernel
theorem dX1_tell_0 : decode cX1_tell 0 = .ok (.aload_n 0, 1) := op42 (bA_at bd09_89_dec_4 0 rfl rfl)
theorem dX1_tell_1 : decode cX1_tell 1 = .ok (.getfield 21, 3) := op180 (bA_at bd09_89_dec_4 1 rfl rfl) rfl
theorem dX1_tell_4 : decode cX1_tell 4 = .ok (.bipush 40, 2) := op16 (bA_at bd09_89_dec_4 2 rfl rfl) (by decide +kernel)
theorem dX1_tell_6 : decode cX1_tell 6 = .ok (.if_icmp .ge 43, 3) := op162 (bA_at bd09_89_dec_4 3 rfl rfl) (by decide +kernel)
theorem dX1_tell_9 : decode cX1_tell 9 = .ok (.aload_n 0, 1) := op42 (bA_at bd09_89_dec_4 4 rfl rfl)
theorem dX1_tell_10 : decode cX1_tell 10 = .ok (.getfield 9, 3) := op180 (bA_at bd09_89_dec_4 5 rfl rfl) rfl
theorem dX1_tell_13 : decode cX1_tell 13 = .ok (.aload_n 0, 1) := op42 (bA_at bd09_89_dec_4 6 rfl rfl)
theorem dX1_tell_14 : decode cX1_tell 14 = .ok (.getfield 21, 3) := op180 (bA_at bd09_89_dec_4 7 rfl rfl) rfl
theorem dX1_tell_17 : decode cX1_tell 17 = .ok (.iload_n 1, 1) := op27 (bA_at bd09_89_dec_4 8 rfl rfl)
theorem dX1_tell_18 : decode cX1_tell 18 = .ok (.iastore, 1) := op79 (bA_at bd09_89_dec_4 9 rfl rfl)
theorem dX1_tell_19 : decode cX1_tell 19 = .ok (.aload_n 0, 1) := op42 (bA_at bd09_89_dec_4 10 rfl rfl)
theorem dX1_tell_20 : decode cX1_tell 20 = .ok (.getfield 15, 3) := op180 (bA_at bd09_89_dec_4 11 rfl rfl) rfl
theorem bd09_89_dec_5 : ([(0, [42]), (1, [180, 0, 21]), (4, [28]), (5, [79]), (6, [42]), (7, [180, 0, 18]), (10, [42]), (11, [180, 0, 21]), (14, [29]), (15, [79]), (16, [42]), (17, [89])] : List (Nat × List UInt8)).all (fun x => prB x.2 ((cX1_tell.data.toList.drop 23).drop x.1)) = true := by decide +kernel
theorem dX1_tell_23 : decode cX1_tell 23 = .ok (.aload_n 0, 1) := op42 (bA_at bd09_89_dec_5 0 rfl rfl)
theorem dX1_tell_24 : decode cX1_tell 24 = .ok (.getfield 21, 3) := op180 (bA_at bd09_89_dec_5 1 rfl rfl) rfl
theorem dX1_tell_27 : decode cX1_tell 27 = .ok (.iload_n 2, 1) := op28 (bA_at bd09_89_dec_5 2 rfl rfl)
theorem dX1_tell_28 : decode cX1_tell 28 = .ok (.iastore, 1) := op79 (bA_at bd09_89_dec_5 3 rfl rfl)
theorem dX1_tell_29 : decode cX1_tell 29 = .ok (.aload_n 0, 1) := op42 (bA_at bd09_89_dec_5 4 rfl rfl)
theorem dX1_tell_30 : decode cX1_tell 30 = .ok (.getfield 18, 3) := op180 (bA_at bd09_89_dec_5 5 rfl rfl) rfl
theorem dX1_tell_33 : decode cX1_tell 33 = .ok (.aload_n 0, 1) := op42 (bA_at bd09_89_dec_5 6 rfl rfl)
theorem dX1_tell_34 : decode cX1_tell 34 = .ok (.getfield 21, 3) := op180 (bA_at bd09_89_dec_5 7 rfl rfl) rfl
theorem dX1_tell_37 : decode cX1_tell 37 = .ok (.iload_n 3, 1) := op29 (bA_at bd09_89_dec_5 8 rfl rfl)
theorem dX1_tell_38 : decode cX1_tell 38 = .ok (.iastore, 1) := op79 (bA_at bd09_89_dec_5 9 rfl rfl)
theorem dX1_tell_39 : decode cX1_tell 39 = .ok (.aload_n 0, 1) := op42 (bA_at bd09_89_dec_5 10 rfl rfl)
theorem dX1_tell_40 : decode cX1_tell 40 = .ok (.dup, 1) := op89 (bA_at bd09_89_dec_5 11 rfl rfl)
theorem bd09_89_dec_6 : ([(0, [180, 0, 21]), (3, [4]), (4, [96]), (5, [181, 0, 21]), (8, [177])] : List (Nat × List UInt8)).all (fun x => prB x.2 ((cX1_tell.data.toList.drop 41).drop x.1)) = true := by decide +kernel
theorem dX1_tell_41 : decode cX1_tell 41 = .ok (.getfield 21, 3) := op180 (bA_at bd09_89_dec_6 0 rfl rfl) rfl
theorem dX1_tell_44 : decode cX1_tell 44 = .ok (.iconst 1, 1) := op4 (bA_at bd09_89_dec_6 1 rfl rfl)
theorem dX1_tell_45 : decode cX1_tell 45 = .ok (.iadd, 1) := op96 (bA_at bd09_89_dec_6 2 rfl rfl)
theorem dX1_tell_46 : decode cX1_tell 46 = .ok (.putfield 21, 3) := op181 (bA_at bd09_89_dec_6 3 rfl rfl) rfl
theorem dX1_tell_49 : decode cX1_tell 49 = .ok (.return_, 1) := op177 (bA_at bd09_89_dec_6 4 rfl rfl)
theorem bd09_89_dec_7 : ([(0, [42]), (1, [3]), (2, [181, 0, 43]), (5, [42]), (6, [3]), (7, [181, 0, 46]), (10, [42]), (11, [3]), (12, [181, 0, 49]), (15, [42]), (16, [3]), (17, [181, 0, 52])] : List (Nat × List UInt8)).all (fun x => prB x.2 ((cX2_clear.data.toList.drop 0).drop x.1)) = true := by decide +kernel
theorem dX2_clear_0 : decode cX2_clear 0 = .ok (.aload_n 0, 1) := op42 (bA_at bd09_89_dec_7 0 rfl rfl)
theorem dX2_clear_1 : decode cX2_clear 1 = .ok (.iconst 0, 1) := op3 (bA_at bd09_89_dec_7 1 rfl rfl)
theorem dX2_clear_2 : decode cX2_clear 2 = .ok (.putfield 43, 3) := op181 (bA_at bd09_89_dec_7 2 rfl rfl) rfl
theorem dX2_clear_5 : decode cX2_clear 5 = .ok (.aload_n 0, 1) := op42 (bA_at bd09_89_dec_7 3 rfl rfl)
theorem dX2_clear_6 : decode cX2_clear 6 = .ok (.iconst 0, 1) := op3 (bA_at bd09_89_dec_7 4 rfl rfl)
theorem dX2_clear_7 : decode cX2_clear 7 = .ok (.putfield 46, 3) := op181 (bA_at bd09_89_dec_7 5 rfl rfl) rfl
theorem dX2_clear_10 : decode cX2_clear 10 = .ok (.aload_n 0, 1) := op42 (bA_at bd09_89_dec_7 6 rfl rfl)
theorem dX2_clear_11 : decode cX2_clear 11 = .ok (.iconst 0, 1) := op3 (bA_at bd09_89_dec_7 7 rfl rfl)
theorem dX2_clear_12 : decode cX2_clear 12 = .ok (.putfield 49, 3) := op181 (bA_at bd09_89_dec_7 8 rfl rfl) rfl
theorem dX2_clear_15 : decode cX2_clear 15 = .ok (.aload_n 0, 1) := op42 (bA_at bd09_89_dec_7 9 rfl rfl)
theorem dX2_clear_16 : decode cX2_clear 16 = .ok (.iconst 0, 1) := op3 (bA_at bd09_89_dec_7 10 rfl rfl)
theorem dX2_clear_17 : decode cX2_clear 17 = .ok (.putfield 52, 3) := op181 (bA_at bd09_89_dec_7 11 rfl rfl) rfl
theorem bd09_89_dec_8 : ([(0, [42]), (1, [3]), (2, [181, 0, 55]), (5, [42]), (6, [5]), (7, [181, 0, 9]), (10, [42]), (11, [8]), (12, [181, 0, 15]), (15, [42]), (16, [180, 0, 22]), (19, [3])] : List (Nat × List UInt8)).all (fun x => prB x.2 ((cX2_clear.data.toList.drop 20).drop x.1)) = true := by decide +kernel
theorem dX2_clear_20 : decode cX2_clear 20 = .ok (.aload_n 0, 1) := op42 (bA_at bd09_89_dec_8 0 rfl rfl)
theorem dX2_clear_21 : decode cX2_clear 21 = .ok (.iconst 0, 1) := op3 (bA_at bd09_89_dec_8 1 rfl rfl)
theorem dX2_clear_22 : decode cX2_clear 22 = .ok (.putfield 55, 3) := op181 (bA_at bd09_89_dec_8 2 rfl rfl) rfl
theorem dX2_clear_25 : decode cX2_clear 25 = .ok (.aload_n 0, 1) := op42 (bA_at bd09_89_dec_8 3 rfl rfl)
theorem dX2_clear_26 : decode cX2_clear 26 = .ok (.iconst 2, 1) := op5 (bA_at bd09_89_dec_8 4 rfl rfl)
theorem dX2_clear_27 : decode cX2_clear 27 = .ok (.putfield 9, 3) := op181 (bA_at bd09_89_dec_8 5 rfl rfl) rfl
theorem dX2_clear_30 : decode cX2_clear 30 = .ok (.aload_n 0, 1) := op42 (bA_at bd09_89_dec_8 6 rfl rfl)
theorem dX2_clear_31 : decode cX2_clear 31 = .ok (.iconst 5, 1) := op8 (bA_at bd09_89_dec_8 7 rfl rfl)
theorem dX2_clear_32 : decode cX2_clear 32 = .ok (.putfield 15, 3) := op181 (bA_at bd09_89_dec_8 8 rfl rfl) rfl
theorem dX2_clear_35 : decode cX2_clear 35 = .ok (.aload_n 0, 1) := op42 (bA_at bd09_89_dec_8 9 rfl rfl)
theorem dX2_clear_36 : decode cX2_clear 36 = .ok (.getfield 22, 3) := op180 (bA_at bd09_89_dec_8 10 rfl rfl) rfl
theorem dX2_clear_39 : decode cX2_clear 39 = .ok (.iconst 0, 1) := op3 (bA_at bd09_89_dec_8 11 rfl rfl)
theorem bd09_89_dec_9 : ([(0, [184, 0, 58]), (3, [42]), (4, [180, 0, 25]), (7, [3]), (8, [184, 0, 58]), (11, [42]), (12, [180, 0, 40]), (15, [3]), (16, [184, 0, 58]), (19, [177])] : List (Nat × List UInt8)).all (fun x => prB x.2 ((cX2_clear.data.toList.drop 40).drop x.1)) = true := by decide +kernel
theorem dX2_clear_40 : decode cX2_clear 40 = .ok (.invokestatic 58, 3) := op184 (bA_at bd09_89_dec_9 0 rfl rfl) rfl
theorem dX2_clear_43 : decode cX2_clear 43 = .ok (.aload_n 0, 1) := op42 (bA_at bd09_89_dec_9 1 rfl rfl)
theorem dX2_clear_44 : decode cX2_clear 44 = .ok (.getfield 25, 3) := op180 (bA_at bd09_89_dec_9 2 rfl rfl) rfl
theorem dX2_clear_47 : decode cX2_clear 47 = .ok (.iconst 0, 1) := op3 (bA_at bd09_89_dec_9 3 rfl rfl)
theorem dX2_clear_48 : decode cX2_clear 48 = .ok (.invokestatic 58, 3) := op184 (bA_at bd09_89_dec_9 4 rfl rfl) rfl
theorem dX2_clear_51 : decode cX2_clear 51 = .ok (.aload_n 0, 1) := op42 (bA_at bd09_89_dec_9 5 rfl rfl)
theorem dX2_clear_52 : decode cX2_clear 52 = .ok (.getfield 40, 3) := op180 (bA_at bd09_89_dec_9 6 rfl rfl) rfl
theorem dX2_clear_55 : decode cX2_clear 55 = .ok (.iconst 0, 1) := op3 (bA_at bd09_89_dec_9 7 rfl rfl)
theorem dX2_clear_56 : decode cX2_clear 56 = .ok (.invokestatic 58, 3) := op184 (bA_at bd09_89_dec_9 8 rfl rfl) rfl
theorem dX2_clear_59 : decode cX2_clear 59 = .ok (.return_, 1) := op177 (bA_at bd09_89_dec_9 9 rfl rfl)
theorem bd09_89_dec_10 : ([(0, [43]), (1, [3]), (2, [42]), (3, [180, 0, 47]), (6, [3]), (7, [28]), (8, [184, 0, 51]), (11, [42]), (12, [28]), (13, [181, 0, 57]), (16, [42]), (17, [3])] : List (Nat × List UInt8)).all (fun x => prB x.2 ((cX4_read.data.toList.drop 0).drop x.1)) = true := by decide +kernel
theorem dX4_read_0 : decode cX4_read 0 = .ok (.aload_n 1, 1) := op43 (bA_at bd09_89_dec_10 0 rfl rfl)
theorem dX4_read_1 : decode cX4_read 1 = .ok (.iconst 0, 1) := op3 (bA_at bd09_89_dec_10 1 rfl rfl)
theorem dX4_read_2 : decode cX4_read 2 = .ok (.aload_n 0, 1) := op42 (bA_at bd09_89_dec_10 2 rfl rfl)
theorem dX4_read_3 : decode cX4_read 3 = .ok (.getfield 47, 3) := op180 (bA_at bd09_89_dec_10 3 rfl rfl) rfl
theorem dX4_read_6 : decode cX4_read 6 = .ok (.iconst 0, 1) := op3 (bA_at bd09_89_dec_10 4 rfl rfl)
theorem dX4_read_7 : decode cX4_read 7 = .ok (.iload_n 2, 1) := op28 (bA_at bd09_89_dec_10 5 rfl rfl)
theorem dX4_read_8 : decode cX4_read 8 = .ok (.invokestatic 51, 3) := op184 (bA_at bd09_89_dec_10 6 rfl rfl) rfl
theorem dX4_read_11 : decode cX4_read 11 = .ok (.aload_n 0, 1) := op42 (bA_at bd09_89_dec_10 7 rfl rfl)
theorem dX4_read_12 : decode cX4_read 12 = .ok (.iload_n 2, 1) := op28 (bA_at bd09_89_dec_10 8 rfl rfl)
theorem dX4_read_13 : decode cX4_read 13 = .ok (.putfield 57, 3) := op181 (bA_at bd09_89_dec_10 9 rfl rfl) rfl
theorem dX4_read_16 : decode cX4_read 16 = .ok (.aload_n 0, 1) := op42 (bA_at bd09_89_dec_10 10 rfl rfl)
theorem dX4_read_17 : decode cX4_read 17 = .ok (.iconst 0, 1) := op3 (bA_at bd09_89_dec_10 11 rfl rfl)
theorem bd09_89_dec_11 : ([(0, [181, 0, 60]), (3, [42]), (4, [3]), (5, [181, 0, 63]), (8, [42]), (9, [2]), (10, [181, 0, 39]), (13, [42]), (14, [29]), (15, [182, 0, 66]), (18, [42]), (19, [182, 0, 70])] : List (Nat × List UInt8)).all (fun x => prB x.2 ((cX4_read.data.toList.drop 18).drop x.1)) = true := by decide +kernel
theorem dX4_read_18 : decode cX4_read 18 = .ok (.putfield 60, 3) := op181 (bA_at bd09_89_dec_11 0 rfl rfl) rfl
theorem dX4_read_21 : decode cX4_read 21 = .ok (.aload_n 0, 1) := op42 (bA_at bd09_89_dec_11 1 rfl rfl)
theorem dX4_read_22 : decode cX4_read 22 = .ok (.iconst 0, 1) := op3 (bA_at bd09_89_dec_11 2 rfl rfl)
theorem dX4_read_23 : decode cX4_read 23 = .ok (.putfield 63, 3) := op181 (bA_at bd09_89_dec_11 3 rfl rfl) rfl
theorem dX4_read_26 : decode cX4_read 26 = .ok (.aload_n 0, 1) := op42 (bA_at bd09_89_dec_11 4 rfl rfl)
theorem dX4_read_27 : decode cX4_read 27 = .ok (.iconst (-1), 1) := op2 (bA_at bd09_89_dec_11 5 rfl rfl)
theorem dX4_read_28 : decode cX4_read 28 = .ok (.putfield 39, 3) := op181 (bA_at bd09_89_dec_11 6 rfl rfl) rfl
theorem dX4_read_31 : decode cX4_read 31 = .ok (.aload_n 0, 1) := op42 (bA_at bd09_89_dec_11 7 rfl rfl)
theorem dX4_read_32 : decode cX4_read 32 = .ok (.iload_n 3, 1) := op29 (bA_at bd09_89_dec_11 8 rfl rfl)
theorem dX4_read_33 : decode cX4_read 33 = .ok (.invokevirtual 66, 3) := op182 (bA_at bd09_89_dec_11 9 rfl rfl) rfl
theorem dX4_read_36 : decode cX4_read 36 = .ok (.aload_n 0, 1) := op42 (bA_at bd09_89_dec_11 10 rfl rfl)
theorem dX4_read_37 : decode cX4_read 37 = .ok (.invokevirtual 70, 3) := op182 (bA_at bd09_89_dec_11 11 rfl rfl) rfl
theorem bd09_89_dec_12 : ([(0, [3]), (1, [54, 4]), (3, [21, 4]), (5, [42]), (6, [180, 0, 57]), (9, [162, 0, 29]), (12, [42]), (13, [180, 0, 73]), (16, [153, 0, 22]), (19, [42]), (20, [180, 0, 63]), (23, [4])] : List (Nat × List UInt8)).all (fun x => prB x.2 ((cX4_read.data.toList.drop 40).drop x.1)) = true := by decide +kernel
theorem dX4_read_40 : decode cX4_read 40 = .ok (.iconst 0, 1) := op3 (bA_at bd09_89_dec_12 0 rfl rfl)
theorem dX4_read_41 : decode cX4_read 41 = .ok (.istore 4, 2) := op54 (bA_at bd09_89_dec_12 1 rfl rfl) rfl
theorem dX4_read_43 : decode cX4_read 43 = .ok (.iload 4, 2) := op21 (bA_at bd09_89_dec_12 2 rfl rfl) rfl
theorem dX4_read_45 : decode cX4_read 45 = .ok (.aload_n 0, 1) := op42 (bA_at bd09_89_dec_12 3 rfl rfl)
theorem dX4_read_46 : decode cX4_read 46 = .ok (.getfield 57, 3) := op180 (bA_at bd09_89_dec_12 4 rfl rfl) rfl
theorem dX4_read_49 : decode cX4_read 49 = .ok (.if_icmp .ge 29, 3) := op162 (bA_at bd09_89_dec_12 5 rfl rfl) (by decide +kernel)
theorem dX4_read_52 : decode cX4_read 52 = .ok (.aload_n 0, 1) := op42 (bA_at bd09_89_dec_12 6 rfl rfl)
theorem dX4_read_53 : decode cX4_read 53 = .ok (.getfield 73, 3) := op180 (bA_at bd09_89_dec_12 7 rfl rfl) rfl
theorem dX4_read_56 : decode cX4_read 56 = .ok (.ifCond .eq 22, 3) := op153 (bA_at bd09_89_dec_12 8 rfl rfl) (by decide +kernel)
theorem dX4_read_59 : decode cX4_read 59 = .ok (.aload_n 0, 1) := op42 (bA_at bd09_89_dec_12 9 rfl rfl)
theorem dX4_read_60 : decode cX4_read 60 = .ok (.getfield 63, 3) := op180 (bA_at bd09_89_dec_12 10 rfl rfl) rfl
theorem dX4_read_63 : decode cX4_read 63 = .ok (.iconst 1, 1) := op4 (bA_at bd09_89_dec_12 11 rfl rfl)
theorem bd09_89_dec_13 : ([(0, [159, 0, 14]), (3, [42]), (4, [29]), (5, [182, 0, 76]), (8, [132, 4, 1]), (11, [167, 255, 224]), (14, [42]), (15, [180, 0, 63]), (18, [154, 0, 23]), (21, [29]), (22, [154, 0, 19]), (25, [42])] : List (Nat × List UInt8)).all (fun x => prB x.2 ((cX4_read.data.toList.drop 64).drop x.1)) = true := by decide +kernel
theorem dX4_read_64 : decode cX4_read 64 = .ok (.if_icmp .eq 14, 3) := op159 (bA_at bd09_89_dec_13 0 rfl rfl) (by decide +kernel)
theorem dX4_read_67 : decode cX4_read 67 = .ok (.aload_n 0, 1) := op42 (bA_at bd09_89_dec_13 1 rfl rfl)
theorem dX4_read_68 : decode cX4_read 68 = .ok (.iload_n 3, 1) := op29 (bA_at bd09_89_dec_13 2 rfl rfl)
theorem dX4_read_69 : decode cX4_read 69 = .ok (.invokevirtual 76, 3) := op182 (bA_at bd09_89_dec_13 3 rfl rfl) rfl
theorem dX4_read_72 : decode cX4_read 72 = .ok (.iinc 4 1, 3) := op132 (bA_at bd09_89_dec_13 4 rfl rfl) rfl (by decide +kernel)
theorem dX4_read_75 : decode cX4_read 75 = .ok (.goto (-32), 3) := op167 (bA_at bd09_89_dec_13 5 rfl rfl) (by decide +kernel)
theorem dX4_read_78 : decode cX4_read 78 = .ok (.aload_n 0, 1) := op42 (bA_at bd09_89_dec_13 6 rfl rfl)
theorem dX4_read_79 : decode cX4_read 79 = .ok (.getfield 63, 3) := op180 (bA_at bd09_89_dec_13 7 rfl rfl) rfl
theorem dX4_read_82 : decode cX4_read 82 = .ok (.ifCond .ne 23, 3) := op154 (bA_at bd09_89_dec_13 8 rfl rfl) (by decide +kernel)
theorem dX4_read_85 : decode cX4_read 85 = .ok (.iload_n 3, 1) := op29 (bA_at bd09_89_dec_13 9 rfl rfl)
theorem dX4_read_86 : decode cX4_read 86 = .ok (.ifCond .ne 19, 3) := op154 (bA_at bd09_89_dec_13 10 rfl rfl) (by decide +kernel)
theorem dX4_read_89 : decode cX4_read 89 = .ok (.aload_n 0, 1) := op42 (bA_at bd09_89_dec_13 11 rfl rfl)
theorem bd09_89_dec_14 : ([(0, [182, 0, 79]), (3, [153, 0, 12]), (6, [42]), (7, [7]), (8, [42]), (9, [180, 0, 57]), (12, [182, 0, 83]), (15, [177])] : List (Nat × List UInt8)).all (fun x => prB x.2 ((cX4_read.data.toList.drop 90).drop x.1)) = true := by decide +kernel
theorem dX4_read_90 : decode cX4_read 90 = .ok (.invokevirtual 79, 3) := op182 (bA_at bd09_89_dec_14 0 rfl rfl) rfl
theorem dX4_read_93 : decode cX4_read 93 = .ok (.ifCond .eq 12, 3) := op153 (bA_at bd09_89_dec_14 1 rfl rfl) (by decide +kernel)
theorem dX4_read_96 : decode cX4_read 96 = .ok (.aload_n 0, 1) := op42 (bA_at bd09_89_dec_14 2 rfl rfl)
theorem dX4_read_97 : decode cX4_read 97 = .ok (.iconst 4, 1) := op7 (bA_at bd09_89_dec_14 3 rfl rfl)
theorem dX4_read_98 : decode cX4_read 98 = .ok (.aload_n 0, 1) := op42 (bA_at bd09_89_dec_14 4 rfl rfl)
theorem dX4_read_99 : decode cX4_read 99 = .ok (.getfield 57, 3) := op180 (bA_at bd09_89_dec_14 5 rfl rfl) rfl
theorem dX4_read_102 : decode cX4_read 102 = .ok (.invokevirtual 83, 3) := op182 (bA_at bd09_89_dec_14 6 rfl rfl) rfl
theorem dX4_read_105 : decode cX4_read 105 = .ok (.return_, 1) := op177 (bA_at bd09_89_dec_14 7 rfl rfl)
theorem bd09_89_dec_15 : ([(0, [27]), (1, [154, 0, 23]), (4, [42]), (5, [180, 0, 12]), (8, [182, 0, 87]), (11, [42]), (12, [3]), (13, [181, 0, 90]), (16, [42]), (17, [3]), (18, [181, 0, 93]), (21, [167, 0, 51])] : List (Nat × List UInt8)).all (fun x => prB x.2 ((cX4_clearDraft.data.toList.drop 0).drop x.1)) = true := by decide +kernel
theorem dX4_clearDraft_0 : decode cX4_clearDraft 0 = .ok (.iload_n 1, 1) := op27 (bA_at bd09_89_dec_15 0 rfl rfl)
theorem dX4_clearDraft_1 : decode cX4_clearDraft 1 = .ok (.ifCond .ne 23, 3) := op154 (bA_at bd09_89_dec_15 1 rfl rfl) (by decide +kernel)
theorem dX4_clearDraft_4 : decode cX4_clearDraft 4 = .ok (.aload_n 0, 1) := op42 (bA_at bd09_89_dec_15 2 rfl rfl)
theorem dX4_clearDraft_5 : decode cX4_clearDraft 5 = .ok (.getfield 12, 3) := op180 (bA_at bd09_89_dec_15 3 rfl rfl) rfl
theorem dX4_clearDraft_8 : decode cX4_clearDraft 8 = .ok (.invokevirtual 87, 3) := op182 (bA_at bd09_89_dec_15 4 rfl rfl) rfl
theorem dX4_clearDraft_11 : decode cX4_clearDraft 11 = .ok (.aload_n 0, 1) := op42 (bA_at bd09_89_dec_15 5 rfl rfl)
theorem dX4_clearDraft_12 : decode cX4_clearDraft 12 = .ok (.iconst 0, 1) := op3 (bA_at bd09_89_dec_15 6 rfl rfl)
theorem dX4_clearDraft_13 : decode cX4_clearDraft 13 = .ok (.putfield 90, 3) := op181 (bA_at bd09_89_dec_15 7 rfl rfl) rfl
theorem dX4_clearDraft_16 : decode cX4_clearDraft 16 = .ok (.aload_n 0, 1) := op42 (bA_at bd09_89_dec_15 8 rfl rfl)
theorem dX4_clearDraft_17 : decode cX4_clearDraft 17 = .ok (.iconst 0, 1) := op3 (bA_at bd09_89_dec_15 9 rfl rfl)
theorem dX4_clearDraft_18 : decode cX4_clearDraft 18 = .ok (.putfield 93, 3) := op181 (bA_at bd09_89_dec_15 10 rfl rfl) rfl
theorem dX4_clearDraft_21 : decode cX4_clearDraft 21 = .ok (.goto 51, 3) := op167 (bA_at bd09_89_dec_15 11 rfl rfl) (by decide +kernel)
theorem bd09_89_dec_16 : ([(0, [27]), (1, [4]), (2, [160, 0, 14]), (5, [42]), (6, [180, 0, 21]), (9, [3]), (10, [181, 0, 96]), (13, [167, 0, 35]), (16, [27]), (17, [5]), (18, [160, 0, 14]), (21, [42])] : List (Nat × List UInt8)).all (fun x => prB x.2 ((cX4_clearDraft.data.toList.drop 24).drop x.1)) = true := by decide +kernel
theorem dX4_clearDraft_24 : decode cX4_clearDraft 24 = .ok (.iload_n 1, 1) := op27 (bA_at bd09_89_dec_16 0 rfl rfl)
theorem dX4_clearDraft_25 : decode cX4_clearDraft 25 = .ok (.iconst 1, 1) := op4 (bA_at bd09_89_dec_16 1 rfl rfl)
theorem dX4_clearDraft_26 : decode cX4_clearDraft 26 = .ok (.if_icmp .ne 14, 3) := op160 (bA_at bd09_89_dec_16 2 rfl rfl) (by decide +kernel)
theorem dX4_clearDraft_29 : decode cX4_clearDraft 29 = .ok (.aload_n 0, 1) := op42 (bA_at bd09_89_dec_16 3 rfl rfl)
theorem dX4_clearDraft_30 : decode cX4_clearDraft 30 = .ok (.getfield 21, 3) := op180 (bA_at bd09_89_dec_16 4 rfl rfl) rfl
theorem dX4_clearDraft_33 : decode cX4_clearDraft 33 = .ok (.iconst 0, 1) := op3 (bA_at bd09_89_dec_16 5 rfl rfl)
theorem dX4_clearDraft_34 : decode cX4_clearDraft 34 = .ok (.putfield 96, 3) := op181 (bA_at bd09_89_dec_16 6 rfl rfl) rfl
theorem dX4_clearDraft_37 : decode cX4_clearDraft 37 = .ok (.goto 35, 3) := op167 (bA_at bd09_89_dec_16 7 rfl rfl) (by decide +kernel)
theorem dX4_clearDraft_40 : decode cX4_clearDraft 40 = .ok (.iload_n 1, 1) := op27 (bA_at bd09_89_dec_16 8 rfl rfl)
theorem dX4_clearDraft_41 : decode cX4_clearDraft 41 = .ok (.iconst 2, 1) := op5 (bA_at bd09_89_dec_16 9 rfl rfl)
theorem dX4_clearDraft_42 : decode cX4_clearDraft 42 = .ok (.if_icmp .ne 14, 3) := op160 (bA_at bd09_89_dec_16 10 rfl rfl) (by decide +kernel)
theorem dX4_clearDraft_45 : decode cX4_clearDraft 45 = .ok (.aload_n 0, 1) := op42 (bA_at bd09_89_dec_16 11 rfl rfl)
theorem bd09_89_dec_17 : ([(0, [180, 0, 28]), (3, [3]), (4, [181, 0, 99]), (7, [167, 0, 19]), (10, [42]), (11, [180, 0, 35]), (14, [3]), (15, [181, 0, 102]), (18, [42]), (19, [180, 0, 35]), (22, [3]), (23, [181, 0, 105])] : List (Nat × List UInt8)).all (fun x => prB x.2 ((cX4_clearDraft.data.toList.drop 46).drop x.1)) = true := by decide +kernel
theorem dX4_clearDraft_46 : decode cX4_clearDraft 46 = .ok (.getfield 28, 3) := op180 (bA_at bd09_89_dec_17 0 rfl rfl) rfl
theorem dX4_clearDraft_49 : decode cX4_clearDraft 49 = .ok (.iconst 0, 1) := op3 (bA_at bd09_89_dec_17 1 rfl rfl)
theorem dX4_clearDraft_50 : decode cX4_clearDraft 50 = .ok (.putfield 99, 3) := op181 (bA_at bd09_89_dec_17 2 rfl rfl) rfl
theorem dX4_clearDraft_53 : decode cX4_clearDraft 53 = .ok (.goto 19, 3) := op167 (bA_at bd09_89_dec_17 3 rfl rfl) (by decide +kernel)
theorem dX4_clearDraft_56 : decode cX4_clearDraft 56 = .ok (.aload_n 0, 1) := op42 (bA_at bd09_89_dec_17 4 rfl rfl)
theorem dX4_clearDraft_57 : decode cX4_clearDraft 57 = .ok (.getfield 35, 3) := op180 (bA_at bd09_89_dec_17 5 rfl rfl) rfl
theorem dX4_clearDraft_60 : decode cX4_clearDraft 60 = .ok (.iconst 0, 1) := op3 (bA_at bd09_89_dec_17 6 rfl rfl)
theorem dX4_clearDraft_61 : decode cX4_clearDraft 61 = .ok (.putfield 102, 3) := op181 (bA_at bd09_89_dec_17 7 rfl rfl) rfl
theorem dX4_clearDraft_64 : decode cX4_clearDraft 64 = .ok (.aload_n 0, 1) := op42 (bA_at bd09_89_dec_17 8 rfl rfl)
theorem dX4_clearDraft_65 : decode cX4_clearDraft 65 = .ok (.getfield 35, 3) := op180 (bA_at bd09_89_dec_17 9 rfl rfl) rfl
theorem dX4_clearDraft_68 : decode cX4_clearDraft 68 = .ok (.iconst 0, 1) := op3 (bA_at bd09_89_dec_17 10 rfl rfl)
theorem dX4_clearDraft_69 : decode cX4_clearDraft 69 = .ok (.putfield 105, 3) := op181 (bA_at bd09_89_dec_17 11 rfl rfl) rfl
theorem bd09_89_dec_18 : ([(0, [177])] : List (Nat × List UInt8)).all (fun x => prB x.2 ((cX4_clearDraft.data.toList.drop 72).drop x.1)) = true := by decide +kernel
theorem dX4_clearDraft_72 : decode cX4_clearDraft 72 = .ok (.return_, 1) := op177 (bA_at bd09_89_dec_18 0 rfl rfl)
theorem bd09_89_dec_19 : ([(0, [42]), (1, [180, 0, 90]), (4, [42]), (5, [180, 0, 12]), (8, [180, 0, 108]), (11, [122]), (12, [154, 0, 18]), (15, [42]), (16, [180, 0, 93]), (19, [42]), (20, [180, 0, 12]), (23, [180, 0, 111])] : List (Nat × List UInt8)).all (fun x => prB x.2 ((cX4_tellsOfMissing.data.toList.drop 0).drop x.1)) = true := by decide +kernel
theorem dX4_tellsOfMissing_0 : decode cX4_tellsOfMissing 0 = .ok (.aload_n 0, 1) := op42 (bA_at bd09_89_dec_19 0 rfl rfl)
theorem dX4_tellsOfMissing_1 : decode cX4_tellsOfMissing 1 = .ok (.getfield 90, 3) := op180 (bA_at bd09_89_dec_19 1 rfl rfl) rfl
theorem dX4_tellsOfMissing_4 : decode cX4_tellsOfMissing 4 = .ok (.aload_n 0, 1) := op42 (bA_at bd09_89_dec_19 2 rfl rfl)
theorem dX4_tellsOfMissing_5 : decode cX4_tellsOfMissing 5 = .ok (.getfield 12, 3) := op180 (bA_at bd09_89_dec_19 3 rfl rfl) rfl
theorem dX4_tellsOfMissing_8 : decode cX4_tellsOfMissing 8 = .ok (.getfield 108, 3) := op180 (bA_at bd09_89_dec_19 4 rfl rfl) rfl
theorem dX4_tellsOfMissing_11 : decode cX4_tellsOfMissing 11 = .ok (.ishr, 1) := op122 (bA_at bd09_89_dec_19 5 rfl rfl)
theorem dX4_tellsOfMissing_12 : decode cX4_tellsOfMissing 12 = .ok (.ifCond .ne 18, 3) := op154 (bA_at bd09_89_dec_19 6 rfl rfl) (by decide +kernel)
theorem dX4_tellsOfMissing_15 : decode cX4_tellsOfMissing 15 = .ok (.aload_n 0, 1) := op42 (bA_at bd09_89_dec_19 7 rfl rfl)
theorem dX4_tellsOfMissing_16 : decode cX4_tellsOfMissing 16 = .ok (.getfield 93, 3) := op180 (bA_at bd09_89_dec_19 8 rfl rfl) rfl
theorem dX4_tellsOfMissing_19 : decode cX4_tellsOfMissing 19 = .ok (.aload_n 0, 1) := op42 (bA_at bd09_89_dec_19 9 rfl rfl)
theorem dX4_tellsOfMissing_20 : decode cX4_tellsOfMissing 20 = .ok (.getfield 12, 3) := op180 (bA_at bd09_89_dec_19 10 rfl rfl) rfl
theorem dX4_tellsOfMissing_23 : decode cX4_tellsOfMissing 23 = .ok (.getfield 111, 3) := op180 (bA_at bd09_89_dec_19 11 rfl rfl) rfl
theorem bd09_89_dec_20 : ([(0, [122]), (1, [153, 0, 7]), (4, [4]), (5, [167, 0, 4]), (8, [3]), (9, [172])] : List (Nat × List UInt8)).all (fun x => prB x.2 ((cX4_tellsOfMissing.data.toList.drop 26).drop x.1)) = true := by decide +kernel
theorem dX4_tellsOfMissing_26 : decode cX4_tellsOfMissing 26 = .ok (.ishr, 1) := op122 (bA_at bd09_89_dec_20 0 rfl rfl)
theorem dX4_tellsOfMissing_27 : decode cX4_tellsOfMissing 27 = .ok (.ifCond .eq 7, 3) := op153 (bA_at bd09_89_dec_20 1 rfl rfl) (by decide +kernel)
theorem dX4_tellsOfMissing_30 : decode cX4_tellsOfMissing 30 = .ok (.iconst 1, 1) := op4 (bA_at bd09_89_dec_20 2 rfl rfl)
theorem dX4_tellsOfMissing_31 : decode cX4_tellsOfMissing 31 = .ok (.goto 4, 3) := op167 (bA_at bd09_89_dec_20 3 rfl rfl) (by decide +kernel)
theorem dX4_tellsOfMissing_34 : decode cX4_tellsOfMissing 34 = .ok (.iconst 0, 1) := op3 (bA_at bd09_89_dec_20 4 rfl rfl)
theorem dX4_tellsOfMissing_35 : decode cX4_tellsOfMissing 35 = .ok (.ireturn, 1) := op172 (bA_at bd09_89_dec_20 5 rfl rfl)
theorem bd09_89_dec_21 : ([(0, [42]), (1, [27]), (2, [182, 0, 114]), (5, [61]), (6, [28]), (7, [2]), (8, [160, 0, 8]), (11, [42]), (12, [182, 0, 118]), (15, [177]), (16, [42]), (17, [28])] : List (Nat × List UInt8)).all (fun x => prB x.2 ((cX4_readLine.data.toList.drop 0).drop x.1)) = true := by decide +kernel
theorem dX4_readLine_0 : decode cX4_readLine 0 = .ok (.aload_n 0, 1) := op42 (bA_at bd09_89_dec_21 0 rfl rfl)
theorem dX4_readLine_1 : decode cX4_readLine 1 = .ok (.iload_n 1, 1) := op27 (bA_at bd09_89_dec_21 1 rfl rfl)
theorem dX4_readLine_2 : decode cX4_readLine 2 = .ok (.invokevirtual 114, 3) := op182 (bA_at bd09_89_dec_21 2 rfl rfl) rfl
theorem dX4_readLine_5 : decode cX4_readLine 5 = .ok (.istore_n 2, 1) := op61 (bA_at bd09_89_dec_21 3 rfl rfl)
theorem dX4_readLine_6 : decode cX4_readLine 6 = .ok (.iload_n 2, 1) := op28 (bA_at bd09_89_dec_21 4 rfl rfl)
theorem dX4_readLine_7 : decode cX4_readLine 7 = .ok (.iconst (-1), 1) := op2 (bA_at bd09_89_dec_21 5 rfl rfl)
theorem dX4_readLine_8 : decode cX4_readLine 8 = .ok (.if_icmp .ne 8, 3) := op160 (bA_at bd09_89_dec_21 6 rfl rfl) (by decide +kernel)
theorem dX4_readLine_11 : decode cX4_readLine 11 = .ok (.aload_n 0, 1) := op42 (bA_at bd09_89_dec_21 7 rfl rfl)
theorem dX4_readLine_12 : decode cX4_readLine 12 = .ok (.invokevirtual 118, 3) := op182 (bA_at bd09_89_dec_21 8 rfl rfl) rfl
theorem dX4_readLine_15 : decode cX4_readLine 15 = .ok (.return_, 1) := op177 (bA_at bd09_89_dec_21 9 rfl rfl)
theorem dX4_readLine_16 : decode cX4_readLine 16 = .ok (.aload_n 0, 1) := op42 (bA_at bd09_89_dec_21 10 rfl rfl)
theorem dX4_readLine_17 : decode cX4_readLine 17 = .ok (.iload_n 2, 1) := op28 (bA_at bd09_89_dec_21 11 rfl rfl)
theorem bd09_89_dec_22 : ([(0, [182, 0, 121]), (3, [153, 0, 12]), (6, [42]), (7, [6]), (8, [42]), (9, [180, 0, 125]), (12, [182, 0, 83]), (15, [42]), (16, [182, 0, 70]), (19, [3]), (20, [62]), (21, [29])] : List (Nat × List UInt8)).all (fun x => prB x.2 ((cX4_readLine.data.toList.drop 18).drop x.1)) = true := by decide +kernel
theorem dX4_readLine_18 : decode cX4_readLine 18 = .ok (.invokevirtual 121, 3) := op182 (bA_at bd09_89_dec_22 0 rfl rfl) rfl
theorem dX4_readLine_21 : decode cX4_readLine 21 = .ok (.ifCond .eq 12, 3) := op153 (bA_at bd09_89_dec_22 1 rfl rfl) (by decide +kernel)
theorem dX4_readLine_24 : decode cX4_readLine 24 = .ok (.aload_n 0, 1) := op42 (bA_at bd09_89_dec_22 2 rfl rfl)
theorem dX4_readLine_25 : decode cX4_readLine 25 = .ok (.iconst 3, 1) := op6 (bA_at bd09_89_dec_22 3 rfl rfl)
theorem dX4_readLine_26 : decode cX4_readLine 26 = .ok (.aload_n 0, 1) := op42 (bA_at bd09_89_dec_22 4 rfl rfl)
theorem dX4_readLine_27 : decode cX4_readLine 27 = .ok (.getfield 125, 3) := op180 (bA_at bd09_89_dec_22 5 rfl rfl) rfl
theorem dX4_readLine_30 : decode cX4_readLine 30 = .ok (.invokevirtual 83, 3) := op182 (bA_at bd09_89_dec_22 6 rfl rfl) rfl
theorem dX4_readLine_33 : decode cX4_readLine 33 = .ok (.aload_n 0, 1) := op42 (bA_at bd09_89_dec_22 7 rfl rfl)
theorem dX4_readLine_34 : decode cX4_readLine 34 = .ok (.invokevirtual 70, 3) := op182 (bA_at bd09_89_dec_22 8 rfl rfl) rfl
theorem dX4_readLine_37 : decode cX4_readLine 37 = .ok (.iconst 0, 1) := op3 (bA_at bd09_89_dec_22 9 rfl rfl)
theorem dX4_readLine_38 : decode cX4_readLine 38 = .ok (.istore_n 3, 1) := op62 (bA_at bd09_89_dec_22 10 rfl rfl)
theorem dX4_readLine_39 : decode cX4_readLine 39 = .ok (.iload_n 3, 1) := op29 (bA_at bd09_89_dec_22 11 rfl rfl)
theorem bd09_89_dec_23 : ([(0, [178, 0, 128]), (3, [28]), (4, [46]), (5, [162, 0, 54]), (8, [42]), (9, [180, 0, 73]), (12, [5]), (13, [159, 0, 8]), (16, [42]), (17, [182, 0, 118]), (20, [177]), (21, [42])] : List (Nat × List UInt8)).all (fun x => prB x.2 ((cX4_readLine.data.toList.drop 40).drop x.1)) = true := by decide +kernel
theorem dX4_readLine_40 : decode cX4_readLine 40 = .ok (.getstatic 128, 3) := op178 (bA_at bd09_89_dec_23 0 rfl rfl) rfl
theorem dX4_readLine_43 : decode cX4_readLine 43 = .ok (.iload_n 2, 1) := op28 (bA_at bd09_89_dec_23 1 rfl rfl)
theorem dX4_readLine_44 : decode cX4_readLine 44 = .ok (.iaload, 1) := op46 (bA_at bd09_89_dec_23 2 rfl rfl)
theorem dX4_readLine_45 : decode cX4_readLine 45 = .ok (.if_icmp .ge 54, 3) := op162 (bA_at bd09_89_dec_23 3 rfl rfl) (by decide +kernel)
theorem dX4_readLine_48 : decode cX4_readLine 48 = .ok (.aload_n 0, 1) := op42 (bA_at bd09_89_dec_23 4 rfl rfl)
theorem dX4_readLine_49 : decode cX4_readLine 49 = .ok (.getfield 73, 3) := op180 (bA_at bd09_89_dec_23 5 rfl rfl) rfl
theorem dX4_readLine_52 : decode cX4_readLine 52 = .ok (.iconst 2, 1) := op5 (bA_at bd09_89_dec_23 6 rfl rfl)
theorem dX4_readLine_53 : decode cX4_readLine 53 = .ok (.if_icmp .eq 8, 3) := op159 (bA_at bd09_89_dec_23 7 rfl rfl) (by decide +kernel)
theorem dX4_readLine_56 : decode cX4_readLine 56 = .ok (.aload_n 0, 1) := op42 (bA_at bd09_89_dec_23 8 rfl rfl)
theorem dX4_readLine_57 : decode cX4_readLine 57 = .ok (.invokevirtual 118, 3) := op182 (bA_at bd09_89_dec_23 9 rfl rfl) rfl
theorem dX4_readLine_60 : decode cX4_readLine 60 = .ok (.return_, 1) := op177 (bA_at bd09_89_dec_23 10 rfl rfl)
theorem dX4_readLine_61 : decode cX4_readLine 61 = .ok (.aload_n 0, 1) := op42 (bA_at bd09_89_dec_23 11 rfl rfl)
theorem bd09_89_dec_24 : ([(0, [180, 0, 43]), (3, [29]), (4, [42]), (5, [180, 0, 131]), (8, [79]), (9, [42]), (10, [28]), (11, [29]), (12, [182, 0, 134]), (15, [154, 0, 12]), (18, [42]), (19, [5])] : List (Nat × List UInt8)).all (fun x => prB x.2 ((cX4_readLine.data.toList.drop 62).drop x.1)) = true := by decide +kernel
theorem dX4_readLine_62 : decode cX4_readLine 62 = .ok (.getfield 43, 3) := op180 (bA_at bd09_89_dec_24 0 rfl rfl) rfl
theorem dX4_readLine_65 : decode cX4_readLine 65 = .ok (.iload_n 3, 1) := op29 (bA_at bd09_89_dec_24 1 rfl rfl)
theorem dX4_readLine_66 : decode cX4_readLine 66 = .ok (.aload_n 0, 1) := op42 (bA_at bd09_89_dec_24 2 rfl rfl)
theorem dX4_readLine_67 : decode cX4_readLine 67 = .ok (.getfield 131, 3) := op180 (bA_at bd09_89_dec_24 3 rfl rfl) rfl
theorem dX4_readLine_70 : decode cX4_readLine 70 = .ok (.iastore, 1) := op79 (bA_at bd09_89_dec_24 4 rfl rfl)
theorem dX4_readLine_71 : decode cX4_readLine 71 = .ok (.aload_n 0, 1) := op42 (bA_at bd09_89_dec_24 5 rfl rfl)
theorem dX4_readLine_72 : decode cX4_readLine 72 = .ok (.iload_n 2, 1) := op28 (bA_at bd09_89_dec_24 6 rfl rfl)
theorem dX4_readLine_73 : decode cX4_readLine 73 = .ok (.iload_n 3, 1) := op29 (bA_at bd09_89_dec_24 7 rfl rfl)
theorem dX4_readLine_74 : decode cX4_readLine 74 = .ok (.invokevirtual 134, 3) := op182 (bA_at bd09_89_dec_24 8 rfl rfl) rfl
theorem dX4_readLine_77 : decode cX4_readLine 77 = .ok (.ifCond .ne 12, 3) := op154 (bA_at bd09_89_dec_24 9 rfl rfl) (by decide +kernel)
theorem dX4_readLine_80 : decode cX4_readLine 80 = .ok (.aload_n 0, 1) := op42 (bA_at bd09_89_dec_24 10 rfl rfl)
theorem dX4_readLine_81 : decode cX4_readLine 81 = .ok (.iconst 2, 1) := op5 (bA_at bd09_89_dec_24 11 rfl rfl)
theorem bd09_89_dec_25 : ([(0, [42]), (1, [180, 0, 125]), (4, [182, 0, 83]), (7, [42]), (8, [182, 0, 70]), (11, [132, 3, 1]), (14, [167, 255, 199]), (17, [42]), (18, [180, 0, 73]), (21, [6]), (22, [159, 0, 8]), (25, [42])] : List (Nat × List UInt8)).all (fun x => prB x.2 ((cX4_readLine.data.toList.drop 82).drop x.1)) = true := by decide +kernel
theorem dX4_readLine_82 : decode cX4_readLine 82 = .ok (.aload_n 0, 1) := op42 (bA_at bd09_89_dec_25 0 rfl rfl)
theorem dX4_readLine_83 : decode cX4_readLine 83 = .ok (.getfield 125, 3) := op180 (bA_at bd09_89_dec_25 1 rfl rfl) rfl
theorem dX4_readLine_86 : decode cX4_readLine 86 = .ok (.invokevirtual 83, 3) := op182 (bA_at bd09_89_dec_25 2 rfl rfl) rfl
theorem dX4_readLine_89 : decode cX4_readLine 89 = .ok (.aload_n 0, 1) := op42 (bA_at bd09_89_dec_25 3 rfl rfl)
theorem dX4_readLine_90 : decode cX4_readLine 90 = .ok (.invokevirtual 70, 3) := op182 (bA_at bd09_89_dec_25 4 rfl rfl) rfl
theorem dX4_readLine_93 : decode cX4_readLine 93 = .ok (.iinc 3 1, 3) := op132 (bA_at bd09_89_dec_25 5 rfl rfl) rfl (by decide +kernel)
theorem dX4_readLine_96 : decode cX4_readLine 96 = .ok (.goto (-57), 3) := op167 (bA_at bd09_89_dec_25 6 rfl rfl) (by decide +kernel)
theorem dX4_readLine_99 : decode cX4_readLine 99 = .ok (.aload_n 0, 1) := op42 (bA_at bd09_89_dec_25 7 rfl rfl)
theorem dX4_readLine_100 : decode cX4_readLine 100 = .ok (.getfield 73, 3) := op180 (bA_at bd09_89_dec_25 8 rfl rfl) rfl
theorem dX4_readLine_103 : decode cX4_readLine 103 = .ok (.iconst 3, 1) := op6 (bA_at bd09_89_dec_25 9 rfl rfl)
theorem dX4_readLine_104 : decode cX4_readLine 104 = .ok (.if_icmp .eq 8, 3) := op159 (bA_at bd09_89_dec_25 10 rfl rfl) (by decide +kernel)
theorem dX4_readLine_107 : decode cX4_readLine 107 = .ok (.aload_n 0, 1) := op42 (bA_at bd09_89_dec_25 11 rfl rfl)
theorem bd09_89_dec_26 : ([(0, [182, 0, 118]), (3, [177]), (4, [42]), (5, [180, 0, 63]), (8, [154, 0, 8]), (11, [42]), (12, [28]), (13, [182, 0, 138]), (16, [42]), (17, [182, 0, 70]), (20, [177])] : List (Nat × List UInt8)).all (fun x => prB x.2 ((cX4_readLine.data.toList.drop 108).drop x.1)) = true := by decide +kernel
theorem dX4_readLine_108 : decode cX4_readLine 108 = .ok (.invokevirtual 118, 3) := op182 (bA_at bd09_89_dec_26 0 rfl rfl) rfl
theorem dX4_readLine_111 : decode cX4_readLine 111 = .ok (.return_, 1) := op177 (bA_at bd09_89_dec_26 1 rfl rfl)
theorem dX4_readLine_112 : decode cX4_readLine 112 = .ok (.aload_n 0, 1) := op42 (bA_at bd09_89_dec_26 2 rfl rfl)
theorem dX4_readLine_113 : decode cX4_readLine 113 = .ok (.getfield 63, 3) := op180 (bA_at bd09_89_dec_26 3 rfl rfl) rfl
theorem dX4_readLine_116 : decode cX4_readLine 116 = .ok (.ifCond .ne 8, 3) := op154 (bA_at bd09_89_dec_26 4 rfl rfl) (by decide +kernel)
theorem dX4_readLine_119 : decode cX4_readLine 119 = .ok (.aload_n 0, 1) := op42 (bA_at bd09_89_dec_26 5 rfl rfl)
theorem dX4_readLine_120 : decode cX4_readLine 120 = .ok (.iload_n 2, 1) := op28 (bA_at bd09_89_dec_26 6 rfl rfl)
theorem dX4_readLine_121 : decode cX4_readLine 121 = .ok (.invokevirtual 138, 3) := op182 (bA_at bd09_89_dec_26 7 rfl rfl) rfl
theorem dX4_readLine_124 : decode cX4_readLine 124 = .ok (.aload_n 0, 1) := op42 (bA_at bd09_89_dec_26 8 rfl rfl)
theorem dX4_readLine_125 : decode cX4_readLine 125 = .ok (.invokevirtual 70, 3) := op182 (bA_at bd09_89_dec_26 9 rfl rfl) rfl
theorem dX4_readLine_128 : decode cX4_readLine 128 = .ok (.return_, 1) := op177 (bA_at bd09_89_dec_26 10 rfl rfl)
theorem bd09_89_dec_27 : ([(0, [42]), (1, [4]), (2, [181, 0, 63]), (5, [42]), (6, [42]), (7, [180, 0, 125]), (10, [181, 0, 39]), (13, [177])] : List (Nat × List UInt8)).all (fun x => prB x.2 ((cX4_refuse.data.toList.drop 0).drop x.1)) = true := by decide +kernel
theorem dX4_refuse_0 : decode cX4_refuse 0 = .ok (.aload_n 0, 1) := op42 (bA_at bd09_89_dec_27 0 rfl rfl)
theorem dX4_refuse_1 : decode cX4_refuse 1 = .ok (.iconst 1, 1) := op4 (bA_at bd09_89_dec_27 1 rfl rfl)
theorem dX4_refuse_2 : decode cX4_refuse 2 = .ok (.putfield 63, 3) := op181 (bA_at bd09_89_dec_27 2 rfl rfl) rfl
theorem dX4_refuse_5 : decode cX4_refuse 5 = .ok (.aload_n 0, 1) := op42 (bA_at bd09_89_dec_27 3 rfl rfl)
theorem dX4_refuse_6 : decode cX4_refuse 6 = .ok (.aload_n 0, 1) := op42 (bA_at bd09_89_dec_27 4 rfl rfl)
theorem dX4_refuse_7 : decode cX4_refuse 7 = .ok (.getfield 125, 3) := op180 (bA_at bd09_89_dec_27 5 rfl rfl) rfl
theorem dX4_refuse_10 : decode cX4_refuse 10 = .ok (.putfield 39, 3) := op181 (bA_at bd09_89_dec_27 6 rfl rfl) rfl
theorem dX4_refuse_13 : decode cX4_refuse 13 = .ok (.return_, 1) := op177 (bA_at bd09_89_dec_27 7 rfl rfl)
theorem bd09_89_dec_28 : ([(0, [42]), (1, [180, 0, 63]), (4, [154, 0, 13]), (7, [42]), (8, [27]), (9, [181, 0, 63]), (12, [42]), (13, [28]), (14, [181, 0, 39]), (17, [177])] : List (Nat × List UInt8)).all (fun x => prB x.2 ((cX4_mark.data.toList.drop 0).drop x.1)) = true := by decide +kernel
theorem dX4_mark_0 : decode cX4_mark 0 = .ok (.aload_n 0, 1) := op42 (bA_at bd09_89_dec_28 0 rfl rfl)
theorem dX4_mark_1 : decode cX4_mark 1 = .ok (.getfield 63, 3) := op180 (bA_at bd09_89_dec_28 1 rfl rfl) rfl
theorem dX4_mark_4 : decode cX4_mark 4 = .ok (.ifCond .ne 13, 3) := op154 (bA_at bd09_89_dec_28 2 rfl rfl) (by decide +kernel)
theorem dX4_mark_7 : decode cX4_mark 7 = .ok (.aload_n 0, 1) := op42 (bA_at bd09_89_dec_28 3 rfl rfl)
theorem dX4_mark_8 : decode cX4_mark 8 = .ok (.iload_n 1, 1) := op27 (bA_at bd09_89_dec_28 4 rfl rfl)
theorem dX4_mark_9 : decode cX4_mark 9 = .ok (.putfield 63, 3) := op181 (bA_at bd09_89_dec_28 5 rfl rfl) rfl
theorem dX4_mark_12 : decode cX4_mark 12 = .ok (.aload_n 0, 1) := op42 (bA_at bd09_89_dec_28 6 rfl rfl)
theorem dX4_mark_13 : decode cX4_mark 13 = .ok (.iload_n 2, 1) := op28 (bA_at bd09_89_dec_28 7 rfl rfl)
theorem dX4_mark_14 : decode cX4_mark 14 = .ok (.putfield 39, 3) := op181 (bA_at bd09_89_dec_28 8 rfl rfl) rfl
theorem dX4_mark_17 : decode cX4_mark 17 = .ok (.return_, 1) := op177 (bA_at bd09_89_dec_28 9 rfl rfl)
theorem bd09_89_dec_29 : ([(0, [27]), (1, [16, 10]), (3, [161, 0, 27]), (6, [27]), (7, [16, 16]), (9, [162, 0, 21]), (12, [42]), (13, [180, 0, 21]), (16, [180, 0, 96]), (19, [16, 40]), (21, [160, 0, 7]), (24, [4])] : List (Nat × List UInt8)).all (fun x => prB x.2 ((cX4_isFull.data.toList.drop 0).drop x.1)) = true := by decide +kernel
theorem dX4_isFull_0 : decode cX4_isFull 0 = .ok (.iload_n 1, 1) := op27 (bA_at bd09_89_dec_29 0 rfl rfl)
theorem dX4_isFull_1 : decode cX4_isFull 1 = .ok (.bipush 10, 2) := op16 (bA_at bd09_89_dec_29 1 rfl rfl) (by decide +kernel)
theorem dX4_isFull_3 : decode cX4_isFull 3 = .ok (.if_icmp .lt 27, 3) := op161 (bA_at bd09_89_dec_29 2 rfl rfl) (by decide +kernel)
theorem dX4_isFull_6 : decode cX4_isFull 6 = .ok (.iload_n 1, 1) := op27 (bA_at bd09_89_dec_29 3 rfl rfl)
theorem dX4_isFull_7 : decode cX4_isFull 7 = .ok (.bipush 16, 2) := op16 (bA_at bd09_89_dec_29 4 rfl rfl) (by decide +kernel)
theorem dX4_isFull_9 : decode cX4_isFull 9 = .ok (.if_icmp .ge 21, 3) := op162 (bA_at bd09_89_dec_29 5 rfl rfl) (by decide +kernel)
theorem dX4_isFull_12 : decode cX4_isFull 12 = .ok (.aload_n 0, 1) := op42 (bA_at bd09_89_dec_29 6 rfl rfl)
theorem dX4_isFull_13 : decode cX4_isFull 13 = .ok (.getfield 21, 3) := op180 (bA_at bd09_89_dec_29 7 rfl rfl) rfl
theorem dX4_isFull_16 : decode cX4_isFull 16 = .ok (.getfield 96, 3) := op180 (bA_at bd09_89_dec_29 8 rfl rfl) rfl
theorem dX4_isFull_19 : decode cX4_isFull 19 = .ok (.bipush 40, 2) := op16 (bA_at bd09_89_dec_29 9 rfl rfl) (by decide +kernel)
theorem dX4_isFull_21 : decode cX4_isFull 21 = .ok (.if_icmp .ne 7, 3) := op160 (bA_at bd09_89_dec_29 10 rfl rfl) (by decide +kernel)
theorem dX4_isFull_24 : decode cX4_isFull 24 = .ok (.iconst 1, 1) := op4 (bA_at bd09_89_dec_29 11 rfl rfl)
theorem dX4_isFull_31 : decode cX4_isFull 31 = .ok (.tableswitch 178 0 18 #[89, 178, 178, 178, 178, 178, 107, 178, 124, 178, 178, 178, 178, 178, 178, 178, 142, 142, 160], 89) := by decide +kernel
theorem bd09_89_dec_30 : ([(0, [167, 0, 4]), (3, [3]), (4, [172]), (5, [27]), (95, [42]), (96, [180, 0, 12]), (99, [180, 0, 108]), (102, [16, 9]), (104, [160, 0, 7]), (107, [4]), (108, [167, 0, 4])] : List (Nat × List UInt8)).all (fun x => prB x.2 ((cX4_isFull.data.toList.drop 25).drop x.1)) = true := by decide +kernel
theorem dX4_isFull_25 : decode cX4_isFull 25 = .ok (.goto 4, 3) := op167 (bA_at bd09_89_dec_30 0 rfl rfl) (by decide +kernel)
theorem dX4_isFull_28 : decode cX4_isFull 28 = .ok (.iconst 0, 1) := op3 (bA_at bd09_89_dec_30 1 rfl rfl)
theorem dX4_isFull_29 : decode cX4_isFull 29 = .ok (.ireturn, 1) := op172 (bA_at bd09_89_dec_30 2 rfl rfl)
theorem dX4_isFull_30 : decode cX4_isFull 30 = .ok (.iload_n 1, 1) := op27 (bA_at bd09_89_dec_30 3 rfl rfl)
theorem dX4_isFull_120 : decode cX4_isFull 120 = .ok (.aload_n 0, 1) := op42 (bA_at bd09_89_dec_30 4 rfl rfl)
theorem dX4_isFull_121 : decode cX4_isFull 121 = .ok (.getfield 12, 3) := op180 (bA_at bd09_89_dec_30 5 rfl rfl) rfl
theorem dX4_isFull_124 : decode cX4_isFull 124 = .ok (.getfield 108, 3) := op180 (bA_at bd09_89_dec_30 6 rfl rfl) rfl
theorem dX4_isFull_127 : decode cX4_isFull 127 = .ok (.bipush 9, 2) := op16 (bA_at bd09_89_dec_30 7 rfl rfl) (by decide +kernel)
theorem dX4_isFull_129 : decode cX4_isFull 129 = .ok (.if_icmp .ne 7, 3) := op160 (bA_at bd09_89_dec_30 8 rfl rfl) (by decide +kernel)
theorem dX4_isFull_132 : decode cX4_isFull 132 = .ok (.iconst 1, 1) := op4 (bA_at bd09_89_dec_30 9 rfl rfl)
theorem dX4_isFull_133 : decode cX4_isFull 133 = .ok (.goto 4, 3) := op167 (bA_at bd09_89_dec_30 10 rfl rfl) (by decide +kernel)
theorem bd09_89_dec_31 : ([(0, [3]), (1, [172]), (2, [42]), (3, [180, 0, 12]), (6, [180, 0, 141]), (9, [7]), (10, [160, 0, 7]), (13, [4]), (14, [167, 0, 4]), (17, [3]), (18, [172]), (19, [42])] : List (Nat × List UInt8)).all (fun x => prB x.2 ((cX4_isFull.data.toList.drop 136).drop x.1)) = true := by decide +kernel
theorem dX4_isFull_136 : decode cX4_isFull 136 = .ok (.iconst 0, 1) := op3 (bA_at bd09_89_dec_31 0 rfl rfl)
theorem dX4_isFull_137 : decode cX4_isFull 137 = .ok (.ireturn, 1) := op172 (bA_at bd09_89_dec_31 1 rfl rfl)
theorem dX4_isFull_138 : decode cX4_isFull 138 = .ok (.aload_n 0, 1) := op42 (bA_at bd09_89_dec_31 2 rfl rfl)
theorem dX4_isFull_139 : decode cX4_isFull 139 = .ok (.getfield 12, 3) := op180 (bA_at bd09_89_dec_31 3 rfl rfl) rfl
theorem dX4_isFull_142 : decode cX4_isFull 142 = .ok (.getfield 141, 3) := op180 (bA_at bd09_89_dec_31 4 rfl rfl) rfl
theorem dX4_isFull_145 : decode cX4_isFull 145 = .ok (.iconst 4, 1) := op7 (bA_at bd09_89_dec_31 5 rfl rfl)
theorem dX4_isFull_146 : decode cX4_isFull 146 = .ok (.if_icmp .ne 7, 3) := op160 (bA_at bd09_89_dec_31 6 rfl rfl) (by decide +kernel)
theorem dX4_isFull_149 : decode cX4_isFull 149 = .ok (.iconst 1, 1) := op4 (bA_at bd09_89_dec_31 7 rfl rfl)
theorem dX4_isFull_150 : decode cX4_isFull 150 = .ok (.goto 4, 3) := op167 (bA_at bd09_89_dec_31 8 rfl rfl) (by decide +kernel)
theorem dX4_isFull_153 : decode cX4_isFull 153 = .ok (.iconst 0, 1) := op3 (bA_at bd09_89_dec_31 9 rfl rfl)
theorem dX4_isFull_154 : decode cX4_isFull 154 = .ok (.ireturn, 1) := op172 (bA_at bd09_89_dec_31 10 rfl rfl)
theorem dX4_isFull_155 : decode cX4_isFull 155 = .ok (.aload_n 0, 1) := op42 (bA_at bd09_89_dec_31 11 rfl rfl)
theorem bd09_89_dec_32 : ([(0, [180, 0, 12]), (3, [180, 0, 111]), (6, [16, 6]), (8, [160, 0, 7]), (11, [4]), (12, [167, 0, 4]), (15, [3]), (16, [172]), (17, [42]), (18, [180, 0, 28]), (21, [180, 0, 99]), (24, [16, 10])] : List (Nat × List UInt8)).all (fun x => prB x.2 ((cX4_isFull.data.toList.drop 156).drop x.1)) = true := by decide +kernel
theorem dX4_isFull_156 : decode cX4_isFull 156 = .ok (.getfield 12, 3) := op180 (bA_at bd09_89_dec_32 0 rfl rfl) rfl
theorem dX4_isFull_159 : decode cX4_isFull 159 = .ok (.getfield 111, 3) := op180 (bA_at bd09_89_dec_32 1 rfl rfl) rfl
theorem dX4_isFull_162 : decode cX4_isFull 162 = .ok (.bipush 6, 2) := op16 (bA_at bd09_89_dec_32 2 rfl rfl) (by decide +kernel)
theorem dX4_isFull_164 : decode cX4_isFull 164 = .ok (.if_icmp .ne 7, 3) := op160 (bA_at bd09_89_dec_32 3 rfl rfl) (by decide +kernel)
theorem dX4_isFull_167 : decode cX4_isFull 167 = .ok (.iconst 1, 1) := op4 (bA_at bd09_89_dec_32 4 rfl rfl)
theorem dX4_isFull_168 : decode cX4_isFull 168 = .ok (.goto 4, 3) := op167 (bA_at bd09_89_dec_32 5 rfl rfl) (by decide +kernel)
theorem dX4_isFull_171 : decode cX4_isFull 171 = .ok (.iconst 0, 1) := op3 (bA_at bd09_89_dec_32 6 rfl rfl)
theorem dX4_isFull_172 : decode cX4_isFull 172 = .ok (.ireturn, 1) := op172 (bA_at bd09_89_dec_32 7 rfl rfl)
theorem dX4_isFull_173 : decode cX4_isFull 173 = .ok (.aload_n 0, 1) := op42 (bA_at bd09_89_dec_32 8 rfl rfl)
theorem dX4_isFull_174 : decode cX4_isFull 174 = .ok (.getfield 28, 3) := op180 (bA_at bd09_89_dec_32 9 rfl rfl) rfl
theorem dX4_isFull_177 : decode cX4_isFull 177 = .ok (.getfield 99, 3) := op180 (bA_at bd09_89_dec_32 10 rfl rfl) rfl
theorem dX4_isFull_180 : decode cX4_isFull 180 = .ok (.bipush 10, 2) := op16 (bA_at bd09_89_dec_32 11 rfl rfl) (by decide +kernel)
theorem bd09_89_dec_33 : ([(0, [160, 0, 7]), (3, [4]), (4, [167, 0, 4]), (7, [3]), (8, [172]), (9, [42]), (10, [180, 0, 35]), (13, [180, 0, 102]), (16, [16, 9]), (18, [160, 0, 7]), (21, [4]), (22, [167, 0, 4])] : List (Nat × List UInt8)).all (fun x => prB x.2 ((cX4_isFull.data.toList.drop 182).drop x.1)) = true := by decide +kernel
theorem dX4_isFull_182 : decode cX4_isFull 182 = .ok (.if_icmp .ne 7, 3) := op160 (bA_at bd09_89_dec_33 0 rfl rfl) (by decide +kernel)
theorem dX4_isFull_185 : decode cX4_isFull 185 = .ok (.iconst 1, 1) := op4 (bA_at bd09_89_dec_33 1 rfl rfl)
theorem dX4_isFull_186 : decode cX4_isFull 186 = .ok (.goto 4, 3) := op167 (bA_at bd09_89_dec_33 2 rfl rfl) (by decide +kernel)
theorem dX4_isFull_189 : decode cX4_isFull 189 = .ok (.iconst 0, 1) := op3 (bA_at bd09_89_dec_33 3 rfl rfl)
theorem dX4_isFull_190 : decode cX4_isFull 190 = .ok (.ireturn, 1) := op172 (bA_at bd09_89_dec_33 4 rfl rfl)
theorem dX4_isFull_191 : decode cX4_isFull 191 = .ok (.aload_n 0, 1) := op42 (bA_at bd09_89_dec_33 5 rfl rfl)
theorem dX4_isFull_192 : decode cX4_isFull 192 = .ok (.getfield 35, 3) := op180 (bA_at bd09_89_dec_33 6 rfl rfl) rfl
theorem dX4_isFull_195 : decode cX4_isFull 195 = .ok (.getfield 102, 3) := op180 (bA_at bd09_89_dec_33 7 rfl rfl) rfl
theorem dX4_isFull_198 : decode cX4_isFull 198 = .ok (.bipush 9, 2) := op16 (bA_at bd09_89_dec_33 8 rfl rfl) (by decide +kernel)
theorem dX4_isFull_200 : decode cX4_isFull 200 = .ok (.if_icmp .ne 7, 3) := op160 (bA_at bd09_89_dec_33 9 rfl rfl) (by decide +kernel)
theorem dX4_isFull_203 : decode cX4_isFull 203 = .ok (.iconst 1, 1) := op4 (bA_at bd09_89_dec_33 10 rfl rfl)
theorem dX4_isFull_204 : decode cX4_isFull 204 = .ok (.goto 4, 3) := op167 (bA_at bd09_89_dec_33 11 rfl rfl) (by decide +kernel)
theorem bd09_89_dec_34 : ([(0, [3]), (1, [172]), (2, [3]), (3, [172])] : List (Nat × List UInt8)).all (fun x => prB x.2 ((cX4_isFull.data.toList.drop 207).drop x.1)) = true := by decide +kernel
theorem dX4_isFull_207 : decode cX4_isFull 207 = .ok (.iconst 0, 1) := op3 (bA_at bd09_89_dec_34 0 rfl rfl)
theorem dX4_isFull_208 : decode cX4_isFull 208 = .ok (.ireturn, 1) := op172 (bA_at bd09_89_dec_34 1 rfl rfl)
theorem dX4_isFull_209 : decode cX4_isFull 209 = .ok (.iconst 0, 1) := op3 (bA_at bd09_89_dec_34 2 rfl rfl)
theorem dX4_isFull_210 : decode cX4_isFull 210 = .ok (.ireturn, 1) := op172 (bA_at bd09_89_dec_34 3 rfl rfl)
theorem bd09_89_dec_35 : ([(0, [27]), (1, [6]), (2, [104]), (3, [28]), (4, [96]), (5, [62]), (6, [42]), (7, [180, 0, 43]), (10, [28]), (11, [46]), (12, [178, 0, 144]), (15, [29])] : List (Nat × List UInt8)).all (fun x => prB x.2 ((cX4_canBe.data.toList.drop 0).drop x.1)) = true := by decide +kernel
theorem dX4_canBe_0 : decode cX4_canBe 0 = .ok (.iload_n 1, 1) := op27 (bA_at bd09_89_dec_35 0 rfl rfl)
theorem dX4_canBe_1 : decode cX4_canBe 1 = .ok (.iconst 3, 1) := op6 (bA_at bd09_89_dec_35 1 rfl rfl)
theorem dX4_canBe_2 : decode cX4_canBe 2 = .ok (.imul, 1) := op104 (bA_at bd09_89_dec_35 2 rfl rfl)
theorem dX4_canBe_3 : decode cX4_canBe 3 = .ok (.iload_n 2, 1) := op28 (bA_at bd09_89_dec_35 3 rfl rfl)
theorem dX4_canBe_4 : decode cX4_canBe 4 = .ok (.iadd, 1) := op96 (bA_at bd09_89_dec_35 4 rfl rfl)
theorem dX4_canBe_5 : decode cX4_canBe 5 = .ok (.istore_n 3, 1) := op62 (bA_at bd09_89_dec_35 5 rfl rfl)
theorem dX4_canBe_6 : decode cX4_canBe 6 = .ok (.aload_n 0, 1) := op42 (bA_at bd09_89_dec_35 6 rfl rfl)
theorem dX4_canBe_7 : decode cX4_canBe 7 = .ok (.getfield 43, 3) := op180 (bA_at bd09_89_dec_35 7 rfl rfl) rfl
theorem dX4_canBe_10 : decode cX4_canBe 10 = .ok (.iload_n 2, 1) := op28 (bA_at bd09_89_dec_35 8 rfl rfl)
theorem dX4_canBe_11 : decode cX4_canBe 11 = .ok (.iaload, 1) := op46 (bA_at bd09_89_dec_35 9 rfl rfl)
theorem dX4_canBe_12 : decode cX4_canBe 12 = .ok (.getstatic 144, 3) := op178 (bA_at bd09_89_dec_35 10 rfl rfl) rfl
theorem dX4_canBe_15 : decode cX4_canBe 15 = .ok (.iload_n 3, 1) := op29 (bA_at bd09_89_dec_35 11 rfl rfl)
theorem bd09_89_dec_36 : ([(0, [46]), (1, [161, 0, 17]), (4, [42]), (5, [180, 0, 43]), (8, [28]), (9, [46]), (10, [178, 0, 147]), (13, [29]), (14, [46]), (15, [164, 0, 5]), (18, [3]), (19, [172])] : List (Nat × List UInt8)).all (fun x => prB x.2 ((cX4_canBe.data.toList.drop 16).drop x.1)) = true := by decide +kernel
theorem dX4_canBe_16 : decode cX4_canBe 16 = .ok (.iaload, 1) := op46 (bA_at bd09_89_dec_36 0 rfl rfl)
theorem dX4_canBe_17 : decode cX4_canBe 17 = .ok (.if_icmp .lt 17, 3) := op161 (bA_at bd09_89_dec_36 1 rfl rfl) (by decide +kernel)
theorem dX4_canBe_20 : decode cX4_canBe 20 = .ok (.aload_n 0, 1) := op42 (bA_at bd09_89_dec_36 2 rfl rfl)
theorem dX4_canBe_21 : decode cX4_canBe 21 = .ok (.getfield 43, 3) := op180 (bA_at bd09_89_dec_36 3 rfl rfl) rfl
theorem dX4_canBe_24 : decode cX4_canBe 24 = .ok (.iload_n 2, 1) := op28 (bA_at bd09_89_dec_36 4 rfl rfl)
theorem dX4_canBe_25 : decode cX4_canBe 25 = .ok (.iaload, 1) := op46 (bA_at bd09_89_dec_36 5 rfl rfl)
theorem dX4_canBe_26 : decode cX4_canBe 26 = .ok (.getstatic 147, 3) := op178 (bA_at bd09_89_dec_36 6 rfl rfl) rfl
theorem dX4_canBe_29 : decode cX4_canBe 29 = .ok (.iload_n 3, 1) := op29 (bA_at bd09_89_dec_36 7 rfl rfl)
theorem dX4_canBe_30 : decode cX4_canBe 30 = .ok (.iaload, 1) := op46 (bA_at bd09_89_dec_36 8 rfl rfl)
theorem dX4_canBe_31 : decode cX4_canBe 31 = .ok (.if_icmp .le 5, 3) := op164 (bA_at bd09_89_dec_36 9 rfl rfl) (by decide +kernel)
theorem dX4_canBe_34 : decode cX4_canBe 34 = .ok (.iconst 0, 1) := op3 (bA_at bd09_89_dec_36 10 rfl rfl)
theorem dX4_canBe_35 : decode cX4_canBe 35 = .ok (.ireturn, 1) := op172 (bA_at bd09_89_dec_36 11 rfl rfl)
theorem bd09_89_dec_37 : ([(0, [28]), (1, [4]), (2, [160, 0, 29]), (5, [27]), (6, [8]), (7, [159, 0, 9]), (10, [27]), (11, [16, 6]), (13, [160, 0, 18]), (16, [42]), (17, [180, 0, 43]), (20, [4])] : List (Nat × List UInt8)).all (fun x => prB x.2 ((cX4_canBe.data.toList.drop 36).drop x.1)) = true := by decide +kernel
theorem dX4_canBe_36 : decode cX4_canBe 36 = .ok (.iload_n 2, 1) := op28 (bA_at bd09_89_dec_37 0 rfl rfl)
theorem dX4_canBe_37 : decode cX4_canBe 37 = .ok (.iconst 1, 1) := op4 (bA_at bd09_89_dec_37 1 rfl rfl)
theorem dX4_canBe_38 : decode cX4_canBe 38 = .ok (.if_icmp .ne 29, 3) := op160 (bA_at bd09_89_dec_37 2 rfl rfl) (by decide +kernel)
theorem dX4_canBe_41 : decode cX4_canBe 41 = .ok (.iload_n 1, 1) := op27 (bA_at bd09_89_dec_37 3 rfl rfl)
theorem dX4_canBe_42 : decode cX4_canBe 42 = .ok (.iconst 5, 1) := op8 (bA_at bd09_89_dec_37 4 rfl rfl)
theorem dX4_canBe_43 : decode cX4_canBe 43 = .ok (.if_icmp .eq 9, 3) := op159 (bA_at bd09_89_dec_37 5 rfl rfl) (by decide +kernel)
theorem dX4_canBe_46 : decode cX4_canBe 46 = .ok (.iload_n 1, 1) := op27 (bA_at bd09_89_dec_37 6 rfl rfl)
theorem dX4_canBe_47 : decode cX4_canBe 47 = .ok (.bipush 6, 2) := op16 (bA_at bd09_89_dec_37 7 rfl rfl) (by decide +kernel)
theorem dX4_canBe_49 : decode cX4_canBe 49 = .ok (.if_icmp .ne 18, 3) := op160 (bA_at bd09_89_dec_37 8 rfl rfl) (by decide +kernel)
theorem dX4_canBe_52 : decode cX4_canBe 52 = .ok (.aload_n 0, 1) := op42 (bA_at bd09_89_dec_37 9 rfl rfl)
theorem dX4_canBe_53 : decode cX4_canBe 53 = .ok (.getfield 43, 3) := op180 (bA_at bd09_89_dec_37 10 rfl rfl) rfl
theorem dX4_canBe_56 : decode cX4_canBe 56 = .ok (.iconst 1, 1) := op4 (bA_at bd09_89_dec_37 11 rfl rfl)
theorem bd09_89_dec_38 : ([(0, [46]), (1, [42]), (2, [180, 0, 43]), (5, [3]), (6, [46]), (7, [159, 0, 7]), (10, [4]), (11, [167, 0, 4]), (14, [3]), (15, [172])] : List (Nat × List UInt8)).all (fun x => prB x.2 ((cX4_canBe.data.toList.drop 57).drop x.1)) = true := by decide +kernel
theorem dX4_canBe_57 : decode cX4_canBe 57 = .ok (.iaload, 1) := op46 (bA_at bd09_89_dec_38 0 rfl rfl)
theorem dX4_canBe_58 : decode cX4_canBe 58 = .ok (.aload_n 0, 1) := op42 (bA_at bd09_89_dec_38 1 rfl rfl)
theorem dX4_canBe_59 : decode cX4_canBe 59 = .ok (.getfield 43, 3) := op180 (bA_at bd09_89_dec_38 2 rfl rfl) rfl
theorem dX4_canBe_62 : decode cX4_canBe 62 = .ok (.iconst 0, 1) := op3 (bA_at bd09_89_dec_38 3 rfl rfl)
theorem dX4_canBe_63 : decode cX4_canBe 63 = .ok (.iaload, 1) := op46 (bA_at bd09_89_dec_38 4 rfl rfl)
theorem dX4_canBe_64 : decode cX4_canBe 64 = .ok (.if_icmp .eq 7, 3) := op159 (bA_at bd09_89_dec_38 5 rfl rfl) (by decide +kernel)
theorem dX4_canBe_67 : decode cX4_canBe 67 = .ok (.iconst 1, 1) := op4 (bA_at bd09_89_dec_38 6 rfl rfl)
theorem dX4_canBe_68 : decode cX4_canBe 68 = .ok (.goto 4, 3) := op167 (bA_at bd09_89_dec_38 7 rfl rfl) (by decide +kernel)
theorem dX4_canBe_71 : decode cX4_canBe 71 = .ok (.iconst 0, 1) := op3 (bA_at bd09_89_dec_38 8 rfl rfl)
theorem dX4_canBe_72 : decode cX4_canBe 72 = .ok (.ireturn, 1) := op172 (bA_at bd09_89_dec_38 9 rfl rfl)
theorem bd09_89_dec_39 : ([(0, [27]), (1, [16, 10]), (3, [162, 0, 29]), (6, [42]), (7, [27]), (8, [42]), (9, [180, 0, 43]), (12, [3]), (13, [46]), (14, [42]), (15, [180, 0, 43]), (18, [4])] : List (Nat × List UInt8)).all (fun x => prB x.2 ((cX4_tell.data.toList.drop 0).drop x.1)) = true := by decide +kernel
theorem dX4_tell_0 : decode cX4_tell 0 = .ok (.iload_n 1, 1) := op27 (bA_at bd09_89_dec_39 0 rfl rfl)
theorem dX4_tell_1 : decode cX4_tell 1 = .ok (.bipush 10, 2) := op16 (bA_at bd09_89_dec_39 1 rfl rfl) (by decide +kernel)
theorem dX4_tell_3 : decode cX4_tell 3 = .ok (.if_icmp .ge 29, 3) := op162 (bA_at bd09_89_dec_39 2 rfl rfl) (by decide +kernel)
theorem dX4_tell_6 : decode cX4_tell 6 = .ok (.aload_n 0, 1) := op42 (bA_at bd09_89_dec_39 3 rfl rfl)
theorem dX4_tell_7 : decode cX4_tell 7 = .ok (.iload_n 1, 1) := op27 (bA_at bd09_89_dec_39 4 rfl rfl)
theorem dX4_tell_8 : decode cX4_tell 8 = .ok (.aload_n 0, 1) := op42 (bA_at bd09_89_dec_39 5 rfl rfl)
theorem dX4_tell_9 : decode cX4_tell 9 = .ok (.getfield 43, 3) := op180 (bA_at bd09_89_dec_39 6 rfl rfl) rfl
theorem dX4_tell_12 : decode cX4_tell 12 = .ok (.iconst 0, 1) := op3 (bA_at bd09_89_dec_39 7 rfl rfl)
theorem dX4_tell_13 : decode cX4_tell 13 = .ok (.iaload, 1) := op46 (bA_at bd09_89_dec_39 8 rfl rfl)
theorem dX4_tell_14 : decode cX4_tell 14 = .ok (.aload_n 0, 1) := op42 (bA_at bd09_89_dec_39 9 rfl rfl)
theorem dX4_tell_15 : decode cX4_tell 15 = .ok (.getfield 43, 3) := op180 (bA_at bd09_89_dec_39 10 rfl rfl) rfl
theorem dX4_tell_18 : decode cX4_tell 18 = .ok (.iconst 1, 1) := op4 (bA_at bd09_89_dec_39 11 rfl rfl)
theorem bd09_89_dec_40 : ([(0, [46]), (1, [42]), (2, [180, 0, 43]), (5, [5]), (6, [46]), (7, [182, 0, 150]), (10, [167, 0, 128]), (13, [27]), (14, [16, 16]), (16, [162, 0, 42]), (19, [42]), (20, [180, 0, 21])] : List (Nat × List UInt8)).all (fun x => prB x.2 ((cX4_tell.data.toList.drop 19).drop x.1)) = true := by decide +kernel
theorem dX4_tell_19 : decode cX4_tell 19 = .ok (.iaload, 1) := op46 (bA_at bd09_89_dec_40 0 rfl rfl)
theorem dX4_tell_20 : decode cX4_tell 20 = .ok (.aload_n 0, 1) := op42 (bA_at bd09_89_dec_40 1 rfl rfl)
theorem dX4_tell_21 : decode cX4_tell 21 = .ok (.getfield 43, 3) := op180 (bA_at bd09_89_dec_40 2 rfl rfl) rfl
theorem dX4_tell_24 : decode cX4_tell 24 = .ok (.iconst 2, 1) := op5 (bA_at bd09_89_dec_40 3 rfl rfl)
theorem dX4_tell_25 : decode cX4_tell 25 = .ok (.iaload, 1) := op46 (bA_at bd09_89_dec_40 4 rfl rfl)
theorem dX4_tell_26 : decode cX4_tell 26 = .ok (.invokevirtual 150, 3) := op182 (bA_at bd09_89_dec_40 5 rfl rfl) rfl
theorem dX4_tell_29 : decode cX4_tell 29 = .ok (.goto 128, 3) := op167 (bA_at bd09_89_dec_40 6 rfl rfl) (by decide +kernel)
theorem dX4_tell_32 : decode cX4_tell 32 = .ok (.iload_n 1, 1) := op27 (bA_at bd09_89_dec_40 7 rfl rfl)
theorem dX4_tell_33 : decode cX4_tell 33 = .ok (.bipush 16, 2) := op16 (bA_at bd09_89_dec_40 8 rfl rfl) (by decide +kernel)
theorem dX4_tell_35 : decode cX4_tell 35 = .ok (.if_icmp .ge 42, 3) := op162 (bA_at bd09_89_dec_40 9 rfl rfl) (by decide +kernel)
theorem dX4_tell_38 : decode cX4_tell 38 = .ok (.aload_n 0, 1) := op42 (bA_at bd09_89_dec_40 10 rfl rfl)
theorem dX4_tell_39 : decode cX4_tell 39 = .ok (.getfield 21, 3) := op180 (bA_at bd09_89_dec_40 11 rfl rfl) rfl
theorem bd09_89_dec_41 : ([(0, [27]), (1, [16, 10]), (3, [100]), (4, [42]), (5, [180, 0, 43]), (8, [3]), (9, [46]), (10, [178, 0, 128]), (13, [27]), (14, [46]), (15, [4]), (16, [164, 0, 12])] : List (Nat × List UInt8)).all (fun x => prB x.2 ((cX4_tell.data.toList.drop 42).drop x.1)) = true := by decide +kernel
theorem dX4_tell_42 : decode cX4_tell 42 = .ok (.iload_n 1, 1) := op27 (bA_at bd09_89_dec_41 0 rfl rfl)
theorem dX4_tell_43 : decode cX4_tell 43 = .ok (.bipush 10, 2) := op16 (bA_at bd09_89_dec_41 1 rfl rfl) (by decide +kernel)
theorem dX4_tell_45 : decode cX4_tell 45 = .ok (.isub, 1) := op100 (bA_at bd09_89_dec_41 2 rfl rfl)
theorem dX4_tell_46 : decode cX4_tell 46 = .ok (.aload_n 0, 1) := op42 (bA_at bd09_89_dec_41 3 rfl rfl)
theorem dX4_tell_47 : decode cX4_tell 47 = .ok (.getfield 43, 3) := op180 (bA_at bd09_89_dec_41 4 rfl rfl) rfl
theorem dX4_tell_50 : decode cX4_tell 50 = .ok (.iconst 0, 1) := op3 (bA_at bd09_89_dec_41 5 rfl rfl)
theorem dX4_tell_51 : decode cX4_tell 51 = .ok (.iaload, 1) := op46 (bA_at bd09_89_dec_41 6 rfl rfl)
theorem dX4_tell_52 : decode cX4_tell 52 = .ok (.getstatic 128, 3) := op178 (bA_at bd09_89_dec_41 7 rfl rfl) rfl
theorem dX4_tell_55 : decode cX4_tell 55 = .ok (.iload_n 1, 1) := op27 (bA_at bd09_89_dec_41 8 rfl rfl)
theorem dX4_tell_56 : decode cX4_tell 56 = .ok (.iaload, 1) := op46 (bA_at bd09_89_dec_41 9 rfl rfl)
theorem dX4_tell_57 : decode cX4_tell 57 = .ok (.iconst 1, 1) := op4 (bA_at bd09_89_dec_41 10 rfl rfl)
theorem dX4_tell_58 : decode cX4_tell 58 = .ok (.if_icmp .le 12, 3) := op164 (bA_at bd09_89_dec_41 11 rfl rfl) (by decide +kernel)
theorem bd09_89_dec_42 : ([(0, [42]), (1, [180, 0, 43]), (4, [4]), (5, [46]), (6, [167, 0, 4]), (9, [2]), (10, [182, 0, 154]), (13, [167, 0, 83]), (16, [27]), (17, [16, 18]), (19, [162, 0, 36]), (22, [42])] : List (Nat × List UInt8)).all (fun x => prB x.2 ((cX4_tell.data.toList.drop 61).drop x.1)) = true := by decide +kernel
theorem dX4_tell_61 : decode cX4_tell 61 = .ok (.aload_n 0, 1) := op42 (bA_at bd09_89_dec_42 0 rfl rfl)
theorem dX4_tell_62 : decode cX4_tell 62 = .ok (.getfield 43, 3) := op180 (bA_at bd09_89_dec_42 1 rfl rfl) rfl
theorem dX4_tell_65 : decode cX4_tell 65 = .ok (.iconst 1, 1) := op4 (bA_at bd09_89_dec_42 2 rfl rfl)
theorem dX4_tell_66 : decode cX4_tell 66 = .ok (.iaload, 1) := op46 (bA_at bd09_89_dec_42 3 rfl rfl)
theorem dX4_tell_67 : decode cX4_tell 67 = .ok (.goto 4, 3) := op167 (bA_at bd09_89_dec_42 4 rfl rfl) (by decide +kernel)
theorem dX4_tell_70 : decode cX4_tell 70 = .ok (.iconst (-1), 1) := op2 (bA_at bd09_89_dec_42 5 rfl rfl)
theorem dX4_tell_71 : decode cX4_tell 71 = .ok (.invokevirtual 154, 3) := op182 (bA_at bd09_89_dec_42 6 rfl rfl) rfl
theorem dX4_tell_74 : decode cX4_tell 74 = .ok (.goto 83, 3) := op167 (bA_at bd09_89_dec_42 7 rfl rfl) (by decide +kernel)
theorem dX4_tell_77 : decode cX4_tell 77 = .ok (.iload_n 1, 1) := op27 (bA_at bd09_89_dec_42 8 rfl rfl)
theorem dX4_tell_78 : decode cX4_tell 78 = .ok (.bipush 18, 2) := op16 (bA_at bd09_89_dec_42 9 rfl rfl) (by decide +kernel)
theorem dX4_tell_80 : decode cX4_tell 80 = .ok (.if_icmp .ge 36, 3) := op162 (bA_at bd09_89_dec_42 10 rfl rfl) (by decide +kernel)
theorem dX4_tell_83 : decode cX4_tell 83 = .ok (.aload_n 0, 1) := op42 (bA_at bd09_89_dec_42 11 rfl rfl)
theorem bd09_89_dec_43 : ([(0, [180, 0, 28]), (3, [27]), (4, [16, 16]), (6, [160, 0, 7]), (9, [4]), (10, [167, 0, 4]), (13, [3]), (14, [42]), (15, [180, 0, 43]), (18, [3]), (19, [46]), (20, [42])] : List (Nat × List UInt8)).all (fun x => prB x.2 ((cX4_tell.data.toList.drop 84).drop x.1)) = true := by decide +kernel
theorem dX4_tell_84 : decode cX4_tell 84 = .ok (.getfield 28, 3) := op180 (bA_at bd09_89_dec_43 0 rfl rfl) rfl
theorem dX4_tell_87 : decode cX4_tell 87 = .ok (.iload_n 1, 1) := op27 (bA_at bd09_89_dec_43 1 rfl rfl)
theorem dX4_tell_88 : decode cX4_tell 88 = .ok (.bipush 16, 2) := op16 (bA_at bd09_89_dec_43 2 rfl rfl) (by decide +kernel)
theorem dX4_tell_90 : decode cX4_tell 90 = .ok (.if_icmp .ne 7, 3) := op160 (bA_at bd09_89_dec_43 3 rfl rfl) (by decide +kernel)
theorem dX4_tell_93 : decode cX4_tell 93 = .ok (.iconst 1, 1) := op4 (bA_at bd09_89_dec_43 4 rfl rfl)
theorem dX4_tell_94 : decode cX4_tell 94 = .ok (.goto 4, 3) := op167 (bA_at bd09_89_dec_43 5 rfl rfl) (by decide +kernel)
theorem dX4_tell_97 : decode cX4_tell 97 = .ok (.iconst 0, 1) := op3 (bA_at bd09_89_dec_43 6 rfl rfl)
theorem dX4_tell_98 : decode cX4_tell 98 = .ok (.aload_n 0, 1) := op42 (bA_at bd09_89_dec_43 7 rfl rfl)
theorem dX4_tell_99 : decode cX4_tell 99 = .ok (.getfield 43, 3) := op180 (bA_at bd09_89_dec_43 8 rfl rfl) rfl
theorem dX4_tell_102 : decode cX4_tell 102 = .ok (.iconst 0, 1) := op3 (bA_at bd09_89_dec_43 9 rfl rfl)
theorem dX4_tell_103 : decode cX4_tell 103 = .ok (.iaload, 1) := op46 (bA_at bd09_89_dec_43 10 rfl rfl)
theorem dX4_tell_104 : decode cX4_tell 104 = .ok (.aload_n 0, 1) := op42 (bA_at bd09_89_dec_43 11 rfl rfl)
theorem bd09_89_dec_44 : ([(0, [180, 0, 43]), (3, [4]), (4, [46]), (5, [182, 0, 157]), (8, [167, 0, 44]), (11, [27]), (12, [16, 18]), (14, [160, 0, 25]), (17, [42]), (18, [180, 0, 35]), (21, [42]), (22, [180, 0, 43])] : List (Nat × List UInt8)).all (fun x => prB x.2 ((cX4_tell.data.toList.drop 105).drop x.1)) = true := by decide +kernel
theorem dX4_tell_105 : decode cX4_tell 105 = .ok (.getfield 43, 3) := op180 (bA_at bd09_89_dec_44 0 rfl rfl) rfl
theorem dX4_tell_108 : decode cX4_tell 108 = .ok (.iconst 1, 1) := op4 (bA_at bd09_89_dec_44 1 rfl rfl)
theorem dX4_tell_109 : decode cX4_tell 109 = .ok (.iaload, 1) := op46 (bA_at bd09_89_dec_44 2 rfl rfl)
theorem dX4_tell_110 : decode cX4_tell 110 = .ok (.invokevirtual 157, 3) := op182 (bA_at bd09_89_dec_44 3 rfl rfl) rfl
theorem dX4_tell_113 : decode cX4_tell 113 = .ok (.goto 44, 3) := op167 (bA_at bd09_89_dec_44 4 rfl rfl) (by decide +kernel)
theorem dX4_tell_116 : decode cX4_tell 116 = .ok (.iload_n 1, 1) := op27 (bA_at bd09_89_dec_44 5 rfl rfl)
theorem dX4_tell_117 : decode cX4_tell 117 = .ok (.bipush 18, 2) := op16 (bA_at bd09_89_dec_44 6 rfl rfl) (by decide +kernel)
theorem dX4_tell_119 : decode cX4_tell 119 = .ok (.if_icmp .ne 25, 3) := op160 (bA_at bd09_89_dec_44 7 rfl rfl) (by decide +kernel)
theorem dX4_tell_122 : decode cX4_tell 122 = .ok (.aload_n 0, 1) := op42 (bA_at bd09_89_dec_44 8 rfl rfl)
theorem dX4_tell_123 : decode cX4_tell 123 = .ok (.getfield 35, 3) := op180 (bA_at bd09_89_dec_44 9 rfl rfl) rfl
theorem dX4_tell_126 : decode cX4_tell 126 = .ok (.aload_n 0, 1) := op42 (bA_at bd09_89_dec_44 10 rfl rfl)
theorem dX4_tell_127 : decode cX4_tell 127 = .ok (.getfield 43, 3) := op180 (bA_at bd09_89_dec_44 11 rfl rfl) rfl
theorem bd09_89_dec_45 : ([(0, [3]), (1, [46]), (2, [42]), (3, [180, 0, 43]), (6, [4]), (7, [46]), (8, [182, 0, 158]), (11, [167, 0, 16]), (14, [42]), (15, [180, 0, 35]), (18, [42]), (19, [180, 0, 43])] : List (Nat × List UInt8)).all (fun x => prB x.2 ((cX4_tell.data.toList.drop 130).drop x.1)) = true := by decide +kernel
theorem dX4_tell_130 : decode cX4_tell 130 = .ok (.iconst 0, 1) := op3 (bA_at bd09_89_dec_45 0 rfl rfl)
theorem dX4_tell_131 : decode cX4_tell 131 = .ok (.iaload, 1) := op46 (bA_at bd09_89_dec_45 1 rfl rfl)
theorem dX4_tell_132 : decode cX4_tell 132 = .ok (.aload_n 0, 1) := op42 (bA_at bd09_89_dec_45 2 rfl rfl)
theorem dX4_tell_133 : decode cX4_tell 133 = .ok (.getfield 43, 3) := op180 (bA_at bd09_89_dec_45 3 rfl rfl) rfl
theorem dX4_tell_136 : decode cX4_tell 136 = .ok (.iconst 1, 1) := op4 (bA_at bd09_89_dec_45 4 rfl rfl)
theorem dX4_tell_137 : decode cX4_tell 137 = .ok (.iaload, 1) := op46 (bA_at bd09_89_dec_45 5 rfl rfl)
theorem dX4_tell_138 : decode cX4_tell 138 = .ok (.invokevirtual 158, 3) := op182 (bA_at bd09_89_dec_45 6 rfl rfl) rfl
theorem dX4_tell_141 : decode cX4_tell 141 = .ok (.goto 16, 3) := op167 (bA_at bd09_89_dec_45 7 rfl rfl) (by decide +kernel)
theorem dX4_tell_144 : decode cX4_tell 144 = .ok (.aload_n 0, 1) := op42 (bA_at bd09_89_dec_45 8 rfl rfl)
theorem dX4_tell_145 : decode cX4_tell 145 = .ok (.getfield 35, 3) := op180 (bA_at bd09_89_dec_45 9 rfl rfl) rfl
theorem dX4_tell_148 : decode cX4_tell 148 = .ok (.aload_n 0, 1) := op42 (bA_at bd09_89_dec_45 10 rfl rfl)
theorem dX4_tell_149 : decode cX4_tell 149 = .ok (.getfield 43, 3) := op180 (bA_at bd09_89_dec_45 11 rfl rfl) rfl
theorem bd09_89_dec_46 : ([(0, [3]), (1, [46]), (2, [181, 0, 105]), (5, [177])] : List (Nat × List UInt8)).all (fun x => prB x.2 ((cX4_tell.data.toList.drop 152).drop x.1)) = true := by decide +kernel
theorem dX4_tell_152 : decode cX4_tell 152 = .ok (.iconst 0, 1) := op3 (bA_at bd09_89_dec_46 0 rfl rfl)
theorem dX4_tell_153 : decode cX4_tell 153 = .ok (.iaload, 1) := op46 (bA_at bd09_89_dec_46 1 rfl rfl)
theorem dX4_tell_154 : decode cX4_tell 154 = .ok (.putfield 105, 3) := op181 (bA_at bd09_89_dec_46 2 rfl rfl) rfl
theorem dX4_tell_157 : decode cX4_tell 157 = .ok (.return_, 1) := op177 (bA_at bd09_89_dec_46 3 rfl rfl)
theorem dX4_tellOfLand_1 : decode cX4_tellOfLand 1 = .ok (.tableswitch 365 0 8 #[51, 83, 113, 143, 154, 165, 216, 280, 305], 51) := by decide +kernel
theorem bd09_89_dec_47 : ([(0, [27]), (52, [42]), (53, [180, 0, 12]), (56, [180, 0, 160]), (59, [42]), (60, [180, 0, 12]), (63, [180, 0, 108]), (66, [28]), (67, [79]), (68, [42]), (69, [180, 0, 12])] : List (Nat × List UInt8)).all (fun x => prB x.2 ((cX4_tellOfLand.data.toList.drop 0).drop x.1)) = true := by decide +kernel
theorem dX4_tellOfLand_0 : decode cX4_tellOfLand 0 = .ok (.iload_n 1, 1) := op27 (bA_at bd09_89_dec_47 0 rfl rfl)
theorem dX4_tellOfLand_52 : decode cX4_tellOfLand 52 = .ok (.aload_n 0, 1) := op42 (bA_at bd09_89_dec_47 1 rfl rfl)
theorem dX4_tellOfLand_53 : decode cX4_tellOfLand 53 = .ok (.getfield 12, 3) := op180 (bA_at bd09_89_dec_47 2 rfl rfl) rfl
theorem dX4_tellOfLand_56 : decode cX4_tellOfLand 56 = .ok (.getfield 160, 3) := op180 (bA_at bd09_89_dec_47 3 rfl rfl) rfl
theorem dX4_tellOfLand_59 : decode cX4_tellOfLand 59 = .ok (.aload_n 0, 1) := op42 (bA_at bd09_89_dec_47 4 rfl rfl)
theorem dX4_tellOfLand_60 : decode cX4_tellOfLand 60 = .ok (.getfield 12, 3) := op180 (bA_at bd09_89_dec_47 5 rfl rfl) rfl
theorem dX4_tellOfLand_63 : decode cX4_tellOfLand 63 = .ok (.getfield 108, 3) := op180 (bA_at bd09_89_dec_47 6 rfl rfl) rfl
theorem dX4_tellOfLand_66 : decode cX4_tellOfLand 66 = .ok (.iload_n 2, 1) := op28 (bA_at bd09_89_dec_47 7 rfl rfl)
theorem dX4_tellOfLand_67 : decode cX4_tellOfLand 67 = .ok (.iastore, 1) := op79 (bA_at bd09_89_dec_47 8 rfl rfl)
theorem dX4_tellOfLand_68 : decode cX4_tellOfLand 68 = .ok (.aload_n 0, 1) := op42 (bA_at bd09_89_dec_47 9 rfl rfl)
theorem dX4_tellOfLand_69 : decode cX4_tellOfLand 69 = .ok (.getfield 12, 3) := op180 (bA_at bd09_89_dec_47 10 rfl rfl) rfl
theorem bd09_89_dec_48 : ([(0, [89]), (1, [180, 0, 108]), (4, [4]), (5, [96]), (6, [181, 0, 108]), (9, [167, 1, 56]), (12, [42]), (13, [180, 0, 12]), (16, [89]), (17, [180, 0, 163]), (20, [4]), (21, [28])] : List (Nat × List UInt8)).all (fun x => prB x.2 ((cX4_tellOfLand.data.toList.drop 72).drop x.1)) = true := by decide +kernel
theorem dX4_tellOfLand_72 : decode cX4_tellOfLand 72 = .ok (.dup, 1) := op89 (bA_at bd09_89_dec_48 0 rfl rfl)
theorem dX4_tellOfLand_73 : decode cX4_tellOfLand 73 = .ok (.getfield 108, 3) := op180 (bA_at bd09_89_dec_48 1 rfl rfl) rfl
theorem dX4_tellOfLand_76 : decode cX4_tellOfLand 76 = .ok (.iconst 1, 1) := op4 (bA_at bd09_89_dec_48 2 rfl rfl)
theorem dX4_tellOfLand_77 : decode cX4_tellOfLand 77 = .ok (.iadd, 1) := op96 (bA_at bd09_89_dec_48 3 rfl rfl)
theorem dX4_tellOfLand_78 : decode cX4_tellOfLand 78 = .ok (.putfield 108, 3) := op181 (bA_at bd09_89_dec_48 4 rfl rfl) rfl
theorem dX4_tellOfLand_81 : decode cX4_tellOfLand 81 = .ok (.goto 312, 3) := op167 (bA_at bd09_89_dec_48 5 rfl rfl) (by decide +kernel)
theorem dX4_tellOfLand_84 : decode cX4_tellOfLand 84 = .ok (.aload_n 0, 1) := op42 (bA_at bd09_89_dec_48 6 rfl rfl)
theorem dX4_tellOfLand_85 : decode cX4_tellOfLand 85 = .ok (.getfield 12, 3) := op180 (bA_at bd09_89_dec_48 7 rfl rfl) rfl
theorem dX4_tellOfLand_88 : decode cX4_tellOfLand 88 = .ok (.dup, 1) := op89 (bA_at bd09_89_dec_48 8 rfl rfl)
theorem dX4_tellOfLand_89 : decode cX4_tellOfLand 89 = .ok (.getfield 163, 3) := op180 (bA_at bd09_89_dec_48 9 rfl rfl) rfl
theorem dX4_tellOfLand_92 : decode cX4_tellOfLand 92 = .ok (.iconst 1, 1) := op4 (bA_at bd09_89_dec_48 10 rfl rfl)
theorem dX4_tellOfLand_93 : decode cX4_tellOfLand 93 = .ok (.iload_n 2, 1) := op28 (bA_at bd09_89_dec_48 11 rfl rfl)
theorem bd09_89_dec_49 : ([(0, [120]), (1, [128]), (2, [181, 0, 163]), (5, [42]), (6, [89]), (7, [180, 0, 90]), (10, [4]), (11, [28]), (12, [120]), (13, [128]), (14, [181, 0, 90]), (17, [167, 1, 26])] : List (Nat × List UInt8)).all (fun x => prB x.2 ((cX4_tellOfLand.data.toList.drop 94).drop x.1)) = true := by decide +kernel
theorem dX4_tellOfLand_94 : decode cX4_tellOfLand 94 = .ok (.ishl, 1) := op120 (bA_at bd09_89_dec_49 0 rfl rfl)
theorem dX4_tellOfLand_95 : decode cX4_tellOfLand 95 = .ok (.ior, 1) := op128 (bA_at bd09_89_dec_49 1 rfl rfl)
theorem dX4_tellOfLand_96 : decode cX4_tellOfLand 96 = .ok (.putfield 163, 3) := op181 (bA_at bd09_89_dec_49 2 rfl rfl) rfl
theorem dX4_tellOfLand_99 : decode cX4_tellOfLand 99 = .ok (.aload_n 0, 1) := op42 (bA_at bd09_89_dec_49 3 rfl rfl)
theorem dX4_tellOfLand_100 : decode cX4_tellOfLand 100 = .ok (.dup, 1) := op89 (bA_at bd09_89_dec_49 4 rfl rfl)
theorem dX4_tellOfLand_101 : decode cX4_tellOfLand 101 = .ok (.getfield 90, 3) := op180 (bA_at bd09_89_dec_49 5 rfl rfl) rfl
theorem dX4_tellOfLand_104 : decode cX4_tellOfLand 104 = .ok (.iconst 1, 1) := op4 (bA_at bd09_89_dec_49 6 rfl rfl)
theorem dX4_tellOfLand_105 : decode cX4_tellOfLand 105 = .ok (.iload_n 2, 1) := op28 (bA_at bd09_89_dec_49 7 rfl rfl)
theorem dX4_tellOfLand_106 : decode cX4_tellOfLand 106 = .ok (.ishl, 1) := op120 (bA_at bd09_89_dec_49 8 rfl rfl)
theorem dX4_tellOfLand_107 : decode cX4_tellOfLand 107 = .ok (.ior, 1) := op128 (bA_at bd09_89_dec_49 9 rfl rfl)
theorem dX4_tellOfLand_108 : decode cX4_tellOfLand 108 = .ok (.putfield 90, 3) := op181 (bA_at bd09_89_dec_49 10 rfl rfl) rfl
theorem dX4_tellOfLand_111 : decode cX4_tellOfLand 111 = .ok (.goto 282, 3) := op167 (bA_at bd09_89_dec_49 11 rfl rfl) (by decide +kernel)
theorem bd09_89_dec_50 : ([(0, [42]), (1, [180, 0, 12]), (4, [89]), (5, [180, 0, 166]), (8, [4]), (9, [28]), (10, [120]), (11, [128]), (12, [181, 0, 166]), (15, [42]), (16, [89]), (17, [180, 0, 90])] : List (Nat × List UInt8)).all (fun x => prB x.2 ((cX4_tellOfLand.data.toList.drop 114).drop x.1)) = true := by decide +kernel
theorem dX4_tellOfLand_114 : decode cX4_tellOfLand 114 = .ok (.aload_n 0, 1) := op42 (bA_at bd09_89_dec_50 0 rfl rfl)
theorem dX4_tellOfLand_115 : decode cX4_tellOfLand 115 = .ok (.getfield 12, 3) := op180 (bA_at bd09_89_dec_50 1 rfl rfl) rfl
theorem dX4_tellOfLand_118 : decode cX4_tellOfLand 118 = .ok (.dup, 1) := op89 (bA_at bd09_89_dec_50 2 rfl rfl)
theorem dX4_tellOfLand_119 : decode cX4_tellOfLand 119 = .ok (.getfield 166, 3) := op180 (bA_at bd09_89_dec_50 3 rfl rfl) rfl
theorem dX4_tellOfLand_122 : decode cX4_tellOfLand 122 = .ok (.iconst 1, 1) := op4 (bA_at bd09_89_dec_50 4 rfl rfl)
theorem dX4_tellOfLand_123 : decode cX4_tellOfLand 123 = .ok (.iload_n 2, 1) := op28 (bA_at bd09_89_dec_50 5 rfl rfl)
theorem dX4_tellOfLand_124 : decode cX4_tellOfLand 124 = .ok (.ishl, 1) := op120 (bA_at bd09_89_dec_50 6 rfl rfl)
theorem dX4_tellOfLand_125 : decode cX4_tellOfLand 125 = .ok (.ior, 1) := op128 (bA_at bd09_89_dec_50 7 rfl rfl)
theorem dX4_tellOfLand_126 : decode cX4_tellOfLand 126 = .ok (.putfield 166, 3) := op181 (bA_at bd09_89_dec_50 8 rfl rfl) rfl
theorem dX4_tellOfLand_129 : decode cX4_tellOfLand 129 = .ok (.aload_n 0, 1) := op42 (bA_at bd09_89_dec_50 9 rfl rfl)
theorem dX4_tellOfLand_130 : decode cX4_tellOfLand 130 = .ok (.dup, 1) := op89 (bA_at bd09_89_dec_50 10 rfl rfl)
theorem dX4_tellOfLand_131 : decode cX4_tellOfLand 131 = .ok (.getfield 90, 3) := op180 (bA_at bd09_89_dec_50 11 rfl rfl) rfl
theorem bd09_89_dec_51 : ([(0, [4]), (1, [28]), (2, [120]), (3, [128]), (4, [181, 0, 90]), (7, [167, 0, 252]), (10, [42]), (11, [180, 0, 12]), (14, [28]), (15, [181, 0, 169]), (18, [167, 0, 241]), (21, [42])] : List (Nat × List UInt8)).all (fun x => prB x.2 ((cX4_tellOfLand.data.toList.drop 134).drop x.1)) = true := by decide +kernel
theorem dX4_tellOfLand_134 : decode cX4_tellOfLand 134 = .ok (.iconst 1, 1) := op4 (bA_at bd09_89_dec_51 0 rfl rfl)
theorem dX4_tellOfLand_135 : decode cX4_tellOfLand 135 = .ok (.iload_n 2, 1) := op28 (bA_at bd09_89_dec_51 1 rfl rfl)
theorem dX4_tellOfLand_136 : decode cX4_tellOfLand 136 = .ok (.ishl, 1) := op120 (bA_at bd09_89_dec_51 2 rfl rfl)
theorem dX4_tellOfLand_137 : decode cX4_tellOfLand 137 = .ok (.ior, 1) := op128 (bA_at bd09_89_dec_51 3 rfl rfl)
theorem dX4_tellOfLand_138 : decode cX4_tellOfLand 138 = .ok (.putfield 90, 3) := op181 (bA_at bd09_89_dec_51 4 rfl rfl) rfl
theorem dX4_tellOfLand_141 : decode cX4_tellOfLand 141 = .ok (.goto 252, 3) := op167 (bA_at bd09_89_dec_51 5 rfl rfl) (by decide +kernel)
theorem dX4_tellOfLand_144 : decode cX4_tellOfLand 144 = .ok (.aload_n 0, 1) := op42 (bA_at bd09_89_dec_51 6 rfl rfl)
theorem dX4_tellOfLand_145 : decode cX4_tellOfLand 145 = .ok (.getfield 12, 3) := op180 (bA_at bd09_89_dec_51 7 rfl rfl) rfl
theorem dX4_tellOfLand_148 : decode cX4_tellOfLand 148 = .ok (.iload_n 2, 1) := op28 (bA_at bd09_89_dec_51 8 rfl rfl)
theorem dX4_tellOfLand_149 : decode cX4_tellOfLand 149 = .ok (.putfield 169, 3) := op181 (bA_at bd09_89_dec_51 9 rfl rfl) rfl
theorem dX4_tellOfLand_152 : decode cX4_tellOfLand 152 = .ok (.goto 241, 3) := op167 (bA_at bd09_89_dec_51 10 rfl rfl) (by decide +kernel)
theorem dX4_tellOfLand_155 : decode cX4_tellOfLand 155 = .ok (.aload_n 0, 1) := op42 (bA_at bd09_89_dec_51 11 rfl rfl)
theorem bd09_89_dec_52 : ([(0, [180, 0, 12]), (3, [28]), (4, [181, 0, 172]), (7, [167, 0, 230]), (10, [42]), (11, [180, 0, 12]), (14, [180, 0, 175]), (17, [28]), (18, [16, 9]), (20, [104]), (21, [29]), (22, [96])] : List (Nat × List UInt8)).all (fun x => prB x.2 ((cX4_tellOfLand.data.toList.drop 156).drop x.1)) = true := by decide +kernel
theorem dX4_tellOfLand_156 : decode cX4_tellOfLand 156 = .ok (.getfield 12, 3) := op180 (bA_at bd09_89_dec_52 0 rfl rfl) rfl
theorem dX4_tellOfLand_159 : decode cX4_tellOfLand 159 = .ok (.iload_n 2, 1) := op28 (bA_at bd09_89_dec_52 1 rfl rfl)
theorem dX4_tellOfLand_160 : decode cX4_tellOfLand 160 = .ok (.putfield 172, 3) := op181 (bA_at bd09_89_dec_52 2 rfl rfl) rfl
theorem dX4_tellOfLand_163 : decode cX4_tellOfLand 163 = .ok (.goto 230, 3) := op167 (bA_at bd09_89_dec_52 3 rfl rfl) (by decide +kernel)
theorem dX4_tellOfLand_166 : decode cX4_tellOfLand 166 = .ok (.aload_n 0, 1) := op42 (bA_at bd09_89_dec_52 4 rfl rfl)
theorem dX4_tellOfLand_167 : decode cX4_tellOfLand 167 = .ok (.getfield 12, 3) := op180 (bA_at bd09_89_dec_52 5 rfl rfl) rfl
theorem dX4_tellOfLand_170 : decode cX4_tellOfLand 170 = .ok (.getfield 175, 3) := op180 (bA_at bd09_89_dec_52 6 rfl rfl) rfl
theorem dX4_tellOfLand_173 : decode cX4_tellOfLand 173 = .ok (.iload_n 2, 1) := op28 (bA_at bd09_89_dec_52 7 rfl rfl)
theorem dX4_tellOfLand_174 : decode cX4_tellOfLand 174 = .ok (.bipush 9, 2) := op16 (bA_at bd09_89_dec_52 8 rfl rfl) (by decide +kernel)
theorem dX4_tellOfLand_176 : decode cX4_tellOfLand 176 = .ok (.imul, 1) := op104 (bA_at bd09_89_dec_52 9 rfl rfl)
theorem dX4_tellOfLand_177 : decode cX4_tellOfLand 177 = .ok (.iload_n 3, 1) := op29 (bA_at bd09_89_dec_52 10 rfl rfl)
theorem dX4_tellOfLand_178 : decode cX4_tellOfLand 178 = .ok (.iadd, 1) := op96 (bA_at bd09_89_dec_52 11 rfl rfl)
theorem bd09_89_dec_53 : ([(0, [21, 4]), (2, [79]), (3, [42]), (4, [180, 0, 12]), (7, [180, 0, 175]), (10, [29]), (11, [16, 9]), (13, [104]), (14, [28]), (15, [96]), (16, [21, 4]), (18, [79])] : List (Nat × List UInt8)).all (fun x => prB x.2 ((cX4_tellOfLand.data.toList.drop 179).drop x.1)) = true := by decide +kernel
theorem dX4_tellOfLand_179 : decode cX4_tellOfLand 179 = .ok (.iload 4, 2) := op21 (bA_at bd09_89_dec_53 0 rfl rfl) rfl
theorem dX4_tellOfLand_181 : decode cX4_tellOfLand 181 = .ok (.iastore, 1) := op79 (bA_at bd09_89_dec_53 1 rfl rfl)
theorem dX4_tellOfLand_182 : decode cX4_tellOfLand 182 = .ok (.aload_n 0, 1) := op42 (bA_at bd09_89_dec_53 2 rfl rfl)
theorem dX4_tellOfLand_183 : decode cX4_tellOfLand 183 = .ok (.getfield 12, 3) := op180 (bA_at bd09_89_dec_53 3 rfl rfl) rfl
theorem dX4_tellOfLand_186 : decode cX4_tellOfLand 186 = .ok (.getfield 175, 3) := op180 (bA_at bd09_89_dec_53 4 rfl rfl) rfl
theorem dX4_tellOfLand_189 : decode cX4_tellOfLand 189 = .ok (.iload_n 3, 1) := op29 (bA_at bd09_89_dec_53 5 rfl rfl)
theorem dX4_tellOfLand_190 : decode cX4_tellOfLand 190 = .ok (.bipush 9, 2) := op16 (bA_at bd09_89_dec_53 6 rfl rfl) (by decide +kernel)
theorem dX4_tellOfLand_192 : decode cX4_tellOfLand 192 = .ok (.imul, 1) := op104 (bA_at bd09_89_dec_53 7 rfl rfl)
theorem dX4_tellOfLand_193 : decode cX4_tellOfLand 193 = .ok (.iload_n 2, 1) := op28 (bA_at bd09_89_dec_53 8 rfl rfl)
theorem dX4_tellOfLand_194 : decode cX4_tellOfLand 194 = .ok (.iadd, 1) := op96 (bA_at bd09_89_dec_53 9 rfl rfl)
theorem dX4_tellOfLand_195 : decode cX4_tellOfLand 195 = .ok (.iload 4, 2) := op21 (bA_at bd09_89_dec_53 10 rfl rfl) rfl
theorem dX4_tellOfLand_197 : decode cX4_tellOfLand 197 = .ok (.iastore, 1) := op79 (bA_at bd09_89_dec_53 11 rfl rfl)
theorem bd09_89_dec_54 : ([(0, [42]), (1, [89]), (2, [180, 0, 90]), (5, [4]), (6, [28]), (7, [120]), (8, [4]), (9, [29]), (10, [120]), (11, [128]), (12, [128]), (13, [181, 0, 90])] : List (Nat × List UInt8)).all (fun x => prB x.2 ((cX4_tellOfLand.data.toList.drop 198).drop x.1)) = true := by decide +kernel
theorem dX4_tellOfLand_198 : decode cX4_tellOfLand 198 = .ok (.aload_n 0, 1) := op42 (bA_at bd09_89_dec_54 0 rfl rfl)
theorem dX4_tellOfLand_199 : decode cX4_tellOfLand 199 = .ok (.dup, 1) := op89 (bA_at bd09_89_dec_54 1 rfl rfl)
theorem dX4_tellOfLand_200 : decode cX4_tellOfLand 200 = .ok (.getfield 90, 3) := op180 (bA_at bd09_89_dec_54 2 rfl rfl) rfl
theorem dX4_tellOfLand_203 : decode cX4_tellOfLand 203 = .ok (.iconst 1, 1) := op4 (bA_at bd09_89_dec_54 3 rfl rfl)
theorem dX4_tellOfLand_204 : decode cX4_tellOfLand 204 = .ok (.iload_n 2, 1) := op28 (bA_at bd09_89_dec_54 4 rfl rfl)
theorem dX4_tellOfLand_205 : decode cX4_tellOfLand 205 = .ok (.ishl, 1) := op120 (bA_at bd09_89_dec_54 5 rfl rfl)
theorem dX4_tellOfLand_206 : decode cX4_tellOfLand 206 = .ok (.iconst 1, 1) := op4 (bA_at bd09_89_dec_54 6 rfl rfl)
theorem dX4_tellOfLand_207 : decode cX4_tellOfLand 207 = .ok (.iload_n 3, 1) := op29 (bA_at bd09_89_dec_54 7 rfl rfl)
theorem dX4_tellOfLand_208 : decode cX4_tellOfLand 208 = .ok (.ishl, 1) := op120 (bA_at bd09_89_dec_54 8 rfl rfl)
theorem dX4_tellOfLand_209 : decode cX4_tellOfLand 209 = .ok (.ior, 1) := op128 (bA_at bd09_89_dec_54 9 rfl rfl)
theorem dX4_tellOfLand_210 : decode cX4_tellOfLand 210 = .ok (.ior, 1) := op128 (bA_at bd09_89_dec_54 10 rfl rfl)
theorem dX4_tellOfLand_211 : decode cX4_tellOfLand 211 = .ok (.putfield 90, 3) := op181 (bA_at bd09_89_dec_54 11 rfl rfl) rfl
theorem bd09_89_dec_55 : ([(0, [167, 0, 179]), (3, [42]), (4, [180, 0, 12]), (7, [180, 0, 178]), (10, [42]), (11, [180, 0, 12]), (14, [180, 0, 141]), (17, [28]), (18, [79]), (19, [42]), (20, [180, 0, 12]), (23, [180, 0, 181])] : List (Nat × List UInt8)).all (fun x => prB x.2 ((cX4_tellOfLand.data.toList.drop 214).drop x.1)) = true := by decide +kernel
theorem dX4_tellOfLand_214 : decode cX4_tellOfLand 214 = .ok (.goto 179, 3) := op167 (bA_at bd09_89_dec_55 0 rfl rfl) (by decide +kernel)
theorem dX4_tellOfLand_217 : decode cX4_tellOfLand 217 = .ok (.aload_n 0, 1) := op42 (bA_at bd09_89_dec_55 1 rfl rfl)
theorem dX4_tellOfLand_218 : decode cX4_tellOfLand 218 = .ok (.getfield 12, 3) := op180 (bA_at bd09_89_dec_55 2 rfl rfl) rfl
theorem dX4_tellOfLand_221 : decode cX4_tellOfLand 221 = .ok (.getfield 178, 3) := op180 (bA_at bd09_89_dec_55 3 rfl rfl) rfl
theorem dX4_tellOfLand_224 : decode cX4_tellOfLand 224 = .ok (.aload_n 0, 1) := op42 (bA_at bd09_89_dec_55 4 rfl rfl)
theorem dX4_tellOfLand_225 : decode cX4_tellOfLand 225 = .ok (.getfield 12, 3) := op180 (bA_at bd09_89_dec_55 5 rfl rfl) rfl
theorem dX4_tellOfLand_228 : decode cX4_tellOfLand 228 = .ok (.getfield 141, 3) := op180 (bA_at bd09_89_dec_55 6 rfl rfl) rfl
theorem dX4_tellOfLand_231 : decode cX4_tellOfLand 231 = .ok (.iload_n 2, 1) := op28 (bA_at bd09_89_dec_55 7 rfl rfl)
theorem dX4_tellOfLand_232 : decode cX4_tellOfLand 232 = .ok (.iastore, 1) := op79 (bA_at bd09_89_dec_55 8 rfl rfl)
theorem dX4_tellOfLand_233 : decode cX4_tellOfLand 233 = .ok (.aload_n 0, 1) := op42 (bA_at bd09_89_dec_55 9 rfl rfl)
theorem dX4_tellOfLand_234 : decode cX4_tellOfLand 234 = .ok (.getfield 12, 3) := op180 (bA_at bd09_89_dec_55 10 rfl rfl) rfl
theorem dX4_tellOfLand_237 : decode cX4_tellOfLand 237 = .ok (.getfield 181, 3) := op180 (bA_at bd09_89_dec_55 11 rfl rfl) rfl
theorem bd09_89_dec_56 : ([(0, [42]), (1, [180, 0, 12]), (4, [180, 0, 141]), (7, [29]), (8, [79]), (9, [42]), (10, [180, 0, 12]), (13, [89]), (14, [180, 0, 141]), (17, [4]), (18, [96]), (19, [181, 0, 141])] : List (Nat × List UInt8)).all (fun x => prB x.2 ((cX4_tellOfLand.data.toList.drop 240).drop x.1)) = true := by decide +kernel
theorem dX4_tellOfLand_240 : decode cX4_tellOfLand 240 = .ok (.aload_n 0, 1) := op42 (bA_at bd09_89_dec_56 0 rfl rfl)
theorem dX4_tellOfLand_241 : decode cX4_tellOfLand 241 = .ok (.getfield 12, 3) := op180 (bA_at bd09_89_dec_56 1 rfl rfl) rfl
theorem dX4_tellOfLand_244 : decode cX4_tellOfLand 244 = .ok (.getfield 141, 3) := op180 (bA_at bd09_89_dec_56 2 rfl rfl) rfl
theorem dX4_tellOfLand_247 : decode cX4_tellOfLand 247 = .ok (.iload_n 3, 1) := op29 (bA_at bd09_89_dec_56 3 rfl rfl)
theorem dX4_tellOfLand_248 : decode cX4_tellOfLand 248 = .ok (.iastore, 1) := op79 (bA_at bd09_89_dec_56 4 rfl rfl)
theorem dX4_tellOfLand_249 : decode cX4_tellOfLand 249 = .ok (.aload_n 0, 1) := op42 (bA_at bd09_89_dec_56 5 rfl rfl)
theorem dX4_tellOfLand_250 : decode cX4_tellOfLand 250 = .ok (.getfield 12, 3) := op180 (bA_at bd09_89_dec_56 6 rfl rfl) rfl
theorem dX4_tellOfLand_253 : decode cX4_tellOfLand 253 = .ok (.dup, 1) := op89 (bA_at bd09_89_dec_56 7 rfl rfl)
theorem dX4_tellOfLand_254 : decode cX4_tellOfLand 254 = .ok (.getfield 141, 3) := op180 (bA_at bd09_89_dec_56 8 rfl rfl) rfl
theorem dX4_tellOfLand_257 : decode cX4_tellOfLand 257 = .ok (.iconst 1, 1) := op4 (bA_at bd09_89_dec_56 9 rfl rfl)
theorem dX4_tellOfLand_258 : decode cX4_tellOfLand 258 = .ok (.iadd, 1) := op96 (bA_at bd09_89_dec_56 10 rfl rfl)
theorem dX4_tellOfLand_259 : decode cX4_tellOfLand 259 = .ok (.putfield 141, 3) := op181 (bA_at bd09_89_dec_56 11 rfl rfl) rfl
theorem bd09_89_dec_57 : ([(0, [42]), (1, [89]), (2, [180, 0, 90]), (5, [4]), (6, [28]), (7, [120]), (8, [4]), (9, [29]), (10, [120]), (11, [128]), (12, [128]), (13, [181, 0, 90])] : List (Nat × List UInt8)).all (fun x => prB x.2 ((cX4_tellOfLand.data.toList.drop 262).drop x.1)) = true := by decide +kernel
theorem dX4_tellOfLand_262 : decode cX4_tellOfLand 262 = .ok (.aload_n 0, 1) := op42 (bA_at bd09_89_dec_57 0 rfl rfl)
theorem dX4_tellOfLand_263 : decode cX4_tellOfLand 263 = .ok (.dup, 1) := op89 (bA_at bd09_89_dec_57 1 rfl rfl)
theorem dX4_tellOfLand_264 : decode cX4_tellOfLand 264 = .ok (.getfield 90, 3) := op180 (bA_at bd09_89_dec_57 2 rfl rfl) rfl
theorem dX4_tellOfLand_267 : decode cX4_tellOfLand 267 = .ok (.iconst 1, 1) := op4 (bA_at bd09_89_dec_57 3 rfl rfl)
theorem dX4_tellOfLand_268 : decode cX4_tellOfLand 268 = .ok (.iload_n 2, 1) := op28 (bA_at bd09_89_dec_57 4 rfl rfl)
theorem dX4_tellOfLand_269 : decode cX4_tellOfLand 269 = .ok (.ishl, 1) := op120 (bA_at bd09_89_dec_57 5 rfl rfl)
theorem dX4_tellOfLand_270 : decode cX4_tellOfLand 270 = .ok (.iconst 1, 1) := op4 (bA_at bd09_89_dec_57 6 rfl rfl)
theorem dX4_tellOfLand_271 : decode cX4_tellOfLand 271 = .ok (.iload_n 3, 1) := op29 (bA_at bd09_89_dec_57 7 rfl rfl)
theorem dX4_tellOfLand_272 : decode cX4_tellOfLand 272 = .ok (.ishl, 1) := op120 (bA_at bd09_89_dec_57 8 rfl rfl)
theorem dX4_tellOfLand_273 : decode cX4_tellOfLand 273 = .ok (.ior, 1) := op128 (bA_at bd09_89_dec_57 9 rfl rfl)
theorem dX4_tellOfLand_274 : decode cX4_tellOfLand 274 = .ok (.ior, 1) := op128 (bA_at bd09_89_dec_57 10 rfl rfl)
theorem dX4_tellOfLand_275 : decode cX4_tellOfLand 275 = .ok (.putfield 90, 3) := op181 (bA_at bd09_89_dec_57 11 rfl rfl) rfl
theorem bd09_89_dec_58 : ([(0, [167, 0, 115]), (3, [42]), (4, [180, 0, 12]), (7, [180, 0, 184]), (10, [28]), (11, [29]), (12, [79]), (13, [42]), (14, [89]), (15, [180, 0, 90]), (18, [4]), (19, [28])] : List (Nat × List UInt8)).all (fun x => prB x.2 ((cX4_tellOfLand.data.toList.drop 278).drop x.1)) = true := by decide +kernel
theorem dX4_tellOfLand_278 : decode cX4_tellOfLand 278 = .ok (.goto 115, 3) := op167 (bA_at bd09_89_dec_58 0 rfl rfl) (by decide +kernel)
theorem dX4_tellOfLand_281 : decode cX4_tellOfLand 281 = .ok (.aload_n 0, 1) := op42 (bA_at bd09_89_dec_58 1 rfl rfl)
theorem dX4_tellOfLand_282 : decode cX4_tellOfLand 282 = .ok (.getfield 12, 3) := op180 (bA_at bd09_89_dec_58 2 rfl rfl) rfl
theorem dX4_tellOfLand_285 : decode cX4_tellOfLand 285 = .ok (.getfield 184, 3) := op180 (bA_at bd09_89_dec_58 3 rfl rfl) rfl
theorem dX4_tellOfLand_288 : decode cX4_tellOfLand 288 = .ok (.iload_n 2, 1) := op28 (bA_at bd09_89_dec_58 4 rfl rfl)
theorem dX4_tellOfLand_289 : decode cX4_tellOfLand 289 = .ok (.iload_n 3, 1) := op29 (bA_at bd09_89_dec_58 5 rfl rfl)
theorem dX4_tellOfLand_290 : decode cX4_tellOfLand 290 = .ok (.iastore, 1) := op79 (bA_at bd09_89_dec_58 6 rfl rfl)
theorem dX4_tellOfLand_291 : decode cX4_tellOfLand 291 = .ok (.aload_n 0, 1) := op42 (bA_at bd09_89_dec_58 7 rfl rfl)
theorem dX4_tellOfLand_292 : decode cX4_tellOfLand 292 = .ok (.dup, 1) := op89 (bA_at bd09_89_dec_58 8 rfl rfl)
theorem dX4_tellOfLand_293 : decode cX4_tellOfLand 293 = .ok (.getfield 90, 3) := op180 (bA_at bd09_89_dec_58 9 rfl rfl) rfl
theorem dX4_tellOfLand_296 : decode cX4_tellOfLand 296 = .ok (.iconst 1, 1) := op4 (bA_at bd09_89_dec_58 10 rfl rfl)
theorem dX4_tellOfLand_297 : decode cX4_tellOfLand 297 = .ok (.iload_n 2, 1) := op28 (bA_at bd09_89_dec_58 11 rfl rfl)
theorem bd09_89_dec_59 : ([(0, [120]), (1, [128]), (2, [181, 0, 90]), (5, [167, 0, 90]), (8, [42]), (9, [180, 0, 12]), (12, [180, 0, 187]), (15, [42]), (16, [180, 0, 12]), (19, [180, 0, 111]), (22, [28]), (23, [79])] : List (Nat × List UInt8)).all (fun x => prB x.2 ((cX4_tellOfLand.data.toList.drop 298).drop x.1)) = true := by decide +kernel
theorem dX4_tellOfLand_298 : decode cX4_tellOfLand 298 = .ok (.ishl, 1) := op120 (bA_at bd09_89_dec_59 0 rfl rfl)
theorem dX4_tellOfLand_299 : decode cX4_tellOfLand 299 = .ok (.ior, 1) := op128 (bA_at bd09_89_dec_59 1 rfl rfl)
theorem dX4_tellOfLand_300 : decode cX4_tellOfLand 300 = .ok (.putfield 90, 3) := op181 (bA_at bd09_89_dec_59 2 rfl rfl) rfl
theorem dX4_tellOfLand_303 : decode cX4_tellOfLand 303 = .ok (.goto 90, 3) := op167 (bA_at bd09_89_dec_59 3 rfl rfl) (by decide +kernel)
theorem dX4_tellOfLand_306 : decode cX4_tellOfLand 306 = .ok (.aload_n 0, 1) := op42 (bA_at bd09_89_dec_59 4 rfl rfl)
theorem dX4_tellOfLand_307 : decode cX4_tellOfLand 307 = .ok (.getfield 12, 3) := op180 (bA_at bd09_89_dec_59 5 rfl rfl) rfl
theorem dX4_tellOfLand_310 : decode cX4_tellOfLand 310 = .ok (.getfield 187, 3) := op180 (bA_at bd09_89_dec_59 6 rfl rfl) rfl
theorem dX4_tellOfLand_313 : decode cX4_tellOfLand 313 = .ok (.aload_n 0, 1) := op42 (bA_at bd09_89_dec_59 7 rfl rfl)
theorem dX4_tellOfLand_314 : decode cX4_tellOfLand 314 = .ok (.getfield 12, 3) := op180 (bA_at bd09_89_dec_59 8 rfl rfl) rfl
theorem dX4_tellOfLand_317 : decode cX4_tellOfLand 317 = .ok (.getfield 111, 3) := op180 (bA_at bd09_89_dec_59 9 rfl rfl) rfl
theorem dX4_tellOfLand_320 : decode cX4_tellOfLand 320 = .ok (.iload_n 2, 1) := op28 (bA_at bd09_89_dec_59 10 rfl rfl)
theorem dX4_tellOfLand_321 : decode cX4_tellOfLand 321 = .ok (.iastore, 1) := op79 (bA_at bd09_89_dec_59 11 rfl rfl)
theorem bd09_89_dec_60 : ([(0, [42]), (1, [180, 0, 12]), (4, [180, 0, 190]), (7, [42]), (8, [180, 0, 12]), (11, [180, 0, 111]), (14, [29]), (15, [79]), (16, [42]), (17, [180, 0, 12]), (20, [89]), (21, [180, 0, 111])] : List (Nat × List UInt8)).all (fun x => prB x.2 ((cX4_tellOfLand.data.toList.drop 322).drop x.1)) = true := by decide +kernel
theorem dX4_tellOfLand_322 : decode cX4_tellOfLand 322 = .ok (.aload_n 0, 1) := op42 (bA_at bd09_89_dec_60 0 rfl rfl)
theorem dX4_tellOfLand_323 : decode cX4_tellOfLand 323 = .ok (.getfield 12, 3) := op180 (bA_at bd09_89_dec_60 1 rfl rfl) rfl
theorem dX4_tellOfLand_326 : decode cX4_tellOfLand 326 = .ok (.getfield 190, 3) := op180 (bA_at bd09_89_dec_60 2 rfl rfl) rfl
theorem dX4_tellOfLand_329 : decode cX4_tellOfLand 329 = .ok (.aload_n 0, 1) := op42 (bA_at bd09_89_dec_60 3 rfl rfl)
theorem dX4_tellOfLand_330 : decode cX4_tellOfLand 330 = .ok (.getfield 12, 3) := op180 (bA_at bd09_89_dec_60 4 rfl rfl) rfl
theorem dX4_tellOfLand_333 : decode cX4_tellOfLand 333 = .ok (.getfield 111, 3) := op180 (bA_at bd09_89_dec_60 5 rfl rfl) rfl
theorem dX4_tellOfLand_336 : decode cX4_tellOfLand 336 = .ok (.iload_n 3, 1) := op29 (bA_at bd09_89_dec_60 6 rfl rfl)
theorem dX4_tellOfLand_337 : decode cX4_tellOfLand 337 = .ok (.iastore, 1) := op79 (bA_at bd09_89_dec_60 7 rfl rfl)
theorem dX4_tellOfLand_338 : decode cX4_tellOfLand 338 = .ok (.aload_n 0, 1) := op42 (bA_at bd09_89_dec_60 8 rfl rfl)
theorem dX4_tellOfLand_339 : decode cX4_tellOfLand 339 = .ok (.getfield 12, 3) := op180 (bA_at bd09_89_dec_60 9 rfl rfl) rfl
theorem dX4_tellOfLand_342 : decode cX4_tellOfLand 342 = .ok (.dup, 1) := op89 (bA_at bd09_89_dec_60 10 rfl rfl)
theorem dX4_tellOfLand_343 : decode cX4_tellOfLand 343 = .ok (.getfield 111, 3) := op180 (bA_at bd09_89_dec_60 11 rfl rfl) rfl
theorem bd09_89_dec_61 : ([(0, [4]), (1, [96]), (2, [181, 0, 111]), (5, [42]), (6, [89]), (7, [180, 0, 90]), (10, [4]), (11, [28]), (12, [120]), (13, [128]), (14, [181, 0, 90]), (17, [167, 0, 30])] : List (Nat × List UInt8)).all (fun x => prB x.2 ((cX4_tellOfLand.data.toList.drop 346).drop x.1)) = true := by decide +kernel
theorem dX4_tellOfLand_346 : decode cX4_tellOfLand 346 = .ok (.iconst 1, 1) := op4 (bA_at bd09_89_dec_61 0 rfl rfl)
theorem dX4_tellOfLand_347 : decode cX4_tellOfLand 347 = .ok (.iadd, 1) := op96 (bA_at bd09_89_dec_61 1 rfl rfl)
theorem dX4_tellOfLand_348 : decode cX4_tellOfLand 348 = .ok (.putfield 111, 3) := op181 (bA_at bd09_89_dec_61 2 rfl rfl) rfl
theorem dX4_tellOfLand_351 : decode cX4_tellOfLand 351 = .ok (.aload_n 0, 1) := op42 (bA_at bd09_89_dec_61 3 rfl rfl)
theorem dX4_tellOfLand_352 : decode cX4_tellOfLand 352 = .ok (.dup, 1) := op89 (bA_at bd09_89_dec_61 4 rfl rfl)
theorem dX4_tellOfLand_353 : decode cX4_tellOfLand 353 = .ok (.getfield 90, 3) := op180 (bA_at bd09_89_dec_61 5 rfl rfl) rfl
theorem dX4_tellOfLand_356 : decode cX4_tellOfLand 356 = .ok (.iconst 1, 1) := op4 (bA_at bd09_89_dec_61 6 rfl rfl)
theorem dX4_tellOfLand_357 : decode cX4_tellOfLand 357 = .ok (.iload_n 2, 1) := op28 (bA_at bd09_89_dec_61 7 rfl rfl)
theorem dX4_tellOfLand_358 : decode cX4_tellOfLand 358 = .ok (.ishl, 1) := op120 (bA_at bd09_89_dec_61 8 rfl rfl)
theorem dX4_tellOfLand_359 : decode cX4_tellOfLand 359 = .ok (.ior, 1) := op128 (bA_at bd09_89_dec_61 9 rfl rfl)
theorem dX4_tellOfLand_360 : decode cX4_tellOfLand 360 = .ok (.putfield 90, 3) := op181 (bA_at bd09_89_dec_61 10 rfl rfl) rfl
theorem dX4_tellOfLand_363 : decode cX4_tellOfLand 363 = .ok (.goto 30, 3) := op167 (bA_at bd09_89_dec_61 11 rfl rfl) (by decide +kernel)
theorem bd09_89_dec_62 : ([(0, [42]), (1, [180, 0, 12]), (4, [180, 0, 193]), (7, [28]), (8, [92]), (9, [46]), (10, [4]), (11, [29]), (12, [120]), (13, [128]), (14, [79]), (15, [42])] : List (Nat × List UInt8)).all (fun x => prB x.2 ((cX4_tellOfLand.data.toList.drop 366).drop x.1)) = true := by decide +kernel
theorem dX4_tellOfLand_366 : decode cX4_tellOfLand 366 = .ok (.aload_n 0, 1) := op42 (bA_at bd09_89_dec_62 0 rfl rfl)
theorem dX4_tellOfLand_367 : decode cX4_tellOfLand 367 = .ok (.getfield 12, 3) := op180 (bA_at bd09_89_dec_62 1 rfl rfl) rfl
theorem dX4_tellOfLand_370 : decode cX4_tellOfLand 370 = .ok (.getfield 193, 3) := op180 (bA_at bd09_89_dec_62 2 rfl rfl) rfl
theorem dX4_tellOfLand_373 : decode cX4_tellOfLand 373 = .ok (.iload_n 2, 1) := op28 (bA_at bd09_89_dec_62 3 rfl rfl)
theorem dX4_tellOfLand_374 : decode cX4_tellOfLand 374 = .ok (.dup2, 1) := op92 (bA_at bd09_89_dec_62 4 rfl rfl)
theorem dX4_tellOfLand_375 : decode cX4_tellOfLand 375 = .ok (.iaload, 1) := op46 (bA_at bd09_89_dec_62 5 rfl rfl)
theorem dX4_tellOfLand_376 : decode cX4_tellOfLand 376 = .ok (.iconst 1, 1) := op4 (bA_at bd09_89_dec_62 6 rfl rfl)
theorem dX4_tellOfLand_377 : decode cX4_tellOfLand 377 = .ok (.iload_n 3, 1) := op29 (bA_at bd09_89_dec_62 7 rfl rfl)
theorem dX4_tellOfLand_378 : decode cX4_tellOfLand 378 = .ok (.ishl, 1) := op120 (bA_at bd09_89_dec_62 8 rfl rfl)
theorem dX4_tellOfLand_379 : decode cX4_tellOfLand 379 = .ok (.ior, 1) := op128 (bA_at bd09_89_dec_62 9 rfl rfl)
theorem dX4_tellOfLand_380 : decode cX4_tellOfLand 380 = .ok (.iastore, 1) := op79 (bA_at bd09_89_dec_62 10 rfl rfl)
theorem dX4_tellOfLand_381 : decode cX4_tellOfLand 381 = .ok (.aload_n 0, 1) := op42 (bA_at bd09_89_dec_62 11 rfl rfl)
theorem bd09_89_dec_63 : ([(0, [89]), (1, [180, 0, 93]), (4, [4]), (5, [28]), (6, [120]), (7, [128]), (8, [181, 0, 93]), (11, [177])] : List (Nat × List UInt8)).all (fun x => prB x.2 ((cX4_tellOfLand.data.toList.drop 382).drop x.1)) = true := by decide +kernel
theorem dX4_tellOfLand_382 : decode cX4_tellOfLand 382 = .ok (.dup, 1) := op89 (bA_at bd09_89_dec_63 0 rfl rfl)
theorem dX4_tellOfLand_383 : decode cX4_tellOfLand 383 = .ok (.getfield 93, 3) := op180 (bA_at bd09_89_dec_63 1 rfl rfl) rfl
theorem dX4_tellOfLand_386 : decode cX4_tellOfLand 386 = .ok (.iconst 1, 1) := op4 (bA_at bd09_89_dec_63 2 rfl rfl)
theorem dX4_tellOfLand_387 : decode cX4_tellOfLand 387 = .ok (.iload_n 2, 1) := op28 (bA_at bd09_89_dec_63 3 rfl rfl)
theorem dX4_tellOfLand_388 : decode cX4_tellOfLand 388 = .ok (.ishl, 1) := op120 (bA_at bd09_89_dec_63 4 rfl rfl)
theorem dX4_tellOfLand_389 : decode cX4_tellOfLand 389 = .ok (.ior, 1) := op128 (bA_at bd09_89_dec_63 5 rfl rfl)
theorem dX4_tellOfLand_390 : decode cX4_tellOfLand 390 = .ok (.putfield 93, 3) := op181 (bA_at bd09_89_dec_63 6 rfl rfl) rfl
theorem dX4_tellOfLand_393 : decode cX4_tellOfLand 393 = .ok (.return_, 1) := op177 (bA_at bd09_89_dec_63 7 rfl rfl)
theorem bd09_89_dec_64 : ([(0, [42]), (1, [180, 0, 60]), (4, [60]), (5, [27]), (6, [42]), (7, [180, 0, 57]), (10, [162, 0, 31]), (13, [42]), (14, [180, 0, 47]), (17, [27]), (18, [51]), (19, [16, 10])] : List (Nat × List UInt8)).all (fun x => prB x.2 ((cX4_advance.data.toList.drop 0).drop x.1)) = true := by decide +kernel
theorem dX4_advance_0 : decode cX4_advance 0 = .ok (.aload_n 0, 1) := op42 (bA_at bd09_89_dec_64 0 rfl rfl)
theorem dX4_advance_1 : decode cX4_advance 1 = .ok (.getfield 60, 3) := op180 (bA_at bd09_89_dec_64 1 rfl rfl) rfl
theorem dX4_advance_4 : decode cX4_advance 4 = .ok (.istore_n 1, 1) := op60 (bA_at bd09_89_dec_64 2 rfl rfl)
theorem dX4_advance_5 : decode cX4_advance 5 = .ok (.iload_n 1, 1) := op27 (bA_at bd09_89_dec_64 3 rfl rfl)
theorem dX4_advance_6 : decode cX4_advance 6 = .ok (.aload_n 0, 1) := op42 (bA_at bd09_89_dec_64 4 rfl rfl)
theorem dX4_advance_7 : decode cX4_advance 7 = .ok (.getfield 57, 3) := op180 (bA_at bd09_89_dec_64 5 rfl rfl) rfl
theorem dX4_advance_10 : decode cX4_advance 10 = .ok (.if_icmp .ge 31, 3) := op162 (bA_at bd09_89_dec_64 6 rfl rfl) (by decide +kernel)
theorem dX4_advance_13 : decode cX4_advance 13 = .ok (.aload_n 0, 1) := op42 (bA_at bd09_89_dec_64 7 rfl rfl)
theorem dX4_advance_14 : decode cX4_advance 14 = .ok (.getfield 47, 3) := op180 (bA_at bd09_89_dec_64 8 rfl rfl) rfl
theorem dX4_advance_17 : decode cX4_advance 17 = .ok (.iload_n 1, 1) := op27 (bA_at bd09_89_dec_64 9 rfl rfl)
theorem dX4_advance_18 : decode cX4_advance 18 = .ok (.baload, 1) := op51 (bA_at bd09_89_dec_64 10 rfl rfl)
theorem dX4_advance_19 : decode cX4_advance 19 = .ok (.bipush 10, 2) := op16 (bA_at bd09_89_dec_64 11 rfl rfl) (by decide +kernel)
theorem bd09_89_dec_65 : ([(0, [159, 0, 14]), (3, [42]), (4, [180, 0, 47]), (7, [27]), (8, [51]), (9, [16, 32]), (11, [160, 0, 9]), (14, [132, 1, 1]), (17, [167, 255, 223]), (20, [42]), (21, [27]), (22, [181, 0, 125])] : List (Nat × List UInt8)).all (fun x => prB x.2 ((cX4_advance.data.toList.drop 21).drop x.1)) = true := by decide +kernel
theorem dX4_advance_21 : decode cX4_advance 21 = .ok (.if_icmp .eq 14, 3) := op159 (bA_at bd09_89_dec_65 0 rfl rfl) (by decide +kernel)
theorem dX4_advance_24 : decode cX4_advance 24 = .ok (.aload_n 0, 1) := op42 (bA_at bd09_89_dec_65 1 rfl rfl)
theorem dX4_advance_25 : decode cX4_advance 25 = .ok (.getfield 47, 3) := op180 (bA_at bd09_89_dec_65 2 rfl rfl) rfl
theorem dX4_advance_28 : decode cX4_advance 28 = .ok (.iload_n 1, 1) := op27 (bA_at bd09_89_dec_65 3 rfl rfl)
theorem dX4_advance_29 : decode cX4_advance 29 = .ok (.baload, 1) := op51 (bA_at bd09_89_dec_65 4 rfl rfl)
theorem dX4_advance_30 : decode cX4_advance 30 = .ok (.bipush 32, 2) := op16 (bA_at bd09_89_dec_65 5 rfl rfl) (by decide +kernel)
theorem dX4_advance_32 : decode cX4_advance 32 = .ok (.if_icmp .ne 9, 3) := op160 (bA_at bd09_89_dec_65 6 rfl rfl) (by decide +kernel)
theorem dX4_advance_35 : decode cX4_advance 35 = .ok (.iinc 1 1, 3) := op132 (bA_at bd09_89_dec_65 7 rfl rfl) rfl (by decide +kernel)
theorem dX4_advance_38 : decode cX4_advance 38 = .ok (.goto (-33), 3) := op167 (bA_at bd09_89_dec_65 8 rfl rfl) (by decide +kernel)
theorem dX4_advance_41 : decode cX4_advance 41 = .ok (.aload_n 0, 1) := op42 (bA_at bd09_89_dec_65 9 rfl rfl)
theorem dX4_advance_42 : decode cX4_advance 42 = .ok (.iload_n 1, 1) := op27 (bA_at bd09_89_dec_65 10 rfl rfl)
theorem dX4_advance_43 : decode cX4_advance 43 = .ok (.putfield 125, 3) := op181 (bA_at bd09_89_dec_65 11 rfl rfl) rfl
theorem bd09_89_dec_66 : ([(0, [27]), (1, [42]), (2, [180, 0, 57]), (5, [161, 0, 11]), (8, [42]), (9, [3]), (10, [181, 0, 73]), (13, [167, 0, 90]), (16, [42]), (17, [180, 0, 47]), (20, [27]), (21, [51])] : List (Nat × List UInt8)).all (fun x => prB x.2 ((cX4_advance.data.toList.drop 46).drop x.1)) = true := by decide +kernel
theorem dX4_advance_46 : decode cX4_advance 46 = .ok (.iload_n 1, 1) := op27 (bA_at bd09_89_dec_66 0 rfl rfl)
theorem dX4_advance_47 : decode cX4_advance 47 = .ok (.aload_n 0, 1) := op42 (bA_at bd09_89_dec_66 1 rfl rfl)
theorem dX4_advance_48 : decode cX4_advance 48 = .ok (.getfield 57, 3) := op180 (bA_at bd09_89_dec_66 2 rfl rfl) rfl
theorem dX4_advance_51 : decode cX4_advance 51 = .ok (.if_icmp .lt 11, 3) := op161 (bA_at bd09_89_dec_66 3 rfl rfl) (by decide +kernel)
theorem dX4_advance_54 : decode cX4_advance 54 = .ok (.aload_n 0, 1) := op42 (bA_at bd09_89_dec_66 4 rfl rfl)
theorem dX4_advance_55 : decode cX4_advance 55 = .ok (.iconst 0, 1) := op3 (bA_at bd09_89_dec_66 5 rfl rfl)
theorem dX4_advance_56 : decode cX4_advance 56 = .ok (.putfield 73, 3) := op181 (bA_at bd09_89_dec_66 6 rfl rfl) rfl
theorem dX4_advance_59 : decode cX4_advance 59 = .ok (.goto 90, 3) := op167 (bA_at bd09_89_dec_66 7 rfl rfl) (by decide +kernel)
theorem dX4_advance_62 : decode cX4_advance 62 = .ok (.aload_n 0, 1) := op42 (bA_at bd09_89_dec_66 8 rfl rfl)
theorem dX4_advance_63 : decode cX4_advance 63 = .ok (.getfield 47, 3) := op180 (bA_at bd09_89_dec_66 9 rfl rfl) rfl
theorem dX4_advance_66 : decode cX4_advance 66 = .ok (.iload_n 1, 1) := op27 (bA_at bd09_89_dec_66 10 rfl rfl)
theorem dX4_advance_67 : decode cX4_advance 67 = .ok (.baload, 1) := op51 (bA_at bd09_89_dec_66 11 rfl rfl)
theorem bd09_89_dec_67 : ([(0, [184, 0, 196]), (3, [153, 0, 34]), (6, [42]), (7, [4]), (8, [181, 0, 73]), (11, [27]), (12, [42]), (13, [180, 0, 57]), (16, [162, 0, 65]), (19, [42]), (20, [180, 0, 47]), (23, [27])] : List (Nat × List UInt8)).all (fun x => prB x.2 ((cX4_advance.data.toList.drop 68).drop x.1)) = true := by decide +kernel
theorem dX4_advance_68 : decode cX4_advance 68 = .ok (.invokestatic 196, 3) := op184 (bA_at bd09_89_dec_67 0 rfl rfl) rfl
theorem dX4_advance_71 : decode cX4_advance 71 = .ok (.ifCond .eq 34, 3) := op153 (bA_at bd09_89_dec_67 1 rfl rfl) (by decide +kernel)
theorem dX4_advance_74 : decode cX4_advance 74 = .ok (.aload_n 0, 1) := op42 (bA_at bd09_89_dec_67 2 rfl rfl)
theorem dX4_advance_75 : decode cX4_advance 75 = .ok (.iconst 1, 1) := op4 (bA_at bd09_89_dec_67 3 rfl rfl)
theorem dX4_advance_76 : decode cX4_advance 76 = .ok (.putfield 73, 3) := op181 (bA_at bd09_89_dec_67 4 rfl rfl) rfl
theorem dX4_advance_79 : decode cX4_advance 79 = .ok (.iload_n 1, 1) := op27 (bA_at bd09_89_dec_67 5 rfl rfl)
theorem dX4_advance_80 : decode cX4_advance 80 = .ok (.aload_n 0, 1) := op42 (bA_at bd09_89_dec_67 6 rfl rfl)
theorem dX4_advance_81 : decode cX4_advance 81 = .ok (.getfield 57, 3) := op180 (bA_at bd09_89_dec_67 7 rfl rfl) rfl
theorem dX4_advance_84 : decode cX4_advance 84 = .ok (.if_icmp .ge 65, 3) := op162 (bA_at bd09_89_dec_67 8 rfl rfl) (by decide +kernel)
theorem dX4_advance_87 : decode cX4_advance 87 = .ok (.aload_n 0, 1) := op42 (bA_at bd09_89_dec_67 9 rfl rfl)
theorem dX4_advance_88 : decode cX4_advance 88 = .ok (.getfield 47, 3) := op180 (bA_at bd09_89_dec_67 10 rfl rfl) rfl
theorem dX4_advance_91 : decode cX4_advance 91 = .ok (.iload_n 1, 1) := op27 (bA_at bd09_89_dec_67 11 rfl rfl)
theorem bd09_89_dec_68 : ([(0, [51]), (1, [184, 0, 196]), (4, [153, 0, 53]), (7, [132, 1, 1]), (10, [167, 255, 233]), (13, [42]), (14, [180, 0, 47]), (17, [27]), (18, [51]), (19, [184, 0, 200]), (22, [153, 0, 12]), (25, [42])] : List (Nat × List UInt8)).all (fun x => prB x.2 ((cX4_advance.data.toList.drop 92).drop x.1)) = true := by decide +kernel
theorem dX4_advance_92 : decode cX4_advance 92 = .ok (.baload, 1) := op51 (bA_at bd09_89_dec_68 0 rfl rfl)
theorem dX4_advance_93 : decode cX4_advance 93 = .ok (.invokestatic 196, 3) := op184 (bA_at bd09_89_dec_68 1 rfl rfl) rfl
theorem dX4_advance_96 : decode cX4_advance 96 = .ok (.ifCond .eq 53, 3) := op153 (bA_at bd09_89_dec_68 2 rfl rfl) (by decide +kernel)
theorem dX4_advance_99 : decode cX4_advance 99 = .ok (.iinc 1 1, 3) := op132 (bA_at bd09_89_dec_68 3 rfl rfl) rfl (by decide +kernel)
theorem dX4_advance_102 : decode cX4_advance 102 = .ok (.goto (-23), 3) := op167 (bA_at bd09_89_dec_68 4 rfl rfl) (by decide +kernel)
theorem dX4_advance_105 : decode cX4_advance 105 = .ok (.aload_n 0, 1) := op42 (bA_at bd09_89_dec_68 5 rfl rfl)
theorem dX4_advance_106 : decode cX4_advance 106 = .ok (.getfield 47, 3) := op180 (bA_at bd09_89_dec_68 6 rfl rfl) rfl
theorem dX4_advance_109 : decode cX4_advance 109 = .ok (.iload_n 1, 1) := op27 (bA_at bd09_89_dec_68 7 rfl rfl)
theorem dX4_advance_110 : decode cX4_advance 110 = .ok (.baload, 1) := op51 (bA_at bd09_89_dec_68 8 rfl rfl)
theorem dX4_advance_111 : decode cX4_advance 111 = .ok (.invokestatic 200, 3) := op184 (bA_at bd09_89_dec_68 9 rfl rfl) rfl
theorem dX4_advance_114 : decode cX4_advance 114 = .ok (.ifCond .eq 12, 3) := op153 (bA_at bd09_89_dec_68 10 rfl rfl) (by decide +kernel)
theorem dX4_advance_117 : decode cX4_advance 117 = .ok (.aload_n 0, 1) := op42 (bA_at bd09_89_dec_68 11 rfl rfl)
theorem bd09_89_dec_69 : ([(0, [27]), (1, [182, 0, 203]), (4, [60]), (5, [167, 0, 26]), (8, [42]), (9, [42]), (10, [180, 0, 47]), (13, [27]), (14, [51]), (15, [16, 59]), (17, [160, 0, 7]), (20, [6])] : List (Nat × List UInt8)).all (fun x => prB x.2 ((cX4_advance.data.toList.drop 118).drop x.1)) = true := by decide +kernel
theorem dX4_advance_118 : decode cX4_advance 118 = .ok (.iload_n 1, 1) := op27 (bA_at bd09_89_dec_69 0 rfl rfl)
theorem dX4_advance_119 : decode cX4_advance 119 = .ok (.invokevirtual 203, 3) := op182 (bA_at bd09_89_dec_69 1 rfl rfl) rfl
theorem dX4_advance_122 : decode cX4_advance 122 = .ok (.istore_n 1, 1) := op60 (bA_at bd09_89_dec_69 2 rfl rfl)
theorem dX4_advance_123 : decode cX4_advance 123 = .ok (.goto 26, 3) := op167 (bA_at bd09_89_dec_69 3 rfl rfl) (by decide +kernel)
theorem dX4_advance_126 : decode cX4_advance 126 = .ok (.aload_n 0, 1) := op42 (bA_at bd09_89_dec_69 4 rfl rfl)
theorem dX4_advance_127 : decode cX4_advance 127 = .ok (.aload_n 0, 1) := op42 (bA_at bd09_89_dec_69 5 rfl rfl)
theorem dX4_advance_128 : decode cX4_advance 128 = .ok (.getfield 47, 3) := op180 (bA_at bd09_89_dec_69 6 rfl rfl) rfl
theorem dX4_advance_131 : decode cX4_advance 131 = .ok (.iload_n 1, 1) := op27 (bA_at bd09_89_dec_69 7 rfl rfl)
theorem dX4_advance_132 : decode cX4_advance 132 = .ok (.baload, 1) := op51 (bA_at bd09_89_dec_69 8 rfl rfl)
theorem dX4_advance_133 : decode cX4_advance 133 = .ok (.bipush 59, 2) := op16 (bA_at bd09_89_dec_69 9 rfl rfl) (by decide +kernel)
theorem dX4_advance_135 : decode cX4_advance 135 = .ok (.if_icmp .ne 7, 3) := op160 (bA_at bd09_89_dec_69 10 rfl rfl) (by decide +kernel)
theorem dX4_advance_138 : decode cX4_advance 138 = .ok (.iconst 3, 1) := op6 (bA_at bd09_89_dec_69 11 rfl rfl)
theorem bd09_89_dec_70 : ([(0, [167, 0, 4]), (3, [7]), (4, [181, 0, 73]), (7, [132, 1, 1]), (10, [42]), (11, [27]), (12, [181, 0, 60]), (15, [177])] : List (Nat × List UInt8)).all (fun x => prB x.2 ((cX4_advance.data.toList.drop 139).drop x.1)) = true := by decide +kernel
theorem dX4_advance_139 : decode cX4_advance 139 = .ok (.goto 4, 3) := op167 (bA_at bd09_89_dec_70 0 rfl rfl) (by decide +kernel)
theorem dX4_advance_142 : decode cX4_advance 142 = .ok (.iconst 4, 1) := op7 (bA_at bd09_89_dec_70 1 rfl rfl)
theorem dX4_advance_143 : decode cX4_advance 143 = .ok (.putfield 73, 3) := op181 (bA_at bd09_89_dec_70 2 rfl rfl) rfl
theorem dX4_advance_146 : decode cX4_advance 146 = .ok (.iinc 1 1, 3) := op132 (bA_at bd09_89_dec_70 3 rfl rfl) rfl (by decide +kernel)
theorem dX4_advance_149 : decode cX4_advance 149 = .ok (.aload_n 0, 1) := op42 (bA_at bd09_89_dec_70 4 rfl rfl)
theorem dX4_advance_150 : decode cX4_advance 150 = .ok (.iload_n 1, 1) := op27 (bA_at bd09_89_dec_70 5 rfl rfl)
theorem dX4_advance_151 : decode cX4_advance 151 = .ok (.putfield 60, 3) := op181 (bA_at bd09_89_dec_70 6 rfl rfl) rfl
theorem dX4_advance_154 : decode cX4_advance 154 = .ok (.return_, 1) := op177 (bA_at bd09_89_dec_70 7 rfl rfl)
theorem bd09_89_dec_71 : ([(0, [27]), (1, [61]), (2, [42]), (3, [3]), (4, [181, 0, 131]), (7, [28]), (8, [42]), (9, [180, 0, 57]), (12, [162, 0, 56]), (15, [42]), (16, [180, 0, 47]), (19, [28])] : List (Nat × List UInt8)).all (fun x => prB x.2 ((cX4_readNumber.data.toList.drop 0).drop x.1)) = true := by decide +kernel
theorem dX4_readNumber_0 : decode cX4_readNumber 0 = .ok (.iload_n 1, 1) := op27 (bA_at bd09_89_dec_71 0 rfl rfl)
theorem dX4_readNumber_1 : decode cX4_readNumber 1 = .ok (.istore_n 2, 1) := op61 (bA_at bd09_89_dec_71 1 rfl rfl)
theorem dX4_readNumber_2 : decode cX4_readNumber 2 = .ok (.aload_n 0, 1) := op42 (bA_at bd09_89_dec_71 2 rfl rfl)
theorem dX4_readNumber_3 : decode cX4_readNumber 3 = .ok (.iconst 0, 1) := op3 (bA_at bd09_89_dec_71 3 rfl rfl)
theorem dX4_readNumber_4 : decode cX4_readNumber 4 = .ok (.putfield 131, 3) := op181 (bA_at bd09_89_dec_71 4 rfl rfl) rfl
theorem dX4_readNumber_7 : decode cX4_readNumber 7 = .ok (.iload_n 2, 1) := op28 (bA_at bd09_89_dec_71 5 rfl rfl)
theorem dX4_readNumber_8 : decode cX4_readNumber 8 = .ok (.aload_n 0, 1) := op42 (bA_at bd09_89_dec_71 6 rfl rfl)
theorem dX4_readNumber_9 : decode cX4_readNumber 9 = .ok (.getfield 57, 3) := op180 (bA_at bd09_89_dec_71 7 rfl rfl) rfl
theorem dX4_readNumber_12 : decode cX4_readNumber 12 = .ok (.if_icmp .ge 56, 3) := op162 (bA_at bd09_89_dec_71 8 rfl rfl) (by decide +kernel)
theorem dX4_readNumber_15 : decode cX4_readNumber 15 = .ok (.aload_n 0, 1) := op42 (bA_at bd09_89_dec_71 9 rfl rfl)
theorem dX4_readNumber_16 : decode cX4_readNumber 16 = .ok (.getfield 47, 3) := op180 (bA_at bd09_89_dec_71 10 rfl rfl) rfl
theorem dX4_readNumber_19 : decode cX4_readNumber 19 = .ok (.iload_n 2, 1) := op28 (bA_at bd09_89_dec_71 11 rfl rfl)
theorem bd09_89_dec_72 : ([(0, [51]), (1, [184, 0, 200]), (4, [153, 0, 44]), (7, [42]), (8, [28]), (9, [27]), (10, [100]), (11, [5]), (12, [162, 0, 23]), (15, [42]), (16, [180, 0, 131]), (19, [16, 10])] : List (Nat × List UInt8)).all (fun x => prB x.2 ((cX4_readNumber.data.toList.drop 20).drop x.1)) = true := by decide +kernel
theorem dX4_readNumber_20 : decode cX4_readNumber 20 = .ok (.baload, 1) := op51 (bA_at bd09_89_dec_72 0 rfl rfl)
theorem dX4_readNumber_21 : decode cX4_readNumber 21 = .ok (.invokestatic 200, 3) := op184 (bA_at bd09_89_dec_72 1 rfl rfl) rfl
theorem dX4_readNumber_24 : decode cX4_readNumber 24 = .ok (.ifCond .eq 44, 3) := op153 (bA_at bd09_89_dec_72 2 rfl rfl) (by decide +kernel)
theorem dX4_readNumber_27 : decode cX4_readNumber 27 = .ok (.aload_n 0, 1) := op42 (bA_at bd09_89_dec_72 3 rfl rfl)
theorem dX4_readNumber_28 : decode cX4_readNumber 28 = .ok (.iload_n 2, 1) := op28 (bA_at bd09_89_dec_72 4 rfl rfl)
theorem dX4_readNumber_29 : decode cX4_readNumber 29 = .ok (.iload_n 1, 1) := op27 (bA_at bd09_89_dec_72 5 rfl rfl)
theorem dX4_readNumber_30 : decode cX4_readNumber 30 = .ok (.isub, 1) := op100 (bA_at bd09_89_dec_72 6 rfl rfl)
theorem dX4_readNumber_31 : decode cX4_readNumber 31 = .ok (.iconst 2, 1) := op5 (bA_at bd09_89_dec_72 7 rfl rfl)
theorem dX4_readNumber_32 : decode cX4_readNumber 32 = .ok (.if_icmp .ge 23, 3) := op162 (bA_at bd09_89_dec_72 8 rfl rfl) (by decide +kernel)
theorem dX4_readNumber_35 : decode cX4_readNumber 35 = .ok (.aload_n 0, 1) := op42 (bA_at bd09_89_dec_72 9 rfl rfl)
theorem dX4_readNumber_36 : decode cX4_readNumber 36 = .ok (.getfield 131, 3) := op180 (bA_at bd09_89_dec_72 10 rfl rfl) rfl
theorem dX4_readNumber_39 : decode cX4_readNumber 39 = .ok (.bipush 10, 2) := op16 (bA_at bd09_89_dec_72 11 rfl rfl) (by decide +kernel)
theorem bd09_89_dec_73 : ([(0, [104]), (1, [42]), (2, [180, 0, 47]), (5, [28]), (6, [51]), (7, [96]), (8, [16, 48]), (10, [100]), (11, [167, 0, 7]), (14, [42]), (15, [180, 0, 131]), (18, [181, 0, 131])] : List (Nat × List UInt8)).all (fun x => prB x.2 ((cX4_readNumber.data.toList.drop 41).drop x.1)) = true := by decide +kernel
theorem dX4_readNumber_41 : decode cX4_readNumber 41 = .ok (.imul, 1) := op104 (bA_at bd09_89_dec_73 0 rfl rfl)
theorem dX4_readNumber_42 : decode cX4_readNumber 42 = .ok (.aload_n 0, 1) := op42 (bA_at bd09_89_dec_73 1 rfl rfl)
theorem dX4_readNumber_43 : decode cX4_readNumber 43 = .ok (.getfield 47, 3) := op180 (bA_at bd09_89_dec_73 2 rfl rfl) rfl
theorem dX4_readNumber_46 : decode cX4_readNumber 46 = .ok (.iload_n 2, 1) := op28 (bA_at bd09_89_dec_73 3 rfl rfl)
theorem dX4_readNumber_47 : decode cX4_readNumber 47 = .ok (.baload, 1) := op51 (bA_at bd09_89_dec_73 4 rfl rfl)
theorem dX4_readNumber_48 : decode cX4_readNumber 48 = .ok (.iadd, 1) := op96 (bA_at bd09_89_dec_73 5 rfl rfl)
theorem dX4_readNumber_49 : decode cX4_readNumber 49 = .ok (.bipush 48, 2) := op16 (bA_at bd09_89_dec_73 6 rfl rfl) (by decide +kernel)
theorem dX4_readNumber_51 : decode cX4_readNumber 51 = .ok (.isub, 1) := op100 (bA_at bd09_89_dec_73 7 rfl rfl)
theorem dX4_readNumber_52 : decode cX4_readNumber 52 = .ok (.goto 7, 3) := op167 (bA_at bd09_89_dec_73 8 rfl rfl) (by decide +kernel)
theorem dX4_readNumber_55 : decode cX4_readNumber 55 = .ok (.aload_n 0, 1) := op42 (bA_at bd09_89_dec_73 9 rfl rfl)
theorem dX4_readNumber_56 : decode cX4_readNumber 56 = .ok (.getfield 131, 3) := op180 (bA_at bd09_89_dec_73 10 rfl rfl) rfl
theorem dX4_readNumber_59 : decode cX4_readNumber 59 = .ok (.putfield 131, 3) := op181 (bA_at bd09_89_dec_73 11 rfl rfl) rfl
theorem bd09_89_dec_74 : ([(0, [132, 2, 1]), (3, [167, 255, 198]), (6, [42]), (7, [28]), (8, [27]), (9, [100]), (10, [5]), (11, [163, 0, 7]), (14, [5]), (15, [167, 0, 4]), (18, [7]), (19, [181, 0, 73])] : List (Nat × List UInt8)).all (fun x => prB x.2 ((cX4_readNumber.data.toList.drop 62).drop x.1)) = true := by decide +kernel
theorem dX4_readNumber_62 : decode cX4_readNumber 62 = .ok (.iinc 2 1, 3) := op132 (bA_at bd09_89_dec_74 0 rfl rfl) rfl (by decide +kernel)
theorem dX4_readNumber_65 : decode cX4_readNumber 65 = .ok (.goto (-58), 3) := op167 (bA_at bd09_89_dec_74 1 rfl rfl) (by decide +kernel)
theorem dX4_readNumber_68 : decode cX4_readNumber 68 = .ok (.aload_n 0, 1) := op42 (bA_at bd09_89_dec_74 2 rfl rfl)
theorem dX4_readNumber_69 : decode cX4_readNumber 69 = .ok (.iload_n 2, 1) := op28 (bA_at bd09_89_dec_74 3 rfl rfl)
theorem dX4_readNumber_70 : decode cX4_readNumber 70 = .ok (.iload_n 1, 1) := op27 (bA_at bd09_89_dec_74 4 rfl rfl)
theorem dX4_readNumber_71 : decode cX4_readNumber 71 = .ok (.isub, 1) := op100 (bA_at bd09_89_dec_74 5 rfl rfl)
theorem dX4_readNumber_72 : decode cX4_readNumber 72 = .ok (.iconst 2, 1) := op5 (bA_at bd09_89_dec_74 6 rfl rfl)
theorem dX4_readNumber_73 : decode cX4_readNumber 73 = .ok (.if_icmp .gt 7, 3) := op163 (bA_at bd09_89_dec_74 7 rfl rfl) (by decide +kernel)
theorem dX4_readNumber_76 : decode cX4_readNumber 76 = .ok (.iconst 2, 1) := op5 (bA_at bd09_89_dec_74 8 rfl rfl)
theorem dX4_readNumber_77 : decode cX4_readNumber 77 = .ok (.goto 4, 3) := op167 (bA_at bd09_89_dec_74 9 rfl rfl) (by decide +kernel)
theorem dX4_readNumber_80 : decode cX4_readNumber 80 = .ok (.iconst 4, 1) := op7 (bA_at bd09_89_dec_74 10 rfl rfl)
theorem dX4_readNumber_81 : decode cX4_readNumber 81 = .ok (.putfield 73, 3) := op181 (bA_at bd09_89_dec_74 11 rfl rfl) rfl
theorem bd09_89_dec_75 : ([(0, [28]), (1, [172])] : List (Nat × List UInt8)).all (fun x => prB x.2 ((cX4_readNumber.data.toList.drop 84).drop x.1)) = true := by decide +kernel
theorem dX4_readNumber_84 : decode cX4_readNumber 84 = .ok (.iload_n 2, 1) := op28 (bA_at bd09_89_dec_75 0 rfl rfl)
theorem dX4_readNumber_85 : decode cX4_readNumber 85 = .ok (.ireturn, 1) := op172 (bA_at bd09_89_dec_75 1 rfl rfl)
theorem bd09_89_dec_76 : ([(0, [26]), (1, [16, 97]), (3, [161, 0, 13]), (6, [26]), (7, [16, 122]), (9, [163, 0, 7]), (12, [4]), (13, [167, 0, 4]), (16, [3]), (17, [172])] : List (Nat × List UInt8)).all (fun x => prB x.2 ((cX4_isLetter.data.toList.drop 0).drop x.1)) = true := by decide +kernel
theorem dX4_isLetter_0 : decode cX4_isLetter 0 = .ok (.iload_n 0, 1) := op26 (bA_at bd09_89_dec_76 0 rfl rfl)
theorem dX4_isLetter_1 : decode cX4_isLetter 1 = .ok (.bipush 97, 2) := op16 (bA_at bd09_89_dec_76 1 rfl rfl) (by decide +kernel)
theorem dX4_isLetter_3 : decode cX4_isLetter 3 = .ok (.if_icmp .lt 13, 3) := op161 (bA_at bd09_89_dec_76 2 rfl rfl) (by decide +kernel)
theorem dX4_isLetter_6 : decode cX4_isLetter 6 = .ok (.iload_n 0, 1) := op26 (bA_at bd09_89_dec_76 3 rfl rfl)
theorem dX4_isLetter_7 : decode cX4_isLetter 7 = .ok (.bipush 122, 2) := op16 (bA_at bd09_89_dec_76 4 rfl rfl) (by decide +kernel)
theorem dX4_isLetter_9 : decode cX4_isLetter 9 = .ok (.if_icmp .gt 7, 3) := op163 (bA_at bd09_89_dec_76 5 rfl rfl) (by decide +kernel)
theorem dX4_isLetter_12 : decode cX4_isLetter 12 = .ok (.iconst 1, 1) := op4 (bA_at bd09_89_dec_76 6 rfl rfl)
theorem dX4_isLetter_13 : decode cX4_isLetter 13 = .ok (.goto 4, 3) := op167 (bA_at bd09_89_dec_76 7 rfl rfl) (by decide +kernel)
theorem dX4_isLetter_16 : decode cX4_isLetter 16 = .ok (.iconst 0, 1) := op3 (bA_at bd09_89_dec_76 8 rfl rfl)
theorem dX4_isLetter_17 : decode cX4_isLetter 17 = .ok (.ireturn, 1) := op172 (bA_at bd09_89_dec_76 9 rfl rfl)
theorem bd09_89_dec_77 : ([(0, [26]), (1, [16, 48]), (3, [161, 0, 13]), (6, [26]), (7, [16, 57]), (9, [163, 0, 7]), (12, [4]), (13, [167, 0, 4]), (16, [3]), (17, [172])] : List (Nat × List UInt8)).all (fun x => prB x.2 ((cX4_isDigit.data.toList.drop 0).drop x.1)) = true := by decide +kernel
theorem dX4_isDigit_0 : decode cX4_isDigit 0 = .ok (.iload_n 0, 1) := op26 (bA_at bd09_89_dec_77 0 rfl rfl)
theorem dX4_isDigit_1 : decode cX4_isDigit 1 = .ok (.bipush 48, 2) := op16 (bA_at bd09_89_dec_77 1 rfl rfl) (by decide +kernel)
theorem dX4_isDigit_3 : decode cX4_isDigit 3 = .ok (.if_icmp .lt 13, 3) := op161 (bA_at bd09_89_dec_77 2 rfl rfl) (by decide +kernel)
theorem dX4_isDigit_6 : decode cX4_isDigit 6 = .ok (.iload_n 0, 1) := op26 (bA_at bd09_89_dec_77 3 rfl rfl)
theorem dX4_isDigit_7 : decode cX4_isDigit 7 = .ok (.bipush 57, 2) := op16 (bA_at bd09_89_dec_77 4 rfl rfl) (by decide +kernel)
theorem dX4_isDigit_9 : decode cX4_isDigit 9 = .ok (.if_icmp .gt 7, 3) := op163 (bA_at bd09_89_dec_77 5 rfl rfl) (by decide +kernel)
theorem dX4_isDigit_12 : decode cX4_isDigit 12 = .ok (.iconst 1, 1) := op4 (bA_at bd09_89_dec_77 6 rfl rfl)
theorem dX4_isDigit_13 : decode cX4_isDigit 13 = .ok (.goto 4, 3) := op167 (bA_at bd09_89_dec_77 7 rfl rfl) (by decide +kernel)
theorem dX4_isDigit_16 : decode cX4_isDigit 16 = .ok (.iconst 0, 1) := op3 (bA_at bd09_89_dec_77 8 rfl rfl)
theorem dX4_isDigit_17 : decode cX4_isDigit 17 = .ok (.ireturn, 1) := op172 (bA_at bd09_89_dec_77 9 rfl rfl)
theorem bd09_89_dec_78 : ([(0, [42]), (1, [180, 0, 73]), (4, [4]), (5, [159, 0, 5]), (8, [2]), (9, [172]), (10, [178, 0, 206]), (13, [27]), (14, [46]), (15, [61]), (16, [28]), (17, [178, 0, 206])] : List (Nat × List UInt8)).all (fun x => prB x.2 ((cX4_wordOf.data.toList.drop 0).drop x.1)) = true := by decide +kernel
theorem dX4_wordOf_0 : decode cX4_wordOf 0 = .ok (.aload_n 0, 1) := op42 (bA_at bd09_89_dec_78 0 rfl rfl)
theorem dX4_wordOf_1 : decode cX4_wordOf 1 = .ok (.getfield 73, 3) := op180 (bA_at bd09_89_dec_78 1 rfl rfl) rfl
theorem dX4_wordOf_4 : decode cX4_wordOf 4 = .ok (.iconst 1, 1) := op4 (bA_at bd09_89_dec_78 2 rfl rfl)
theorem dX4_wordOf_5 : decode cX4_wordOf 5 = .ok (.if_icmp .eq 5, 3) := op159 (bA_at bd09_89_dec_78 3 rfl rfl) (by decide +kernel)
theorem dX4_wordOf_8 : decode cX4_wordOf 8 = .ok (.iconst (-1), 1) := op2 (bA_at bd09_89_dec_78 4 rfl rfl)
theorem dX4_wordOf_9 : decode cX4_wordOf 9 = .ok (.ireturn, 1) := op172 (bA_at bd09_89_dec_78 5 rfl rfl)
theorem dX4_wordOf_10 : decode cX4_wordOf 10 = .ok (.getstatic 206, 3) := op178 (bA_at bd09_89_dec_78 6 rfl rfl) rfl
theorem dX4_wordOf_13 : decode cX4_wordOf 13 = .ok (.iload_n 1, 1) := op27 (bA_at bd09_89_dec_78 7 rfl rfl)
theorem dX4_wordOf_14 : decode cX4_wordOf 14 = .ok (.iaload, 1) := op46 (bA_at bd09_89_dec_78 8 rfl rfl)
theorem dX4_wordOf_15 : decode cX4_wordOf 15 = .ok (.istore_n 2, 1) := op61 (bA_at bd09_89_dec_78 9 rfl rfl)
theorem dX4_wordOf_16 : decode cX4_wordOf 16 = .ok (.iload_n 2, 1) := op28 (bA_at bd09_89_dec_78 10 rfl rfl)
theorem dX4_wordOf_17 : decode cX4_wordOf 17 = .ok (.getstatic 206, 3) := op178 (bA_at bd09_89_dec_78 11 rfl rfl) rfl
theorem bd09_89_dec_79 : ([(0, [27]), (1, [4]), (2, [96]), (3, [46]), (4, [162, 0, 22]), (7, [42]), (8, [28]), (9, [184, 0, 209]), (12, [182, 0, 213]), (15, [153, 0, 5]), (18, [28]), (19, [172])] : List (Nat × List UInt8)).all (fun x => prB x.2 ((cX4_wordOf.data.toList.drop 20).drop x.1)) = true := by decide +kernel
theorem dX4_wordOf_20 : decode cX4_wordOf 20 = .ok (.iload_n 1, 1) := op27 (bA_at bd09_89_dec_79 0 rfl rfl)
theorem dX4_wordOf_21 : decode cX4_wordOf 21 = .ok (.iconst 1, 1) := op4 (bA_at bd09_89_dec_79 1 rfl rfl)
theorem dX4_wordOf_22 : decode cX4_wordOf 22 = .ok (.iadd, 1) := op96 (bA_at bd09_89_dec_79 2 rfl rfl)
theorem dX4_wordOf_23 : decode cX4_wordOf 23 = .ok (.iaload, 1) := op46 (bA_at bd09_89_dec_79 3 rfl rfl)
theorem dX4_wordOf_24 : decode cX4_wordOf 24 = .ok (.if_icmp .ge 22, 3) := op162 (bA_at bd09_89_dec_79 4 rfl rfl) (by decide +kernel)
theorem dX4_wordOf_27 : decode cX4_wordOf 27 = .ok (.aload_n 0, 1) := op42 (bA_at bd09_89_dec_79 5 rfl rfl)
theorem dX4_wordOf_28 : decode cX4_wordOf 28 = .ok (.iload_n 2, 1) := op28 (bA_at bd09_89_dec_79 6 rfl rfl)
theorem dX4_wordOf_29 : decode cX4_wordOf 29 = .ok (.invokestatic 209, 3) := op184 (bA_at bd09_89_dec_79 7 rfl rfl) rfl
theorem dX4_wordOf_32 : decode cX4_wordOf 32 = .ok (.invokevirtual 213, 3) := op182 (bA_at bd09_89_dec_79 8 rfl rfl) rfl
theorem dX4_wordOf_35 : decode cX4_wordOf 35 = .ok (.ifCond .eq 5, 3) := op153 (bA_at bd09_89_dec_79 9 rfl rfl) (by decide +kernel)
theorem dX4_wordOf_38 : decode cX4_wordOf 38 = .ok (.iload_n 2, 1) := op28 (bA_at bd09_89_dec_79 10 rfl rfl)
theorem dX4_wordOf_39 : decode cX4_wordOf 39 = .ok (.ireturn, 1) := op172 (bA_at bd09_89_dec_79 11 rfl rfl)
theorem bd09_89_dec_80 : ([(0, [132, 2, 1]), (3, [167, 255, 229]), (6, [2]), (7, [172])] : List (Nat × List UInt8)).all (fun x => prB x.2 ((cX4_wordOf.data.toList.drop 40).drop x.1)) = true := by decide +kernel
theorem dX4_wordOf_40 : decode cX4_wordOf 40 = .ok (.iinc 2 1, 3) := op132 (bA_at bd09_89_dec_80 0 rfl rfl) rfl (by decide +kernel)
theorem dX4_wordOf_43 : decode cX4_wordOf 43 = .ok (.goto (-27), 3) := op167 (bA_at bd09_89_dec_80 1 rfl rfl) (by decide +kernel)
theorem dX4_wordOf_46 : decode cX4_wordOf 46 = .ok (.iconst (-1), 1) := op2 (bA_at bd09_89_dec_80 2 rfl rfl)
theorem dX4_wordOf_47 : decode cX4_wordOf 47 = .ok (.ireturn, 1) := op172 (bA_at bd09_89_dec_80 3 rfl rfl)
theorem bd09_89_dec_81 : ([(0, [43]), (1, [182, 0, 217]), (4, [42]), (5, [180, 0, 60]), (8, [42]), (9, [180, 0, 125]), (12, [100]), (13, [159, 0, 5]), (16, [3]), (17, [172]), (18, [3]), (19, [61])] : List (Nat × List UInt8)).all (fun x => prB x.2 ((cX4_isSpelled.data.toList.drop 0).drop x.1)) = true := by decide +kernel
theorem dX4_isSpelled_0 : decode cX4_isSpelled 0 = .ok (.aload_n 1, 1) := op43 (bA_at bd09_89_dec_81 0 rfl rfl)
theorem dX4_isSpelled_1 : decode cX4_isSpelled 1 = .ok (.invokevirtual 217, 3) := op182 (bA_at bd09_89_dec_81 1 rfl rfl) rfl
theorem dX4_isSpelled_4 : decode cX4_isSpelled 4 = .ok (.aload_n 0, 1) := op42 (bA_at bd09_89_dec_81 2 rfl rfl)
theorem dX4_isSpelled_5 : decode cX4_isSpelled 5 = .ok (.getfield 60, 3) := op180 (bA_at bd09_89_dec_81 3 rfl rfl) rfl
theorem dX4_isSpelled_8 : decode cX4_isSpelled 8 = .ok (.aload_n 0, 1) := op42 (bA_at bd09_89_dec_81 4 rfl rfl)
theorem dX4_isSpelled_9 : decode cX4_isSpelled 9 = .ok (.getfield 125, 3) := op180 (bA_at bd09_89_dec_81 5 rfl rfl) rfl
theorem dX4_isSpelled_12 : decode cX4_isSpelled 12 = .ok (.isub, 1) := op100 (bA_at bd09_89_dec_81 6 rfl rfl)
theorem dX4_isSpelled_13 : decode cX4_isSpelled 13 = .ok (.if_icmp .eq 5, 3) := op159 (bA_at bd09_89_dec_81 7 rfl rfl) (by decide +kernel)
theorem dX4_isSpelled_16 : decode cX4_isSpelled 16 = .ok (.iconst 0, 1) := op3 (bA_at bd09_89_dec_81 8 rfl rfl)
theorem dX4_isSpelled_17 : decode cX4_isSpelled 17 = .ok (.ireturn, 1) := op172 (bA_at bd09_89_dec_81 9 rfl rfl)
theorem dX4_isSpelled_18 : decode cX4_isSpelled 18 = .ok (.iconst 0, 1) := op3 (bA_at bd09_89_dec_81 10 rfl rfl)
theorem dX4_isSpelled_19 : decode cX4_isSpelled 19 = .ok (.istore_n 2, 1) := op61 (bA_at bd09_89_dec_81 11 rfl rfl)
theorem bd09_89_dec_82 : ([(0, [28]), (1, [43]), (2, [182, 0, 217]), (5, [162, 0, 30]), (8, [42]), (9, [180, 0, 47]), (12, [42]), (13, [180, 0, 125]), (16, [28]), (17, [96]), (18, [51]), (19, [43])] : List (Nat × List UInt8)).all (fun x => prB x.2 ((cX4_isSpelled.data.toList.drop 20).drop x.1)) = true := by decide +kernel
theorem dX4_isSpelled_20 : decode cX4_isSpelled 20 = .ok (.iload_n 2, 1) := op28 (bA_at bd09_89_dec_82 0 rfl rfl)
theorem dX4_isSpelled_21 : decode cX4_isSpelled 21 = .ok (.aload_n 1, 1) := op43 (bA_at bd09_89_dec_82 1 rfl rfl)
theorem dX4_isSpelled_22 : decode cX4_isSpelled 22 = .ok (.invokevirtual 217, 3) := op182 (bA_at bd09_89_dec_82 2 rfl rfl) rfl
theorem dX4_isSpelled_25 : decode cX4_isSpelled 25 = .ok (.if_icmp .ge 30, 3) := op162 (bA_at bd09_89_dec_82 3 rfl rfl) (by decide +kernel)
theorem dX4_isSpelled_28 : decode cX4_isSpelled 28 = .ok (.aload_n 0, 1) := op42 (bA_at bd09_89_dec_82 4 rfl rfl)
theorem dX4_isSpelled_29 : decode cX4_isSpelled 29 = .ok (.getfield 47, 3) := op180 (bA_at bd09_89_dec_82 5 rfl rfl) rfl
theorem dX4_isSpelled_32 : decode cX4_isSpelled 32 = .ok (.aload_n 0, 1) := op42 (bA_at bd09_89_dec_82 6 rfl rfl)
theorem dX4_isSpelled_33 : decode cX4_isSpelled 33 = .ok (.getfield 125, 3) := op180 (bA_at bd09_89_dec_82 7 rfl rfl) rfl
theorem dX4_isSpelled_36 : decode cX4_isSpelled 36 = .ok (.iload_n 2, 1) := op28 (bA_at bd09_89_dec_82 8 rfl rfl)
theorem dX4_isSpelled_37 : decode cX4_isSpelled 37 = .ok (.iadd, 1) := op96 (bA_at bd09_89_dec_82 9 rfl rfl)
theorem dX4_isSpelled_38 : decode cX4_isSpelled 38 = .ok (.baload, 1) := op51 (bA_at bd09_89_dec_82 10 rfl rfl)
theorem dX4_isSpelled_39 : decode cX4_isSpelled 39 = .ok (.aload_n 1, 1) := op43 (bA_at bd09_89_dec_82 11 rfl rfl)
theorem bd09_89_dec_83 : ([(0, [28]), (1, [182, 0, 222]), (4, [159, 0, 5]), (7, [3]), (8, [172]), (9, [132, 2, 1]), (12, [167, 255, 224]), (15, [4]), (16, [172])] : List (Nat × List UInt8)).all (fun x => prB x.2 ((cX4_isSpelled.data.toList.drop 40).drop x.1)) = true := by decide +kernel
theorem dX4_isSpelled_40 : decode cX4_isSpelled 40 = .ok (.iload_n 2, 1) := op28 (bA_at bd09_89_dec_83 0 rfl rfl)
theorem dX4_isSpelled_41 : decode cX4_isSpelled 41 = .ok (.invokevirtual 222, 3) := op182 (bA_at bd09_89_dec_83 1 rfl rfl) rfl
theorem dX4_isSpelled_44 : decode cX4_isSpelled 44 = .ok (.if_icmp .eq 5, 3) := op159 (bA_at bd09_89_dec_83 2 rfl rfl) (by decide +kernel)
theorem dX4_isSpelled_47 : decode cX4_isSpelled 47 = .ok (.iconst 0, 1) := op3 (bA_at bd09_89_dec_83 3 rfl rfl)
theorem dX4_isSpelled_48 : decode cX4_isSpelled 48 = .ok (.ireturn, 1) := op172 (bA_at bd09_89_dec_83 4 rfl rfl)
theorem dX4_isSpelled_49 : decode cX4_isSpelled 49 = .ok (.iinc 2 1, 3) := op132 (bA_at bd09_89_dec_83 5 rfl rfl) rfl (by decide +kernel)
theorem dX4_isSpelled_52 : decode cX4_isSpelled 52 = .ok (.goto (-32), 3) := op167 (bA_at bd09_89_dec_83 6 rfl rfl) (by decide +kernel)
theorem dX4_isSpelled_55 : decode cX4_isSpelled 55 = .ok (.iconst 1, 1) := op4 (bA_at bd09_89_dec_83 7 rfl rfl)
theorem dX4_isSpelled_56 : decode cX4_isSpelled 56 = .ok (.ireturn, 1) := op172 (bA_at bd09_89_dec_83 8 rfl rfl)
theorem dX4_spelling_1 : decode cX4_spelling 1 = .ok (.tableswitch 151 0 18 #[91, 94, 97, 100, 103, 106, 109, 112, 115, 118, 121, 124, 127, 130, 133, 136, 139, 143, 147], 91) := by decide +kernel
theorem bd09_89_dec_84 : ([(0, [26]), (92, [18, 226]), (94, [176]), (95, [18, 228]), (97, [176]), (98, [18, 230]), (100, [176]), (101, [18, 232]), (103, [176]), (104, [18, 233]), (106, [176])] : List (Nat × List UInt8)).all (fun x => prB x.2 ((cX4_spelling.data.toList.drop 0).drop x.1)) = true := by decide +kernel
theorem dX4_spelling_0 : decode cX4_spelling 0 = .ok (.iload_n 0, 1) := op26 (bA_at bd09_89_dec_84 0 rfl rfl)
theorem dX4_spelling_92 : decode cX4_spelling 92 = .ok (.ldc 226, 2) := op18 (bA_at bd09_89_dec_84 1 rfl rfl) rfl
theorem dX4_spelling_94 : decode cX4_spelling 94 = .ok (.areturn, 1) := op176 (bA_at bd09_89_dec_84 2 rfl rfl)
theorem dX4_spelling_95 : decode cX4_spelling 95 = .ok (.ldc 228, 2) := op18 (bA_at bd09_89_dec_84 3 rfl rfl) rfl
theorem dX4_spelling_97 : decode cX4_spelling 97 = .ok (.areturn, 1) := op176 (bA_at bd09_89_dec_84 4 rfl rfl)
theorem dX4_spelling_98 : decode cX4_spelling 98 = .ok (.ldc 230, 2) := op18 (bA_at bd09_89_dec_84 5 rfl rfl) rfl
theorem dX4_spelling_100 : decode cX4_spelling 100 = .ok (.areturn, 1) := op176 (bA_at bd09_89_dec_84 6 rfl rfl)
theorem dX4_spelling_101 : decode cX4_spelling 101 = .ok (.ldc 232, 2) := op18 (bA_at bd09_89_dec_84 7 rfl rfl) rfl
theorem dX4_spelling_103 : decode cX4_spelling 103 = .ok (.areturn, 1) := op176 (bA_at bd09_89_dec_84 8 rfl rfl)
theorem dX4_spelling_104 : decode cX4_spelling 104 = .ok (.ldc 233, 2) := op18 (bA_at bd09_89_dec_84 9 rfl rfl) rfl
theorem dX4_spelling_106 : decode cX4_spelling 106 = .ok (.areturn, 1) := op176 (bA_at bd09_89_dec_84 10 rfl rfl)
theorem bd09_89_dec_85 : ([(0, [18, 234]), (2, [176]), (3, [18, 236]), (5, [176]), (6, [18, 238]), (8, [176]), (9, [18, 240]), (11, [176]), (12, [18, 242]), (14, [176]), (15, [18, 244]), (17, [176])] : List (Nat × List UInt8)).all (fun x => prB x.2 ((cX4_spelling.data.toList.drop 107).drop x.1)) = true := by decide +kernel
theorem dX4_spelling_107 : decode cX4_spelling 107 = .ok (.ldc 234, 2) := op18 (bA_at bd09_89_dec_85 0 rfl rfl) rfl
theorem dX4_spelling_109 : decode cX4_spelling 109 = .ok (.areturn, 1) := op176 (bA_at bd09_89_dec_85 1 rfl rfl)
theorem dX4_spelling_110 : decode cX4_spelling 110 = .ok (.ldc 236, 2) := op18 (bA_at bd09_89_dec_85 2 rfl rfl) rfl
theorem dX4_spelling_112 : decode cX4_spelling 112 = .ok (.areturn, 1) := op176 (bA_at bd09_89_dec_85 3 rfl rfl)
theorem dX4_spelling_113 : decode cX4_spelling 113 = .ok (.ldc 238, 2) := op18 (bA_at bd09_89_dec_85 4 rfl rfl) rfl
theorem dX4_spelling_115 : decode cX4_spelling 115 = .ok (.areturn, 1) := op176 (bA_at bd09_89_dec_85 5 rfl rfl)
theorem dX4_spelling_116 : decode cX4_spelling 116 = .ok (.ldc 240, 2) := op18 (bA_at bd09_89_dec_85 6 rfl rfl) rfl
theorem dX4_spelling_118 : decode cX4_spelling 118 = .ok (.areturn, 1) := op176 (bA_at bd09_89_dec_85 7 rfl rfl)
theorem dX4_spelling_119 : decode cX4_spelling 119 = .ok (.ldc 242, 2) := op18 (bA_at bd09_89_dec_85 8 rfl rfl) rfl
theorem dX4_spelling_121 : decode cX4_spelling 121 = .ok (.areturn, 1) := op176 (bA_at bd09_89_dec_85 9 rfl rfl)
theorem dX4_spelling_122 : decode cX4_spelling 122 = .ok (.ldc 244, 2) := op18 (bA_at bd09_89_dec_85 10 rfl rfl) rfl
theorem dX4_spelling_124 : decode cX4_spelling 124 = .ok (.areturn, 1) := op176 (bA_at bd09_89_dec_85 11 rfl rfl)
theorem bd09_89_dec_86 : ([(0, [18, 246]), (2, [176]), (3, [18, 248]), (5, [176]), (6, [18, 250]), (8, [176]), (9, [18, 252]), (11, [176]), (12, [18, 254]), (14, [176]), (15, [19, 1, 0]), (18, [176])] : List (Nat × List UInt8)).all (fun x => prB x.2 ((cX4_spelling.data.toList.drop 125).drop x.1)) = true := by decide +kernel
theorem dX4_spelling_125 : decode cX4_spelling 125 = .ok (.ldc 246, 2) := op18 (bA_at bd09_89_dec_86 0 rfl rfl) rfl
theorem dX4_spelling_127 : decode cX4_spelling 127 = .ok (.areturn, 1) := op176 (bA_at bd09_89_dec_86 1 rfl rfl)
theorem dX4_spelling_128 : decode cX4_spelling 128 = .ok (.ldc 248, 2) := op18 (bA_at bd09_89_dec_86 2 rfl rfl) rfl
theorem dX4_spelling_130 : decode cX4_spelling 130 = .ok (.areturn, 1) := op176 (bA_at bd09_89_dec_86 3 rfl rfl)
theorem dX4_spelling_131 : decode cX4_spelling 131 = .ok (.ldc 250, 2) := op18 (bA_at bd09_89_dec_86 4 rfl rfl) rfl
theorem dX4_spelling_133 : decode cX4_spelling 133 = .ok (.areturn, 1) := op176 (bA_at bd09_89_dec_86 5 rfl rfl)
theorem dX4_spelling_134 : decode cX4_spelling 134 = .ok (.ldc 252, 2) := op18 (bA_at bd09_89_dec_86 6 rfl rfl) rfl
theorem dX4_spelling_136 : decode cX4_spelling 136 = .ok (.areturn, 1) := op176 (bA_at bd09_89_dec_86 7 rfl rfl)
theorem dX4_spelling_137 : decode cX4_spelling 137 = .ok (.ldc 254, 2) := op18 (bA_at bd09_89_dec_86 8 rfl rfl) rfl
theorem dX4_spelling_139 : decode cX4_spelling 139 = .ok (.areturn, 1) := op176 (bA_at bd09_89_dec_86 9 rfl rfl)
theorem dX4_spelling_140 : decode cX4_spelling 140 = .ok (.ldc_w 256, 3) := op19 (bA_at bd09_89_dec_86 10 rfl rfl) rfl
theorem dX4_spelling_143 : decode cX4_spelling 143 = .ok (.areturn, 1) := op176 (bA_at bd09_89_dec_86 11 rfl rfl)
theorem bd09_89_dec_87 : ([(0, [19, 1, 2]), (3, [176]), (4, [19, 1, 4]), (7, [176]), (8, [19, 1, 6]), (11, [176])] : List (Nat × List UInt8)).all (fun x => prB x.2 ((cX4_spelling.data.toList.drop 144).drop x.1)) = true := by decide +kernel
theorem dX4_spelling_144 : decode cX4_spelling 144 = .ok (.ldc_w 258, 3) := op19 (bA_at bd09_89_dec_87 0 rfl rfl) rfl
theorem dX4_spelling_147 : decode cX4_spelling 147 = .ok (.areturn, 1) := op176 (bA_at bd09_89_dec_87 1 rfl rfl)
theorem dX4_spelling_148 : decode cX4_spelling 148 = .ok (.ldc_w 260, 3) := op19 (bA_at bd09_89_dec_87 2 rfl rfl) rfl
theorem dX4_spelling_151 : decode cX4_spelling 151 = .ok (.areturn, 1) := op176 (bA_at bd09_89_dec_87 3 rfl rfl)
theorem dX4_spelling_152 : decode cX4_spelling 152 = .ok (.ldc_w 262, 3) := op19 (bA_at bd09_89_dec_87 4 rfl rfl) rfl
theorem dX4_spelling_155 : decode cX4_spelling 155 = .ok (.areturn, 1) := op176 (bA_at bd09_89_dec_87 5 rfl rfl)
theorem bd09_89_dec_88 : ([(0, [42]), (1, [43]), (2, [182, 0, 18]), (5, [42]), (6, [182, 0, 22]), (9, [77]), (10, [4]), (11, [43]), (12, [180, 0, 26]), (15, [120]), (16, [4]), (17, [100])] : List (Nat × List UInt8)).all (fun x => prB x.2 ((cX5_fill.data.toList.drop 0).drop x.1)) = true := by decide +kernel
theorem dX5_fill_0 : decode cX5_fill 0 = .ok (.aload_n 0, 1) := op42 (bA_at bd09_89_dec_88 0 rfl rfl)
theorem dX5_fill_1 : decode cX5_fill 1 = .ok (.aload_n 1, 1) := op43 (bA_at bd09_89_dec_88 1 rfl rfl)
theorem dX5_fill_2 : decode cX5_fill 2 = .ok (.invokevirtual 18, 3) := op182 (bA_at bd09_89_dec_88 2 rfl rfl) rfl
theorem dX5_fill_5 : decode cX5_fill 5 = .ok (.aload_n 0, 1) := op42 (bA_at bd09_89_dec_88 3 rfl rfl)
theorem dX5_fill_6 : decode cX5_fill 6 = .ok (.invokevirtual 22, 3) := op182 (bA_at bd09_89_dec_88 4 rfl rfl) rfl
theorem dX5_fill_9 : decode cX5_fill 9 = .ok (.astore_n 2, 1) := op77 (bA_at bd09_89_dec_88 5 rfl rfl)
theorem dX5_fill_10 : decode cX5_fill 10 = .ok (.iconst 1, 1) := op4 (bA_at bd09_89_dec_88 6 rfl rfl)
theorem dX5_fill_11 : decode cX5_fill 11 = .ok (.aload_n 1, 1) := op43 (bA_at bd09_89_dec_88 7 rfl rfl)
theorem dX5_fill_12 : decode cX5_fill 12 = .ok (.getfield 26, 3) := op180 (bA_at bd09_89_dec_88 8 rfl rfl) rfl
theorem dX5_fill_15 : decode cX5_fill 15 = .ok (.ishl, 1) := op120 (bA_at bd09_89_dec_88 9 rfl rfl)
theorem dX5_fill_16 : decode cX5_fill 16 = .ok (.iconst 1, 1) := op4 (bA_at bd09_89_dec_88 10 rfl rfl)
theorem dX5_fill_17 : decode cX5_fill 17 = .ok (.isub, 1) := op100 (bA_at bd09_89_dec_88 11 rfl rfl)
theorem bd09_89_dec_89 : ([(0, [62]), (1, [29]), (2, [54, 4]), (4, [21, 4]), (6, [158, 0, 75]), (9, [3]), (10, [54, 5]), (12, [21, 5]), (14, [43]), (15, [180, 0, 26]), (18, [162, 0, 57]), (21, [21, 4])] : List (Nat × List UInt8)).all (fun x => prB x.2 ((cX5_fill.data.toList.drop 18).drop x.1)) = true := by decide +kernel
theorem dX5_fill_18 : decode cX5_fill 18 = .ok (.istore_n 3, 1) := op62 (bA_at bd09_89_dec_89 0 rfl rfl)
theorem dX5_fill_19 : decode cX5_fill 19 = .ok (.iload_n 3, 1) := op29 (bA_at bd09_89_dec_89 1 rfl rfl)
theorem dX5_fill_20 : decode cX5_fill 20 = .ok (.istore 4, 2) := op54 (bA_at bd09_89_dec_89 2 rfl rfl) rfl
theorem dX5_fill_22 : decode cX5_fill 22 = .ok (.iload 4, 2) := op21 (bA_at bd09_89_dec_89 3 rfl rfl) rfl
theorem dX5_fill_24 : decode cX5_fill 24 = .ok (.ifCond .le 75, 3) := op158 (bA_at bd09_89_dec_89 4 rfl rfl) (by decide +kernel)
theorem dX5_fill_27 : decode cX5_fill 27 = .ok (.iconst 0, 1) := op3 (bA_at bd09_89_dec_89 5 rfl rfl)
theorem dX5_fill_28 : decode cX5_fill 28 = .ok (.istore 5, 2) := op54 (bA_at bd09_89_dec_89 6 rfl rfl) rfl
theorem dX5_fill_30 : decode cX5_fill 30 = .ok (.iload 5, 2) := op21 (bA_at bd09_89_dec_89 7 rfl rfl) rfl
theorem dX5_fill_32 : decode cX5_fill 32 = .ok (.aload_n 1, 1) := op43 (bA_at bd09_89_dec_89 8 rfl rfl)
theorem dX5_fill_33 : decode cX5_fill 33 = .ok (.getfield 26, 3) := op180 (bA_at bd09_89_dec_89 9 rfl rfl) rfl
theorem dX5_fill_36 : decode cX5_fill 36 = .ok (.if_icmp .ge 57, 3) := op162 (bA_at bd09_89_dec_89 10 rfl rfl) (by decide +kernel)
theorem dX5_fill_39 : decode cX5_fill 39 = .ok (.iload 4, 2) := op21 (bA_at bd09_89_dec_89 11 rfl rfl) rfl
theorem bd09_89_dec_90 : ([(0, [21, 5]), (2, [184, 0, 32]), (5, [153, 0, 41]), (8, [44]), (9, [21, 4]), (11, [16, 9]), (13, [104]), (14, [21, 5]), (16, [96]), (17, [21, 4]), (19, [29]), (20, [160, 0, 7])] : List (Nat × List UInt8)).all (fun x => prB x.2 ((cX5_fill.data.toList.drop 41).drop x.1)) = true := by decide +kernel
theorem dX5_fill_41 : decode cX5_fill 41 = .ok (.iload 5, 2) := op21 (bA_at bd09_89_dec_90 0 rfl rfl) rfl
theorem dX5_fill_43 : decode cX5_fill 43 = .ok (.invokestatic 32, 3) := op184 (bA_at bd09_89_dec_90 1 rfl rfl) rfl
theorem dX5_fill_46 : decode cX5_fill 46 = .ok (.ifCond .eq 41, 3) := op153 (bA_at bd09_89_dec_90 2 rfl rfl) (by decide +kernel)
theorem dX5_fill_49 : decode cX5_fill 49 = .ok (.aload_n 2, 1) := op44 (bA_at bd09_89_dec_90 3 rfl rfl)
theorem dX5_fill_50 : decode cX5_fill 50 = .ok (.iload 4, 2) := op21 (bA_at bd09_89_dec_90 4 rfl rfl) rfl
theorem dX5_fill_52 : decode cX5_fill 52 = .ok (.bipush 9, 2) := op16 (bA_at bd09_89_dec_90 5 rfl rfl) (by decide +kernel)
theorem dX5_fill_54 : decode cX5_fill 54 = .ok (.imul, 1) := op104 (bA_at bd09_89_dec_90 6 rfl rfl)
theorem dX5_fill_55 : decode cX5_fill 55 = .ok (.iload 5, 2) := op21 (bA_at bd09_89_dec_90 7 rfl rfl) rfl
theorem dX5_fill_57 : decode cX5_fill 57 = .ok (.iadd, 1) := op96 (bA_at bd09_89_dec_90 8 rfl rfl)
theorem dX5_fill_58 : decode cX5_fill 58 = .ok (.iload 4, 2) := op21 (bA_at bd09_89_dec_90 9 rfl rfl) rfl
theorem dX5_fill_60 : decode cX5_fill 60 = .ok (.iload_n 3, 1) := op29 (bA_at bd09_89_dec_90 10 rfl rfl)
theorem dX5_fill_61 : decode cX5_fill 61 = .ok (.if_icmp .ne 7, 3) := op160 (bA_at bd09_89_dec_90 11 rfl rfl) (by decide +kernel)
theorem bd09_89_dec_91 : ([(0, [4]), (1, [167, 0, 21]), (4, [44]), (5, [21, 4]), (7, [42]), (8, [180, 0, 15]), (11, [21, 5]), (13, [46]), (14, [21, 4]), (16, [2]), (17, [130]), (18, [126])] : List (Nat × List UInt8)).all (fun x => prB x.2 ((cX5_fill.data.toList.drop 64).drop x.1)) = true := by decide +kernel
theorem dX5_fill_64 : decode cX5_fill 64 = .ok (.iconst 1, 1) := op4 (bA_at bd09_89_dec_91 0 rfl rfl)
theorem dX5_fill_65 : decode cX5_fill 65 = .ok (.goto 21, 3) := op167 (bA_at bd09_89_dec_91 1 rfl rfl) (by decide +kernel)
theorem dX5_fill_68 : decode cX5_fill 68 = .ok (.aload_n 2, 1) := op44 (bA_at bd09_89_dec_91 2 rfl rfl)
theorem dX5_fill_69 : decode cX5_fill 69 = .ok (.iload 4, 2) := op21 (bA_at bd09_89_dec_91 3 rfl rfl) rfl
theorem dX5_fill_71 : decode cX5_fill 71 = .ok (.aload_n 0, 1) := op42 (bA_at bd09_89_dec_91 4 rfl rfl)
theorem dX5_fill_72 : decode cX5_fill 72 = .ok (.getfield 15, 3) := op180 (bA_at bd09_89_dec_91 5 rfl rfl) rfl
theorem dX5_fill_75 : decode cX5_fill 75 = .ok (.iload 5, 2) := op21 (bA_at bd09_89_dec_91 6 rfl rfl) rfl
theorem dX5_fill_77 : decode cX5_fill 77 = .ok (.iaload, 1) := op46 (bA_at bd09_89_dec_91 7 rfl rfl)
theorem dX5_fill_78 : decode cX5_fill 78 = .ok (.iload 4, 2) := op21 (bA_at bd09_89_dec_91 8 rfl rfl) rfl
theorem dX5_fill_80 : decode cX5_fill 80 = .ok (.iconst (-1), 1) := op2 (bA_at bd09_89_dec_91 9 rfl rfl)
theorem dX5_fill_81 : decode cX5_fill 81 = .ok (.ixor, 1) := op130 (bA_at bd09_89_dec_91 10 rfl rfl)
theorem dX5_fill_82 : decode cX5_fill 82 = .ok (.iand, 1) := op126 (bA_at bd09_89_dec_91 11 rfl rfl)
theorem bd09_89_dec_92 : ([(0, [184, 0, 36]), (3, [79]), (4, [132, 5, 1]), (7, [167, 255, 196]), (10, [132, 4, 255]), (13, [167, 255, 182]), (16, [177])] : List (Nat × List UInt8)).all (fun x => prB x.2 ((cX5_fill.data.toList.drop 83).drop x.1)) = true := by decide +kernel
theorem dX5_fill_83 : decode cX5_fill 83 = .ok (.invokestatic 36, 3) := op184 (bA_at bd09_89_dec_92 0 rfl rfl) rfl
theorem dX5_fill_86 : decode cX5_fill 86 = .ok (.iastore, 1) := op79 (bA_at bd09_89_dec_92 1 rfl rfl)
theorem dX5_fill_87 : decode cX5_fill 87 = .ok (.iinc 5 1, 3) := op132 (bA_at bd09_89_dec_92 2 rfl rfl) rfl (by decide +kernel)
theorem dX5_fill_90 : decode cX5_fill 90 = .ok (.goto (-60), 3) := op167 (bA_at bd09_89_dec_92 3 rfl rfl) (by decide +kernel)
theorem dX5_fill_93 : decode cX5_fill 93 = .ok (.iinc 4 (-1), 3) := op132 (bA_at bd09_89_dec_92 4 rfl rfl) rfl (by decide +kernel)
theorem dX5_fill_96 : decode cX5_fill 96 = .ok (.goto (-74), 3) := op167 (bA_at bd09_89_dec_92 5 rfl rfl) (by decide +kernel)
theorem dX5_fill_99 : decode cX5_fill 99 = .ok (.return_, 1) := op177 (bA_at bd09_89_dec_92 6 rfl rfl)
theorem bd09_89_dec_93 : ([(0, [3]), (1, [61]), (2, [28]), (3, [43]), (4, [180, 0, 26]), (7, [162, 0, 74]), (10, [42]), (11, [180, 0, 15]), (14, [28]), (15, [3]), (16, [79]), (17, [3])] : List (Nat × List UInt8)).all (fun x => prB x.2 ((cX5_measure.data.toList.drop 0).drop x.1)) = true := by decide +kernel
theorem dX5_measure_0 : decode cX5_measure 0 = .ok (.iconst 0, 1) := op3 (bA_at bd09_89_dec_93 0 rfl rfl)
theorem dX5_measure_1 : decode cX5_measure 1 = .ok (.istore_n 2, 1) := op61 (bA_at bd09_89_dec_93 1 rfl rfl)
theorem dX5_measure_2 : decode cX5_measure 2 = .ok (.iload_n 2, 1) := op28 (bA_at bd09_89_dec_93 2 rfl rfl)
theorem dX5_measure_3 : decode cX5_measure 3 = .ok (.aload_n 1, 1) := op43 (bA_at bd09_89_dec_93 3 rfl rfl)
theorem dX5_measure_4 : decode cX5_measure 4 = .ok (.getfield 26, 3) := op180 (bA_at bd09_89_dec_93 4 rfl rfl) rfl
theorem dX5_measure_7 : decode cX5_measure 7 = .ok (.if_icmp .ge 74, 3) := op162 (bA_at bd09_89_dec_93 5 rfl rfl) (by decide +kernel)
theorem dX5_measure_10 : decode cX5_measure 10 = .ok (.aload_n 0, 1) := op42 (bA_at bd09_89_dec_93 6 rfl rfl)
theorem dX5_measure_11 : decode cX5_measure 11 = .ok (.getfield 15, 3) := op180 (bA_at bd09_89_dec_93 7 rfl rfl) rfl
theorem dX5_measure_14 : decode cX5_measure 14 = .ok (.iload_n 2, 1) := op28 (bA_at bd09_89_dec_93 8 rfl rfl)
theorem dX5_measure_15 : decode cX5_measure 15 = .ok (.iconst 0, 1) := op3 (bA_at bd09_89_dec_93 9 rfl rfl)
theorem dX5_measure_16 : decode cX5_measure 16 = .ok (.iastore, 1) := op79 (bA_at bd09_89_dec_93 10 rfl rfl)
theorem dX5_measure_17 : decode cX5_measure 17 = .ok (.iconst 0, 1) := op3 (bA_at bd09_89_dec_93 11 rfl rfl)
theorem bd09_89_dec_94 : ([(0, [62]), (1, [29]), (2, [43]), (3, [180, 0, 26]), (6, [162, 0, 51]), (9, [43]), (10, [28]), (11, [29]), (12, [182, 0, 40]), (15, [54, 4]), (17, [42]), (18, [180, 0, 9])] : List (Nat × List UInt8)).all (fun x => prB x.2 ((cX5_measure.data.toList.drop 18).drop x.1)) = true := by decide +kernel
theorem dX5_measure_18 : decode cX5_measure 18 = .ok (.istore_n 3, 1) := op62 (bA_at bd09_89_dec_94 0 rfl rfl)
theorem dX5_measure_19 : decode cX5_measure 19 = .ok (.iload_n 3, 1) := op29 (bA_at bd09_89_dec_94 1 rfl rfl)
theorem dX5_measure_20 : decode cX5_measure 20 = .ok (.aload_n 1, 1) := op43 (bA_at bd09_89_dec_94 2 rfl rfl)
theorem dX5_measure_21 : decode cX5_measure 21 = .ok (.getfield 26, 3) := op180 (bA_at bd09_89_dec_94 3 rfl rfl) rfl
theorem dX5_measure_24 : decode cX5_measure 24 = .ok (.if_icmp .ge 51, 3) := op162 (bA_at bd09_89_dec_94 4 rfl rfl) (by decide +kernel)
theorem dX5_measure_27 : decode cX5_measure 27 = .ok (.aload_n 1, 1) := op43 (bA_at bd09_89_dec_94 5 rfl rfl)
theorem dX5_measure_28 : decode cX5_measure 28 = .ok (.iload_n 2, 1) := op28 (bA_at bd09_89_dec_94 6 rfl rfl)
theorem dX5_measure_29 : decode cX5_measure 29 = .ok (.iload_n 3, 1) := op29 (bA_at bd09_89_dec_94 7 rfl rfl)
theorem dX5_measure_30 : decode cX5_measure 30 = .ok (.invokevirtual 40, 3) := op182 (bA_at bd09_89_dec_94 8 rfl rfl) rfl
theorem dX5_measure_33 : decode cX5_measure 33 = .ok (.istore 4, 2) := op54 (bA_at bd09_89_dec_94 9 rfl rfl) rfl
theorem dX5_measure_35 : decode cX5_measure 35 = .ok (.aload_n 0, 1) := op42 (bA_at bd09_89_dec_94 10 rfl rfl)
theorem dX5_measure_36 : decode cX5_measure 36 = .ok (.getfield 9, 3) := op180 (bA_at bd09_89_dec_94 11 rfl rfl) rfl
theorem bd09_89_dec_95 : ([(0, [28]), (1, [16, 9]), (3, [104]), (4, [29]), (5, [96]), (6, [21, 4]), (8, [79]), (9, [21, 4]), (11, [43]), (12, [180, 0, 44]), (15, [163, 0, 15]), (18, [42])] : List (Nat × List UInt8)).all (fun x => prB x.2 ((cX5_measure.data.toList.drop 39).drop x.1)) = true := by decide +kernel
theorem dX5_measure_39 : decode cX5_measure 39 = .ok (.iload_n 2, 1) := op28 (bA_at bd09_89_dec_95 0 rfl rfl)
theorem dX5_measure_40 : decode cX5_measure 40 = .ok (.bipush 9, 2) := op16 (bA_at bd09_89_dec_95 1 rfl rfl) (by decide +kernel)
theorem dX5_measure_42 : decode cX5_measure 42 = .ok (.imul, 1) := op104 (bA_at bd09_89_dec_95 2 rfl rfl)
theorem dX5_measure_43 : decode cX5_measure 43 = .ok (.iload_n 3, 1) := op29 (bA_at bd09_89_dec_95 3 rfl rfl)
theorem dX5_measure_44 : decode cX5_measure 44 = .ok (.iadd, 1) := op96 (bA_at bd09_89_dec_95 4 rfl rfl)
theorem dX5_measure_45 : decode cX5_measure 45 = .ok (.iload 4, 2) := op21 (bA_at bd09_89_dec_95 5 rfl rfl) rfl
theorem dX5_measure_47 : decode cX5_measure 47 = .ok (.iastore, 1) := op79 (bA_at bd09_89_dec_95 6 rfl rfl)
theorem dX5_measure_48 : decode cX5_measure 48 = .ok (.iload 4, 2) := op21 (bA_at bd09_89_dec_95 7 rfl rfl) rfl
theorem dX5_measure_50 : decode cX5_measure 50 = .ok (.aload_n 1, 1) := op43 (bA_at bd09_89_dec_95 8 rfl rfl)
theorem dX5_measure_51 : decode cX5_measure 51 = .ok (.getfield 44, 3) := op180 (bA_at bd09_89_dec_95 9 rfl rfl) rfl
theorem dX5_measure_54 : decode cX5_measure 54 = .ok (.if_icmp .gt 15, 3) := op163 (bA_at bd09_89_dec_95 10 rfl rfl) (by decide +kernel)
theorem dX5_measure_57 : decode cX5_measure 57 = .ok (.aload_n 0, 1) := op42 (bA_at bd09_89_dec_95 11 rfl rfl)
theorem bd09_89_dec_96 : ([(0, [180, 0, 15]), (3, [28]), (4, [92]), (5, [46]), (6, [4]), (7, [29]), (8, [120]), (9, [128]), (10, [79]), (11, [132, 3, 1]), (14, [167, 255, 203]), (17, [132, 2, 1])] : List (Nat × List UInt8)).all (fun x => prB x.2 ((cX5_measure.data.toList.drop 58).drop x.1)) = true := by decide +kernel
theorem dX5_measure_58 : decode cX5_measure 58 = .ok (.getfield 15, 3) := op180 (bA_at bd09_89_dec_96 0 rfl rfl) rfl
theorem dX5_measure_61 : decode cX5_measure 61 = .ok (.iload_n 2, 1) := op28 (bA_at bd09_89_dec_96 1 rfl rfl)
theorem dX5_measure_62 : decode cX5_measure 62 = .ok (.dup2, 1) := op92 (bA_at bd09_89_dec_96 2 rfl rfl)
theorem dX5_measure_63 : decode cX5_measure 63 = .ok (.iaload, 1) := op46 (bA_at bd09_89_dec_96 3 rfl rfl)
theorem dX5_measure_64 : decode cX5_measure 64 = .ok (.iconst 1, 1) := op4 (bA_at bd09_89_dec_96 4 rfl rfl)
theorem dX5_measure_65 : decode cX5_measure 65 = .ok (.iload_n 3, 1) := op29 (bA_at bd09_89_dec_96 5 rfl rfl)
theorem dX5_measure_66 : decode cX5_measure 66 = .ok (.ishl, 1) := op120 (bA_at bd09_89_dec_96 6 rfl rfl)
theorem dX5_measure_67 : decode cX5_measure 67 = .ok (.ior, 1) := op128 (bA_at bd09_89_dec_96 7 rfl rfl)
theorem dX5_measure_68 : decode cX5_measure 68 = .ok (.iastore, 1) := op79 (bA_at bd09_89_dec_96 8 rfl rfl)
theorem dX5_measure_69 : decode cX5_measure 69 = .ok (.iinc 3 1, 3) := op132 (bA_at bd09_89_dec_96 9 rfl rfl) rfl (by decide +kernel)
theorem dX5_measure_72 : decode cX5_measure 72 = .ok (.goto (-53), 3) := op167 (bA_at bd09_89_dec_96 10 rfl rfl) (by decide +kernel)
theorem dX5_measure_75 : decode cX5_measure 75 = .ok (.iinc 2 1, 3) := op132 (bA_at bd09_89_dec_96 11 rfl rfl) rfl (by decide +kernel)
theorem bd09_89_dec_97 : ([(0, [167, 255, 180]), (3, [177])] : List (Nat × List UInt8)).all (fun x => prB x.2 ((cX5_measure.data.toList.drop 78).drop x.1)) = true := by decide +kernel
theorem dX5_measure_78 : decode cX5_measure 78 = .ok (.goto (-76), 3) := op167 (bA_at bd09_89_dec_97 0 rfl rfl) (by decide +kernel)
theorem dX5_measure_81 : decode cX5_measure 81 = .ok (.return_, 1) := op177 (bA_at bd09_89_dec_97 1 rfl rfl)
theorem bd09_89_dec_98 : ([(0, [3]), (1, [62]), (2, [3]), (3, [54, 4]), (5, [21, 4]), (7, [16, 9]), (9, [162, 0, 42]), (12, [28]), (13, [21, 4]), (15, [122]), (16, [153, 0, 35]), (19, [28])] : List (Nat × List UInt8)).all (fun x => prB x.2 ((cX5_waysOn.data.toList.drop 0).drop x.1)) = true := by decide +kernel
theorem dX5_waysOn_0 : decode cX5_waysOn 0 = .ok (.iconst 0, 1) := op3 (bA_at bd09_89_dec_98 0 rfl rfl)
theorem dX5_waysOn_1 : decode cX5_waysOn 1 = .ok (.istore_n 3, 1) := op62 (bA_at bd09_89_dec_98 1 rfl rfl)
theorem dX5_waysOn_2 : decode cX5_waysOn 2 = .ok (.iconst 0, 1) := op3 (bA_at bd09_89_dec_98 2 rfl rfl)
theorem dX5_waysOn_3 : decode cX5_waysOn 3 = .ok (.istore 4, 2) := op54 (bA_at bd09_89_dec_98 3 rfl rfl) rfl
theorem dX5_waysOn_5 : decode cX5_waysOn 5 = .ok (.iload 4, 2) := op21 (bA_at bd09_89_dec_98 4 rfl rfl) rfl
theorem dX5_waysOn_7 : decode cX5_waysOn 7 = .ok (.bipush 9, 2) := op16 (bA_at bd09_89_dec_98 5 rfl rfl) (by decide +kernel)
theorem dX5_waysOn_9 : decode cX5_waysOn 9 = .ok (.if_icmp .ge 42, 3) := op162 (bA_at bd09_89_dec_98 6 rfl rfl) (by decide +kernel)
theorem dX5_waysOn_12 : decode cX5_waysOn 12 = .ok (.iload_n 2, 1) := op28 (bA_at bd09_89_dec_98 7 rfl rfl)
theorem dX5_waysOn_13 : decode cX5_waysOn 13 = .ok (.iload 4, 2) := op21 (bA_at bd09_89_dec_98 8 rfl rfl) rfl
theorem dX5_waysOn_15 : decode cX5_waysOn 15 = .ok (.ishr, 1) := op122 (bA_at bd09_89_dec_98 9 rfl rfl)
theorem dX5_waysOn_16 : decode cX5_waysOn 16 = .ok (.ifCond .eq 35, 3) := op153 (bA_at bd09_89_dec_98 10 rfl rfl) (by decide +kernel)
theorem dX5_waysOn_19 : decode cX5_waysOn 19 = .ok (.iload_n 2, 1) := op28 (bA_at bd09_89_dec_98 11 rfl rfl)
theorem bd09_89_dec_99 : ([(0, [21, 4]), (2, [184, 0, 32]), (5, [153, 0, 20]), (8, [29]), (9, [42]), (10, [27]), (11, [4]), (12, [21, 4]), (14, [120]), (15, [128]), (16, [16, 9]), (18, [104])] : List (Nat × List UInt8)).all (fun x => prB x.2 ((cX5_waysOn.data.toList.drop 20).drop x.1)) = true := by decide +kernel
theorem dX5_waysOn_20 : decode cX5_waysOn 20 = .ok (.iload 4, 2) := op21 (bA_at bd09_89_dec_99 0 rfl rfl) rfl
theorem dX5_waysOn_22 : decode cX5_waysOn 22 = .ok (.invokestatic 32, 3) := op184 (bA_at bd09_89_dec_99 1 rfl rfl) rfl
theorem dX5_waysOn_25 : decode cX5_waysOn 25 = .ok (.ifCond .eq 20, 3) := op153 (bA_at bd09_89_dec_99 2 rfl rfl) (by decide +kernel)
theorem dX5_waysOn_28 : decode cX5_waysOn 28 = .ok (.iload_n 3, 1) := op29 (bA_at bd09_89_dec_99 3 rfl rfl)
theorem dX5_waysOn_29 : decode cX5_waysOn 29 = .ok (.aload_n 0, 1) := op42 (bA_at bd09_89_dec_99 4 rfl rfl)
theorem dX5_waysOn_30 : decode cX5_waysOn 30 = .ok (.iload_n 1, 1) := op27 (bA_at bd09_89_dec_99 5 rfl rfl)
theorem dX5_waysOn_31 : decode cX5_waysOn 31 = .ok (.iconst 1, 1) := op4 (bA_at bd09_89_dec_99 6 rfl rfl)
theorem dX5_waysOn_32 : decode cX5_waysOn 32 = .ok (.iload 4, 2) := op21 (bA_at bd09_89_dec_99 7 rfl rfl) rfl
theorem dX5_waysOn_34 : decode cX5_waysOn 34 = .ok (.ishl, 1) := op120 (bA_at bd09_89_dec_99 8 rfl rfl)
theorem dX5_waysOn_35 : decode cX5_waysOn 35 = .ok (.ior, 1) := op128 (bA_at bd09_89_dec_99 9 rfl rfl)
theorem dX5_waysOn_36 : decode cX5_waysOn 36 = .ok (.bipush 9, 2) := op16 (bA_at bd09_89_dec_99 10 rfl rfl) (by decide +kernel)
theorem dX5_waysOn_38 : decode cX5_waysOn 38 = .ok (.imul, 1) := op104 (bA_at bd09_89_dec_99 11 rfl rfl)
theorem bd09_89_dec_100 : ([(0, [21, 4]), (2, [96]), (3, [46]), (4, [96]), (5, [62]), (6, [132, 4, 1]), (9, [167, 255, 213]), (12, [29]), (13, [172])] : List (Nat × List UInt8)).all (fun x => prB x.2 ((cX5_waysOn.data.toList.drop 39).drop x.1)) = true := by decide +kernel
theorem dX5_waysOn_39 : decode cX5_waysOn 39 = .ok (.iload 4, 2) := op21 (bA_at bd09_89_dec_100 0 rfl rfl) rfl
theorem dX5_waysOn_41 : decode cX5_waysOn 41 = .ok (.iadd, 1) := op96 (bA_at bd09_89_dec_100 1 rfl rfl)
theorem dX5_waysOn_42 : decode cX5_waysOn 42 = .ok (.iaload, 1) := op46 (bA_at bd09_89_dec_100 2 rfl rfl)
theorem dX5_waysOn_43 : decode cX5_waysOn 43 = .ok (.iadd, 1) := op96 (bA_at bd09_89_dec_100 3 rfl rfl)
theorem dX5_waysOn_44 : decode cX5_waysOn 44 = .ok (.istore_n 3, 1) := op62 (bA_at bd09_89_dec_100 4 rfl rfl)
theorem dX5_waysOn_45 : decode cX5_waysOn 45 = .ok (.iinc 4 1, 3) := op132 (bA_at bd09_89_dec_100 5 rfl rfl) rfl (by decide +kernel)
theorem dX5_waysOn_48 : decode cX5_waysOn 48 = .ok (.goto (-43), 3) := op167 (bA_at bd09_89_dec_100 6 rfl rfl) (by decide +kernel)
theorem dX5_waysOn_51 : decode cX5_waysOn 51 = .ok (.iload_n 3, 1) := op29 (bA_at bd09_89_dec_100 7 rfl rfl)
theorem dX5_waysOn_52 : decode cX5_waysOn 52 = .ok (.ireturn, 1) := op172 (bA_at bd09_89_dec_100 8 rfl rfl)
theorem bd09_89_dec_101 : ([(0, [43]), (1, [180, 0, 26]), (4, [154, 0, 5]), (7, [4]), (8, [172]), (9, [42]), (10, [182, 0, 22]), (13, [77]), (14, [3]), (15, [62]), (16, [3]), (17, [54, 4])] : List (Nat × List UInt8)).all (fun x => prB x.2 ((cX5_total.data.toList.drop 0).drop x.1)) = true := by decide +kernel
theorem dX5_total_0 : decode cX5_total 0 = .ok (.aload_n 1, 1) := op43 (bA_at bd09_89_dec_101 0 rfl rfl)
theorem dX5_total_1 : decode cX5_total 1 = .ok (.getfield 26, 3) := op180 (bA_at bd09_89_dec_101 1 rfl rfl) rfl
theorem dX5_total_4 : decode cX5_total 4 = .ok (.ifCond .ne 5, 3) := op154 (bA_at bd09_89_dec_101 2 rfl rfl) (by decide +kernel)
theorem dX5_total_7 : decode cX5_total 7 = .ok (.iconst 1, 1) := op4 (bA_at bd09_89_dec_101 3 rfl rfl)
theorem dX5_total_8 : decode cX5_total 8 = .ok (.ireturn, 1) := op172 (bA_at bd09_89_dec_101 4 rfl rfl)
theorem dX5_total_9 : decode cX5_total 9 = .ok (.aload_n 0, 1) := op42 (bA_at bd09_89_dec_101 5 rfl rfl)
theorem dX5_total_10 : decode cX5_total 10 = .ok (.invokevirtual 22, 3) := op182 (bA_at bd09_89_dec_101 6 rfl rfl) rfl
theorem dX5_total_13 : decode cX5_total 13 = .ok (.astore_n 2, 1) := op77 (bA_at bd09_89_dec_101 7 rfl rfl)
theorem dX5_total_14 : decode cX5_total 14 = .ok (.iconst 0, 1) := op3 (bA_at bd09_89_dec_101 8 rfl rfl)
theorem dX5_total_15 : decode cX5_total 15 = .ok (.istore_n 3, 1) := op62 (bA_at bd09_89_dec_101 9 rfl rfl)
theorem dX5_total_16 : decode cX5_total 16 = .ok (.iconst 0, 1) := op3 (bA_at bd09_89_dec_101 10 rfl rfl)
theorem dX5_total_17 : decode cX5_total 17 = .ok (.istore 4, 2) := op54 (bA_at bd09_89_dec_101 11 rfl rfl) rfl
theorem bd09_89_dec_102 : ([(0, [21, 4]), (2, [43]), (3, [180, 0, 26]), (6, [162, 0, 24]), (9, [29]), (10, [44]), (11, [4]), (12, [21, 4]), (14, [120]), (15, [16, 9]), (17, [104]), (18, [21, 4])] : List (Nat × List UInt8)).all (fun x => prB x.2 ((cX5_total.data.toList.drop 19).drop x.1)) = true := by decide +kernel
theorem dX5_total_19 : decode cX5_total 19 = .ok (.iload 4, 2) := op21 (bA_at bd09_89_dec_102 0 rfl rfl) rfl
theorem dX5_total_21 : decode cX5_total 21 = .ok (.aload_n 1, 1) := op43 (bA_at bd09_89_dec_102 1 rfl rfl)
theorem dX5_total_22 : decode cX5_total 22 = .ok (.getfield 26, 3) := op180 (bA_at bd09_89_dec_102 2 rfl rfl) rfl
theorem dX5_total_25 : decode cX5_total 25 = .ok (.if_icmp .ge 24, 3) := op162 (bA_at bd09_89_dec_102 3 rfl rfl) (by decide +kernel)
theorem dX5_total_28 : decode cX5_total 28 = .ok (.iload_n 3, 1) := op29 (bA_at bd09_89_dec_102 4 rfl rfl)
theorem dX5_total_29 : decode cX5_total 29 = .ok (.aload_n 2, 1) := op44 (bA_at bd09_89_dec_102 5 rfl rfl)
theorem dX5_total_30 : decode cX5_total 30 = .ok (.iconst 1, 1) := op4 (bA_at bd09_89_dec_102 6 rfl rfl)
theorem dX5_total_31 : decode cX5_total 31 = .ok (.iload 4, 2) := op21 (bA_at bd09_89_dec_102 7 rfl rfl) rfl
theorem dX5_total_33 : decode cX5_total 33 = .ok (.ishl, 1) := op120 (bA_at bd09_89_dec_102 8 rfl rfl)
theorem dX5_total_34 : decode cX5_total 34 = .ok (.bipush 9, 2) := op16 (bA_at bd09_89_dec_102 9 rfl rfl) (by decide +kernel)
theorem dX5_total_36 : decode cX5_total 36 = .ok (.imul, 1) := op104 (bA_at bd09_89_dec_102 10 rfl rfl)
theorem dX5_total_37 : decode cX5_total 37 = .ok (.iload 4, 2) := op21 (bA_at bd09_89_dec_102 11 rfl rfl) rfl
theorem bd09_89_dec_103 : ([(0, [96]), (1, [46]), (2, [96]), (3, [62]), (4, [132, 4, 1]), (7, [167, 255, 229]), (10, [29]), (11, [172])] : List (Nat × List UInt8)).all (fun x => prB x.2 ((cX5_total.data.toList.drop 39).drop x.1)) = true := by decide +kernel
theorem dX5_total_39 : decode cX5_total 39 = .ok (.iadd, 1) := op96 (bA_at bd09_89_dec_103 0 rfl rfl)
theorem dX5_total_40 : decode cX5_total 40 = .ok (.iaload, 1) := op46 (bA_at bd09_89_dec_103 1 rfl rfl)
theorem dX5_total_41 : decode cX5_total 41 = .ok (.iadd, 1) := op96 (bA_at bd09_89_dec_103 2 rfl rfl)
theorem dX5_total_42 : decode cX5_total 42 = .ok (.istore_n 3, 1) := op62 (bA_at bd09_89_dec_103 3 rfl rfl)
theorem dX5_total_43 : decode cX5_total 43 = .ok (.iinc 4 1, 3) := op132 (bA_at bd09_89_dec_103 4 rfl rfl) rfl (by decide +kernel)
theorem dX5_total_46 : decode cX5_total 46 = .ok (.goto (-27), 3) := op167 (bA_at bd09_89_dec_103 5 rfl rfl) (by decide +kernel)
theorem dX5_total_49 : decode cX5_total 49 = .ok (.iload_n 3, 1) := op29 (bA_at bd09_89_dec_103 6 rfl rfl)
theorem dX5_total_50 : decode cX5_total 50 = .ok (.ireturn, 1) := op172 (bA_at bd09_89_dec_103 7 rfl rfl)
theorem bd09_89_dec_104 : ([(0, [3]), (1, [62]), (2, [4]), (3, [43]), (4, [180, 0, 26]), (7, [120]), (8, [4]), (9, [100]), (10, [54, 4]), (12, [2]), (13, [54, 5]), (15, [3])] : List (Nat × List UInt8)).all (fun x => prB x.2 ((cX5_voiceAt.data.toList.drop 0).drop x.1)) = true := by decide +kernel
theorem dX5_voiceAt_0 : decode cX5_voiceAt 0 = .ok (.iconst 0, 1) := op3 (bA_at bd09_89_dec_104 0 rfl rfl)
theorem dX5_voiceAt_1 : decode cX5_voiceAt 1 = .ok (.istore_n 3, 1) := op62 (bA_at bd09_89_dec_104 1 rfl rfl)
theorem dX5_voiceAt_2 : decode cX5_voiceAt 2 = .ok (.iconst 1, 1) := op4 (bA_at bd09_89_dec_104 2 rfl rfl)
theorem dX5_voiceAt_3 : decode cX5_voiceAt 3 = .ok (.aload_n 1, 1) := op43 (bA_at bd09_89_dec_104 3 rfl rfl)
theorem dX5_voiceAt_4 : decode cX5_voiceAt 4 = .ok (.getfield 26, 3) := op180 (bA_at bd09_89_dec_104 4 rfl rfl) rfl
theorem dX5_voiceAt_7 : decode cX5_voiceAt 7 = .ok (.ishl, 1) := op120 (bA_at bd09_89_dec_104 5 rfl rfl)
theorem dX5_voiceAt_8 : decode cX5_voiceAt 8 = .ok (.iconst 1, 1) := op4 (bA_at bd09_89_dec_104 6 rfl rfl)
theorem dX5_voiceAt_9 : decode cX5_voiceAt 9 = .ok (.isub, 1) := op100 (bA_at bd09_89_dec_104 7 rfl rfl)
theorem dX5_voiceAt_10 : decode cX5_voiceAt 10 = .ok (.istore 4, 2) := op54 (bA_at bd09_89_dec_104 8 rfl rfl) rfl
theorem dX5_voiceAt_12 : decode cX5_voiceAt 12 = .ok (.iconst (-1), 1) := op2 (bA_at bd09_89_dec_104 9 rfl rfl)
theorem dX5_voiceAt_13 : decode cX5_voiceAt 13 = .ok (.istore 5, 2) := op54 (bA_at bd09_89_dec_104 10 rfl rfl) rfl
theorem dX5_voiceAt_15 : decode cX5_voiceAt 15 = .ok (.iconst 0, 1) := op3 (bA_at bd09_89_dec_104 11 rfl rfl)
theorem bd09_89_dec_105 : ([(0, [54, 6]), (2, [21, 6]), (4, [28]), (5, [163, 0, 46]), (8, [42]), (9, [29]), (10, [21, 4]), (12, [182, 0, 47]), (15, [54, 5]), (17, [21, 5]), (19, [2]), (20, [160, 0, 5])] : List (Nat × List UInt8)).all (fun x => prB x.2 ((cX5_voiceAt.data.toList.drop 16).drop x.1)) = true := by decide +kernel
theorem dX5_voiceAt_16 : decode cX5_voiceAt 16 = .ok (.istore 6, 2) := op54 (bA_at bd09_89_dec_105 0 rfl rfl) rfl
theorem dX5_voiceAt_18 : decode cX5_voiceAt 18 = .ok (.iload 6, 2) := op21 (bA_at bd09_89_dec_105 1 rfl rfl) rfl
theorem dX5_voiceAt_20 : decode cX5_voiceAt 20 = .ok (.iload_n 2, 1) := op28 (bA_at bd09_89_dec_105 2 rfl rfl)
theorem dX5_voiceAt_21 : decode cX5_voiceAt 21 = .ok (.if_icmp .gt 46, 3) := op163 (bA_at bd09_89_dec_105 3 rfl rfl) (by decide +kernel)
theorem dX5_voiceAt_24 : decode cX5_voiceAt 24 = .ok (.aload_n 0, 1) := op42 (bA_at bd09_89_dec_105 4 rfl rfl)
theorem dX5_voiceAt_25 : decode cX5_voiceAt 25 = .ok (.iload_n 3, 1) := op29 (bA_at bd09_89_dec_105 5 rfl rfl)
theorem dX5_voiceAt_26 : decode cX5_voiceAt 26 = .ok (.iload 4, 2) := op21 (bA_at bd09_89_dec_105 6 rfl rfl) rfl
theorem dX5_voiceAt_28 : decode cX5_voiceAt 28 = .ok (.invokevirtual 47, 3) := op182 (bA_at bd09_89_dec_105 7 rfl rfl) rfl
theorem dX5_voiceAt_31 : decode cX5_voiceAt 31 = .ok (.istore 5, 2) := op54 (bA_at bd09_89_dec_105 8 rfl rfl) rfl
theorem dX5_voiceAt_33 : decode cX5_voiceAt 33 = .ok (.iload 5, 2) := op21 (bA_at bd09_89_dec_105 9 rfl rfl) rfl
theorem dX5_voiceAt_35 : decode cX5_voiceAt 35 = .ok (.iconst (-1), 1) := op2 (bA_at bd09_89_dec_105 10 rfl rfl)
theorem dX5_voiceAt_36 : decode cX5_voiceAt 36 = .ok (.if_icmp .ne 5, 3) := op160 (bA_at bd09_89_dec_105 11 rfl rfl) (by decide +kernel)
theorem bd09_89_dec_106 : ([(0, [2]), (1, [172]), (2, [29]), (3, [4]), (4, [21, 5]), (6, [120]), (7, [128]), (8, [62]), (9, [42]), (10, [180, 0, 15]), (13, [21, 5]), (15, [46])] : List (Nat × List UInt8)).all (fun x => prB x.2 ((cX5_voiceAt.data.toList.drop 39).drop x.1)) = true := by decide +kernel
theorem dX5_voiceAt_39 : decode cX5_voiceAt 39 = .ok (.iconst (-1), 1) := op2 (bA_at bd09_89_dec_106 0 rfl rfl)
theorem dX5_voiceAt_40 : decode cX5_voiceAt 40 = .ok (.ireturn, 1) := op172 (bA_at bd09_89_dec_106 1 rfl rfl)
theorem dX5_voiceAt_41 : decode cX5_voiceAt 41 = .ok (.iload_n 3, 1) := op29 (bA_at bd09_89_dec_106 2 rfl rfl)
theorem dX5_voiceAt_42 : decode cX5_voiceAt 42 = .ok (.iconst 1, 1) := op4 (bA_at bd09_89_dec_106 3 rfl rfl)
theorem dX5_voiceAt_43 : decode cX5_voiceAt 43 = .ok (.iload 5, 2) := op21 (bA_at bd09_89_dec_106 4 rfl rfl) rfl
theorem dX5_voiceAt_45 : decode cX5_voiceAt 45 = .ok (.ishl, 1) := op120 (bA_at bd09_89_dec_106 5 rfl rfl)
theorem dX5_voiceAt_46 : decode cX5_voiceAt 46 = .ok (.ior, 1) := op128 (bA_at bd09_89_dec_106 6 rfl rfl)
theorem dX5_voiceAt_47 : decode cX5_voiceAt 47 = .ok (.istore_n 3, 1) := op62 (bA_at bd09_89_dec_106 7 rfl rfl)
theorem dX5_voiceAt_48 : decode cX5_voiceAt 48 = .ok (.aload_n 0, 1) := op42 (bA_at bd09_89_dec_106 8 rfl rfl)
theorem dX5_voiceAt_49 : decode cX5_voiceAt 49 = .ok (.getfield 15, 3) := op180 (bA_at bd09_89_dec_106 9 rfl rfl) rfl
theorem dX5_voiceAt_52 : decode cX5_voiceAt 52 = .ok (.iload 5, 2) := op21 (bA_at bd09_89_dec_106 10 rfl rfl) rfl
theorem dX5_voiceAt_54 : decode cX5_voiceAt 54 = .ok (.iaload, 1) := op46 (bA_at bd09_89_dec_106 11 rfl rfl)
theorem bd09_89_dec_107 : ([(0, [29]), (1, [2]), (2, [130]), (3, [126]), (4, [54, 4]), (6, [132, 6, 1]), (9, [167, 255, 210]), (12, [21, 5]), (14, [172])] : List (Nat × List UInt8)).all (fun x => prB x.2 ((cX5_voiceAt.data.toList.drop 55).drop x.1)) = true := by decide +kernel
theorem dX5_voiceAt_55 : decode cX5_voiceAt 55 = .ok (.iload_n 3, 1) := op29 (bA_at bd09_89_dec_107 0 rfl rfl)
theorem dX5_voiceAt_56 : decode cX5_voiceAt 56 = .ok (.iconst (-1), 1) := op2 (bA_at bd09_89_dec_107 1 rfl rfl)
theorem dX5_voiceAt_57 : decode cX5_voiceAt 57 = .ok (.ixor, 1) := op130 (bA_at bd09_89_dec_107 2 rfl rfl)
theorem dX5_voiceAt_58 : decode cX5_voiceAt 58 = .ok (.iand, 1) := op126 (bA_at bd09_89_dec_107 3 rfl rfl)
theorem dX5_voiceAt_59 : decode cX5_voiceAt 59 = .ok (.istore 4, 2) := op54 (bA_at bd09_89_dec_107 4 rfl rfl) rfl
theorem dX5_voiceAt_61 : decode cX5_voiceAt 61 = .ok (.iinc 6 1, 3) := op132 (bA_at bd09_89_dec_107 5 rfl rfl) rfl (by decide +kernel)
theorem dX5_voiceAt_64 : decode cX5_voiceAt 64 = .ok (.goto (-46), 3) := op167 (bA_at bd09_89_dec_107 6 rfl rfl) (by decide +kernel)
theorem dX5_voiceAt_67 : decode cX5_voiceAt 67 = .ok (.iload 5, 2) := op21 (bA_at bd09_89_dec_107 7 rfl rfl) rfl
theorem dX5_voiceAt_69 : decode cX5_voiceAt 69 = .ok (.ireturn, 1) := op172 (bA_at bd09_89_dec_107 8 rfl rfl)
theorem bd09_89_dec_108 : ([(0, [42]), (1, [182, 0, 22]), (4, [78]), (5, [3]), (6, [54, 4]), (8, [21, 4]), (10, [16, 9]), (12, [162, 0, 38]), (15, [28]), (16, [21, 4]), (18, [184, 0, 32]), (21, [153, 0, 23])] : List (Nat × List UInt8)).all (fun x => prB x.2 ((cX5_firstOf.data.toList.drop 0).drop x.1)) = true := by decide +kernel
theorem dX5_firstOf_0 : decode cX5_firstOf 0 = .ok (.aload_n 0, 1) := op42 (bA_at bd09_89_dec_108 0 rfl rfl)
theorem dX5_firstOf_1 : decode cX5_firstOf 1 = .ok (.invokevirtual 22, 3) := op182 (bA_at bd09_89_dec_108 1 rfl rfl) rfl
theorem dX5_firstOf_4 : decode cX5_firstOf 4 = .ok (.astore_n 3, 1) := op78 (bA_at bd09_89_dec_108 2 rfl rfl)
theorem dX5_firstOf_5 : decode cX5_firstOf 5 = .ok (.iconst 0, 1) := op3 (bA_at bd09_89_dec_108 3 rfl rfl)
theorem dX5_firstOf_6 : decode cX5_firstOf 6 = .ok (.istore 4, 2) := op54 (bA_at bd09_89_dec_108 4 rfl rfl) rfl
theorem dX5_firstOf_8 : decode cX5_firstOf 8 = .ok (.iload 4, 2) := op21 (bA_at bd09_89_dec_108 5 rfl rfl) rfl
theorem dX5_firstOf_10 : decode cX5_firstOf 10 = .ok (.bipush 9, 2) := op16 (bA_at bd09_89_dec_108 6 rfl rfl) (by decide +kernel)
theorem dX5_firstOf_12 : decode cX5_firstOf 12 = .ok (.if_icmp .ge 38, 3) := op162 (bA_at bd09_89_dec_108 7 rfl rfl) (by decide +kernel)
theorem dX5_firstOf_15 : decode cX5_firstOf 15 = .ok (.iload_n 2, 1) := op28 (bA_at bd09_89_dec_108 8 rfl rfl)
theorem dX5_firstOf_16 : decode cX5_firstOf 16 = .ok (.iload 4, 2) := op21 (bA_at bd09_89_dec_108 9 rfl rfl) rfl
theorem dX5_firstOf_18 : decode cX5_firstOf 18 = .ok (.invokestatic 32, 3) := op184 (bA_at bd09_89_dec_108 10 rfl rfl) rfl
theorem dX5_firstOf_21 : decode cX5_firstOf 21 = .ok (.ifCond .eq 23, 3) := op153 (bA_at bd09_89_dec_108 11 rfl rfl) (by decide +kernel)
theorem bd09_89_dec_109 : ([(0, [45]), (1, [27]), (2, [4]), (3, [21, 4]), (5, [120]), (6, [128]), (7, [16, 9]), (9, [104]), (10, [21, 4]), (12, [96]), (13, [46]), (14, [158, 0, 6])] : List (Nat × List UInt8)).all (fun x => prB x.2 ((cX5_firstOf.data.toList.drop 24).drop x.1)) = true := by decide +kernel
theorem dX5_firstOf_24 : decode cX5_firstOf 24 = .ok (.aload_n 3, 1) := op45 (bA_at bd09_89_dec_109 0 rfl rfl)
theorem dX5_firstOf_25 : decode cX5_firstOf 25 = .ok (.iload_n 1, 1) := op27 (bA_at bd09_89_dec_109 1 rfl rfl)
theorem dX5_firstOf_26 : decode cX5_firstOf 26 = .ok (.iconst 1, 1) := op4 (bA_at bd09_89_dec_109 2 rfl rfl)
theorem dX5_firstOf_27 : decode cX5_firstOf 27 = .ok (.iload 4, 2) := op21 (bA_at bd09_89_dec_109 3 rfl rfl) rfl
theorem dX5_firstOf_29 : decode cX5_firstOf 29 = .ok (.ishl, 1) := op120 (bA_at bd09_89_dec_109 4 rfl rfl)
theorem dX5_firstOf_30 : decode cX5_firstOf 30 = .ok (.ior, 1) := op128 (bA_at bd09_89_dec_109 5 rfl rfl)
theorem dX5_firstOf_31 : decode cX5_firstOf 31 = .ok (.bipush 9, 2) := op16 (bA_at bd09_89_dec_109 6 rfl rfl) (by decide +kernel)
theorem dX5_firstOf_33 : decode cX5_firstOf 33 = .ok (.imul, 1) := op104 (bA_at bd09_89_dec_109 7 rfl rfl)
theorem dX5_firstOf_34 : decode cX5_firstOf 34 = .ok (.iload 4, 2) := op21 (bA_at bd09_89_dec_109 8 rfl rfl) rfl
theorem dX5_firstOf_36 : decode cX5_firstOf 36 = .ok (.iadd, 1) := op96 (bA_at bd09_89_dec_109 9 rfl rfl)
theorem dX5_firstOf_37 : decode cX5_firstOf 37 = .ok (.iaload, 1) := op46 (bA_at bd09_89_dec_109 10 rfl rfl)
theorem dX5_firstOf_38 : decode cX5_firstOf 38 = .ok (.ifCond .le 6, 3) := op158 (bA_at bd09_89_dec_109 11 rfl rfl) (by decide +kernel)
theorem bd09_89_dec_110 : ([(0, [21, 4]), (2, [172]), (3, [132, 4, 1]), (6, [167, 255, 217]), (9, [2]), (10, [172])] : List (Nat × List UInt8)).all (fun x => prB x.2 ((cX5_firstOf.data.toList.drop 41).drop x.1)) = true := by decide +kernel
theorem dX5_firstOf_41 : decode cX5_firstOf 41 = .ok (.iload 4, 2) := op21 (bA_at bd09_89_dec_110 0 rfl rfl) rfl
theorem dX5_firstOf_43 : decode cX5_firstOf 43 = .ok (.ireturn, 1) := op172 (bA_at bd09_89_dec_110 1 rfl rfl)
theorem dX5_firstOf_44 : decode cX5_firstOf 44 = .ok (.iinc 4 1, 3) := op132 (bA_at bd09_89_dec_110 2 rfl rfl) rfl (by decide +kernel)
theorem dX5_firstOf_47 : decode cX5_firstOf 47 = .ok (.goto (-39), 3) := op167 (bA_at bd09_89_dec_110 3 rfl rfl) (by decide +kernel)
theorem dX5_firstOf_50 : decode cX5_firstOf 50 = .ok (.iconst (-1), 1) := op2 (bA_at bd09_89_dec_110 4 rfl rfl)
theorem dX5_firstOf_51 : decode cX5_firstOf 51 = .ok (.ireturn, 1) := op172 (bA_at bd09_89_dec_110 5 rfl rfl)
theorem bd09_89_dec_111 : ([(0, [43]), (1, [180, 0, 26]), (4, [154, 0, 5]), (7, [3]), (8, [172]), (9, [42]), (10, [43]), (11, [182, 0, 18]), (14, [42]), (15, [182, 0, 22]), (18, [77]), (19, [4])] : List (Nat × List UInt8)).all (fun x => prB x.2 ((cX5_leastStep.data.toList.drop 0).drop x.1)) = true := by decide +kernel
theorem dX5_leastStep_0 : decode cX5_leastStep 0 = .ok (.aload_n 1, 1) := op43 (bA_at bd09_89_dec_111 0 rfl rfl)
theorem dX5_leastStep_1 : decode cX5_leastStep 1 = .ok (.getfield 26, 3) := op180 (bA_at bd09_89_dec_111 1 rfl rfl) rfl
theorem dX5_leastStep_4 : decode cX5_leastStep 4 = .ok (.ifCond .ne 5, 3) := op154 (bA_at bd09_89_dec_111 2 rfl rfl) (by decide +kernel)
theorem dX5_leastStep_7 : decode cX5_leastStep 7 = .ok (.iconst 0, 1) := op3 (bA_at bd09_89_dec_111 3 rfl rfl)
theorem dX5_leastStep_8 : decode cX5_leastStep 8 = .ok (.ireturn, 1) := op172 (bA_at bd09_89_dec_111 4 rfl rfl)
theorem dX5_leastStep_9 : decode cX5_leastStep 9 = .ok (.aload_n 0, 1) := op42 (bA_at bd09_89_dec_111 5 rfl rfl)
theorem dX5_leastStep_10 : decode cX5_leastStep 10 = .ok (.aload_n 1, 1) := op43 (bA_at bd09_89_dec_111 6 rfl rfl)
theorem dX5_leastStep_11 : decode cX5_leastStep 11 = .ok (.invokevirtual 18, 3) := op182 (bA_at bd09_89_dec_111 7 rfl rfl) rfl
theorem dX5_leastStep_14 : decode cX5_leastStep 14 = .ok (.aload_n 0, 1) := op42 (bA_at bd09_89_dec_111 8 rfl rfl)
theorem dX5_leastStep_15 : decode cX5_leastStep 15 = .ok (.invokevirtual 22, 3) := op182 (bA_at bd09_89_dec_111 9 rfl rfl) rfl
theorem dX5_leastStep_18 : decode cX5_leastStep 18 = .ok (.astore_n 2, 1) := op77 (bA_at bd09_89_dec_111 10 rfl rfl)
theorem dX5_leastStep_19 : decode cX5_leastStep 19 = .ok (.iconst 1, 1) := op4 (bA_at bd09_89_dec_111 11 rfl rfl)
theorem bd09_89_dec_112 : ([(0, [43]), (1, [180, 0, 26]), (4, [120]), (5, [4]), (6, [100]), (7, [62]), (8, [29]), (9, [54, 4]), (11, [21, 4]), (13, [158, 0, 72]), (16, [3]), (17, [54, 5])] : List (Nat × List UInt8)).all (fun x => prB x.2 ((cX5_leastStep.data.toList.drop 20).drop x.1)) = true := by decide +kernel
theorem dX5_leastStep_20 : decode cX5_leastStep 20 = .ok (.aload_n 1, 1) := op43 (bA_at bd09_89_dec_112 0 rfl rfl)
theorem dX5_leastStep_21 : decode cX5_leastStep 21 = .ok (.getfield 26, 3) := op180 (bA_at bd09_89_dec_112 1 rfl rfl) rfl
theorem dX5_leastStep_24 : decode cX5_leastStep 24 = .ok (.ishl, 1) := op120 (bA_at bd09_89_dec_112 2 rfl rfl)
theorem dX5_leastStep_25 : decode cX5_leastStep 25 = .ok (.iconst 1, 1) := op4 (bA_at bd09_89_dec_112 3 rfl rfl)
theorem dX5_leastStep_26 : decode cX5_leastStep 26 = .ok (.isub, 1) := op100 (bA_at bd09_89_dec_112 4 rfl rfl)
theorem dX5_leastStep_27 : decode cX5_leastStep 27 = .ok (.istore_n 3, 1) := op62 (bA_at bd09_89_dec_112 5 rfl rfl)
theorem dX5_leastStep_28 : decode cX5_leastStep 28 = .ok (.iload_n 3, 1) := op29 (bA_at bd09_89_dec_112 6 rfl rfl)
theorem dX5_leastStep_29 : decode cX5_leastStep 29 = .ok (.istore 4, 2) := op54 (bA_at bd09_89_dec_112 7 rfl rfl) rfl
theorem dX5_leastStep_31 : decode cX5_leastStep 31 = .ok (.iload 4, 2) := op21 (bA_at bd09_89_dec_112 8 rfl rfl) rfl
theorem dX5_leastStep_33 : decode cX5_leastStep 33 = .ok (.ifCond .le 72, 3) := op158 (bA_at bd09_89_dec_112 9 rfl rfl) (by decide +kernel)
theorem dX5_leastStep_36 : decode cX5_leastStep 36 = .ok (.iconst 0, 1) := op3 (bA_at bd09_89_dec_112 10 rfl rfl)
theorem dX5_leastStep_37 : decode cX5_leastStep 37 = .ok (.istore 5, 2) := op54 (bA_at bd09_89_dec_112 11 rfl rfl) rfl
theorem bd09_89_dec_113 : ([(0, [21, 5]), (2, [43]), (3, [180, 0, 26]), (6, [162, 0, 54]), (9, [21, 4]), (11, [21, 5]), (13, [184, 0, 32]), (16, [153, 0, 38]), (19, [44]), (20, [21, 4]), (22, [16, 9]), (24, [104])] : List (Nat × List UInt8)).all (fun x => prB x.2 ((cX5_leastStep.data.toList.drop 39).drop x.1)) = true := by decide +kernel
theorem dX5_leastStep_39 : decode cX5_leastStep 39 = .ok (.iload 5, 2) := op21 (bA_at bd09_89_dec_113 0 rfl rfl) rfl
theorem dX5_leastStep_41 : decode cX5_leastStep 41 = .ok (.aload_n 1, 1) := op43 (bA_at bd09_89_dec_113 1 rfl rfl)
theorem dX5_leastStep_42 : decode cX5_leastStep 42 = .ok (.getfield 26, 3) := op180 (bA_at bd09_89_dec_113 2 rfl rfl) rfl
theorem dX5_leastStep_45 : decode cX5_leastStep 45 = .ok (.if_icmp .ge 54, 3) := op162 (bA_at bd09_89_dec_113 3 rfl rfl) (by decide +kernel)
theorem dX5_leastStep_48 : decode cX5_leastStep 48 = .ok (.iload 4, 2) := op21 (bA_at bd09_89_dec_113 4 rfl rfl) rfl
theorem dX5_leastStep_50 : decode cX5_leastStep 50 = .ok (.iload 5, 2) := op21 (bA_at bd09_89_dec_113 5 rfl rfl) rfl
theorem dX5_leastStep_52 : decode cX5_leastStep 52 = .ok (.invokestatic 32, 3) := op184 (bA_at bd09_89_dec_113 6 rfl rfl) rfl
theorem dX5_leastStep_55 : decode cX5_leastStep 55 = .ok (.ifCond .eq 38, 3) := op153 (bA_at bd09_89_dec_113 7 rfl rfl) (by decide +kernel)
theorem dX5_leastStep_58 : decode cX5_leastStep 58 = .ok (.aload_n 2, 1) := op44 (bA_at bd09_89_dec_113 8 rfl rfl)
theorem dX5_leastStep_59 : decode cX5_leastStep 59 = .ok (.iload 4, 2) := op21 (bA_at bd09_89_dec_113 9 rfl rfl) rfl
theorem dX5_leastStep_61 : decode cX5_leastStep 61 = .ok (.bipush 9, 2) := op16 (bA_at bd09_89_dec_113 10 rfl rfl) (by decide +kernel)
theorem dX5_leastStep_63 : decode cX5_leastStep 63 = .ok (.imul, 1) := op104 (bA_at bd09_89_dec_113 11 rfl rfl)
theorem bd09_89_dec_114 : ([(0, [21, 5]), (2, [96]), (3, [21, 4]), (5, [29]), (6, [160, 0, 7]), (9, [3]), (10, [167, 0, 18]), (13, [42]), (14, [44]), (15, [21, 4]), (17, [29]), (18, [21, 4])] : List (Nat × List UInt8)).all (fun x => prB x.2 ((cX5_leastStep.data.toList.drop 64).drop x.1)) = true := by decide +kernel
theorem dX5_leastStep_64 : decode cX5_leastStep 64 = .ok (.iload 5, 2) := op21 (bA_at bd09_89_dec_114 0 rfl rfl) rfl
theorem dX5_leastStep_66 : decode cX5_leastStep 66 = .ok (.iadd, 1) := op96 (bA_at bd09_89_dec_114 1 rfl rfl)
theorem dX5_leastStep_67 : decode cX5_leastStep 67 = .ok (.iload 4, 2) := op21 (bA_at bd09_89_dec_114 2 rfl rfl) rfl
theorem dX5_leastStep_69 : decode cX5_leastStep 69 = .ok (.iload_n 3, 1) := op29 (bA_at bd09_89_dec_114 3 rfl rfl)
theorem dX5_leastStep_70 : decode cX5_leastStep 70 = .ok (.if_icmp .ne 7, 3) := op160 (bA_at bd09_89_dec_114 4 rfl rfl) (by decide +kernel)
theorem dX5_leastStep_73 : decode cX5_leastStep 73 = .ok (.iconst 0, 1) := op3 (bA_at bd09_89_dec_114 5 rfl rfl)
theorem dX5_leastStep_74 : decode cX5_leastStep 74 = .ok (.goto 18, 3) := op167 (bA_at bd09_89_dec_114 6 rfl rfl) (by decide +kernel)
theorem dX5_leastStep_77 : decode cX5_leastStep 77 = .ok (.aload_n 0, 1) := op42 (bA_at bd09_89_dec_114 7 rfl rfl)
theorem dX5_leastStep_78 : decode cX5_leastStep 78 = .ok (.aload_n 2, 1) := op44 (bA_at bd09_89_dec_114 8 rfl rfl)
theorem dX5_leastStep_79 : decode cX5_leastStep 79 = .ok (.iload 4, 2) := op21 (bA_at bd09_89_dec_114 9 rfl rfl) rfl
theorem dX5_leastStep_81 : decode cX5_leastStep 81 = .ok (.iload_n 3, 1) := op29 (bA_at bd09_89_dec_114 10 rfl rfl)
theorem dX5_leastStep_82 : decode cX5_leastStep 82 = .ok (.iload 4, 2) := op21 (bA_at bd09_89_dec_114 11 rfl rfl) rfl
theorem bd09_89_dec_115 : ([(0, [2]), (1, [130]), (2, [126]), (3, [21, 5]), (5, [182, 0, 50]), (8, [79]), (9, [132, 5, 1]), (12, [167, 255, 199]), (15, [132, 4, 255]), (18, [167, 255, 185]), (21, [17, 3, 232]), (24, [54, 4])] : List (Nat × List UInt8)).all (fun x => prB x.2 ((cX5_leastStep.data.toList.drop 84).drop x.1)) = true := by decide +kernel
theorem dX5_leastStep_84 : decode cX5_leastStep 84 = .ok (.iconst (-1), 1) := op2 (bA_at bd09_89_dec_115 0 rfl rfl)
theorem dX5_leastStep_85 : decode cX5_leastStep 85 = .ok (.ixor, 1) := op130 (bA_at bd09_89_dec_115 1 rfl rfl)
theorem dX5_leastStep_86 : decode cX5_leastStep 86 = .ok (.iand, 1) := op126 (bA_at bd09_89_dec_115 2 rfl rfl)
theorem dX5_leastStep_87 : decode cX5_leastStep 87 = .ok (.iload 5, 2) := op21 (bA_at bd09_89_dec_115 3 rfl rfl) rfl
theorem dX5_leastStep_89 : decode cX5_leastStep 89 = .ok (.invokevirtual 50, 3) := op182 (bA_at bd09_89_dec_115 4 rfl rfl) rfl
theorem dX5_leastStep_92 : decode cX5_leastStep 92 = .ok (.iastore, 1) := op79 (bA_at bd09_89_dec_115 5 rfl rfl)
theorem dX5_leastStep_93 : decode cX5_leastStep 93 = .ok (.iinc 5 1, 3) := op132 (bA_at bd09_89_dec_115 6 rfl rfl) rfl (by decide +kernel)
theorem dX5_leastStep_96 : decode cX5_leastStep 96 = .ok (.goto (-57), 3) := op167 (bA_at bd09_89_dec_115 7 rfl rfl) (by decide +kernel)
theorem dX5_leastStep_99 : decode cX5_leastStep 99 = .ok (.iinc 4 (-1), 3) := op132 (bA_at bd09_89_dec_115 8 rfl rfl) rfl (by decide +kernel)
theorem dX5_leastStep_102 : decode cX5_leastStep 102 = .ok (.goto (-71), 3) := op167 (bA_at bd09_89_dec_115 9 rfl rfl) (by decide +kernel)
theorem dX5_leastStep_105 : decode cX5_leastStep 105 = .ok (.sipush 1000, 3) := op17 (bA_at bd09_89_dec_115 10 rfl rfl) (by decide +kernel)
theorem dX5_leastStep_108 : decode cX5_leastStep 108 = .ok (.istore 4, 2) := op54 (bA_at bd09_89_dec_115 11 rfl rfl) rfl
theorem bd09_89_dec_116 : ([(0, [3]), (1, [54, 5]), (3, [21, 5]), (5, [43]), (6, [180, 0, 26]), (9, [162, 0, 28]), (12, [21, 4]), (14, [44]), (15, [4]), (16, [21, 5]), (18, [120]), (19, [16, 9])] : List (Nat × List UInt8)).all (fun x => prB x.2 ((cX5_leastStep.data.toList.drop 110).drop x.1)) = true := by decide +kernel
theorem dX5_leastStep_110 : decode cX5_leastStep 110 = .ok (.iconst 0, 1) := op3 (bA_at bd09_89_dec_116 0 rfl rfl)
theorem dX5_leastStep_111 : decode cX5_leastStep 111 = .ok (.istore 5, 2) := op54 (bA_at bd09_89_dec_116 1 rfl rfl) rfl
theorem dX5_leastStep_113 : decode cX5_leastStep 113 = .ok (.iload 5, 2) := op21 (bA_at bd09_89_dec_116 2 rfl rfl) rfl
theorem dX5_leastStep_115 : decode cX5_leastStep 115 = .ok (.aload_n 1, 1) := op43 (bA_at bd09_89_dec_116 3 rfl rfl)
theorem dX5_leastStep_116 : decode cX5_leastStep 116 = .ok (.getfield 26, 3) := op180 (bA_at bd09_89_dec_116 4 rfl rfl) rfl
theorem dX5_leastStep_119 : decode cX5_leastStep 119 = .ok (.if_icmp .ge 28, 3) := op162 (bA_at bd09_89_dec_116 5 rfl rfl) (by decide +kernel)
theorem dX5_leastStep_122 : decode cX5_leastStep 122 = .ok (.iload 4, 2) := op21 (bA_at bd09_89_dec_116 6 rfl rfl) rfl
theorem dX5_leastStep_124 : decode cX5_leastStep 124 = .ok (.aload_n 2, 1) := op44 (bA_at bd09_89_dec_116 7 rfl rfl)
theorem dX5_leastStep_125 : decode cX5_leastStep 125 = .ok (.iconst 1, 1) := op4 (bA_at bd09_89_dec_116 8 rfl rfl)
theorem dX5_leastStep_126 : decode cX5_leastStep 126 = .ok (.iload 5, 2) := op21 (bA_at bd09_89_dec_116 9 rfl rfl) rfl
theorem dX5_leastStep_128 : decode cX5_leastStep 128 = .ok (.ishl, 1) := op120 (bA_at bd09_89_dec_116 10 rfl rfl)
theorem dX5_leastStep_129 : decode cX5_leastStep 129 = .ok (.bipush 9, 2) := op16 (bA_at bd09_89_dec_116 11 rfl rfl) (by decide +kernel)
theorem bd09_89_dec_117 : ([(0, [104]), (1, [21, 5]), (3, [96]), (4, [46]), (5, [184, 0, 54]), (8, [54, 4]), (10, [132, 5, 1]), (13, [167, 255, 225]), (16, [21, 4]), (18, [184, 0, 59]), (21, [172])] : List (Nat × List UInt8)).all (fun x => prB x.2 ((cX5_leastStep.data.toList.drop 131).drop x.1)) = true := by decide +kernel
theorem dX5_leastStep_131 : decode cX5_leastStep 131 = .ok (.imul, 1) := op104 (bA_at bd09_89_dec_117 0 rfl rfl)
theorem dX5_leastStep_132 : decode cX5_leastStep 132 = .ok (.iload 5, 2) := op21 (bA_at bd09_89_dec_117 1 rfl rfl) rfl
theorem dX5_leastStep_134 : decode cX5_leastStep 134 = .ok (.iadd, 1) := op96 (bA_at bd09_89_dec_117 2 rfl rfl)
theorem dX5_leastStep_135 : decode cX5_leastStep 135 = .ok (.iaload, 1) := op46 (bA_at bd09_89_dec_117 3 rfl rfl)
theorem dX5_leastStep_136 : decode cX5_leastStep 136 = .ok (.invokestatic 54, 3) := op184 (bA_at bd09_89_dec_117 4 rfl rfl) rfl
theorem dX5_leastStep_139 : decode cX5_leastStep 139 = .ok (.istore 4, 2) := op54 (bA_at bd09_89_dec_117 5 rfl rfl) rfl
theorem dX5_leastStep_141 : decode cX5_leastStep 141 = .ok (.iinc 5 1, 3) := op132 (bA_at bd09_89_dec_117 6 rfl rfl) rfl (by decide +kernel)
theorem dX5_leastStep_144 : decode cX5_leastStep 144 = .ok (.goto (-31), 3) := op167 (bA_at bd09_89_dec_117 7 rfl rfl) (by decide +kernel)
theorem dX5_leastStep_147 : decode cX5_leastStep 147 = .ok (.iload 4, 2) := op21 (bA_at bd09_89_dec_117 8 rfl rfl) rfl
theorem dX5_leastStep_149 : decode cX5_leastStep 149 = .ok (.invokestatic 59, 3) := op184 (bA_at bd09_89_dec_117 9 rfl rfl) rfl
theorem dX5_leastStep_152 : decode cX5_leastStep 152 = .ok (.ireturn, 1) := op172 (bA_at bd09_89_dec_117 10 rfl rfl)
theorem bd09_89_dec_118 : ([(0, [17, 3, 232]), (3, [54, 5]), (5, [3]), (6, [54, 6]), (8, [21, 6]), (10, [16, 9]), (12, [162, 0, 73]), (15, [29]), (16, [21, 6]), (18, [122]), (19, [153, 0, 66]), (22, [42])] : List (Nat × List UInt8)).all (fun x => prB x.2 ((cX5_stepOn.data.toList.drop 0).drop x.1)) = true := by decide +kernel
theorem dX5_stepOn_0 : decode cX5_stepOn 0 = .ok (.sipush 1000, 3) := op17 (bA_at bd09_89_dec_118 0 rfl rfl) (by decide +kernel)
theorem dX5_stepOn_3 : decode cX5_stepOn 3 = .ok (.istore 5, 2) := op54 (bA_at bd09_89_dec_118 1 rfl rfl) rfl
theorem dX5_stepOn_5 : decode cX5_stepOn 5 = .ok (.iconst 0, 1) := op3 (bA_at bd09_89_dec_118 2 rfl rfl)
theorem dX5_stepOn_6 : decode cX5_stepOn 6 = .ok (.istore 6, 2) := op54 (bA_at bd09_89_dec_118 3 rfl rfl) rfl
theorem dX5_stepOn_8 : decode cX5_stepOn 8 = .ok (.iload 6, 2) := op21 (bA_at bd09_89_dec_118 4 rfl rfl) rfl
theorem dX5_stepOn_10 : decode cX5_stepOn 10 = .ok (.bipush 9, 2) := op16 (bA_at bd09_89_dec_118 5 rfl rfl) (by decide +kernel)
theorem dX5_stepOn_12 : decode cX5_stepOn 12 = .ok (.if_icmp .ge 73, 3) := op162 (bA_at bd09_89_dec_118 6 rfl rfl) (by decide +kernel)
theorem dX5_stepOn_15 : decode cX5_stepOn 15 = .ok (.iload_n 3, 1) := op29 (bA_at bd09_89_dec_118 7 rfl rfl)
theorem dX5_stepOn_16 : decode cX5_stepOn 16 = .ok (.iload 6, 2) := op21 (bA_at bd09_89_dec_118 8 rfl rfl) rfl
theorem dX5_stepOn_18 : decode cX5_stepOn 18 = .ok (.ishr, 1) := op122 (bA_at bd09_89_dec_118 9 rfl rfl)
theorem dX5_stepOn_19 : decode cX5_stepOn 19 = .ok (.ifCond .eq 66, 3) := op153 (bA_at bd09_89_dec_118 10 rfl rfl) (by decide +kernel)
theorem dX5_stepOn_22 : decode cX5_stepOn 22 = .ok (.aload_n 0, 1) := op42 (bA_at bd09_89_dec_118 11 rfl rfl)
theorem bd09_89_dec_119 : ([(0, [180, 0, 9]), (3, [21, 4]), (5, [16, 9]), (7, [104]), (8, [21, 6]), (10, [96]), (11, [46]), (12, [54, 7]), (14, [29]), (15, [21, 6]), (17, [184, 0, 32]), (20, [153, 0, 36])] : List (Nat × List UInt8)).all (fun x => prB x.2 ((cX5_stepOn.data.toList.drop 23).drop x.1)) = true := by decide +kernel
theorem dX5_stepOn_23 : decode cX5_stepOn 23 = .ok (.getfield 9, 3) := op180 (bA_at bd09_89_dec_119 0 rfl rfl) rfl
theorem dX5_stepOn_26 : decode cX5_stepOn 26 = .ok (.iload 4, 2) := op21 (bA_at bd09_89_dec_119 1 rfl rfl) rfl
theorem dX5_stepOn_28 : decode cX5_stepOn 28 = .ok (.bipush 9, 2) := op16 (bA_at bd09_89_dec_119 2 rfl rfl) (by decide +kernel)
theorem dX5_stepOn_30 : decode cX5_stepOn 30 = .ok (.imul, 1) := op104 (bA_at bd09_89_dec_119 3 rfl rfl)
theorem dX5_stepOn_31 : decode cX5_stepOn 31 = .ok (.iload 6, 2) := op21 (bA_at bd09_89_dec_119 4 rfl rfl) rfl
theorem dX5_stepOn_33 : decode cX5_stepOn 33 = .ok (.iadd, 1) := op96 (bA_at bd09_89_dec_119 5 rfl rfl)
theorem dX5_stepOn_34 : decode cX5_stepOn 34 = .ok (.iaload, 1) := op46 (bA_at bd09_89_dec_119 6 rfl rfl)
theorem dX5_stepOn_35 : decode cX5_stepOn 35 = .ok (.istore 7, 2) := op54 (bA_at bd09_89_dec_119 7 rfl rfl) rfl
theorem dX5_stepOn_37 : decode cX5_stepOn 37 = .ok (.iload_n 3, 1) := op29 (bA_at bd09_89_dec_119 8 rfl rfl)
theorem dX5_stepOn_38 : decode cX5_stepOn 38 = .ok (.iload 6, 2) := op21 (bA_at bd09_89_dec_119 9 rfl rfl) rfl
theorem dX5_stepOn_40 : decode cX5_stepOn 40 = .ok (.invokestatic 32, 3) := op184 (bA_at bd09_89_dec_119 10 rfl rfl) rfl
theorem dX5_stepOn_43 : decode cX5_stepOn 43 = .ok (.ifCond .eq 36, 3) := op153 (bA_at bd09_89_dec_119 11 rfl rfl) (by decide +kernel)
theorem bd09_89_dec_120 : ([(0, [21, 7]), (2, [21, 5]), (4, [162, 0, 29]), (7, [21, 5]), (9, [21, 7]), (11, [43]), (12, [28]), (13, [4]), (14, [21, 6]), (16, [120]), (17, [128]), (18, [16, 9])] : List (Nat × List UInt8)).all (fun x => prB x.2 ((cX5_stepOn.data.toList.drop 46).drop x.1)) = true := by decide +kernel
theorem dX5_stepOn_46 : decode cX5_stepOn 46 = .ok (.iload 7, 2) := op21 (bA_at bd09_89_dec_120 0 rfl rfl) rfl
theorem dX5_stepOn_48 : decode cX5_stepOn 48 = .ok (.iload 5, 2) := op21 (bA_at bd09_89_dec_120 1 rfl rfl) rfl
theorem dX5_stepOn_50 : decode cX5_stepOn 50 = .ok (.if_icmp .ge 29, 3) := op162 (bA_at bd09_89_dec_120 2 rfl rfl) (by decide +kernel)
theorem dX5_stepOn_53 : decode cX5_stepOn 53 = .ok (.iload 5, 2) := op21 (bA_at bd09_89_dec_120 3 rfl rfl) rfl
theorem dX5_stepOn_55 : decode cX5_stepOn 55 = .ok (.iload 7, 2) := op21 (bA_at bd09_89_dec_120 4 rfl rfl) rfl
theorem dX5_stepOn_57 : decode cX5_stepOn 57 = .ok (.aload_n 1, 1) := op43 (bA_at bd09_89_dec_120 5 rfl rfl)
theorem dX5_stepOn_58 : decode cX5_stepOn 58 = .ok (.iload_n 2, 1) := op28 (bA_at bd09_89_dec_120 6 rfl rfl)
theorem dX5_stepOn_59 : decode cX5_stepOn 59 = .ok (.iconst 1, 1) := op4 (bA_at bd09_89_dec_120 7 rfl rfl)
theorem dX5_stepOn_60 : decode cX5_stepOn 60 = .ok (.iload 6, 2) := op21 (bA_at bd09_89_dec_120 8 rfl rfl) rfl
theorem dX5_stepOn_62 : decode cX5_stepOn 62 = .ok (.ishl, 1) := op120 (bA_at bd09_89_dec_120 9 rfl rfl)
theorem dX5_stepOn_63 : decode cX5_stepOn 63 = .ok (.ior, 1) := op128 (bA_at bd09_89_dec_120 10 rfl rfl)
theorem dX5_stepOn_64 : decode cX5_stepOn 64 = .ok (.bipush 9, 2) := op16 (bA_at bd09_89_dec_120 11 rfl rfl) (by decide +kernel)
theorem bd09_89_dec_121 : ([(0, [104]), (1, [21, 6]), (3, [96]), (4, [46]), (5, [184, 0, 63]), (8, [184, 0, 54]), (11, [54, 5]), (13, [132, 6, 1]), (16, [167, 255, 182]), (19, [21, 5]), (21, [172])] : List (Nat × List UInt8)).all (fun x => prB x.2 ((cX5_stepOn.data.toList.drop 66).drop x.1)) = true := by decide +kernel
theorem dX5_stepOn_66 : decode cX5_stepOn 66 = .ok (.imul, 1) := op104 (bA_at bd09_89_dec_121 0 rfl rfl)
theorem dX5_stepOn_67 : decode cX5_stepOn 67 = .ok (.iload 6, 2) := op21 (bA_at bd09_89_dec_121 1 rfl rfl) rfl
theorem dX5_stepOn_69 : decode cX5_stepOn 69 = .ok (.iadd, 1) := op96 (bA_at bd09_89_dec_121 2 rfl rfl)
theorem dX5_stepOn_70 : decode cX5_stepOn 70 = .ok (.iaload, 1) := op46 (bA_at bd09_89_dec_121 3 rfl rfl)
theorem dX5_stepOn_71 : decode cX5_stepOn 71 = .ok (.invokestatic 63, 3) := op184 (bA_at bd09_89_dec_121 4 rfl rfl) rfl
theorem dX5_stepOn_74 : decode cX5_stepOn 74 = .ok (.invokestatic 54, 3) := op184 (bA_at bd09_89_dec_121 5 rfl rfl) rfl
theorem dX5_stepOn_77 : decode cX5_stepOn 77 = .ok (.istore 5, 2) := op54 (bA_at bd09_89_dec_121 6 rfl rfl) rfl
theorem dX5_stepOn_79 : decode cX5_stepOn 79 = .ok (.iinc 6 1, 3) := op132 (bA_at bd09_89_dec_121 7 rfl rfl) rfl (by decide +kernel)
theorem dX5_stepOn_82 : decode cX5_stepOn 82 = .ok (.goto (-74), 3) := op167 (bA_at bd09_89_dec_121 8 rfl rfl) (by decide +kernel)
theorem dX5_stepOn_85 : decode cX5_stepOn 85 = .ok (.iload 5, 2) := op21 (bA_at bd09_89_dec_121 9 rfl rfl) rfl
theorem dX5_stepOn_87 : decode cX5_stepOn 87 = .ok (.ireturn, 1) := op172 (bA_at bd09_89_dec_121 10 rfl rfl)
theorem bd09_89_dec_122 : ([(0, [42]), (1, [180, 0, 66]), (4, [199, 0, 12]), (16, [42]), (17, [180, 0, 66]), (20, [176])] : List (Nat × List UInt8)).all (fun x => prB x.2 ((cX5_table.data.toList.drop 0).drop x.1)) = true := by decide +kernel
theorem dX5_table_0 : decode cX5_table 0 = .ok (.aload_n 0, 1) := op42 (bA_at bd09_89_dec_122 0 rfl rfl)
theorem dX5_table_1 : decode cX5_table 1 = .ok (.getfield 66, 3) := op180 (bA_at bd09_89_dec_122 1 rfl rfl) rfl
theorem dX5_table_4 : decode cX5_table 4 = .ok (.ifnonnull 12, 3) := op199 (bA_at bd09_89_dec_122 2 rfl rfl) (by decide +kernel)
theorem dX5_table_16 : decode cX5_table 16 = .ok (.aload_n 0, 1) := op42 (bA_at bd09_89_dec_122 3 rfl rfl)
theorem dX5_table_17 : decode cX5_table 17 = .ok (.getfield 66, 3) := op180 (bA_at bd09_89_dec_122 4 rfl rfl) rfl
theorem dX5_table_20 : decode cX5_table 20 = .ok (.areturn, 1) := op176 (bA_at bd09_89_dec_122 5 rfl rfl)
theorem bd09_89_dec_123 : ([(0, [42]), (1, [180, 0, 21]), (4, [16, 10]), (6, [162, 0, 43]), (9, [42]), (10, [180, 0, 9]), (13, [42]), (14, [180, 0, 21]), (17, [27]), (18, [79]), (19, [42]), (20, [180, 0, 15])] : List (Nat × List UInt8)).all (fun x => prB x.2 ((cX6_tell.data.toList.drop 0).drop x.1)) = true := by decide +kernel
theorem dX6_tell_0 : decode cX6_tell 0 = .ok (.aload_n 0, 1) := op42 (bA_at bd09_89_dec_123 0 rfl rfl)
theorem dX6_tell_1 : decode cX6_tell 1 = .ok (.getfield 21, 3) := op180 (bA_at bd09_89_dec_123 1 rfl rfl) rfl
theorem dX6_tell_4 : decode cX6_tell 4 = .ok (.bipush 10, 2) := op16 (bA_at bd09_89_dec_123 2 rfl rfl) (by decide +kernel)
theorem dX6_tell_6 : decode cX6_tell 6 = .ok (.if_icmp .ge 43, 3) := op162 (bA_at bd09_89_dec_123 3 rfl rfl) (by decide +kernel)
theorem dX6_tell_9 : decode cX6_tell 9 = .ok (.aload_n 0, 1) := op42 (bA_at bd09_89_dec_123 4 rfl rfl)
theorem dX6_tell_10 : decode cX6_tell 10 = .ok (.getfield 9, 3) := op180 (bA_at bd09_89_dec_123 5 rfl rfl) rfl
theorem dX6_tell_13 : decode cX6_tell 13 = .ok (.aload_n 0, 1) := op42 (bA_at bd09_89_dec_123 6 rfl rfl)
theorem dX6_tell_14 : decode cX6_tell 14 = .ok (.getfield 21, 3) := op180 (bA_at bd09_89_dec_123 7 rfl rfl) rfl
theorem dX6_tell_17 : decode cX6_tell 17 = .ok (.iload_n 1, 1) := op27 (bA_at bd09_89_dec_123 8 rfl rfl)
theorem dX6_tell_18 : decode cX6_tell 18 = .ok (.iastore, 1) := op79 (bA_at bd09_89_dec_123 9 rfl rfl)
theorem dX6_tell_19 : decode cX6_tell 19 = .ok (.aload_n 0, 1) := op42 (bA_at bd09_89_dec_123 10 rfl rfl)
theorem dX6_tell_20 : decode cX6_tell 20 = .ok (.getfield 15, 3) := op180 (bA_at bd09_89_dec_123 11 rfl rfl) rfl
theorem bd09_89_dec_124 : ([(0, [42]), (1, [180, 0, 21]), (4, [28]), (5, [79]), (6, [42]), (7, [180, 0, 18]), (10, [42]), (11, [180, 0, 21]), (14, [29]), (15, [79]), (16, [42]), (17, [89])] : List (Nat × List UInt8)).all (fun x => prB x.2 ((cX6_tell.data.toList.drop 23).drop x.1)) = true := by decide +kernel
theorem dX6_tell_23 : decode cX6_tell 23 = .ok (.aload_n 0, 1) := op42 (bA_at bd09_89_dec_124 0 rfl rfl)
theorem dX6_tell_24 : decode cX6_tell 24 = .ok (.getfield 21, 3) := op180 (bA_at bd09_89_dec_124 1 rfl rfl) rfl
theorem dX6_tell_27 : decode cX6_tell 27 = .ok (.iload_n 2, 1) := op28 (bA_at bd09_89_dec_124 2 rfl rfl)
theorem dX6_tell_28 : decode cX6_tell 28 = .ok (.iastore, 1) := op79 (bA_at bd09_89_dec_124 3 rfl rfl)
theorem dX6_tell_29 : decode cX6_tell 29 = .ok (.aload_n 0, 1) := op42 (bA_at bd09_89_dec_124 4 rfl rfl)
theorem dX6_tell_30 : decode cX6_tell 30 = .ok (.getfield 18, 3) := op180 (bA_at bd09_89_dec_124 5 rfl rfl) rfl
theorem dX6_tell_33 : decode cX6_tell 33 = .ok (.aload_n 0, 1) := op42 (bA_at bd09_89_dec_124 6 rfl rfl)
theorem dX6_tell_34 : decode cX6_tell 34 = .ok (.getfield 21, 3) := op180 (bA_at bd09_89_dec_124 7 rfl rfl) rfl
theorem dX6_tell_37 : decode cX6_tell 37 = .ok (.iload_n 3, 1) := op29 (bA_at bd09_89_dec_124 8 rfl rfl)
theorem dX6_tell_38 : decode cX6_tell 38 = .ok (.iastore, 1) := op79 (bA_at bd09_89_dec_124 9 rfl rfl)
theorem dX6_tell_39 : decode cX6_tell 39 = .ok (.aload_n 0, 1) := op42 (bA_at bd09_89_dec_124 10 rfl rfl)
theorem dX6_tell_40 : decode cX6_tell 40 = .ok (.dup, 1) := op89 (bA_at bd09_89_dec_124 11 rfl rfl)
theorem bd09_89_dec_125 : ([(0, [180, 0, 21]), (3, [4]), (4, [96]), (5, [181, 0, 21]), (8, [177])] : List (Nat × List UInt8)).all (fun x => prB x.2 ((cX6_tell.data.toList.drop 41).drop x.1)) = true := by decide +kernel
theorem dX6_tell_41 : decode cX6_tell 41 = .ok (.getfield 21, 3) := op180 (bA_at bd09_89_dec_125 0 rfl rfl) rfl
theorem dX6_tell_44 : decode cX6_tell 44 = .ok (.iconst 1, 1) := op4 (bA_at bd09_89_dec_125 1 rfl rfl)
theorem dX6_tell_45 : decode cX6_tell 45 = .ok (.iadd, 1) := op96 (bA_at bd09_89_dec_125 2 rfl rfl)
theorem dX6_tell_46 : decode cX6_tell 46 = .ok (.putfield 21, 3) := op181 (bA_at bd09_89_dec_125 3 rfl rfl) rfl
theorem dX6_tell_49 : decode cX6_tell 49 = .ok (.return_, 1) := op177 (bA_at bd09_89_dec_125 4 rfl rfl)
theorem bd09_89_dec_126 : ([(0, [2]), (1, [54, 6]), (3, [17, 3, 232]), (6, [54, 7]), (8, [3]), (9, [54, 8]), (11, [21, 8]), (13, [43]), (14, [180, 0, 42]), (17, [162, 0, 48]), (20, [44]), (21, [29])] : List (Nat × List UInt8)).all (fun x => prB x.2 ((cX7_together.data.toList.drop 0).drop x.1)) = true := by decide +kernel
theorem dX7_together_0 : decode cX7_together 0 = .ok (.iconst (-1), 1) := op2 (bA_at bd09_89_dec_126 0 rfl rfl)
theorem dX7_together_1 : decode cX7_together 1 = .ok (.istore 6, 2) := op54 (bA_at bd09_89_dec_126 1 rfl rfl) rfl
theorem dX7_together_3 : decode cX7_together 3 = .ok (.sipush 1000, 3) := op17 (bA_at bd09_89_dec_126 2 rfl rfl) (by decide +kernel)
theorem dX7_together_6 : decode cX7_together 6 = .ok (.istore 7, 2) := op54 (bA_at bd09_89_dec_126 3 rfl rfl) rfl
theorem dX7_together_8 : decode cX7_together 8 = .ok (.iconst 0, 1) := op3 (bA_at bd09_89_dec_126 4 rfl rfl)
theorem dX7_together_9 : decode cX7_together 9 = .ok (.istore 8, 2) := op54 (bA_at bd09_89_dec_126 5 rfl rfl) rfl
theorem dX7_together_11 : decode cX7_together 11 = .ok (.iload 8, 2) := op21 (bA_at bd09_89_dec_126 6 rfl rfl) rfl
theorem dX7_together_13 : decode cX7_together 13 = .ok (.aload_n 1, 1) := op43 (bA_at bd09_89_dec_126 7 rfl rfl)
theorem dX7_together_14 : decode cX7_together 14 = .ok (.getfield 42, 3) := op180 (bA_at bd09_89_dec_126 8 rfl rfl) rfl
theorem dX7_together_17 : decode cX7_together 17 = .ok (.if_icmp .ge 48, 3) := op162 (bA_at bd09_89_dec_126 9 rfl rfl) (by decide +kernel)
theorem dX7_together_20 : decode cX7_together 20 = .ok (.aload_n 2, 1) := op44 (bA_at bd09_89_dec_126 10 rfl rfl)
theorem dX7_together_21 : decode cX7_together 21 = .ok (.iload_n 3, 1) := op29 (bA_at bd09_89_dec_126 11 rfl rfl)
theorem bd09_89_dec_127 : ([(0, [16, 9]), (2, [104]), (3, [21, 8]), (5, [96]), (6, [46]), (7, [44]), (8, [21, 4]), (10, [16, 9]), (12, [104]), (13, [21, 8]), (15, [96]), (16, [46])] : List (Nat × List UInt8)).all (fun x => prB x.2 ((cX7_together.data.toList.drop 22).drop x.1)) = true := by decide +kernel
theorem dX7_together_22 : decode cX7_together 22 = .ok (.bipush 9, 2) := op16 (bA_at bd09_89_dec_127 0 rfl rfl) (by decide +kernel)
theorem dX7_together_24 : decode cX7_together 24 = .ok (.imul, 1) := op104 (bA_at bd09_89_dec_127 1 rfl rfl)
theorem dX7_together_25 : decode cX7_together 25 = .ok (.iload 8, 2) := op21 (bA_at bd09_89_dec_127 2 rfl rfl) rfl
theorem dX7_together_27 : decode cX7_together 27 = .ok (.iadd, 1) := op96 (bA_at bd09_89_dec_127 3 rfl rfl)
theorem dX7_together_28 : decode cX7_together 28 = .ok (.iaload, 1) := op46 (bA_at bd09_89_dec_127 4 rfl rfl)
theorem dX7_together_29 : decode cX7_together 29 = .ok (.aload_n 2, 1) := op44 (bA_at bd09_89_dec_127 5 rfl rfl)
theorem dX7_together_30 : decode cX7_together 30 = .ok (.iload 4, 2) := op21 (bA_at bd09_89_dec_127 6 rfl rfl) rfl
theorem dX7_together_32 : decode cX7_together 32 = .ok (.bipush 9, 2) := op16 (bA_at bd09_89_dec_127 7 rfl rfl) (by decide +kernel)
theorem dX7_together_34 : decode cX7_together 34 = .ok (.imul, 1) := op104 (bA_at bd09_89_dec_127 8 rfl rfl)
theorem dX7_together_35 : decode cX7_together 35 = .ok (.iload 8, 2) := op21 (bA_at bd09_89_dec_127 9 rfl rfl) rfl
theorem dX7_together_37 : decode cX7_together 37 = .ok (.iadd, 1) := op96 (bA_at bd09_89_dec_127 10 rfl rfl)
theorem dX7_together_38 : decode cX7_together 38 = .ok (.iaload, 1) := op46 (bA_at bd09_89_dec_127 11 rfl rfl)
theorem bd09_89_dec_128 : ([(0, [184, 0, 76]), (3, [54, 9]), (5, [21, 9]), (7, [21, 7]), (9, [162, 0, 11]), (12, [21, 8]), (14, [54, 6]), (16, [21, 9]), (18, [54, 7]), (20, [132, 8, 1]), (23, [167, 255, 205]), (26, [21, 6])] : List (Nat × List UInt8)).all (fun x => prB x.2 ((cX7_together.data.toList.drop 39).drop x.1)) = true := by decide +kernel
theorem dX7_together_39 : decode cX7_together 39 = .ok (.invokestatic 76, 3) := op184 (bA_at bd09_89_dec_128 0 rfl rfl) rfl
theorem dX7_together_42 : decode cX7_together 42 = .ok (.istore 9, 2) := op54 (bA_at bd09_89_dec_128 1 rfl rfl) rfl
theorem dX7_together_44 : decode cX7_together 44 = .ok (.iload 9, 2) := op21 (bA_at bd09_89_dec_128 2 rfl rfl) rfl
theorem dX7_together_46 : decode cX7_together 46 = .ok (.iload 7, 2) := op21 (bA_at bd09_89_dec_128 3 rfl rfl) rfl
theorem dX7_together_48 : decode cX7_together 48 = .ok (.if_icmp .ge 11, 3) := op162 (bA_at bd09_89_dec_128 4 rfl rfl) (by decide +kernel)
theorem dX7_together_51 : decode cX7_together 51 = .ok (.iload 8, 2) := op21 (bA_at bd09_89_dec_128 5 rfl rfl) rfl
theorem dX7_together_53 : decode cX7_together 53 = .ok (.istore 6, 2) := op54 (bA_at bd09_89_dec_128 6 rfl rfl) rfl
theorem dX7_together_55 : decode cX7_together 55 = .ok (.iload 9, 2) := op21 (bA_at bd09_89_dec_128 7 rfl rfl) rfl
theorem dX7_together_57 : decode cX7_together 57 = .ok (.istore 7, 2) := op54 (bA_at bd09_89_dec_128 8 rfl rfl) rfl
theorem dX7_together_59 : decode cX7_together 59 = .ok (.iinc 8 1, 3) := op132 (bA_at bd09_89_dec_128 9 rfl rfl) rfl (by decide +kernel)
theorem dX7_together_62 : decode cX7_together 62 = .ok (.goto (-51), 3) := op167 (bA_at bd09_89_dec_128 10 rfl rfl) (by decide +kernel)
theorem dX7_together_65 : decode cX7_together 65 = .ok (.iload 6, 2) := op21 (bA_at bd09_89_dec_128 11 rfl rfl) rfl
theorem bd09_89_dec_129 : ([(0, [2]), (1, [159, 0, 13]), (4, [21, 5]), (6, [153, 0, 8]), (9, [21, 7]), (11, [167, 0, 5]), (14, [21, 6]), (16, [172])] : List (Nat × List UInt8)).all (fun x => prB x.2 ((cX7_together.data.toList.drop 67).drop x.1)) = true := by decide +kernel
theorem dX7_together_67 : decode cX7_together 67 = .ok (.iconst (-1), 1) := op2 (bA_at bd09_89_dec_129 0 rfl rfl)
theorem dX7_together_68 : decode cX7_together 68 = .ok (.if_icmp .eq 13, 3) := op159 (bA_at bd09_89_dec_129 1 rfl rfl) (by decide +kernel)
theorem dX7_together_71 : decode cX7_together 71 = .ok (.iload 5, 2) := op21 (bA_at bd09_89_dec_129 2 rfl rfl) rfl
theorem dX7_together_73 : decode cX7_together 73 = .ok (.ifCond .eq 8, 3) := op153 (bA_at bd09_89_dec_129 3 rfl rfl) (by decide +kernel)
theorem dX7_together_76 : decode cX7_together 76 = .ok (.iload 7, 2) := op21 (bA_at bd09_89_dec_129 4 rfl rfl) rfl
theorem dX7_together_78 : decode cX7_together 78 = .ok (.goto 5, 3) := op167 (bA_at bd09_89_dec_129 5 rfl rfl) (by decide +kernel)
theorem dX7_together_81 : decode cX7_together 81 = .ok (.iload 6, 2) := op21 (bA_at bd09_89_dec_129 6 rfl rfl) rfl
theorem dX7_together_83 : decode cX7_together 83 = .ok (.ireturn, 1) := op172 (bA_at bd09_89_dec_129 7 rfl rfl)
theorem bd09_89_dec_130 : ([(0, [16, 24]), (2, [61]), (3, [28]), (4, [155, 0, 42]), (7, [42]), (8, [180, 0, 51]), (11, [17, 2, 88]), (14, [162, 0, 32]), (17, [42]), (18, [180, 0, 9]), (21, [42]), (22, [180, 0, 51])] : List (Nat × List UInt8)).all (fun x => prB x.2 ((cX9_put.data.toList.drop 0).drop x.1)) = true := by decide +kernel
theorem dX9_put_0 : decode cX9_put 0 = .ok (.bipush 24, 2) := op16 (bA_at bd09_89_dec_130 0 rfl rfl) (by decide +kernel)
theorem dX9_put_2 : decode cX9_put 2 = .ok (.istore_n 2, 1) := op61 (bA_at bd09_89_dec_130 1 rfl rfl)
theorem dX9_put_3 : decode cX9_put 3 = .ok (.iload_n 2, 1) := op28 (bA_at bd09_89_dec_130 2 rfl rfl)
theorem dX9_put_4 : decode cX9_put 4 = .ok (.ifCond .lt 42, 3) := op155 (bA_at bd09_89_dec_130 3 rfl rfl) (by decide +kernel)
theorem dX9_put_7 : decode cX9_put 7 = .ok (.aload_n 0, 1) := op42 (bA_at bd09_89_dec_130 4 rfl rfl)
theorem dX9_put_8 : decode cX9_put 8 = .ok (.getfield 51, 3) := op180 (bA_at bd09_89_dec_130 5 rfl rfl) rfl
theorem dX9_put_11 : decode cX9_put 11 = .ok (.sipush 600, 3) := op17 (bA_at bd09_89_dec_130 6 rfl rfl) (by decide +kernel)
theorem dX9_put_14 : decode cX9_put 14 = .ok (.if_icmp .ge 32, 3) := op162 (bA_at bd09_89_dec_130 7 rfl rfl) (by decide +kernel)
theorem dX9_put_17 : decode cX9_put 17 = .ok (.aload_n 0, 1) := op42 (bA_at bd09_89_dec_130 8 rfl rfl)
theorem dX9_put_18 : decode cX9_put 18 = .ok (.getfield 9, 3) := op180 (bA_at bd09_89_dec_130 9 rfl rfl) rfl
theorem dX9_put_21 : decode cX9_put 21 = .ok (.aload_n 0, 1) := op42 (bA_at bd09_89_dec_130 10 rfl rfl)
theorem dX9_put_22 : decode cX9_put 22 = .ok (.getfield 51, 3) := op180 (bA_at bd09_89_dec_130 11 rfl rfl) rfl
theorem bd09_89_dec_131 : ([(0, [27]), (1, [28]), (2, [124]), (3, [145]), (4, [84]), (5, [42]), (6, [89]), (7, [180, 0, 51]), (10, [4]), (11, [96]), (12, [181, 0, 51]), (15, [132, 2, 248])] : List (Nat × List UInt8)).all (fun x => prB x.2 ((cX9_put.data.toList.drop 25).drop x.1)) = true := by decide +kernel
theorem dX9_put_25 : decode cX9_put 25 = .ok (.iload_n 1, 1) := op27 (bA_at bd09_89_dec_131 0 rfl rfl)
theorem dX9_put_26 : decode cX9_put 26 = .ok (.iload_n 2, 1) := op28 (bA_at bd09_89_dec_131 1 rfl rfl)
theorem dX9_put_27 : decode cX9_put 27 = .ok (.iushr, 1) := op124 (bA_at bd09_89_dec_131 2 rfl rfl)
theorem dX9_put_28 : decode cX9_put 28 = .ok (.i2b, 1) := op145 (bA_at bd09_89_dec_131 3 rfl rfl)
theorem dX9_put_29 : decode cX9_put 29 = .ok (.bastore, 1) := op84 (bA_at bd09_89_dec_131 4 rfl rfl)
theorem dX9_put_30 : decode cX9_put 30 = .ok (.aload_n 0, 1) := op42 (bA_at bd09_89_dec_131 5 rfl rfl)
theorem dX9_put_31 : decode cX9_put 31 = .ok (.dup, 1) := op89 (bA_at bd09_89_dec_131 6 rfl rfl)
theorem dX9_put_32 : decode cX9_put 32 = .ok (.getfield 51, 3) := op180 (bA_at bd09_89_dec_131 7 rfl rfl) rfl
theorem dX9_put_35 : decode cX9_put 35 = .ok (.iconst 1, 1) := op4 (bA_at bd09_89_dec_131 8 rfl rfl)
theorem dX9_put_36 : decode cX9_put 36 = .ok (.iadd, 1) := op96 (bA_at bd09_89_dec_131 9 rfl rfl)
theorem dX9_put_37 : decode cX9_put 37 = .ok (.putfield 51, 3) := op181 (bA_at bd09_89_dec_131 10 rfl rfl) rfl
theorem dX9_put_40 : decode cX9_put 40 = .ok (.iinc 2 (-8), 3) := op132 (bA_at bd09_89_dec_131 11 rfl rfl) rfl (by decide +kernel)
theorem bd09_89_dec_132 : ([(0, [167, 255, 216]), (3, [177])] : List (Nat × List UInt8)).all (fun x => prB x.2 ((cX9_put.data.toList.drop 43).drop x.1)) = true := by decide +kernel
theorem dX9_put_43 : decode cX9_put 43 = .ok (.goto (-40), 3) := op167 (bA_at bd09_89_dec_132 0 rfl rfl) (by decide +kernel)
theorem dX9_put_46 : decode cX9_put 46 = .ok (.return_, 1) := op177 (bA_at bd09_89_dec_132 1 rfl rfl)
theorem bd09_89_dec_133 : ([(0, [43]), (1, [180, 0, 9]), (4, [3]), (5, [42]), (6, [180, 0, 9]), (9, [3]), (10, [43]), (11, [180, 0, 51]), (14, [184, 0, 54]), (17, [42]), (18, [43]), (19, [180, 0, 51])] : List (Nat × List UInt8)).all (fun x => prB x.2 ((cX9_copyFrom.data.toList.drop 0).drop x.1)) = true := by decide +kernel
theorem dX9_copyFrom_0 : decode cX9_copyFrom 0 = .ok (.aload_n 1, 1) := op43 (bA_at bd09_89_dec_133 0 rfl rfl)
theorem dX9_copyFrom_1 : decode cX9_copyFrom 1 = .ok (.getfield 9, 3) := op180 (bA_at bd09_89_dec_133 1 rfl rfl) rfl
theorem dX9_copyFrom_4 : decode cX9_copyFrom 4 = .ok (.iconst 0, 1) := op3 (bA_at bd09_89_dec_133 2 rfl rfl)
theorem dX9_copyFrom_5 : decode cX9_copyFrom 5 = .ok (.aload_n 0, 1) := op42 (bA_at bd09_89_dec_133 3 rfl rfl)
theorem dX9_copyFrom_6 : decode cX9_copyFrom 6 = .ok (.getfield 9, 3) := op180 (bA_at bd09_89_dec_133 4 rfl rfl) rfl
theorem dX9_copyFrom_9 : decode cX9_copyFrom 9 = .ok (.iconst 0, 1) := op3 (bA_at bd09_89_dec_133 5 rfl rfl)
theorem dX9_copyFrom_10 : decode cX9_copyFrom 10 = .ok (.aload_n 1, 1) := op43 (bA_at bd09_89_dec_133 6 rfl rfl)
theorem dX9_copyFrom_11 : decode cX9_copyFrom 11 = .ok (.getfield 51, 3) := op180 (bA_at bd09_89_dec_133 7 rfl rfl) rfl
theorem dX9_copyFrom_14 : decode cX9_copyFrom 14 = .ok (.invokestatic 54, 3) := op184 (bA_at bd09_89_dec_133 8 rfl rfl) rfl
theorem dX9_copyFrom_17 : decode cX9_copyFrom 17 = .ok (.aload_n 0, 1) := op42 (bA_at bd09_89_dec_133 9 rfl rfl)
theorem dX9_copyFrom_18 : decode cX9_copyFrom 18 = .ok (.aload_n 1, 1) := op43 (bA_at bd09_89_dec_133 10 rfl rfl)
theorem dX9_copyFrom_19 : decode cX9_copyFrom 19 = .ok (.getfield 51, 3) := op180 (bA_at bd09_89_dec_133 11 rfl rfl) rfl
theorem bd09_89_dec_134 : ([(0, [181, 0, 51]), (3, [42]), (4, [43]), (5, [180, 0, 60]), (8, [181, 0, 60]), (11, [42]), (12, [43]), (13, [180, 0, 15]), (16, [181, 0, 15]), (19, [43]), (20, [180, 0, 19]), (23, [3])] : List (Nat × List UInt8)).all (fun x => prB x.2 ((cX9_copyFrom.data.toList.drop 22).drop x.1)) = true := by decide +kernel
theorem dX9_copyFrom_22 : decode cX9_copyFrom 22 = .ok (.putfield 51, 3) := op181 (bA_at bd09_89_dec_134 0 rfl rfl) rfl
theorem dX9_copyFrom_25 : decode cX9_copyFrom 25 = .ok (.aload_n 0, 1) := op42 (bA_at bd09_89_dec_134 1 rfl rfl)
theorem dX9_copyFrom_26 : decode cX9_copyFrom 26 = .ok (.aload_n 1, 1) := op43 (bA_at bd09_89_dec_134 2 rfl rfl)
theorem dX9_copyFrom_27 : decode cX9_copyFrom 27 = .ok (.getfield 60, 3) := op180 (bA_at bd09_89_dec_134 3 rfl rfl) rfl
theorem dX9_copyFrom_30 : decode cX9_copyFrom 30 = .ok (.putfield 60, 3) := op181 (bA_at bd09_89_dec_134 4 rfl rfl) rfl
theorem dX9_copyFrom_33 : decode cX9_copyFrom 33 = .ok (.aload_n 0, 1) := op42 (bA_at bd09_89_dec_134 5 rfl rfl)
theorem dX9_copyFrom_34 : decode cX9_copyFrom 34 = .ok (.aload_n 1, 1) := op43 (bA_at bd09_89_dec_134 6 rfl rfl)
theorem dX9_copyFrom_35 : decode cX9_copyFrom 35 = .ok (.getfield 15, 3) := op180 (bA_at bd09_89_dec_134 7 rfl rfl) rfl
theorem dX9_copyFrom_38 : decode cX9_copyFrom 38 = .ok (.putfield 15, 3) := op181 (bA_at bd09_89_dec_134 8 rfl rfl) rfl
theorem dX9_copyFrom_41 : decode cX9_copyFrom 41 = .ok (.aload_n 1, 1) := op43 (bA_at bd09_89_dec_134 9 rfl rfl)
theorem dX9_copyFrom_42 : decode cX9_copyFrom 42 = .ok (.getfield 19, 3) := op180 (bA_at bd09_89_dec_134 10 rfl rfl) rfl
theorem dX9_copyFrom_45 : decode cX9_copyFrom 45 = .ok (.iconst 0, 1) := op3 (bA_at bd09_89_dec_134 11 rfl rfl)
theorem bd09_89_dec_135 : ([(0, [42]), (1, [180, 0, 19]), (4, [3]), (5, [7]), (6, [184, 0, 54]), (9, [3]), (10, [61]), (11, [28]), (12, [5]), (13, [162, 0, 69]), (16, [42]), (17, [180, 0, 26])] : List (Nat × List UInt8)).all (fun x => prB x.2 ((cX9_copyFrom.data.toList.drop 46).drop x.1)) = true := by decide +kernel
theorem dX9_copyFrom_46 : decode cX9_copyFrom 46 = .ok (.aload_n 0, 1) := op42 (bA_at bd09_89_dec_135 0 rfl rfl)
theorem dX9_copyFrom_47 : decode cX9_copyFrom 47 = .ok (.getfield 19, 3) := op180 (bA_at bd09_89_dec_135 1 rfl rfl) rfl
theorem dX9_copyFrom_50 : decode cX9_copyFrom 50 = .ok (.iconst 0, 1) := op3 (bA_at bd09_89_dec_135 2 rfl rfl)
theorem dX9_copyFrom_51 : decode cX9_copyFrom 51 = .ok (.iconst 4, 1) := op7 (bA_at bd09_89_dec_135 3 rfl rfl)
theorem dX9_copyFrom_52 : decode cX9_copyFrom 52 = .ok (.invokestatic 54, 3) := op184 (bA_at bd09_89_dec_135 4 rfl rfl) rfl
theorem dX9_copyFrom_55 : decode cX9_copyFrom 55 = .ok (.iconst 0, 1) := op3 (bA_at bd09_89_dec_135 5 rfl rfl)
theorem dX9_copyFrom_56 : decode cX9_copyFrom 56 = .ok (.istore_n 2, 1) := op61 (bA_at bd09_89_dec_135 6 rfl rfl)
theorem dX9_copyFrom_57 : decode cX9_copyFrom 57 = .ok (.iload_n 2, 1) := op28 (bA_at bd09_89_dec_135 7 rfl rfl)
theorem dX9_copyFrom_58 : decode cX9_copyFrom 58 = .ok (.iconst 2, 1) := op5 (bA_at bd09_89_dec_135 8 rfl rfl)
theorem dX9_copyFrom_59 : decode cX9_copyFrom 59 = .ok (.if_icmp .ge 69, 3) := op162 (bA_at bd09_89_dec_135 9 rfl rfl) (by decide +kernel)
theorem dX9_copyFrom_62 : decode cX9_copyFrom 62 = .ok (.aload_n 0, 1) := op42 (bA_at bd09_89_dec_135 10 rfl rfl)
theorem dX9_copyFrom_63 : decode cX9_copyFrom 63 = .ok (.getfield 26, 3) := op180 (bA_at bd09_89_dec_135 11 rfl rfl) rfl
theorem bd09_89_dec_136 : ([(0, [28]), (1, [50]), (2, [43]), (3, [180, 0, 26]), (6, [28]), (7, [50]), (8, [182, 0, 63]), (11, [42]), (12, [180, 0, 33]), (15, [28]), (16, [50]), (17, [43])] : List (Nat × List UInt8)).all (fun x => prB x.2 ((cX9_copyFrom.data.toList.drop 66).drop x.1)) = true := by decide +kernel
theorem dX9_copyFrom_66 : decode cX9_copyFrom 66 = .ok (.iload_n 2, 1) := op28 (bA_at bd09_89_dec_136 0 rfl rfl)
theorem dX9_copyFrom_67 : decode cX9_copyFrom 67 = .ok (.aaload, 1) := op50 (bA_at bd09_89_dec_136 1 rfl rfl)
theorem dX9_copyFrom_68 : decode cX9_copyFrom 68 = .ok (.aload_n 1, 1) := op43 (bA_at bd09_89_dec_136 2 rfl rfl)
theorem dX9_copyFrom_69 : decode cX9_copyFrom 69 = .ok (.getfield 26, 3) := op180 (bA_at bd09_89_dec_136 3 rfl rfl) rfl
theorem dX9_copyFrom_72 : decode cX9_copyFrom 72 = .ok (.iload_n 2, 1) := op28 (bA_at bd09_89_dec_136 4 rfl rfl)
theorem dX9_copyFrom_73 : decode cX9_copyFrom 73 = .ok (.aaload, 1) := op50 (bA_at bd09_89_dec_136 5 rfl rfl)
theorem dX9_copyFrom_74 : decode cX9_copyFrom 74 = .ok (.invokevirtual 63, 3) := op182 (bA_at bd09_89_dec_136 6 rfl rfl) rfl
theorem dX9_copyFrom_77 : decode cX9_copyFrom 77 = .ok (.aload_n 0, 1) := op42 (bA_at bd09_89_dec_136 7 rfl rfl)
theorem dX9_copyFrom_78 : decode cX9_copyFrom 78 = .ok (.getfield 33, 3) := op180 (bA_at bd09_89_dec_136 8 rfl rfl) rfl
theorem dX9_copyFrom_81 : decode cX9_copyFrom 81 = .ok (.iload_n 2, 1) := op28 (bA_at bd09_89_dec_136 9 rfl rfl)
theorem dX9_copyFrom_82 : decode cX9_copyFrom 82 = .ok (.aaload, 1) := op50 (bA_at bd09_89_dec_136 10 rfl rfl)
theorem dX9_copyFrom_83 : decode cX9_copyFrom 83 = .ok (.aload_n 1, 1) := op43 (bA_at bd09_89_dec_136 11 rfl rfl)
theorem bd09_89_dec_137 : ([(0, [180, 0, 33]), (3, [28]), (4, [50]), (5, [182, 0, 67]), (8, [42]), (9, [180, 0, 40]), (12, [28]), (13, [50]), (14, [43]), (15, [180, 0, 40]), (18, [28]), (19, [50])] : List (Nat × List UInt8)).all (fun x => prB x.2 ((cX9_copyFrom.data.toList.drop 84).drop x.1)) = true := by decide +kernel
theorem dX9_copyFrom_84 : decode cX9_copyFrom 84 = .ok (.getfield 33, 3) := op180 (bA_at bd09_89_dec_137 0 rfl rfl) rfl
theorem dX9_copyFrom_87 : decode cX9_copyFrom 87 = .ok (.iload_n 2, 1) := op28 (bA_at bd09_89_dec_137 1 rfl rfl)
theorem dX9_copyFrom_88 : decode cX9_copyFrom 88 = .ok (.aaload, 1) := op50 (bA_at bd09_89_dec_137 2 rfl rfl)
theorem dX9_copyFrom_89 : decode cX9_copyFrom 89 = .ok (.invokevirtual 67, 3) := op182 (bA_at bd09_89_dec_137 3 rfl rfl) rfl
theorem dX9_copyFrom_92 : decode cX9_copyFrom 92 = .ok (.aload_n 0, 1) := op42 (bA_at bd09_89_dec_137 4 rfl rfl)
theorem dX9_copyFrom_93 : decode cX9_copyFrom 93 = .ok (.getfield 40, 3) := op180 (bA_at bd09_89_dec_137 5 rfl rfl) rfl
theorem dX9_copyFrom_96 : decode cX9_copyFrom 96 = .ok (.iload_n 2, 1) := op28 (bA_at bd09_89_dec_137 6 rfl rfl)
theorem dX9_copyFrom_97 : decode cX9_copyFrom 97 = .ok (.aaload, 1) := op50 (bA_at bd09_89_dec_137 7 rfl rfl)
theorem dX9_copyFrom_98 : decode cX9_copyFrom 98 = .ok (.aload_n 1, 1) := op43 (bA_at bd09_89_dec_137 8 rfl rfl)
theorem dX9_copyFrom_99 : decode cX9_copyFrom 99 = .ok (.getfield 40, 3) := op180 (bA_at bd09_89_dec_137 9 rfl rfl) rfl
theorem dX9_copyFrom_102 : decode cX9_copyFrom 102 = .ok (.iload_n 2, 1) := op28 (bA_at bd09_89_dec_137 10 rfl rfl)
theorem dX9_copyFrom_103 : decode cX9_copyFrom 103 = .ok (.aaload, 1) := op50 (bA_at bd09_89_dec_137 11 rfl rfl)
theorem bd09_89_dec_138 : ([(0, [182, 0, 70]), (3, [42]), (4, [180, 0, 47]), (7, [28]), (8, [50]), (9, [43]), (10, [180, 0, 47]), (13, [28]), (14, [50]), (15, [182, 0, 73]), (18, [132, 2, 1]), (21, [167, 255, 188])] : List (Nat × List UInt8)).all (fun x => prB x.2 ((cX9_copyFrom.data.toList.drop 104).drop x.1)) = true := by decide +kernel
theorem dX9_copyFrom_104 : decode cX9_copyFrom 104 = .ok (.invokevirtual 70, 3) := op182 (bA_at bd09_89_dec_138 0 rfl rfl) rfl
theorem dX9_copyFrom_107 : decode cX9_copyFrom 107 = .ok (.aload_n 0, 1) := op42 (bA_at bd09_89_dec_138 1 rfl rfl)
theorem dX9_copyFrom_108 : decode cX9_copyFrom 108 = .ok (.getfield 47, 3) := op180 (bA_at bd09_89_dec_138 2 rfl rfl) rfl
theorem dX9_copyFrom_111 : decode cX9_copyFrom 111 = .ok (.iload_n 2, 1) := op28 (bA_at bd09_89_dec_138 3 rfl rfl)
theorem dX9_copyFrom_112 : decode cX9_copyFrom 112 = .ok (.aaload, 1) := op50 (bA_at bd09_89_dec_138 4 rfl rfl)
theorem dX9_copyFrom_113 : decode cX9_copyFrom 113 = .ok (.aload_n 1, 1) := op43 (bA_at bd09_89_dec_138 5 rfl rfl)
theorem dX9_copyFrom_114 : decode cX9_copyFrom 114 = .ok (.getfield 47, 3) := op180 (bA_at bd09_89_dec_138 6 rfl rfl) rfl
theorem dX9_copyFrom_117 : decode cX9_copyFrom 117 = .ok (.iload_n 2, 1) := op28 (bA_at bd09_89_dec_138 7 rfl rfl)
theorem dX9_copyFrom_118 : decode cX9_copyFrom 118 = .ok (.aaload, 1) := op50 (bA_at bd09_89_dec_138 8 rfl rfl)
theorem dX9_copyFrom_119 : decode cX9_copyFrom 119 = .ok (.invokevirtual 73, 3) := op182 (bA_at bd09_89_dec_138 9 rfl rfl) rfl
theorem dX9_copyFrom_122 : decode cX9_copyFrom 122 = .ok (.iinc 2 1, 3) := op132 (bA_at bd09_89_dec_138 10 rfl rfl) rfl (by decide +kernel)
theorem dX9_copyFrom_125 : decode cX9_copyFrom 125 = .ok (.goto (-68), 3) := op167 (bA_at bd09_89_dec_138 11 rfl rfl) (by decide +kernel)
theorem bd09_89_dec_139 : ([(0, [177])] : List (Nat × List UInt8)).all (fun x => prB x.2 ((cX9_copyFrom.data.toList.drop 128).drop x.1)) = true := by decide +kernel
theorem dX9_copyFrom_128 : decode cX9_copyFrom 128 = .ok (.return_, 1) := op177 (bA_at bd09_89_dec_139 0 rfl rfl)
theorem bd09_89_dec_140 : ([(0, [42]), (1, [180, 0, 10]), (4, [180, 0, 55]), (7, [16, 20]), (9, [96]), (10, [17, 2, 88]), (13, [164, 0, 5]), (16, [2]), (17, [172]), (18, [42]), (19, [180, 0, 10]), (22, [27])] : List (Nat × List UInt8)).all (fun x => prB x.2 ((cX10_feed.data.toList.drop 0).drop x.1)) = true := by decide +kernel
theorem dX10_feed_0 : decode cX10_feed 0 = .ok (.aload_n 0, 1) := op42 (bA_at bd09_89_dec_140 0 rfl rfl)
theorem dX10_feed_1 : decode cX10_feed 1 = .ok (.getfield 10, 3) := op180 (bA_at bd09_89_dec_140 1 rfl rfl) rfl
theorem dX10_feed_4 : decode cX10_feed 4 = .ok (.getfield 55, 3) := op180 (bA_at bd09_89_dec_140 2 rfl rfl) rfl
theorem dX10_feed_7 : decode cX10_feed 7 = .ok (.bipush 20, 2) := op16 (bA_at bd09_89_dec_140 3 rfl rfl) (by decide +kernel)
theorem dX10_feed_9 : decode cX10_feed 9 = .ok (.iadd, 1) := op96 (bA_at bd09_89_dec_140 4 rfl rfl)
theorem dX10_feed_10 : decode cX10_feed 10 = .ok (.sipush 600, 3) := op17 (bA_at bd09_89_dec_140 5 rfl rfl) (by decide +kernel)
theorem dX10_feed_13 : decode cX10_feed 13 = .ok (.if_icmp .le 5, 3) := op164 (bA_at bd09_89_dec_140 6 rfl rfl) (by decide +kernel)
theorem dX10_feed_16 : decode cX10_feed 16 = .ok (.iconst (-1), 1) := op2 (bA_at bd09_89_dec_140 7 rfl rfl)
theorem dX10_feed_17 : decode cX10_feed 17 = .ok (.ireturn, 1) := op172 (bA_at bd09_89_dec_140 8 rfl rfl)
theorem dX10_feed_18 : decode cX10_feed 18 = .ok (.aload_n 0, 1) := op42 (bA_at bd09_89_dec_140 9 rfl rfl)
theorem dX10_feed_19 : decode cX10_feed 19 = .ok (.getfield 10, 3) := op180 (bA_at bd09_89_dec_140 10 rfl rfl) rfl
theorem dX10_feed_22 : decode cX10_feed 22 = .ok (.iload_n 1, 1) := op27 (bA_at bd09_89_dec_140 11 rfl rfl)
theorem bd09_89_dec_141 : ([(0, [182, 0, 59]), (3, [42]), (4, [180, 0, 10]), (7, [28]), (8, [182, 0, 59]), (11, [42]), (12, [180, 0, 10]), (15, [29]), (16, [182, 0, 59]), (19, [42]), (20, [180, 0, 10]), (23, [21, 4])] : List (Nat × List UInt8)).all (fun x => prB x.2 ((cX10_feed.data.toList.drop 23).drop x.1)) = true := by decide +kernel
theorem dX10_feed_23 : decode cX10_feed 23 = .ok (.invokevirtual 59, 3) := op182 (bA_at bd09_89_dec_141 0 rfl rfl) rfl
theorem dX10_feed_26 : decode cX10_feed 26 = .ok (.aload_n 0, 1) := op42 (bA_at bd09_89_dec_141 1 rfl rfl)
theorem dX10_feed_27 : decode cX10_feed 27 = .ok (.getfield 10, 3) := op180 (bA_at bd09_89_dec_141 2 rfl rfl) rfl
theorem dX10_feed_30 : decode cX10_feed 30 = .ok (.iload_n 2, 1) := op28 (bA_at bd09_89_dec_141 3 rfl rfl)
theorem dX10_feed_31 : decode cX10_feed 31 = .ok (.invokevirtual 59, 3) := op182 (bA_at bd09_89_dec_141 4 rfl rfl) rfl
theorem dX10_feed_34 : decode cX10_feed 34 = .ok (.aload_n 0, 1) := op42 (bA_at bd09_89_dec_141 5 rfl rfl)
theorem dX10_feed_35 : decode cX10_feed 35 = .ok (.getfield 10, 3) := op180 (bA_at bd09_89_dec_141 6 rfl rfl) rfl
theorem dX10_feed_38 : decode cX10_feed 38 = .ok (.iload_n 3, 1) := op29 (bA_at bd09_89_dec_141 7 rfl rfl)
theorem dX10_feed_39 : decode cX10_feed 39 = .ok (.invokevirtual 59, 3) := op182 (bA_at bd09_89_dec_141 8 rfl rfl) rfl
theorem dX10_feed_42 : decode cX10_feed 42 = .ok (.aload_n 0, 1) := op42 (bA_at bd09_89_dec_141 9 rfl rfl)
theorem dX10_feed_43 : decode cX10_feed 43 = .ok (.getfield 10, 3) := op180 (bA_at bd09_89_dec_141 10 rfl rfl) rfl
theorem dX10_feed_46 : decode cX10_feed 46 = .ok (.iload 4, 2) := op21 (bA_at bd09_89_dec_141 11 rfl rfl) rfl
theorem bd09_89_dec_142 : ([(0, [182, 0, 59]), (3, [42]), (4, [180, 0, 10]), (7, [21, 5]), (9, [182, 0, 59]), (12, [42]), (13, [180, 0, 10]), (16, [180, 0, 55]), (19, [172])] : List (Nat × List UInt8)).all (fun x => prB x.2 ((cX10_feed.data.toList.drop 48).drop x.1)) = true := by decide +kernel
theorem dX10_feed_48 : decode cX10_feed 48 = .ok (.invokevirtual 59, 3) := op182 (bA_at bd09_89_dec_142 0 rfl rfl) rfl
theorem dX10_feed_51 : decode cX10_feed 51 = .ok (.aload_n 0, 1) := op42 (bA_at bd09_89_dec_142 1 rfl rfl)
theorem dX10_feed_52 : decode cX10_feed 52 = .ok (.getfield 10, 3) := op180 (bA_at bd09_89_dec_142 2 rfl rfl) rfl
theorem dX10_feed_55 : decode cX10_feed 55 = .ok (.iload 5, 2) := op21 (bA_at bd09_89_dec_142 3 rfl rfl) rfl
theorem dX10_feed_57 : decode cX10_feed 57 = .ok (.invokevirtual 59, 3) := op182 (bA_at bd09_89_dec_142 4 rfl rfl) rfl
theorem dX10_feed_60 : decode cX10_feed 60 = .ok (.aload_n 0, 1) := op42 (bA_at bd09_89_dec_142 5 rfl rfl)
theorem dX10_feed_61 : decode cX10_feed 61 = .ok (.getfield 10, 3) := op180 (bA_at bd09_89_dec_142 6 rfl rfl) rfl
theorem dX10_feed_64 : decode cX10_feed 64 = .ok (.getfield 55, 3) := op180 (bA_at bd09_89_dec_142 7 rfl rfl) rfl
theorem dX10_feed_67 : decode cX10_feed 67 = .ok (.ireturn, 1) := op172 (bA_at bd09_89_dec_142 8 rfl rfl)
theorem bd09_89_dec_143 : ([(0, [27]), (1, [155, 0, 14]), (4, [27]), (5, [42]), (6, [180, 0, 10]), (9, [180, 0, 55]), (12, [164, 0, 5]), (15, [2]), (16, [172]), (17, [42]), (18, [180, 0, 10]), (21, [27])] : List (Nat × List UInt8)).all (fun x => prB x.2 ((cX10_end.data.toList.drop 0).drop x.1)) = true := by decide +kernel
theorem dX10_end_0 : decode cX10_end 0 = .ok (.iload_n 1, 1) := op27 (bA_at bd09_89_dec_143 0 rfl rfl)
theorem dX10_end_1 : decode cX10_end 1 = .ok (.ifCond .lt 14, 3) := op155 (bA_at bd09_89_dec_143 1 rfl rfl) (by decide +kernel)
theorem dX10_end_4 : decode cX10_end 4 = .ok (.iload_n 1, 1) := op27 (bA_at bd09_89_dec_143 2 rfl rfl)
theorem dX10_end_5 : decode cX10_end 5 = .ok (.aload_n 0, 1) := op42 (bA_at bd09_89_dec_143 3 rfl rfl)
theorem dX10_end_6 : decode cX10_end 6 = .ok (.getfield 10, 3) := op180 (bA_at bd09_89_dec_143 4 rfl rfl) rfl
theorem dX10_end_9 : decode cX10_end 9 = .ok (.getfield 55, 3) := op180 (bA_at bd09_89_dec_143 5 rfl rfl) rfl
theorem dX10_end_12 : decode cX10_end 12 = .ok (.if_icmp .le 5, 3) := op164 (bA_at bd09_89_dec_143 6 rfl rfl) (by decide +kernel)
theorem dX10_end_15 : decode cX10_end 15 = .ok (.iconst (-1), 1) := op2 (bA_at bd09_89_dec_143 7 rfl rfl)
theorem dX10_end_16 : decode cX10_end 16 = .ok (.ireturn, 1) := op172 (bA_at bd09_89_dec_143 8 rfl rfl)
theorem dX10_end_17 : decode cX10_end 17 = .ok (.aload_n 0, 1) := op42 (bA_at bd09_89_dec_143 9 rfl rfl)
theorem dX10_end_18 : decode cX10_end 18 = .ok (.getfield 10, 3) := op180 (bA_at bd09_89_dec_143 10 rfl rfl) rfl
theorem dX10_end_21 : decode cX10_end 21 = .ok (.iload_n 1, 1) := op27 (bA_at bd09_89_dec_143 11 rfl rfl)
theorem bd09_89_dec_144 : ([(0, [181, 0, 55]), (3, [27]), (4, [172])] : List (Nat × List UInt8)).all (fun x => prB x.2 ((cX10_end.data.toList.drop 22).drop x.1)) = true := by decide +kernel
theorem dX10_end_22 : decode cX10_end 22 = .ok (.putfield 55, 3) := op181 (bA_at bd09_89_dec_144 0 rfl rfl) rfl
theorem dX10_end_25 : decode cX10_end 25 = .ok (.iload_n 1, 1) := op27 (bA_at bd09_89_dec_144 1 rfl rfl)
theorem dX10_end_26 : decode cX10_end 26 = .ok (.ireturn, 1) := op172 (bA_at bd09_89_dec_144 2 rfl rfl)
theorem bd09_89_dec_145 : ([(0, [42]), (1, [180, 0, 10]), (4, [180, 0, 55]), (7, [62]), (8, [42]), (9, [180, 0, 10]), (12, [3]), (13, [181, 0, 55]), (16, [42]), (17, [180, 0, 10]), (20, [3]), (21, [181, 0, 63])] : List (Nat × List UInt8)).all (fun x => prB x.2 ((cX10_text.data.toList.drop 0).drop x.1)) = true := by decide +kernel
theorem dX10_text_0 : decode cX10_text 0 = .ok (.aload_n 0, 1) := op42 (bA_at bd09_89_dec_145 0 rfl rfl)
theorem dX10_text_1 : decode cX10_text 1 = .ok (.getfield 10, 3) := op180 (bA_at bd09_89_dec_145 1 rfl rfl) rfl
theorem dX10_text_4 : decode cX10_text 4 = .ok (.getfield 55, 3) := op180 (bA_at bd09_89_dec_145 2 rfl rfl) rfl
theorem dX10_text_7 : decode cX10_text 7 = .ok (.istore_n 3, 1) := op62 (bA_at bd09_89_dec_145 3 rfl rfl)
theorem dX10_text_8 : decode cX10_text 8 = .ok (.aload_n 0, 1) := op42 (bA_at bd09_89_dec_145 4 rfl rfl)
theorem dX10_text_9 : decode cX10_text 9 = .ok (.getfield 10, 3) := op180 (bA_at bd09_89_dec_145 5 rfl rfl) rfl
theorem dX10_text_12 : decode cX10_text 12 = .ok (.iconst 0, 1) := op3 (bA_at bd09_89_dec_145 6 rfl rfl)
theorem dX10_text_13 : decode cX10_text 13 = .ok (.putfield 55, 3) := op181 (bA_at bd09_89_dec_145 7 rfl rfl) rfl
theorem dX10_text_16 : decode cX10_text 16 = .ok (.aload_n 0, 1) := op42 (bA_at bd09_89_dec_145 8 rfl rfl)
theorem dX10_text_17 : decode cX10_text 17 = .ok (.getfield 10, 3) := op180 (bA_at bd09_89_dec_145 9 rfl rfl) rfl
theorem dX10_text_20 : decode cX10_text 20 = .ok (.iconst 0, 1) := op3 (bA_at bd09_89_dec_145 10 rfl rfl)
theorem dX10_text_21 : decode cX10_text 21 = .ok (.putfield 63, 3) := op181 (bA_at bd09_89_dec_145 11 rfl rfl) rfl
theorem bd09_89_dec_146 : ([(0, [42]), (1, [180, 0, 10]), (4, [2]), (5, [181, 0, 66]), (8, [42]), (9, [27]), (10, [28]), (11, [182, 0, 69]), (14, [54, 4]), (16, [21, 4]), (18, [16, 254]), (20, [160, 0, 6])] : List (Nat × List UInt8)).all (fun x => prB x.2 ((cX10_text.data.toList.drop 24).drop x.1)) = true := by decide +kernel
theorem dX10_text_24 : decode cX10_text 24 = .ok (.aload_n 0, 1) := op42 (bA_at bd09_89_dec_146 0 rfl rfl)
theorem dX10_text_25 : decode cX10_text 25 = .ok (.getfield 10, 3) := op180 (bA_at bd09_89_dec_146 1 rfl rfl) rfl
theorem dX10_text_28 : decode cX10_text 28 = .ok (.iconst (-1), 1) := op2 (bA_at bd09_89_dec_146 2 rfl rfl)
theorem dX10_text_29 : decode cX10_text 29 = .ok (.putfield 66, 3) := op181 (bA_at bd09_89_dec_146 3 rfl rfl) rfl
theorem dX10_text_32 : decode cX10_text 32 = .ok (.aload_n 0, 1) := op42 (bA_at bd09_89_dec_146 4 rfl rfl)
theorem dX10_text_33 : decode cX10_text 33 = .ok (.iload_n 1, 1) := op27 (bA_at bd09_89_dec_146 5 rfl rfl)
theorem dX10_text_34 : decode cX10_text 34 = .ok (.iload_n 2, 1) := op28 (bA_at bd09_89_dec_146 6 rfl rfl)
theorem dX10_text_35 : decode cX10_text 35 = .ok (.invokevirtual 69, 3) := op182 (bA_at bd09_89_dec_146 7 rfl rfl) rfl
theorem dX10_text_38 : decode cX10_text 38 = .ok (.istore 4, 2) := op54 (bA_at bd09_89_dec_146 8 rfl rfl) rfl
theorem dX10_text_40 : decode cX10_text 40 = .ok (.iload 4, 2) := op21 (bA_at bd09_89_dec_146 9 rfl rfl) rfl
theorem dX10_text_42 : decode cX10_text 42 = .ok (.bipush (-2), 2) := op16 (bA_at bd09_89_dec_146 10 rfl rfl) (by decide +kernel)
theorem dX10_text_44 : decode cX10_text 44 = .ok (.if_icmp .ne 6, 3) := op160 (bA_at bd09_89_dec_146 11 rfl rfl) (by decide +kernel)
theorem bd09_89_dec_147 : ([(0, [16, 254]), (2, [172]), (3, [42]), (4, [180, 0, 23]), (7, [42]), (8, [180, 0, 10]), (11, [180, 0, 73]), (14, [29]), (15, [27]), (16, [182, 0, 77]), (19, [42]), (20, [180, 0, 10])] : List (Nat × List UInt8)).all (fun x => prB x.2 ((cX10_text.data.toList.drop 47).drop x.1)) = true := by decide +kernel
theorem dX10_text_47 : decode cX10_text 47 = .ok (.bipush (-2), 2) := op16 (bA_at bd09_89_dec_147 0 rfl rfl) (by decide +kernel)
theorem dX10_text_49 : decode cX10_text 49 = .ok (.ireturn, 1) := op172 (bA_at bd09_89_dec_147 1 rfl rfl)
theorem dX10_text_50 : decode cX10_text 50 = .ok (.aload_n 0, 1) := op42 (bA_at bd09_89_dec_147 2 rfl rfl)
theorem dX10_text_51 : decode cX10_text 51 = .ok (.getfield 23, 3) := op180 (bA_at bd09_89_dec_147 3 rfl rfl) rfl
theorem dX10_text_54 : decode cX10_text 54 = .ok (.aload_n 0, 1) := op42 (bA_at bd09_89_dec_147 4 rfl rfl)
theorem dX10_text_55 : decode cX10_text 55 = .ok (.getfield 10, 3) := op180 (bA_at bd09_89_dec_147 5 rfl rfl) rfl
theorem dX10_text_58 : decode cX10_text 58 = .ok (.getfield 73, 3) := op180 (bA_at bd09_89_dec_147 6 rfl rfl) rfl
theorem dX10_text_61 : decode cX10_text 61 = .ok (.iload_n 3, 1) := op29 (bA_at bd09_89_dec_147 7 rfl rfl)
theorem dX10_text_62 : decode cX10_text 62 = .ok (.iload_n 1, 1) := op27 (bA_at bd09_89_dec_147 8 rfl rfl)
theorem dX10_text_63 : decode cX10_text 63 = .ok (.invokevirtual 77, 3) := op182 (bA_at bd09_89_dec_147 9 rfl rfl) rfl
theorem dX10_text_66 : decode cX10_text 66 = .ok (.aload_n 0, 1) := op42 (bA_at bd09_89_dec_147 10 rfl rfl)
theorem dX10_text_67 : decode cX10_text 67 = .ok (.getfield 10, 3) := op180 (bA_at bd09_89_dec_147 11 rfl rfl) rfl
theorem bd09_89_dec_148 : ([(0, [42]), (1, [180, 0, 23]), (4, [180, 0, 81]), (7, [181, 0, 63]), (10, [42]), (11, [180, 0, 10]), (14, [42]), (15, [180, 0, 23]), (18, [180, 0, 82]), (21, [181, 0, 66]), (24, [42]), (25, [180, 0, 23])] : List (Nat × List UInt8)).all (fun x => prB x.2 ((cX10_text.data.toList.drop 70).drop x.1)) = true := by decide +kernel
theorem dX10_text_70 : decode cX10_text 70 = .ok (.aload_n 0, 1) := op42 (bA_at bd09_89_dec_148 0 rfl rfl)
theorem dX10_text_71 : decode cX10_text 71 = .ok (.getfield 23, 3) := op180 (bA_at bd09_89_dec_148 1 rfl rfl) rfl
theorem dX10_text_74 : decode cX10_text 74 = .ok (.getfield 81, 3) := op180 (bA_at bd09_89_dec_148 2 rfl rfl) rfl
theorem dX10_text_77 : decode cX10_text 77 = .ok (.putfield 63, 3) := op181 (bA_at bd09_89_dec_148 3 rfl rfl) rfl
theorem dX10_text_80 : decode cX10_text 80 = .ok (.aload_n 0, 1) := op42 (bA_at bd09_89_dec_148 4 rfl rfl)
theorem dX10_text_81 : decode cX10_text 81 = .ok (.getfield 10, 3) := op180 (bA_at bd09_89_dec_148 5 rfl rfl) rfl
theorem dX10_text_84 : decode cX10_text 84 = .ok (.aload_n 0, 1) := op42 (bA_at bd09_89_dec_148 6 rfl rfl)
theorem dX10_text_85 : decode cX10_text 85 = .ok (.getfield 23, 3) := op180 (bA_at bd09_89_dec_148 7 rfl rfl) rfl
theorem dX10_text_88 : decode cX10_text 88 = .ok (.getfield 82, 3) := op180 (bA_at bd09_89_dec_148 8 rfl rfl) rfl
theorem dX10_text_91 : decode cX10_text 91 = .ok (.putfield 66, 3) := op181 (bA_at bd09_89_dec_148 9 rfl rfl) rfl
theorem dX10_text_94 : decode cX10_text 94 = .ok (.aload_n 0, 1) := op42 (bA_at bd09_89_dec_148 10 rfl rfl)
theorem dX10_text_95 : decode cX10_text 95 = .ok (.getfield 23, 3) := op180 (bA_at bd09_89_dec_148 11 rfl rfl) rfl
theorem bd09_89_dec_149 : ([(0, [180, 0, 81]), (3, [153, 0, 5]), (6, [2]), (7, [172]), (8, [42]), (9, [27]), (10, [21, 4]), (12, [182, 0, 85]), (15, [21, 4]), (17, [172])] : List (Nat × List UInt8)).all (fun x => prB x.2 ((cX10_text.data.toList.drop 98).drop x.1)) = true := by decide +kernel
theorem dX10_text_98 : decode cX10_text 98 = .ok (.getfield 81, 3) := op180 (bA_at bd09_89_dec_149 0 rfl rfl) rfl
theorem dX10_text_101 : decode cX10_text 101 = .ok (.ifCond .eq 5, 3) := op153 (bA_at bd09_89_dec_149 1 rfl rfl) (by decide +kernel)
theorem dX10_text_104 : decode cX10_text 104 = .ok (.iconst (-1), 1) := op2 (bA_at bd09_89_dec_149 2 rfl rfl)
theorem dX10_text_105 : decode cX10_text 105 = .ok (.ireturn, 1) := op172 (bA_at bd09_89_dec_149 3 rfl rfl)
theorem dX10_text_106 : decode cX10_text 106 = .ok (.aload_n 0, 1) := op42 (bA_at bd09_89_dec_149 4 rfl rfl)
theorem dX10_text_107 : decode cX10_text 107 = .ok (.iload_n 1, 1) := op27 (bA_at bd09_89_dec_149 5 rfl rfl)
theorem dX10_text_108 : decode cX10_text 108 = .ok (.iload 4, 2) := op21 (bA_at bd09_89_dec_149 6 rfl rfl) rfl
theorem dX10_text_110 : decode cX10_text 110 = .ok (.invokevirtual 85, 3) := op182 (bA_at bd09_89_dec_149 7 rfl rfl) rfl
theorem dX10_text_113 : decode cX10_text 113 = .ok (.iload 4, 2) := op21 (bA_at bd09_89_dec_149 8 rfl rfl) rfl
theorem dX10_text_115 : decode cX10_text 115 = .ok (.ireturn, 1) := op172 (bA_at bd09_89_dec_149 9 rfl rfl)
theorem bd09_89_dec_150 : ([(0, [27]), (1, [154, 0, 11]), (4, [42]), (5, [180, 0, 10]), (8, [180, 0, 63]), (11, [172]), (12, [27]), (13, [4]), (14, [160, 0, 13]), (17, [42]), (18, [180, 0, 10]), (21, [180, 0, 66])] : List (Nat × List UInt8)).all (fun x => prB x.2 ((cX10_fault.data.toList.drop 0).drop x.1)) = true := by decide +kernel
theorem dX10_fault_0 : decode cX10_fault 0 = .ok (.iload_n 1, 1) := op27 (bA_at bd09_89_dec_150 0 rfl rfl)
theorem dX10_fault_1 : decode cX10_fault 1 = .ok (.ifCond .ne 11, 3) := op154 (bA_at bd09_89_dec_150 1 rfl rfl) (by decide +kernel)
theorem dX10_fault_4 : decode cX10_fault 4 = .ok (.aload_n 0, 1) := op42 (bA_at bd09_89_dec_150 2 rfl rfl)
theorem dX10_fault_5 : decode cX10_fault 5 = .ok (.getfield 10, 3) := op180 (bA_at bd09_89_dec_150 3 rfl rfl) rfl
theorem dX10_fault_8 : decode cX10_fault 8 = .ok (.getfield 63, 3) := op180 (bA_at bd09_89_dec_150 4 rfl rfl) rfl
theorem dX10_fault_11 : decode cX10_fault 11 = .ok (.ireturn, 1) := op172 (bA_at bd09_89_dec_150 5 rfl rfl)
theorem dX10_fault_12 : decode cX10_fault 12 = .ok (.iload_n 1, 1) := op27 (bA_at bd09_89_dec_150 6 rfl rfl)
theorem dX10_fault_13 : decode cX10_fault 13 = .ok (.iconst 1, 1) := op4 (bA_at bd09_89_dec_150 7 rfl rfl)
theorem dX10_fault_14 : decode cX10_fault 14 = .ok (.if_icmp .ne 13, 3) := op160 (bA_at bd09_89_dec_150 8 rfl rfl) (by decide +kernel)
theorem dX10_fault_17 : decode cX10_fault 17 = .ok (.aload_n 0, 1) := op42 (bA_at bd09_89_dec_150 9 rfl rfl)
theorem dX10_fault_18 : decode cX10_fault 18 = .ok (.getfield 10, 3) := op180 (bA_at bd09_89_dec_150 10 rfl rfl) rfl
theorem dX10_fault_21 : decode cX10_fault 21 = .ok (.getfield 66, 3) := op180 (bA_at bd09_89_dec_150 11 rfl rfl) rfl
theorem bd09_89_dec_151 : ([(0, [167, 0, 4]), (3, [2]), (4, [172])] : List (Nat × List UInt8)).all (fun x => prB x.2 ((cX10_fault.data.toList.drop 24).drop x.1)) = true := by decide +kernel
theorem dX10_fault_24 : decode cX10_fault 24 = .ok (.goto 4, 3) := op167 (bA_at bd09_89_dec_151 0 rfl rfl) (by decide +kernel)
theorem dX10_fault_27 : decode cX10_fault 27 = .ok (.iconst (-1), 1) := op2 (bA_at bd09_89_dec_151 1 rfl rfl)
theorem dX10_fault_28 : decode cX10_fault 28 = .ok (.ireturn, 1) := op172 (bA_at bd09_89_dec_151 2 rfl rfl)
theorem bd09_89_dec_152 : ([(0, [42]), (1, [27]), (2, [182, 0, 89]), (5, [78]), (6, [45]), (7, [199, 0, 7]), (10, [2]), (11, [167, 0, 8]), (14, [45]), (15, [28]), (16, [182, 0, 93]), (19, [172])] : List (Nat × List UInt8)).all (fun x => prB x.2 ((cX10_land.data.toList.drop 0).drop x.1)) = true := by decide +kernel
theorem dX10_land_0 : decode cX10_land 0 = .ok (.aload_n 0, 1) := op42 (bA_at bd09_89_dec_152 0 rfl rfl)
theorem dX10_land_1 : decode cX10_land 1 = .ok (.iload_n 1, 1) := op27 (bA_at bd09_89_dec_152 1 rfl rfl)
theorem dX10_land_2 : decode cX10_land 2 = .ok (.invokevirtual 89, 3) := op182 (bA_at bd09_89_dec_152 2 rfl rfl) rfl
theorem dX10_land_5 : decode cX10_land 5 = .ok (.astore_n 3, 1) := op78 (bA_at bd09_89_dec_152 3 rfl rfl)
theorem dX10_land_6 : decode cX10_land 6 = .ok (.aload_n 3, 1) := op45 (bA_at bd09_89_dec_152 4 rfl rfl)
theorem dX10_land_7 : decode cX10_land 7 = .ok (.ifnonnull 7, 3) := op199 (bA_at bd09_89_dec_152 5 rfl rfl) (by decide +kernel)
theorem dX10_land_10 : decode cX10_land 10 = .ok (.iconst (-1), 1) := op2 (bA_at bd09_89_dec_152 6 rfl rfl)
theorem dX10_land_11 : decode cX10_land 11 = .ok (.goto 8, 3) := op167 (bA_at bd09_89_dec_152 7 rfl rfl) (by decide +kernel)
theorem dX10_land_14 : decode cX10_land 14 = .ok (.aload_n 3, 1) := op45 (bA_at bd09_89_dec_152 8 rfl rfl)
theorem dX10_land_15 : decode cX10_land 15 = .ok (.iload_n 2, 1) := op28 (bA_at bd09_89_dec_152 9 rfl rfl)
theorem dX10_land_16 : decode cX10_land 16 = .ok (.invokevirtual 93, 3) := op182 (bA_at bd09_89_dec_152 10 rfl rfl) rfl
theorem dX10_land_19 : decode cX10_land 19 = .ok (.ireturn, 1) := op172 (bA_at bd09_89_dec_152 11 rfl rfl)
theorem bd09_89_dec_153 : ([(0, [42]), (1, [27]), (2, [182, 0, 89]), (5, [58, 4]), (7, [25, 4]), (9, [198, 0, 16]), (12, [28]), (13, [155, 0, 12]), (16, [28]), (17, [25, 4]), (19, [180, 0, 99]), (22, [161, 0, 5])] : List (Nat × List UInt8)).all (fun x => prB x.2 ((cX10_echo.data.toList.drop 0).drop x.1)) = true := by decide +kernel
theorem dX10_echo_0 : decode cX10_echo 0 = .ok (.aload_n 0, 1) := op42 (bA_at bd09_89_dec_153 0 rfl rfl)
theorem dX10_echo_1 : decode cX10_echo 1 = .ok (.iload_n 1, 1) := op27 (bA_at bd09_89_dec_153 1 rfl rfl)
theorem dX10_echo_2 : decode cX10_echo 2 = .ok (.invokevirtual 89, 3) := op182 (bA_at bd09_89_dec_153 2 rfl rfl) rfl
theorem dX10_echo_5 : decode cX10_echo 5 = .ok (.astore 4, 2) := op58 (bA_at bd09_89_dec_153 3 rfl rfl) rfl
theorem dX10_echo_7 : decode cX10_echo 7 = .ok (.aload 4, 2) := op25 (bA_at bd09_89_dec_153 4 rfl rfl) rfl
theorem dX10_echo_9 : decode cX10_echo 9 = .ok (.ifnull 16, 3) := op198 (bA_at bd09_89_dec_153 5 rfl rfl) (by decide +kernel)
theorem dX10_echo_12 : decode cX10_echo 12 = .ok (.iload_n 2, 1) := op28 (bA_at bd09_89_dec_153 6 rfl rfl)
theorem dX10_echo_13 : decode cX10_echo 13 = .ok (.ifCond .lt 12, 3) := op155 (bA_at bd09_89_dec_153 7 rfl rfl) (by decide +kernel)
theorem dX10_echo_16 : decode cX10_echo 16 = .ok (.iload_n 2, 1) := op28 (bA_at bd09_89_dec_153 8 rfl rfl)
theorem dX10_echo_17 : decode cX10_echo 17 = .ok (.aload 4, 2) := op25 (bA_at bd09_89_dec_153 9 rfl rfl) rfl
theorem dX10_echo_19 : decode cX10_echo 19 = .ok (.getfield 99, 3) := op180 (bA_at bd09_89_dec_153 10 rfl rfl) rfl
theorem dX10_echo_22 : decode cX10_echo 22 = .ok (.if_icmp .lt 5, 3) := op161 (bA_at bd09_89_dec_153 11 rfl rfl) (by decide +kernel)
theorem bd09_89_dec_154 : ([(0, [2]), (1, [172]), (2, [29]), (3, [154, 0, 11]), (6, [25, 4]), (8, [180, 0, 102]), (11, [28]), (12, [46]), (13, [172]), (14, [29]), (15, [4]), (16, [160, 0, 13])] : List (Nat × List UInt8)).all (fun x => prB x.2 ((cX10_echo.data.toList.drop 25).drop x.1)) = true := by decide +kernel
theorem dX10_echo_25 : decode cX10_echo 25 = .ok (.iconst (-1), 1) := op2 (bA_at bd09_89_dec_154 0 rfl rfl)
theorem dX10_echo_26 : decode cX10_echo 26 = .ok (.ireturn, 1) := op172 (bA_at bd09_89_dec_154 1 rfl rfl)
theorem dX10_echo_27 : decode cX10_echo 27 = .ok (.iload_n 3, 1) := op29 (bA_at bd09_89_dec_154 2 rfl rfl)
theorem dX10_echo_28 : decode cX10_echo 28 = .ok (.ifCond .ne 11, 3) := op154 (bA_at bd09_89_dec_154 3 rfl rfl) (by decide +kernel)
theorem dX10_echo_31 : decode cX10_echo 31 = .ok (.aload 4, 2) := op25 (bA_at bd09_89_dec_154 4 rfl rfl) rfl
theorem dX10_echo_33 : decode cX10_echo 33 = .ok (.getfield 102, 3) := op180 (bA_at bd09_89_dec_154 5 rfl rfl) rfl
theorem dX10_echo_36 : decode cX10_echo 36 = .ok (.iload_n 2, 1) := op28 (bA_at bd09_89_dec_154 6 rfl rfl)
theorem dX10_echo_37 : decode cX10_echo 37 = .ok (.iaload, 1) := op46 (bA_at bd09_89_dec_154 7 rfl rfl)
theorem dX10_echo_38 : decode cX10_echo 38 = .ok (.ireturn, 1) := op172 (bA_at bd09_89_dec_154 8 rfl rfl)
theorem dX10_echo_39 : decode cX10_echo 39 = .ok (.iload_n 3, 1) := op29 (bA_at bd09_89_dec_154 9 rfl rfl)
theorem dX10_echo_40 : decode cX10_echo 40 = .ok (.iconst 1, 1) := op4 (bA_at bd09_89_dec_154 10 rfl rfl)
theorem dX10_echo_41 : decode cX10_echo 41 = .ok (.if_icmp .ne 13, 3) := op160 (bA_at bd09_89_dec_154 11 rfl rfl) (by decide +kernel)
theorem bd09_89_dec_155 : ([(0, [25, 4]), (2, [180, 0, 106]), (5, [28]), (6, [46]), (7, [167, 0, 4]), (10, [2]), (11, [172])] : List (Nat × List UInt8)).all (fun x => prB x.2 ((cX10_echo.data.toList.drop 44).drop x.1)) = true := by decide +kernel
theorem dX10_echo_44 : decode cX10_echo 44 = .ok (.aload 4, 2) := op25 (bA_at bd09_89_dec_155 0 rfl rfl) rfl
theorem dX10_echo_46 : decode cX10_echo 46 = .ok (.getfield 106, 3) := op180 (bA_at bd09_89_dec_155 1 rfl rfl) rfl
theorem dX10_echo_49 : decode cX10_echo 49 = .ok (.iload_n 2, 1) := op28 (bA_at bd09_89_dec_155 2 rfl rfl)
theorem dX10_echo_50 : decode cX10_echo 50 = .ok (.iaload, 1) := op46 (bA_at bd09_89_dec_155 3 rfl rfl)
theorem dX10_echo_51 : decode cX10_echo 51 = .ok (.goto 4, 3) := op167 (bA_at bd09_89_dec_155 4 rfl rfl) (by decide +kernel)
theorem dX10_echo_54 : decode cX10_echo 54 = .ok (.iconst (-1), 1) := op2 (bA_at bd09_89_dec_155 5 rfl rfl)
theorem dX10_echo_55 : decode cX10_echo 55 = .ok (.ireturn, 1) := op172 (bA_at bd09_89_dec_155 6 rfl rfl)
theorem bd09_89_dec_156 : ([(0, [42]), (1, [27]), (2, [182, 0, 109]), (5, [58, 4]), (7, [25, 4]), (9, [199, 0, 6]), (12, [16, 254]), (14, [172]), (15, [28]), (16, [2]), (17, [160, 0, 13]), (20, [29])] : List (Nat × List UInt8)).all (fun x => prB x.2 ((cX10_deed.data.toList.drop 0).drop x.1)) = true := by decide +kernel
theorem dX10_deed_0 : decode cX10_deed 0 = .ok (.aload_n 0, 1) := op42 (bA_at bd09_89_dec_156 0 rfl rfl)
theorem dX10_deed_1 : decode cX10_deed 1 = .ok (.iload_n 1, 1) := op27 (bA_at bd09_89_dec_156 1 rfl rfl)
theorem dX10_deed_2 : decode cX10_deed 2 = .ok (.invokevirtual 109, 3) := op182 (bA_at bd09_89_dec_156 2 rfl rfl) rfl
theorem dX10_deed_5 : decode cX10_deed 5 = .ok (.astore 4, 2) := op58 (bA_at bd09_89_dec_156 3 rfl rfl) rfl
theorem dX10_deed_7 : decode cX10_deed 7 = .ok (.aload 4, 2) := op25 (bA_at bd09_89_dec_156 4 rfl rfl) rfl
theorem dX10_deed_9 : decode cX10_deed 9 = .ok (.ifnonnull 6, 3) := op199 (bA_at bd09_89_dec_156 5 rfl rfl) (by decide +kernel)
theorem dX10_deed_12 : decode cX10_deed 12 = .ok (.bipush (-2), 2) := op16 (bA_at bd09_89_dec_156 6 rfl rfl) (by decide +kernel)
theorem dX10_deed_14 : decode cX10_deed 14 = .ok (.ireturn, 1) := op172 (bA_at bd09_89_dec_156 7 rfl rfl)
theorem dX10_deed_15 : decode cX10_deed 15 = .ok (.iload_n 2, 1) := op28 (bA_at bd09_89_dec_156 8 rfl rfl)
theorem dX10_deed_16 : decode cX10_deed 16 = .ok (.iconst (-1), 1) := op2 (bA_at bd09_89_dec_156 9 rfl rfl)
theorem dX10_deed_17 : decode cX10_deed 17 = .ok (.if_icmp .ne 13, 3) := op160 (bA_at bd09_89_dec_156 10 rfl rfl) (by decide +kernel)
theorem dX10_deed_20 : decode cX10_deed 20 = .ok (.iload_n 3, 1) := op29 (bA_at bd09_89_dec_156 11 rfl rfl)
theorem bd09_89_dec_157 : ([(0, [154, 0, 9]), (3, [25, 4]), (5, [180, 0, 113]), (8, [172]), (9, [28]), (10, [155, 0, 12]), (13, [28]), (14, [25, 4]), (16, [180, 0, 113]), (19, [161, 0, 8]), (22, [16, 254]), (24, [167, 0, 10])] : List (Nat × List UInt8)).all (fun x => prB x.2 ((cX10_deed.data.toList.drop 21).drop x.1)) = true := by decide +kernel
theorem dX10_deed_21 : decode cX10_deed 21 = .ok (.ifCond .ne 9, 3) := op154 (bA_at bd09_89_dec_157 0 rfl rfl) (by decide +kernel)
theorem dX10_deed_24 : decode cX10_deed 24 = .ok (.aload 4, 2) := op25 (bA_at bd09_89_dec_157 1 rfl rfl) rfl
theorem dX10_deed_26 : decode cX10_deed 26 = .ok (.getfield 113, 3) := op180 (bA_at bd09_89_dec_157 2 rfl rfl) rfl
theorem dX10_deed_29 : decode cX10_deed 29 = .ok (.ireturn, 1) := op172 (bA_at bd09_89_dec_157 3 rfl rfl)
theorem dX10_deed_30 : decode cX10_deed 30 = .ok (.iload_n 2, 1) := op28 (bA_at bd09_89_dec_157 4 rfl rfl)
theorem dX10_deed_31 : decode cX10_deed 31 = .ok (.ifCond .lt 12, 3) := op155 (bA_at bd09_89_dec_157 5 rfl rfl) (by decide +kernel)
theorem dX10_deed_34 : decode cX10_deed 34 = .ok (.iload_n 2, 1) := op28 (bA_at bd09_89_dec_157 6 rfl rfl)
theorem dX10_deed_35 : decode cX10_deed 35 = .ok (.aload 4, 2) := op25 (bA_at bd09_89_dec_157 7 rfl rfl) rfl
theorem dX10_deed_37 : decode cX10_deed 37 = .ok (.getfield 113, 3) := op180 (bA_at bd09_89_dec_157 8 rfl rfl) rfl
theorem dX10_deed_40 : decode cX10_deed 40 = .ok (.if_icmp .lt 8, 3) := op161 (bA_at bd09_89_dec_157 9 rfl rfl) (by decide +kernel)
theorem dX10_deed_43 : decode cX10_deed 43 = .ok (.bipush (-2), 2) := op16 (bA_at bd09_89_dec_157 10 rfl rfl) (by decide +kernel)
theorem dX10_deed_45 : decode cX10_deed 45 = .ok (.goto 10, 3) := op167 (bA_at bd09_89_dec_157 11 rfl rfl) (by decide +kernel)
theorem bd09_89_dec_158 : ([(0, [25, 4]), (2, [28]), (3, [29]), (4, [182, 0, 118]), (7, [172])] : List (Nat × List UInt8)).all (fun x => prB x.2 ((cX10_deed.data.toList.drop 48).drop x.1)) = true := by decide +kernel
theorem dX10_deed_48 : decode cX10_deed 48 = .ok (.aload 4, 2) := op25 (bA_at bd09_89_dec_158 0 rfl rfl) rfl
theorem dX10_deed_50 : decode cX10_deed 50 = .ok (.iload_n 2, 1) := op28 (bA_at bd09_89_dec_158 1 rfl rfl)
theorem dX10_deed_51 : decode cX10_deed 51 = .ok (.iload_n 3, 1) := op29 (bA_at bd09_89_dec_158 2 rfl rfl)
theorem dX10_deed_52 : decode cX10_deed 52 = .ok (.invokevirtual 118, 3) := op182 (bA_at bd09_89_dec_158 3 rfl rfl) rfl
theorem dX10_deed_55 : decode cX10_deed 55 = .ok (.ireturn, 1) := op172 (bA_at bd09_89_dec_158 4 rfl rfl)
theorem bd09_89_dec_159 : ([(0, [42]), (1, [27]), (2, [182, 0, 89]), (5, [78]), (6, [42]), (7, [28]), (8, [182, 0, 109]), (11, [58, 4]), (13, [45]), (14, [198, 0, 8]), (17, [25, 4]), (19, [199, 0, 7])] : List (Nat × List UInt8)).all (fun x => prB x.2 ((cX10_stop.data.toList.drop 0).drop x.1)) = true := by decide +kernel
theorem dX10_stop_0 : decode cX10_stop 0 = .ok (.aload_n 0, 1) := op42 (bA_at bd09_89_dec_159 0 rfl rfl)
theorem dX10_stop_1 : decode cX10_stop 1 = .ok (.iload_n 1, 1) := op27 (bA_at bd09_89_dec_159 1 rfl rfl)
theorem dX10_stop_2 : decode cX10_stop 2 = .ok (.invokevirtual 89, 3) := op182 (bA_at bd09_89_dec_159 2 rfl rfl) rfl
theorem dX10_stop_5 : decode cX10_stop 5 = .ok (.astore_n 3, 1) := op78 (bA_at bd09_89_dec_159 3 rfl rfl)
theorem dX10_stop_6 : decode cX10_stop 6 = .ok (.aload_n 0, 1) := op42 (bA_at bd09_89_dec_159 4 rfl rfl)
theorem dX10_stop_7 : decode cX10_stop 7 = .ok (.iload_n 2, 1) := op28 (bA_at bd09_89_dec_159 5 rfl rfl)
theorem dX10_stop_8 : decode cX10_stop 8 = .ok (.invokevirtual 109, 3) := op182 (bA_at bd09_89_dec_159 6 rfl rfl) rfl
theorem dX10_stop_11 : decode cX10_stop 11 = .ok (.astore 4, 2) := op58 (bA_at bd09_89_dec_159 7 rfl rfl) rfl
theorem dX10_stop_13 : decode cX10_stop 13 = .ok (.aload_n 3, 1) := op45 (bA_at bd09_89_dec_159 8 rfl rfl)
theorem dX10_stop_14 : decode cX10_stop 14 = .ok (.ifnull 8, 3) := op198 (bA_at bd09_89_dec_159 9 rfl rfl) (by decide +kernel)
theorem dX10_stop_17 : decode cX10_stop 17 = .ok (.aload 4, 2) := op25 (bA_at bd09_89_dec_159 10 rfl rfl) rfl
theorem dX10_stop_19 : decode cX10_stop 19 = .ok (.ifnonnull 7, 3) := op199 (bA_at bd09_89_dec_159 11 rfl rfl) (by decide +kernel)
theorem bd09_89_dec_160 : ([(0, [2]), (1, [167, 0, 18]), (4, [42]), (5, [180, 0, 30]), (8, [45]), (9, [25, 4]), (11, [25, 4]), (13, [180, 0, 113]), (16, [182, 0, 120]), (19, [172])] : List (Nat × List UInt8)).all (fun x => prB x.2 ((cX10_stop.data.toList.drop 22).drop x.1)) = true := by decide +kernel
theorem dX10_stop_22 : decode cX10_stop 22 = .ok (.iconst (-1), 1) := op2 (bA_at bd09_89_dec_160 0 rfl rfl)
theorem dX10_stop_23 : decode cX10_stop 23 = .ok (.goto 18, 3) := op167 (bA_at bd09_89_dec_160 1 rfl rfl) (by decide +kernel)
theorem dX10_stop_26 : decode cX10_stop 26 = .ok (.aload_n 0, 1) := op42 (bA_at bd09_89_dec_160 2 rfl rfl)
theorem dX10_stop_27 : decode cX10_stop 27 = .ok (.getfield 30, 3) := op180 (bA_at bd09_89_dec_160 3 rfl rfl) rfl
theorem dX10_stop_30 : decode cX10_stop 30 = .ok (.aload_n 3, 1) := op45 (bA_at bd09_89_dec_160 4 rfl rfl)
theorem dX10_stop_31 : decode cX10_stop 31 = .ok (.aload 4, 2) := op25 (bA_at bd09_89_dec_160 5 rfl rfl) rfl
theorem dX10_stop_33 : decode cX10_stop 33 = .ok (.aload 4, 2) := op25 (bA_at bd09_89_dec_160 6 rfl rfl) rfl
theorem dX10_stop_35 : decode cX10_stop 35 = .ok (.getfield 113, 3) := op180 (bA_at bd09_89_dec_160 7 rfl rfl) rfl
theorem dX10_stop_38 : decode cX10_stop 38 = .ok (.invokevirtual 120, 3) := op182 (bA_at bd09_89_dec_160 8 rfl rfl) rfl
theorem dX10_stop_41 : decode cX10_stop 41 = .ok (.ireturn, 1) := op172 (bA_at bd09_89_dec_160 9 rfl rfl)
theorem bd09_89_dec_161 : ([(0, [42]), (1, [27]), (2, [28]), (3, [29]), (4, [182, 0, 124]), (7, [153, 0, 24]), (10, [42]), (11, [180, 0, 30]), (14, [42]), (15, [180, 0, 10]), (18, [180, 0, 128]), (21, [27])] : List (Nat × List UInt8)).all (fun x => prB x.2 ((cX10_state.data.toList.drop 0).drop x.1)) = true := by decide +kernel
theorem dX10_state_0 : decode cX10_state 0 = .ok (.aload_n 0, 1) := op42 (bA_at bd09_89_dec_161 0 rfl rfl)
theorem dX10_state_1 : decode cX10_state 1 = .ok (.iload_n 1, 1) := op27 (bA_at bd09_89_dec_161 1 rfl rfl)
theorem dX10_state_2 : decode cX10_state 2 = .ok (.iload_n 2, 1) := op28 (bA_at bd09_89_dec_161 2 rfl rfl)
theorem dX10_state_3 : decode cX10_state 3 = .ok (.iload_n 3, 1) := op29 (bA_at bd09_89_dec_161 3 rfl rfl)
theorem dX10_state_4 : decode cX10_state 4 = .ok (.invokevirtual 124, 3) := op182 (bA_at bd09_89_dec_161 4 rfl rfl) rfl
theorem dX10_state_7 : decode cX10_state 7 = .ok (.ifCond .eq 24, 3) := op153 (bA_at bd09_89_dec_161 5 rfl rfl) (by decide +kernel)
theorem dX10_state_10 : decode cX10_state 10 = .ok (.aload_n 0, 1) := op42 (bA_at bd09_89_dec_161 6 rfl rfl)
theorem dX10_state_11 : decode cX10_state 11 = .ok (.getfield 30, 3) := op180 (bA_at bd09_89_dec_161 7 rfl rfl) rfl
theorem dX10_state_14 : decode cX10_state 14 = .ok (.aload_n 0, 1) := op42 (bA_at bd09_89_dec_161 8 rfl rfl)
theorem dX10_state_15 : decode cX10_state 15 = .ok (.getfield 10, 3) := op180 (bA_at bd09_89_dec_161 9 rfl rfl) rfl
theorem dX10_state_18 : decode cX10_state 18 = .ok (.getfield 128, 3) := op180 (bA_at bd09_89_dec_161 10 rfl rfl) rfl
theorem dX10_state_21 : decode cX10_state 21 = .ok (.iload_n 1, 1) := op27 (bA_at bd09_89_dec_161 11 rfl rfl)
theorem bd09_89_dec_162 : ([(0, [50]), (1, [21, 4]), (3, [182, 0, 132]), (6, [167, 0, 6]), (9, [17, 252, 24]), (12, [172])] : List (Nat × List UInt8)).all (fun x => prB x.2 ((cX10_state.data.toList.drop 22).drop x.1)) = true := by decide +kernel
theorem dX10_state_22 : decode cX10_state 22 = .ok (.aaload, 1) := op50 (bA_at bd09_89_dec_162 0 rfl rfl)
theorem dX10_state_23 : decode cX10_state 23 = .ok (.iload 4, 2) := op21 (bA_at bd09_89_dec_162 1 rfl rfl) rfl
theorem dX10_state_25 : decode cX10_state 25 = .ok (.invokevirtual 132, 3) := op182 (bA_at bd09_89_dec_162 2 rfl rfl) rfl
theorem dX10_state_28 : decode cX10_state 28 = .ok (.goto 6, 3) := op167 (bA_at bd09_89_dec_162 3 rfl rfl) (by decide +kernel)
theorem dX10_state_31 : decode cX10_state 31 = .ok (.sipush (-1000), 3) := op17 (bA_at bd09_89_dec_162 4 rfl rfl) (by decide +kernel)
theorem dX10_state_34 : decode cX10_state 34 = .ok (.ireturn, 1) := op172 (bA_at bd09_89_dec_162 5 rfl rfl)
theorem bd09_89_dec_163 : ([(0, [42]), (1, [27]), (2, [182, 0, 89]), (5, [58, 4]), (7, [25, 4]), (9, [198, 0, 21]), (12, [25, 4]), (14, [28]), (15, [182, 0, 135]), (18, [153, 0, 12]), (21, [25, 4]), (23, [29])] : List (Nat × List UInt8)).all (fun x => prB x.2 ((cX10_comes.data.toList.drop 0).drop x.1)) = true := by decide +kernel
theorem dX10_comes_0 : decode cX10_comes 0 = .ok (.aload_n 0, 1) := op42 (bA_at bd09_89_dec_163 0 rfl rfl)
theorem dX10_comes_1 : decode cX10_comes 1 = .ok (.iload_n 1, 1) := op27 (bA_at bd09_89_dec_163 1 rfl rfl)
theorem dX10_comes_2 : decode cX10_comes 2 = .ok (.invokevirtual 89, 3) := op182 (bA_at bd09_89_dec_163 2 rfl rfl) rfl
theorem dX10_comes_5 : decode cX10_comes 5 = .ok (.astore 4, 2) := op58 (bA_at bd09_89_dec_163 3 rfl rfl) rfl
theorem dX10_comes_7 : decode cX10_comes 7 = .ok (.aload 4, 2) := op25 (bA_at bd09_89_dec_163 4 rfl rfl) rfl
theorem dX10_comes_9 : decode cX10_comes 9 = .ok (.ifnull 21, 3) := op198 (bA_at bd09_89_dec_163 5 rfl rfl) (by decide +kernel)
theorem dX10_comes_12 : decode cX10_comes 12 = .ok (.aload 4, 2) := op25 (bA_at bd09_89_dec_163 6 rfl rfl) rfl
theorem dX10_comes_14 : decode cX10_comes 14 = .ok (.iload_n 2, 1) := op28 (bA_at bd09_89_dec_163 7 rfl rfl)
theorem dX10_comes_15 : decode cX10_comes 15 = .ok (.invokevirtual 135, 3) := op182 (bA_at bd09_89_dec_163 8 rfl rfl) rfl
theorem dX10_comes_18 : decode cX10_comes 18 = .ok (.ifCond .eq 12, 3) := op153 (bA_at bd09_89_dec_163 9 rfl rfl) (by decide +kernel)
theorem dX10_comes_21 : decode cX10_comes 21 = .ok (.aload 4, 2) := op25 (bA_at bd09_89_dec_163 10 rfl rfl) rfl
theorem dX10_comes_23 : decode cX10_comes 23 = .ok (.iload_n 3, 1) := op29 (bA_at bd09_89_dec_163 11 rfl rfl)
theorem bd09_89_dec_164 : ([(0, [182, 0, 135]), (3, [154, 0, 5]), (6, [2]), (7, [172]), (8, [42]), (9, [180, 0, 37]), (12, [25, 4]), (14, [182, 0, 139]), (17, [42]), (18, [180, 0, 37]), (21, [180, 0, 143]), (24, [28])] : List (Nat × List UInt8)).all (fun x => prB x.2 ((cX10_comes.data.toList.drop 24).drop x.1)) = true := by decide +kernel
theorem dX10_comes_24 : decode cX10_comes 24 = .ok (.invokevirtual 135, 3) := op182 (bA_at bd09_89_dec_164 0 rfl rfl) rfl
theorem dX10_comes_27 : decode cX10_comes 27 = .ok (.ifCond .ne 5, 3) := op154 (bA_at bd09_89_dec_164 1 rfl rfl) (by decide +kernel)
theorem dX10_comes_30 : decode cX10_comes 30 = .ok (.iconst (-1), 1) := op2 (bA_at bd09_89_dec_164 2 rfl rfl)
theorem dX10_comes_31 : decode cX10_comes 31 = .ok (.ireturn, 1) := op172 (bA_at bd09_89_dec_164 3 rfl rfl)
theorem dX10_comes_32 : decode cX10_comes 32 = .ok (.aload_n 0, 1) := op42 (bA_at bd09_89_dec_164 4 rfl rfl)
theorem dX10_comes_33 : decode cX10_comes 33 = .ok (.getfield 37, 3) := op180 (bA_at bd09_89_dec_164 5 rfl rfl) rfl
theorem dX10_comes_36 : decode cX10_comes 36 = .ok (.aload 4, 2) := op25 (bA_at bd09_89_dec_164 6 rfl rfl) rfl
theorem dX10_comes_38 : decode cX10_comes 38 = .ok (.invokevirtual 139, 3) := op182 (bA_at bd09_89_dec_164 7 rfl rfl) rfl
theorem dX10_comes_41 : decode cX10_comes 41 = .ok (.aload_n 0, 1) := op42 (bA_at bd09_89_dec_164 8 rfl rfl)
theorem dX10_comes_42 : decode cX10_comes 42 = .ok (.getfield 37, 3) := op180 (bA_at bd09_89_dec_164 9 rfl rfl) rfl
theorem dX10_comes_45 : decode cX10_comes 45 = .ok (.getfield 143, 3) := op180 (bA_at bd09_89_dec_164 10 rfl rfl) rfl
theorem dX10_comes_48 : decode cX10_comes 48 = .ok (.iload_n 2, 1) := op28 (bA_at bd09_89_dec_164 11 rfl rfl)
theorem bd09_89_dec_165 : ([(0, [16, 9]), (2, [104]), (3, [29]), (4, [96]), (5, [46]), (6, [184, 0, 146]), (9, [172])] : List (Nat × List UInt8)).all (fun x => prB x.2 ((cX10_comes.data.toList.drop 49).drop x.1)) = true := by decide +kernel
theorem dX10_comes_49 : decode cX10_comes 49 = .ok (.bipush 9, 2) := op16 (bA_at bd09_89_dec_165 0 rfl rfl) (by decide +kernel)
theorem dX10_comes_51 : decode cX10_comes 51 = .ok (.imul, 1) := op104 (bA_at bd09_89_dec_165 1 rfl rfl)
theorem dX10_comes_52 : decode cX10_comes 52 = .ok (.iload_n 3, 1) := op29 (bA_at bd09_89_dec_165 2 rfl rfl)
theorem dX10_comes_53 : decode cX10_comes 53 = .ok (.iadd, 1) := op96 (bA_at bd09_89_dec_165 3 rfl rfl)
theorem dX10_comes_54 : decode cX10_comes 54 = .ok (.iaload, 1) := op46 (bA_at bd09_89_dec_165 4 rfl rfl)
theorem dX10_comes_55 : decode cX10_comes 55 = .ok (.invokestatic 146, 3) := op184 (bA_at bd09_89_dec_165 5 rfl rfl) rfl
theorem dX10_comes_58 : decode cX10_comes 58 = .ok (.ireturn, 1) := op172 (bA_at bd09_89_dec_165 6 rfl rfl)
theorem bd09_89_dec_166 : ([(0, [42]), (1, [27]), (2, [182, 0, 89]), (5, [58, 4]), (7, [25, 4]), (9, [198, 0, 22]), (12, [28]), (13, [155, 0, 18]), (16, [28]), (17, [16, 99]), (19, [163, 0, 12]), (22, [29])] : List (Nat × List UInt8)).all (fun x => prB x.2 ((cX10_villages.data.toList.drop 0).drop x.1)) = true := by decide +kernel
theorem dX10_villages_0 : decode cX10_villages 0 = .ok (.aload_n 0, 1) := op42 (bA_at bd09_89_dec_166 0 rfl rfl)
theorem dX10_villages_1 : decode cX10_villages 1 = .ok (.iload_n 1, 1) := op27 (bA_at bd09_89_dec_166 1 rfl rfl)
theorem dX10_villages_2 : decode cX10_villages 2 = .ok (.invokevirtual 89, 3) := op182 (bA_at bd09_89_dec_166 2 rfl rfl) rfl
theorem dX10_villages_5 : decode cX10_villages 5 = .ok (.astore 4, 2) := op58 (bA_at bd09_89_dec_166 3 rfl rfl) rfl
theorem dX10_villages_7 : decode cX10_villages 7 = .ok (.aload 4, 2) := op25 (bA_at bd09_89_dec_166 4 rfl rfl) rfl
theorem dX10_villages_9 : decode cX10_villages 9 = .ok (.ifnull 22, 3) := op198 (bA_at bd09_89_dec_166 5 rfl rfl) (by decide +kernel)
theorem dX10_villages_12 : decode cX10_villages 12 = .ok (.iload_n 2, 1) := op28 (bA_at bd09_89_dec_166 6 rfl rfl)
theorem dX10_villages_13 : decode cX10_villages 13 = .ok (.ifCond .lt 18, 3) := op155 (bA_at bd09_89_dec_166 7 rfl rfl) (by decide +kernel)
theorem dX10_villages_16 : decode cX10_villages 16 = .ok (.iload_n 2, 1) := op28 (bA_at bd09_89_dec_166 8 rfl rfl)
theorem dX10_villages_17 : decode cX10_villages 17 = .ok (.bipush 99, 2) := op16 (bA_at bd09_89_dec_166 9 rfl rfl) (by decide +kernel)
theorem dX10_villages_19 : decode cX10_villages 19 = .ok (.if_icmp .gt 12, 3) := op163 (bA_at bd09_89_dec_166 10 rfl rfl) (by decide +kernel)
theorem dX10_villages_22 : decode cX10_villages 22 = .ok (.iload_n 3, 1) := op29 (bA_at bd09_89_dec_166 11 rfl rfl)
theorem bd09_89_dec_167 : ([(0, [155, 0, 8]), (3, [29]), (4, [4]), (5, [164, 0, 6]), (8, [16, 254]), (10, [172]), (11, [42]), (12, [180, 0, 37]), (15, [25, 4]), (17, [182, 0, 139]), (20, [29]), (21, [154, 0, 16])] : List (Nat × List UInt8)).all (fun x => prB x.2 ((cX10_villages.data.toList.drop 23).drop x.1)) = true := by decide +kernel
theorem dX10_villages_23 : decode cX10_villages 23 = .ok (.ifCond .lt 8, 3) := op155 (bA_at bd09_89_dec_167 0 rfl rfl) (by decide +kernel)
theorem dX10_villages_26 : decode cX10_villages 26 = .ok (.iload_n 3, 1) := op29 (bA_at bd09_89_dec_167 1 rfl rfl)
theorem dX10_villages_27 : decode cX10_villages 27 = .ok (.iconst 1, 1) := op4 (bA_at bd09_89_dec_167 2 rfl rfl)
theorem dX10_villages_28 : decode cX10_villages 28 = .ok (.if_icmp .le 6, 3) := op164 (bA_at bd09_89_dec_167 3 rfl rfl) (by decide +kernel)
theorem dX10_villages_31 : decode cX10_villages 31 = .ok (.bipush (-2), 2) := op16 (bA_at bd09_89_dec_167 4 rfl rfl) (by decide +kernel)
theorem dX10_villages_33 : decode cX10_villages 33 = .ok (.ireturn, 1) := op172 (bA_at bd09_89_dec_167 5 rfl rfl)
theorem dX10_villages_34 : decode cX10_villages 34 = .ok (.aload_n 0, 1) := op42 (bA_at bd09_89_dec_167 6 rfl rfl)
theorem dX10_villages_35 : decode cX10_villages 35 = .ok (.getfield 37, 3) := op180 (bA_at bd09_89_dec_167 7 rfl rfl) rfl
theorem dX10_villages_38 : decode cX10_villages 38 = .ok (.aload 4, 2) := op25 (bA_at bd09_89_dec_167 8 rfl rfl) rfl
theorem dX10_villages_40 : decode cX10_villages 40 = .ok (.invokevirtual 139, 3) := op182 (bA_at bd09_89_dec_167 9 rfl rfl) rfl
theorem dX10_villages_43 : decode cX10_villages 43 = .ok (.iload_n 3, 1) := op29 (bA_at bd09_89_dec_167 10 rfl rfl)
theorem dX10_villages_44 : decode cX10_villages 44 = .ok (.ifCond .ne 16, 3) := op154 (bA_at bd09_89_dec_167 11 rfl rfl) (by decide +kernel)
theorem bd09_89_dec_168 : ([(0, [42]), (1, [180, 0, 37]), (4, [25, 4]), (6, [28]), (7, [182, 0, 149]), (10, [167, 0, 13]), (13, [42]), (14, [180, 0, 37]), (17, [25, 4]), (19, [28]), (20, [182, 0, 152]), (23, [172])] : List (Nat × List UInt8)).all (fun x => prB x.2 ((cX10_villages.data.toList.drop 47).drop x.1)) = true := by decide +kernel
theorem dX10_villages_47 : decode cX10_villages 47 = .ok (.aload_n 0, 1) := op42 (bA_at bd09_89_dec_168 0 rfl rfl)
theorem dX10_villages_48 : decode cX10_villages 48 = .ok (.getfield 37, 3) := op180 (bA_at bd09_89_dec_168 1 rfl rfl) rfl
theorem dX10_villages_51 : decode cX10_villages 51 = .ok (.aload 4, 2) := op25 (bA_at bd09_89_dec_168 2 rfl rfl) rfl
theorem dX10_villages_53 : decode cX10_villages 53 = .ok (.iload_n 2, 1) := op28 (bA_at bd09_89_dec_168 3 rfl rfl)
theorem dX10_villages_54 : decode cX10_villages 54 = .ok (.invokevirtual 149, 3) := op182 (bA_at bd09_89_dec_168 4 rfl rfl) rfl
theorem dX10_villages_57 : decode cX10_villages 57 = .ok (.goto 13, 3) := op167 (bA_at bd09_89_dec_168 5 rfl rfl) (by decide +kernel)
theorem dX10_villages_60 : decode cX10_villages 60 = .ok (.aload_n 0, 1) := op42 (bA_at bd09_89_dec_168 6 rfl rfl)
theorem dX10_villages_61 : decode cX10_villages 61 = .ok (.getfield 37, 3) := op180 (bA_at bd09_89_dec_168 7 rfl rfl) rfl
theorem dX10_villages_64 : decode cX10_villages 64 = .ok (.aload 4, 2) := op25 (bA_at bd09_89_dec_168 8 rfl rfl) rfl
theorem dX10_villages_66 : decode cX10_villages 66 = .ok (.iload_n 2, 1) := op28 (bA_at bd09_89_dec_168 9 rfl rfl)
theorem dX10_villages_67 : decode cX10_villages 67 = .ok (.invokevirtual 152, 3) := op182 (bA_at bd09_89_dec_168 10 rfl rfl) rfl
theorem dX10_villages_70 : decode cX10_villages 70 = .ok (.ireturn, 1) := op172 (bA_at bd09_89_dec_168 11 rfl rfl)
theorem bd09_89_dec_169 : ([(0, [42]), (1, [27]), (2, [182, 0, 89]), (5, [78]), (6, [45]), (7, [199, 0, 5]), (10, [2]), (11, [172]), (12, [42]), (13, [180, 0, 37]), (16, [45]), (17, [182, 0, 139])] : List (Nat × List UInt8)).all (fun x => prB x.2 ((cX10_best.data.toList.drop 0).drop x.1)) = true := by decide +kernel
theorem dX10_best_0 : decode cX10_best 0 = .ok (.aload_n 0, 1) := op42 (bA_at bd09_89_dec_169 0 rfl rfl)
theorem dX10_best_1 : decode cX10_best 1 = .ok (.iload_n 1, 1) := op27 (bA_at bd09_89_dec_169 1 rfl rfl)
theorem dX10_best_2 : decode cX10_best 2 = .ok (.invokevirtual 89, 3) := op182 (bA_at bd09_89_dec_169 2 rfl rfl) rfl
theorem dX10_best_5 : decode cX10_best 5 = .ok (.astore_n 3, 1) := op78 (bA_at bd09_89_dec_169 3 rfl rfl)
theorem dX10_best_6 : decode cX10_best 6 = .ok (.aload_n 3, 1) := op45 (bA_at bd09_89_dec_169 4 rfl rfl)
theorem dX10_best_7 : decode cX10_best 7 = .ok (.ifnonnull 5, 3) := op199 (bA_at bd09_89_dec_169 5 rfl rfl) (by decide +kernel)
theorem dX10_best_10 : decode cX10_best 10 = .ok (.iconst (-1), 1) := op2 (bA_at bd09_89_dec_169 6 rfl rfl)
theorem dX10_best_11 : decode cX10_best 11 = .ok (.ireturn, 1) := op172 (bA_at bd09_89_dec_169 7 rfl rfl)
theorem dX10_best_12 : decode cX10_best 12 = .ok (.aload_n 0, 1) := op42 (bA_at bd09_89_dec_169 8 rfl rfl)
theorem dX10_best_13 : decode cX10_best 13 = .ok (.getfield 37, 3) := op180 (bA_at bd09_89_dec_169 9 rfl rfl) rfl
theorem dX10_best_16 : decode cX10_best 16 = .ok (.aload_n 3, 1) := op45 (bA_at bd09_89_dec_169 10 rfl rfl)
theorem dX10_best_17 : decode cX10_best 17 = .ok (.invokevirtual 139, 3) := op182 (bA_at bd09_89_dec_169 11 rfl rfl) rfl
theorem bd09_89_dec_170 : ([(0, [42]), (1, [180, 0, 37]), (4, [45]), (5, [182, 0, 155]), (8, [54, 4]), (10, [21, 4]), (12, [2]), (13, [159, 0, 7]), (16, [28]), (17, [154, 0, 8]), (20, [21, 4]), (22, [167, 0, 13])] : List (Nat × List UInt8)).all (fun x => prB x.2 ((cX10_best.data.toList.drop 20).drop x.1)) = true := by decide +kernel
theorem dX10_best_20 : decode cX10_best 20 = .ok (.aload_n 0, 1) := op42 (bA_at bd09_89_dec_170 0 rfl rfl)
theorem dX10_best_21 : decode cX10_best 21 = .ok (.getfield 37, 3) := op180 (bA_at bd09_89_dec_170 1 rfl rfl) rfl
theorem dX10_best_24 : decode cX10_best 24 = .ok (.aload_n 3, 1) := op45 (bA_at bd09_89_dec_170 2 rfl rfl)
theorem dX10_best_25 : decode cX10_best 25 = .ok (.invokevirtual 155, 3) := op182 (bA_at bd09_89_dec_170 3 rfl rfl) rfl
theorem dX10_best_28 : decode cX10_best 28 = .ok (.istore 4, 2) := op54 (bA_at bd09_89_dec_170 4 rfl rfl) rfl
theorem dX10_best_30 : decode cX10_best 30 = .ok (.iload 4, 2) := op21 (bA_at bd09_89_dec_170 5 rfl rfl) rfl
theorem dX10_best_32 : decode cX10_best 32 = .ok (.iconst (-1), 1) := op2 (bA_at bd09_89_dec_170 6 rfl rfl)
theorem dX10_best_33 : decode cX10_best 33 = .ok (.if_icmp .eq 7, 3) := op159 (bA_at bd09_89_dec_170 7 rfl rfl) (by decide +kernel)
theorem dX10_best_36 : decode cX10_best 36 = .ok (.iload_n 2, 1) := op28 (bA_at bd09_89_dec_170 8 rfl rfl)
theorem dX10_best_37 : decode cX10_best 37 = .ok (.ifCond .ne 8, 3) := op154 (bA_at bd09_89_dec_170 9 rfl rfl) (by decide +kernel)
theorem dX10_best_40 : decode cX10_best 40 = .ok (.iload 4, 2) := op21 (bA_at bd09_89_dec_170 10 rfl rfl) rfl
theorem dX10_best_42 : decode cX10_best 42 = .ok (.goto 13, 3) := op167 (bA_at bd09_89_dec_170 11 rfl rfl) (by decide +kernel)
theorem bd09_89_dec_171 : ([(0, [42]), (1, [180, 0, 37]), (4, [45]), (5, [21, 4]), (7, [182, 0, 159]), (10, [172])] : List (Nat × List UInt8)).all (fun x => prB x.2 ((cX10_best.data.toList.drop 45).drop x.1)) = true := by decide +kernel
theorem dX10_best_45 : decode cX10_best 45 = .ok (.aload_n 0, 1) := op42 (bA_at bd09_89_dec_171 0 rfl rfl)
theorem dX10_best_46 : decode cX10_best 46 = .ok (.getfield 37, 3) := op180 (bA_at bd09_89_dec_171 1 rfl rfl) rfl
theorem dX10_best_49 : decode cX10_best 49 = .ok (.aload_n 3, 1) := op45 (bA_at bd09_89_dec_171 2 rfl rfl)
theorem dX10_best_50 : decode cX10_best 50 = .ok (.iload 4, 2) := op21 (bA_at bd09_89_dec_171 3 rfl rfl) rfl
theorem dX10_best_52 : decode cX10_best 52 = .ok (.invokevirtual 159, 3) := op182 (bA_at bd09_89_dec_171 4 rfl rfl) rfl
theorem dX10_best_55 : decode cX10_best 55 = .ok (.ireturn, 1) := op172 (bA_at bd09_89_dec_171 5 rfl rfl)
theorem bd09_89_dec_172 : ([(0, [42]), (1, [27]), (2, [182, 0, 89]), (5, [58, 5]), (7, [25, 5]), (9, [198, 0, 37]), (12, [25, 5]), (14, [28]), (15, [182, 0, 135]), (18, [153, 0, 28]), (21, [25, 5]), (23, [29])] : List (Nat × List UInt8)).all (fun x => prB x.2 ((cX10_routes.data.toList.drop 0).drop x.1)) = true := by decide +kernel
theorem dX10_routes_0 : decode cX10_routes 0 = .ok (.aload_n 0, 1) := op42 (bA_at bd09_89_dec_172 0 rfl rfl)
theorem dX10_routes_1 : decode cX10_routes 1 = .ok (.iload_n 1, 1) := op27 (bA_at bd09_89_dec_172 1 rfl rfl)
theorem dX10_routes_2 : decode cX10_routes 2 = .ok (.invokevirtual 89, 3) := op182 (bA_at bd09_89_dec_172 2 rfl rfl) rfl
theorem dX10_routes_5 : decode cX10_routes 5 = .ok (.astore 5, 2) := op58 (bA_at bd09_89_dec_172 3 rfl rfl) rfl
theorem dX10_routes_7 : decode cX10_routes 7 = .ok (.aload 5, 2) := op25 (bA_at bd09_89_dec_172 4 rfl rfl) rfl
theorem dX10_routes_9 : decode cX10_routes 9 = .ok (.ifnull 37, 3) := op198 (bA_at bd09_89_dec_172 5 rfl rfl) (by decide +kernel)
theorem dX10_routes_12 : decode cX10_routes 12 = .ok (.aload 5, 2) := op25 (bA_at bd09_89_dec_172 6 rfl rfl) rfl
theorem dX10_routes_14 : decode cX10_routes 14 = .ok (.iload_n 2, 1) := op28 (bA_at bd09_89_dec_172 7 rfl rfl)
theorem dX10_routes_15 : decode cX10_routes 15 = .ok (.invokevirtual 135, 3) := op182 (bA_at bd09_89_dec_172 8 rfl rfl) rfl
theorem dX10_routes_18 : decode cX10_routes 18 = .ok (.ifCond .eq 28, 3) := op153 (bA_at bd09_89_dec_172 9 rfl rfl) (by decide +kernel)
theorem dX10_routes_21 : decode cX10_routes 21 = .ok (.aload 5, 2) := op25 (bA_at bd09_89_dec_172 10 rfl rfl) rfl
theorem dX10_routes_23 : decode cX10_routes 23 = .ok (.iload_n 3, 1) := op29 (bA_at bd09_89_dec_172 11 rfl rfl)
theorem bd09_89_dec_173 : ([(0, [182, 0, 135]), (3, [153, 0, 19]), (6, [28]), (7, [29]), (8, [159, 0, 14]), (11, [21, 4]), (13, [155, 0, 9]), (16, [21, 4]), (18, [5]), (19, [164, 0, 6]), (22, [16, 254]), (24, [172])] : List (Nat × List UInt8)).all (fun x => prB x.2 ((cX10_routes.data.toList.drop 24).drop x.1)) = true := by decide +kernel
theorem dX10_routes_24 : decode cX10_routes 24 = .ok (.invokevirtual 135, 3) := op182 (bA_at bd09_89_dec_173 0 rfl rfl) rfl
theorem dX10_routes_27 : decode cX10_routes 27 = .ok (.ifCond .eq 19, 3) := op153 (bA_at bd09_89_dec_173 1 rfl rfl) (by decide +kernel)
theorem dX10_routes_30 : decode cX10_routes 30 = .ok (.iload_n 2, 1) := op28 (bA_at bd09_89_dec_173 2 rfl rfl)
theorem dX10_routes_31 : decode cX10_routes 31 = .ok (.iload_n 3, 1) := op29 (bA_at bd09_89_dec_173 3 rfl rfl)
theorem dX10_routes_32 : decode cX10_routes 32 = .ok (.if_icmp .eq 14, 3) := op159 (bA_at bd09_89_dec_173 4 rfl rfl) (by decide +kernel)
theorem dX10_routes_35 : decode cX10_routes 35 = .ok (.iload 4, 2) := op21 (bA_at bd09_89_dec_173 5 rfl rfl) rfl
theorem dX10_routes_37 : decode cX10_routes 37 = .ok (.ifCond .lt 9, 3) := op155 (bA_at bd09_89_dec_173 6 rfl rfl) (by decide +kernel)
theorem dX10_routes_40 : decode cX10_routes 40 = .ok (.iload 4, 2) := op21 (bA_at bd09_89_dec_173 7 rfl rfl) rfl
theorem dX10_routes_42 : decode cX10_routes 42 = .ok (.iconst 2, 1) := op5 (bA_at bd09_89_dec_173 8 rfl rfl)
theorem dX10_routes_43 : decode cX10_routes 43 = .ok (.if_icmp .le 6, 3) := op164 (bA_at bd09_89_dec_173 9 rfl rfl) (by decide +kernel)
theorem dX10_routes_46 : decode cX10_routes 46 = .ok (.bipush (-2), 2) := op16 (bA_at bd09_89_dec_173 10 rfl rfl) (by decide +kernel)
theorem dX10_routes_48 : decode cX10_routes 48 = .ok (.ireturn, 1) := op172 (bA_at bd09_89_dec_173 11 rfl rfl)
theorem bd09_89_dec_174 : ([(0, [42]), (1, [180, 0, 37]), (4, [25, 5]), (6, [28]), (7, [182, 0, 162]), (10, [21, 4]), (12, [154, 0, 13]), (15, [42]), (16, [180, 0, 37]), (19, [180, 0, 166]), (22, [29]), (23, [46])] : List (Nat × List UInt8)).all (fun x => prB x.2 ((cX10_routes.data.toList.drop 49).drop x.1)) = true := by decide +kernel
theorem dX10_routes_49 : decode cX10_routes 49 = .ok (.aload_n 0, 1) := op42 (bA_at bd09_89_dec_174 0 rfl rfl)
theorem dX10_routes_50 : decode cX10_routes 50 = .ok (.getfield 37, 3) := op180 (bA_at bd09_89_dec_174 1 rfl rfl) rfl
theorem dX10_routes_53 : decode cX10_routes 53 = .ok (.aload 5, 2) := op25 (bA_at bd09_89_dec_174 2 rfl rfl) rfl
theorem dX10_routes_55 : decode cX10_routes 55 = .ok (.iload_n 2, 1) := op28 (bA_at bd09_89_dec_174 3 rfl rfl)
theorem dX10_routes_56 : decode cX10_routes 56 = .ok (.invokevirtual 162, 3) := op182 (bA_at bd09_89_dec_174 4 rfl rfl) rfl
theorem dX10_routes_59 : decode cX10_routes 59 = .ok (.iload 4, 2) := op21 (bA_at bd09_89_dec_174 5 rfl rfl) rfl
theorem dX10_routes_61 : decode cX10_routes 61 = .ok (.ifCond .ne 13, 3) := op154 (bA_at bd09_89_dec_174 6 rfl rfl) (by decide +kernel)
theorem dX10_routes_64 : decode cX10_routes 64 = .ok (.aload_n 0, 1) := op42 (bA_at bd09_89_dec_174 7 rfl rfl)
theorem dX10_routes_65 : decode cX10_routes 65 = .ok (.getfield 37, 3) := op180 (bA_at bd09_89_dec_174 8 rfl rfl) rfl
theorem dX10_routes_68 : decode cX10_routes 68 = .ok (.getfield 166, 3) := op180 (bA_at bd09_89_dec_174 9 rfl rfl) rfl
theorem dX10_routes_71 : decode cX10_routes 71 = .ok (.iload_n 3, 1) := op29 (bA_at bd09_89_dec_174 10 rfl rfl)
theorem dX10_routes_72 : decode cX10_routes 72 = .ok (.iaload, 1) := op46 (bA_at bd09_89_dec_174 11 rfl rfl)
theorem bd09_89_dec_175 : ([(0, [172]), (1, [42]), (2, [180, 0, 37]), (5, [180, 0, 166]), (8, [29]), (9, [46]), (10, [154, 0, 5]), (13, [2]), (14, [172]), (15, [21, 4]), (17, [4]), (18, [160, 0, 15])] : List (Nat × List UInt8)).all (fun x => prB x.2 ((cX10_routes.data.toList.drop 73).drop x.1)) = true := by decide +kernel
theorem dX10_routes_73 : decode cX10_routes 73 = .ok (.ireturn, 1) := op172 (bA_at bd09_89_dec_175 0 rfl rfl)
theorem dX10_routes_74 : decode cX10_routes 74 = .ok (.aload_n 0, 1) := op42 (bA_at bd09_89_dec_175 1 rfl rfl)
theorem dX10_routes_75 : decode cX10_routes 75 = .ok (.getfield 37, 3) := op180 (bA_at bd09_89_dec_175 2 rfl rfl) rfl
theorem dX10_routes_78 : decode cX10_routes 78 = .ok (.getfield 166, 3) := op180 (bA_at bd09_89_dec_175 3 rfl rfl) rfl
theorem dX10_routes_81 : decode cX10_routes 81 = .ok (.iload_n 3, 1) := op29 (bA_at bd09_89_dec_175 4 rfl rfl)
theorem dX10_routes_82 : decode cX10_routes 82 = .ok (.iaload, 1) := op46 (bA_at bd09_89_dec_175 5 rfl rfl)
theorem dX10_routes_83 : decode cX10_routes 83 = .ok (.ifCond .ne 5, 3) := op154 (bA_at bd09_89_dec_175 6 rfl rfl) (by decide +kernel)
theorem dX10_routes_86 : decode cX10_routes 86 = .ok (.iconst (-1), 1) := op2 (bA_at bd09_89_dec_175 7 rfl rfl)
theorem dX10_routes_87 : decode cX10_routes 87 = .ok (.ireturn, 1) := op172 (bA_at bd09_89_dec_175 8 rfl rfl)
theorem dX10_routes_88 : decode cX10_routes 88 = .ok (.iload 4, 2) := op21 (bA_at bd09_89_dec_175 9 rfl rfl) rfl
theorem dX10_routes_90 : decode cX10_routes 90 = .ok (.iconst 1, 1) := op4 (bA_at bd09_89_dec_175 10 rfl rfl)
theorem dX10_routes_91 : decode cX10_routes 91 = .ok (.if_icmp .ne 15, 3) := op160 (bA_at bd09_89_dec_175 11 rfl rfl) (by decide +kernel)
theorem bd09_89_dec_176 : ([(0, [42]), (1, [180, 0, 37]), (4, [180, 0, 169]), (7, [29]), (8, [46]), (9, [167, 0, 14]), (12, [42]), (13, [180, 0, 37]), (16, [25, 5]), (18, [28]), (19, [29]), (20, [182, 0, 172])] : List (Nat × List UInt8)).all (fun x => prB x.2 ((cX10_routes.data.toList.drop 94).drop x.1)) = true := by decide +kernel
theorem dX10_routes_94 : decode cX10_routes 94 = .ok (.aload_n 0, 1) := op42 (bA_at bd09_89_dec_176 0 rfl rfl)
theorem dX10_routes_95 : decode cX10_routes 95 = .ok (.getfield 37, 3) := op180 (bA_at bd09_89_dec_176 1 rfl rfl) rfl
theorem dX10_routes_98 : decode cX10_routes 98 = .ok (.getfield 169, 3) := op180 (bA_at bd09_89_dec_176 2 rfl rfl) rfl
theorem dX10_routes_101 : decode cX10_routes 101 = .ok (.iload_n 3, 1) := op29 (bA_at bd09_89_dec_176 3 rfl rfl)
theorem dX10_routes_102 : decode cX10_routes 102 = .ok (.iaload, 1) := op46 (bA_at bd09_89_dec_176 4 rfl rfl)
theorem dX10_routes_103 : decode cX10_routes 103 = .ok (.goto 14, 3) := op167 (bA_at bd09_89_dec_176 5 rfl rfl) (by decide +kernel)
theorem dX10_routes_106 : decode cX10_routes 106 = .ok (.aload_n 0, 1) := op42 (bA_at bd09_89_dec_176 6 rfl rfl)
theorem dX10_routes_107 : decode cX10_routes 107 = .ok (.getfield 37, 3) := op180 (bA_at bd09_89_dec_176 7 rfl rfl) rfl
theorem dX10_routes_110 : decode cX10_routes 110 = .ok (.aload 5, 2) := op25 (bA_at bd09_89_dec_176 8 rfl rfl) rfl
theorem dX10_routes_112 : decode cX10_routes 112 = .ok (.iload_n 2, 1) := op28 (bA_at bd09_89_dec_176 9 rfl rfl)
theorem dX10_routes_113 : decode cX10_routes 113 = .ok (.iload_n 3, 1) := op29 (bA_at bd09_89_dec_176 10 rfl rfl)
theorem dX10_routes_114 : decode cX10_routes 114 = .ok (.invokevirtual 172, 3) := op182 (bA_at bd09_89_dec_176 11 rfl rfl) rfl
theorem bd09_89_dec_177 : ([(0, [172])] : List (Nat × List UInt8)).all (fun x => prB x.2 ((cX10_routes.data.toList.drop 117).drop x.1)) = true := by decide +kernel
theorem dX10_routes_117 : decode cX10_routes 117 = .ok (.ireturn, 1) := op172 (bA_at bd09_89_dec_177 0 rfl rfl)
theorem bd09_89_dec_178 : ([(0, [42]), (1, [27]), (2, [182, 0, 89]), (5, [58, 4]), (7, [25, 4]), (9, [198, 0, 12]), (12, [25, 4]), (14, [28]), (15, [182, 0, 176]), (18, [154, 0, 6]), (21, [16, 254]), (23, [172])] : List (Nat × List UInt8)).all (fun x => prB x.2 ((cX10_mutes.data.toList.drop 0).drop x.1)) = true := by decide +kernel
theorem dX10_mutes_0 : decode cX10_mutes 0 = .ok (.aload_n 0, 1) := op42 (bA_at bd09_89_dec_178 0 rfl rfl)
theorem dX10_mutes_1 : decode cX10_mutes 1 = .ok (.iload_n 1, 1) := op27 (bA_at bd09_89_dec_178 1 rfl rfl)
theorem dX10_mutes_2 : decode cX10_mutes 2 = .ok (.invokevirtual 89, 3) := op182 (bA_at bd09_89_dec_178 2 rfl rfl) rfl
theorem dX10_mutes_5 : decode cX10_mutes 5 = .ok (.astore 4, 2) := op58 (bA_at bd09_89_dec_178 3 rfl rfl) rfl
theorem dX10_mutes_7 : decode cX10_mutes 7 = .ok (.aload 4, 2) := op25 (bA_at bd09_89_dec_178 4 rfl rfl) rfl
theorem dX10_mutes_9 : decode cX10_mutes 9 = .ok (.ifnull 12, 3) := op198 (bA_at bd09_89_dec_178 5 rfl rfl) (by decide +kernel)
theorem dX10_mutes_12 : decode cX10_mutes 12 = .ok (.aload 4, 2) := op25 (bA_at bd09_89_dec_178 6 rfl rfl) rfl
theorem dX10_mutes_14 : decode cX10_mutes 14 = .ok (.iload_n 2, 1) := op28 (bA_at bd09_89_dec_178 7 rfl rfl)
theorem dX10_mutes_15 : decode cX10_mutes 15 = .ok (.invokevirtual 176, 3) := op182 (bA_at bd09_89_dec_178 8 rfl rfl) rfl
theorem dX10_mutes_18 : decode cX10_mutes 18 = .ok (.ifCond .ne 6, 3) := op154 (bA_at bd09_89_dec_178 9 rfl rfl) (by decide +kernel)
theorem dX10_mutes_21 : decode cX10_mutes 21 = .ok (.bipush (-2), 2) := op16 (bA_at bd09_89_dec_178 10 rfl rfl) (by decide +kernel)
theorem dX10_mutes_23 : decode cX10_mutes 23 = .ok (.ireturn, 1) := op172 (bA_at bd09_89_dec_178 11 rfl rfl)
theorem bd09_89_dec_179 : ([(0, [29]), (1, [2]), (2, [159, 0, 20]), (5, [25, 4]), (7, [29]), (8, [182, 0, 176]), (11, [153, 0, 8]), (14, [29]), (15, [28]), (16, [160, 0, 6]), (19, [16, 254]), (21, [172])] : List (Nat × List UInt8)).all (fun x => prB x.2 ((cX10_mutes.data.toList.drop 24).drop x.1)) = true := by decide +kernel
theorem dX10_mutes_24 : decode cX10_mutes 24 = .ok (.iload_n 3, 1) := op29 (bA_at bd09_89_dec_179 0 rfl rfl)
theorem dX10_mutes_25 : decode cX10_mutes 25 = .ok (.iconst (-1), 1) := op2 (bA_at bd09_89_dec_179 1 rfl rfl)
theorem dX10_mutes_26 : decode cX10_mutes 26 = .ok (.if_icmp .eq 20, 3) := op159 (bA_at bd09_89_dec_179 2 rfl rfl) (by decide +kernel)
theorem dX10_mutes_29 : decode cX10_mutes 29 = .ok (.aload 4, 2) := op25 (bA_at bd09_89_dec_179 3 rfl rfl) rfl
theorem dX10_mutes_31 : decode cX10_mutes 31 = .ok (.iload_n 3, 1) := op29 (bA_at bd09_89_dec_179 4 rfl rfl)
theorem dX10_mutes_32 : decode cX10_mutes 32 = .ok (.invokevirtual 176, 3) := op182 (bA_at bd09_89_dec_179 5 rfl rfl) rfl
theorem dX10_mutes_35 : decode cX10_mutes 35 = .ok (.ifCond .eq 8, 3) := op153 (bA_at bd09_89_dec_179 6 rfl rfl) (by decide +kernel)
theorem dX10_mutes_38 : decode cX10_mutes 38 = .ok (.iload_n 3, 1) := op29 (bA_at bd09_89_dec_179 7 rfl rfl)
theorem dX10_mutes_39 : decode cX10_mutes 39 = .ok (.iload_n 2, 1) := op28 (bA_at bd09_89_dec_179 8 rfl rfl)
theorem dX10_mutes_40 : decode cX10_mutes 40 = .ok (.if_icmp .ne 6, 3) := op160 (bA_at bd09_89_dec_179 9 rfl rfl) (by decide +kernel)
theorem dX10_mutes_43 : decode cX10_mutes 43 = .ok (.bipush (-2), 2) := op16 (bA_at bd09_89_dec_179 10 rfl rfl) (by decide +kernel)
theorem dX10_mutes_45 : decode cX10_mutes 45 = .ok (.ireturn, 1) := op172 (bA_at bd09_89_dec_179 11 rfl rfl)
theorem bd09_89_dec_180 : ([(0, [42]), (1, [180, 0, 37]), (4, [25, 4]), (6, [182, 0, 179]), (9, [29]), (10, [2]), (11, [160, 0, 16]), (14, [42]), (15, [180, 0, 37]), (18, [25, 4]), (20, [28]), (21, [182, 0, 182])] : List (Nat × List UInt8)).all (fun x => prB x.2 ((cX10_mutes.data.toList.drop 46).drop x.1)) = true := by decide +kernel
theorem dX10_mutes_46 : decode cX10_mutes 46 = .ok (.aload_n 0, 1) := op42 (bA_at bd09_89_dec_180 0 rfl rfl)
theorem dX10_mutes_47 : decode cX10_mutes 47 = .ok (.getfield 37, 3) := op180 (bA_at bd09_89_dec_180 1 rfl rfl) rfl
theorem dX10_mutes_50 : decode cX10_mutes 50 = .ok (.aload 4, 2) := op25 (bA_at bd09_89_dec_180 2 rfl rfl) rfl
theorem dX10_mutes_52 : decode cX10_mutes 52 = .ok (.invokevirtual 179, 3) := op182 (bA_at bd09_89_dec_180 3 rfl rfl) rfl
theorem dX10_mutes_55 : decode cX10_mutes 55 = .ok (.iload_n 3, 1) := op29 (bA_at bd09_89_dec_180 4 rfl rfl)
theorem dX10_mutes_56 : decode cX10_mutes 56 = .ok (.iconst (-1), 1) := op2 (bA_at bd09_89_dec_180 5 rfl rfl)
theorem dX10_mutes_57 : decode cX10_mutes 57 = .ok (.if_icmp .ne 16, 3) := op160 (bA_at bd09_89_dec_180 6 rfl rfl) (by decide +kernel)
theorem dX10_mutes_60 : decode cX10_mutes 60 = .ok (.aload_n 0, 1) := op42 (bA_at bd09_89_dec_180 7 rfl rfl)
theorem dX10_mutes_61 : decode cX10_mutes 61 = .ok (.getfield 37, 3) := op180 (bA_at bd09_89_dec_180 8 rfl rfl) rfl
theorem dX10_mutes_64 : decode cX10_mutes 64 = .ok (.aload 4, 2) := op25 (bA_at bd09_89_dec_180 9 rfl rfl) rfl
theorem dX10_mutes_66 : decode cX10_mutes 66 = .ok (.iload_n 2, 1) := op28 (bA_at bd09_89_dec_180 10 rfl rfl)
theorem dX10_mutes_67 : decode cX10_mutes 67 = .ok (.invokevirtual 182, 3) := op182 (bA_at bd09_89_dec_180 11 rfl rfl) rfl
theorem bd09_89_dec_181 : ([(0, [167, 0, 12]), (3, [42]), (4, [180, 0, 37]), (7, [28]), (8, [29]), (9, [182, 0, 185]), (12, [172])] : List (Nat × List UInt8)).all (fun x => prB x.2 ((cX10_mutes.data.toList.drop 70).drop x.1)) = true := by decide +kernel
theorem dX10_mutes_70 : decode cX10_mutes 70 = .ok (.goto 12, 3) := op167 (bA_at bd09_89_dec_181 0 rfl rfl) (by decide +kernel)
theorem dX10_mutes_73 : decode cX10_mutes 73 = .ok (.aload_n 0, 1) := op42 (bA_at bd09_89_dec_181 1 rfl rfl)
theorem dX10_mutes_74 : decode cX10_mutes 74 = .ok (.getfield 37, 3) := op180 (bA_at bd09_89_dec_181 2 rfl rfl) rfl
theorem dX10_mutes_77 : decode cX10_mutes 77 = .ok (.iload_n 2, 1) := op28 (bA_at bd09_89_dec_181 3 rfl rfl)
theorem dX10_mutes_78 : decode cX10_mutes 78 = .ok (.iload_n 3, 1) := op29 (bA_at bd09_89_dec_181 4 rfl rfl)
theorem dX10_mutes_79 : decode cX10_mutes 79 = .ok (.invokevirtual 185, 3) := op182 (bA_at bd09_89_dec_181 5 rfl rfl) rfl
theorem dX10_mutes_82 : decode cX10_mutes 82 = .ok (.ireturn, 1) := op172 (bA_at bd09_89_dec_181 6 rfl rfl)
theorem bd09_89_dec_182 : ([(0, [42]), (1, [27]), (2, [182, 0, 89]), (5, [58, 4]), (7, [25, 4]), (9, [198, 0, 13]), (12, [28]), (13, [155, 0, 9]), (16, [28]), (17, [16, 99]), (19, [164, 0, 5]), (22, [2])] : List (Nat × List UInt8)).all (fun x => prB x.2 ((cX10_masses.data.toList.drop 0).drop x.1)) = true := by decide +kernel
theorem dX10_masses_0 : decode cX10_masses 0 = .ok (.aload_n 0, 1) := op42 (bA_at bd09_89_dec_182 0 rfl rfl)
theorem dX10_masses_1 : decode cX10_masses 1 = .ok (.iload_n 1, 1) := op27 (bA_at bd09_89_dec_182 1 rfl rfl)
theorem dX10_masses_2 : decode cX10_masses 2 = .ok (.invokevirtual 89, 3) := op182 (bA_at bd09_89_dec_182 2 rfl rfl) rfl
theorem dX10_masses_5 : decode cX10_masses 5 = .ok (.astore 4, 2) := op58 (bA_at bd09_89_dec_182 3 rfl rfl) rfl
theorem dX10_masses_7 : decode cX10_masses 7 = .ok (.aload 4, 2) := op25 (bA_at bd09_89_dec_182 4 rfl rfl) rfl
theorem dX10_masses_9 : decode cX10_masses 9 = .ok (.ifnull 13, 3) := op198 (bA_at bd09_89_dec_182 5 rfl rfl) (by decide +kernel)
theorem dX10_masses_12 : decode cX10_masses 12 = .ok (.iload_n 2, 1) := op28 (bA_at bd09_89_dec_182 6 rfl rfl)
theorem dX10_masses_13 : decode cX10_masses 13 = .ok (.ifCond .lt 9, 3) := op155 (bA_at bd09_89_dec_182 7 rfl rfl) (by decide +kernel)
theorem dX10_masses_16 : decode cX10_masses 16 = .ok (.iload_n 2, 1) := op28 (bA_at bd09_89_dec_182 8 rfl rfl)
theorem dX10_masses_17 : decode cX10_masses 17 = .ok (.bipush 99, 2) := op16 (bA_at bd09_89_dec_182 9 rfl rfl) (by decide +kernel)
theorem dX10_masses_19 : decode cX10_masses 19 = .ok (.if_icmp .le 5, 3) := op164 (bA_at bd09_89_dec_182 10 rfl rfl) (by decide +kernel)
theorem dX10_masses_22 : decode cX10_masses 22 = .ok (.iconst (-1), 1) := op2 (bA_at bd09_89_dec_182 11 rfl rfl)
theorem bd09_89_dec_183 : ([(0, [172]), (1, [42]), (2, [180, 0, 37]), (5, [25, 4]), (7, [28]), (8, [182, 0, 188]), (11, [54, 5]), (13, [29]), (14, [153, 0, 8]), (17, [21, 5]), (19, [167, 0, 8]), (22, [21, 5])] : List (Nat × List UInt8)).all (fun x => prB x.2 ((cX10_masses.data.toList.drop 23).drop x.1)) = true := by decide +kernel
theorem dX10_masses_23 : decode cX10_masses 23 = .ok (.ireturn, 1) := op172 (bA_at bd09_89_dec_183 0 rfl rfl)
theorem dX10_masses_24 : decode cX10_masses 24 = .ok (.aload_n 0, 1) := op42 (bA_at bd09_89_dec_183 1 rfl rfl)
theorem dX10_masses_25 : decode cX10_masses 25 = .ok (.getfield 37, 3) := op180 (bA_at bd09_89_dec_183 2 rfl rfl) rfl
theorem dX10_masses_28 : decode cX10_masses 28 = .ok (.aload 4, 2) := op25 (bA_at bd09_89_dec_183 3 rfl rfl) rfl
theorem dX10_masses_30 : decode cX10_masses 30 = .ok (.iload_n 2, 1) := op28 (bA_at bd09_89_dec_183 4 rfl rfl)
theorem dX10_masses_31 : decode cX10_masses 31 = .ok (.invokevirtual 188, 3) := op182 (bA_at bd09_89_dec_183 5 rfl rfl) rfl
theorem dX10_masses_34 : decode cX10_masses 34 = .ok (.istore 5, 2) := op54 (bA_at bd09_89_dec_183 6 rfl rfl) rfl
theorem dX10_masses_36 : decode cX10_masses 36 = .ok (.iload_n 3, 1) := op29 (bA_at bd09_89_dec_183 7 rfl rfl)
theorem dX10_masses_37 : decode cX10_masses 37 = .ok (.ifCond .eq 8, 3) := op153 (bA_at bd09_89_dec_183 8 rfl rfl) (by decide +kernel)
theorem dX10_masses_40 : decode cX10_masses 40 = .ok (.iload 5, 2) := op21 (bA_at bd09_89_dec_183 9 rfl rfl) rfl
theorem dX10_masses_42 : decode cX10_masses 42 = .ok (.goto 8, 3) := op167 (bA_at bd09_89_dec_183 10 rfl rfl) (by decide +kernel)
theorem dX10_masses_45 : decode cX10_masses 45 = .ok (.iload 5, 2) := op21 (bA_at bd09_89_dec_183 11 rfl rfl) rfl
theorem bd09_89_dec_184 : ([(0, [184, 0, 191]), (3, [172])] : List (Nat × List UInt8)).all (fun x => prB x.2 ((cX10_masses.data.toList.drop 47).drop x.1)) = true := by decide +kernel
theorem dX10_masses_47 : decode cX10_masses 47 = .ok (.invokestatic 191, 3) := op184 (bA_at bd09_89_dec_184 0 rfl rfl) rfl
theorem dX10_masses_50 : decode cX10_masses 50 = .ok (.ireturn, 1) := op172 (bA_at bd09_89_dec_184 1 rfl rfl)
theorem bd09_89_dec_185 : ([(0, [42]), (1, [27]), (2, [182, 0, 196]), (5, [58, 4]), (7, [25, 4]), (9, [199, 0, 6]), (12, [16, 254]), (14, [172]), (15, [28]), (16, [2]), (17, [160, 0, 13]), (20, [29])] : List (Nat × List UInt8)).all (fun x => prB x.2 ((cX10_fact.data.toList.drop 0).drop x.1)) = true := by decide +kernel
theorem dX10_fact_0 : decode cX10_fact 0 = .ok (.aload_n 0, 1) := op42 (bA_at bd09_89_dec_185 0 rfl rfl)
theorem dX10_fact_1 : decode cX10_fact 1 = .ok (.iload_n 1, 1) := op27 (bA_at bd09_89_dec_185 1 rfl rfl)
theorem dX10_fact_2 : decode cX10_fact 2 = .ok (.invokevirtual 196, 3) := op182 (bA_at bd09_89_dec_185 2 rfl rfl) rfl
theorem dX10_fact_5 : decode cX10_fact 5 = .ok (.astore 4, 2) := op58 (bA_at bd09_89_dec_185 3 rfl rfl) rfl
theorem dX10_fact_7 : decode cX10_fact 7 = .ok (.aload 4, 2) := op25 (bA_at bd09_89_dec_185 4 rfl rfl) rfl
theorem dX10_fact_9 : decode cX10_fact 9 = .ok (.ifnonnull 6, 3) := op199 (bA_at bd09_89_dec_185 5 rfl rfl) (by decide +kernel)
theorem dX10_fact_12 : decode cX10_fact 12 = .ok (.bipush (-2), 2) := op16 (bA_at bd09_89_dec_185 6 rfl rfl) (by decide +kernel)
theorem dX10_fact_14 : decode cX10_fact 14 = .ok (.ireturn, 1) := op172 (bA_at bd09_89_dec_185 7 rfl rfl)
theorem dX10_fact_15 : decode cX10_fact 15 = .ok (.iload_n 2, 1) := op28 (bA_at bd09_89_dec_185 8 rfl rfl)
theorem dX10_fact_16 : decode cX10_fact 16 = .ok (.iconst (-1), 1) := op2 (bA_at bd09_89_dec_185 9 rfl rfl)
theorem dX10_fact_17 : decode cX10_fact 17 = .ok (.if_icmp .ne 13, 3) := op160 (bA_at bd09_89_dec_185 10 rfl rfl) (by decide +kernel)
theorem dX10_fact_20 : decode cX10_fact 20 = .ok (.iload_n 3, 1) := op29 (bA_at bd09_89_dec_185 11 rfl rfl)
theorem bd09_89_dec_186 : ([(0, [154, 0, 9]), (3, [25, 4]), (5, [180, 0, 200]), (8, [172]), (9, [28]), (10, [155, 0, 12]), (13, [28]), (14, [25, 4]), (16, [180, 0, 200]), (19, [161, 0, 8]), (22, [16, 254]), (24, [167, 0, 10])] : List (Nat × List UInt8)).all (fun x => prB x.2 ((cX10_fact.data.toList.drop 21).drop x.1)) = true := by decide +kernel
theorem dX10_fact_21 : decode cX10_fact 21 = .ok (.ifCond .ne 9, 3) := op154 (bA_at bd09_89_dec_186 0 rfl rfl) (by decide +kernel)
theorem dX10_fact_24 : decode cX10_fact 24 = .ok (.aload 4, 2) := op25 (bA_at bd09_89_dec_186 1 rfl rfl) rfl
theorem dX10_fact_26 : decode cX10_fact 26 = .ok (.getfield 200, 3) := op180 (bA_at bd09_89_dec_186 2 rfl rfl) rfl
theorem dX10_fact_29 : decode cX10_fact 29 = .ok (.ireturn, 1) := op172 (bA_at bd09_89_dec_186 3 rfl rfl)
theorem dX10_fact_30 : decode cX10_fact 30 = .ok (.iload_n 2, 1) := op28 (bA_at bd09_89_dec_186 4 rfl rfl)
theorem dX10_fact_31 : decode cX10_fact 31 = .ok (.ifCond .lt 12, 3) := op155 (bA_at bd09_89_dec_186 5 rfl rfl) (by decide +kernel)
theorem dX10_fact_34 : decode cX10_fact 34 = .ok (.iload_n 2, 1) := op28 (bA_at bd09_89_dec_186 6 rfl rfl)
theorem dX10_fact_35 : decode cX10_fact 35 = .ok (.aload 4, 2) := op25 (bA_at bd09_89_dec_186 7 rfl rfl) rfl
theorem dX10_fact_37 : decode cX10_fact 37 = .ok (.getfield 200, 3) := op180 (bA_at bd09_89_dec_186 8 rfl rfl) rfl
theorem dX10_fact_40 : decode cX10_fact 40 = .ok (.if_icmp .lt 8, 3) := op161 (bA_at bd09_89_dec_186 9 rfl rfl) (by decide +kernel)
theorem dX10_fact_43 : decode cX10_fact 43 = .ok (.bipush (-2), 2) := op16 (bA_at bd09_89_dec_186 10 rfl rfl) (by decide +kernel)
theorem dX10_fact_45 : decode cX10_fact 45 = .ok (.goto 10, 3) := op167 (bA_at bd09_89_dec_186 11 rfl rfl) (by decide +kernel)
theorem bd09_89_dec_187 : ([(0, [25, 4]), (2, [28]), (3, [29]), (4, [182, 0, 205]), (7, [172])] : List (Nat × List UInt8)).all (fun x => prB x.2 ((cX10_fact.data.toList.drop 48).drop x.1)) = true := by decide +kernel
theorem dX10_fact_48 : decode cX10_fact 48 = .ok (.aload 4, 2) := op25 (bA_at bd09_89_dec_187 0 rfl rfl) rfl
theorem dX10_fact_50 : decode cX10_fact 50 = .ok (.iload_n 2, 1) := op28 (bA_at bd09_89_dec_187 1 rfl rfl)
theorem dX10_fact_51 : decode cX10_fact 51 = .ok (.iload_n 3, 1) := op29 (bA_at bd09_89_dec_187 2 rfl rfl)
theorem dX10_fact_52 : decode cX10_fact 52 = .ok (.invokevirtual 205, 3) := op182 (bA_at bd09_89_dec_187 3 rfl rfl) rfl
theorem dX10_fact_55 : decode cX10_fact 55 = .ok (.ireturn, 1) := op172 (bA_at bd09_89_dec_187 4 rfl rfl)
theorem bd09_89_dec_188 : ([(0, [42]), (1, [27]), (2, [182, 0, 89]), (5, [58, 4]), (7, [42]), (8, [28]), (9, [182, 0, 196]), (12, [58, 5]), (14, [25, 4]), (16, [198, 0, 21]), (19, [25, 5]), (21, [198, 0, 16])] : List (Nat × List UInt8)).all (fun x => prB x.2 ((cX10_fits.data.toList.drop 0).drop x.1)) = true := by decide +kernel
theorem dX10_fits_0 : decode cX10_fits 0 = .ok (.aload_n 0, 1) := op42 (bA_at bd09_89_dec_188 0 rfl rfl)
theorem dX10_fits_1 : decode cX10_fits 1 = .ok (.iload_n 1, 1) := op27 (bA_at bd09_89_dec_188 1 rfl rfl)
theorem dX10_fits_2 : decode cX10_fits 2 = .ok (.invokevirtual 89, 3) := op182 (bA_at bd09_89_dec_188 2 rfl rfl) rfl
theorem dX10_fits_5 : decode cX10_fits 5 = .ok (.astore 4, 2) := op58 (bA_at bd09_89_dec_188 3 rfl rfl) rfl
theorem dX10_fits_7 : decode cX10_fits 7 = .ok (.aload_n 0, 1) := op42 (bA_at bd09_89_dec_188 4 rfl rfl)
theorem dX10_fits_8 : decode cX10_fits 8 = .ok (.iload_n 2, 1) := op28 (bA_at bd09_89_dec_188 5 rfl rfl)
theorem dX10_fits_9 : decode cX10_fits 9 = .ok (.invokevirtual 196, 3) := op182 (bA_at bd09_89_dec_188 6 rfl rfl) rfl
theorem dX10_fits_12 : decode cX10_fits 12 = .ok (.astore 5, 2) := op58 (bA_at bd09_89_dec_188 7 rfl rfl) rfl
theorem dX10_fits_14 : decode cX10_fits 14 = .ok (.aload 4, 2) := op25 (bA_at bd09_89_dec_188 8 rfl rfl) rfl
theorem dX10_fits_16 : decode cX10_fits 16 = .ok (.ifnull 21, 3) := op198 (bA_at bd09_89_dec_188 9 rfl rfl) (by decide +kernel)
theorem dX10_fits_19 : decode cX10_fits 19 = .ok (.aload 5, 2) := op25 (bA_at bd09_89_dec_188 10 rfl rfl) rfl
theorem dX10_fits_21 : decode cX10_fits 21 = .ok (.ifnull 16, 3) := op198 (bA_at bd09_89_dec_188 11 rfl rfl) (by decide +kernel)
theorem bd09_89_dec_189 : ([(0, [25, 5]), (2, [25, 4]), (4, [180, 0, 206]), (7, [182, 0, 209]), (10, [154, 0, 6]), (13, [16, 254]), (15, [172]), (16, [42]), (17, [180, 0, 37]), (20, [25, 4]), (22, [182, 0, 139]), (25, [42])] : List (Nat × List UInt8)).all (fun x => prB x.2 ((cX10_fits.data.toList.drop 24).drop x.1)) = true := by decide +kernel
theorem dX10_fits_24 : decode cX10_fits 24 = .ok (.aload 5, 2) := op25 (bA_at bd09_89_dec_189 0 rfl rfl) rfl
theorem dX10_fits_26 : decode cX10_fits 26 = .ok (.aload 4, 2) := op25 (bA_at bd09_89_dec_189 1 rfl rfl) rfl
theorem dX10_fits_28 : decode cX10_fits 28 = .ok (.getfield 206, 3) := op180 (bA_at bd09_89_dec_189 2 rfl rfl) rfl
theorem dX10_fits_31 : decode cX10_fits 31 = .ok (.invokevirtual 209, 3) := op182 (bA_at bd09_89_dec_189 3 rfl rfl) rfl
theorem dX10_fits_34 : decode cX10_fits 34 = .ok (.ifCond .ne 6, 3) := op154 (bA_at bd09_89_dec_189 4 rfl rfl) (by decide +kernel)
theorem dX10_fits_37 : decode cX10_fits 37 = .ok (.bipush (-2), 2) := op16 (bA_at bd09_89_dec_189 5 rfl rfl) (by decide +kernel)
theorem dX10_fits_39 : decode cX10_fits 39 = .ok (.ireturn, 1) := op172 (bA_at bd09_89_dec_189 6 rfl rfl)
theorem dX10_fits_40 : decode cX10_fits 40 = .ok (.aload_n 0, 1) := op42 (bA_at bd09_89_dec_189 7 rfl rfl)
theorem dX10_fits_41 : decode cX10_fits 41 = .ok (.getfield 37, 3) := op180 (bA_at bd09_89_dec_189 8 rfl rfl) rfl
theorem dX10_fits_44 : decode cX10_fits 44 = .ok (.aload 4, 2) := op25 (bA_at bd09_89_dec_189 9 rfl rfl) rfl
theorem dX10_fits_46 : decode cX10_fits 46 = .ok (.invokevirtual 139, 3) := op182 (bA_at bd09_89_dec_189 10 rfl rfl) rfl
theorem dX10_fits_49 : decode cX10_fits 49 = .ok (.aload_n 0, 1) := op42 (bA_at bd09_89_dec_189 11 rfl rfl)
theorem bd09_89_dec_190 : ([(0, [180, 0, 37]), (3, [25, 4]), (5, [25, 5]), (7, [182, 0, 212]), (10, [54, 6]), (12, [29]), (13, [153, 0, 17]), (16, [42]), (17, [180, 0, 37]), (20, [25, 4]), (22, [21, 6]), (24, [182, 0, 216])] : List (Nat × List UInt8)).all (fun x => prB x.2 ((cX10_fits.data.toList.drop 50).drop x.1)) = true := by decide +kernel
theorem dX10_fits_50 : decode cX10_fits 50 = .ok (.getfield 37, 3) := op180 (bA_at bd09_89_dec_190 0 rfl rfl) rfl
theorem dX10_fits_53 : decode cX10_fits 53 = .ok (.aload 4, 2) := op25 (bA_at bd09_89_dec_190 1 rfl rfl) rfl
theorem dX10_fits_55 : decode cX10_fits 55 = .ok (.aload 5, 2) := op25 (bA_at bd09_89_dec_190 2 rfl rfl) rfl
theorem dX10_fits_57 : decode cX10_fits 57 = .ok (.invokevirtual 212, 3) := op182 (bA_at bd09_89_dec_190 3 rfl rfl) rfl
theorem dX10_fits_60 : decode cX10_fits 60 = .ok (.istore 6, 2) := op54 (bA_at bd09_89_dec_190 4 rfl rfl) rfl
theorem dX10_fits_62 : decode cX10_fits 62 = .ok (.iload_n 3, 1) := op29 (bA_at bd09_89_dec_190 5 rfl rfl)
theorem dX10_fits_63 : decode cX10_fits 63 = .ok (.ifCond .eq 17, 3) := op153 (bA_at bd09_89_dec_190 6 rfl rfl) (by decide +kernel)
theorem dX10_fits_66 : decode cX10_fits 66 = .ok (.aload_n 0, 1) := op42 (bA_at bd09_89_dec_190 7 rfl rfl)
theorem dX10_fits_67 : decode cX10_fits 67 = .ok (.getfield 37, 3) := op180 (bA_at bd09_89_dec_190 8 rfl rfl) rfl
theorem dX10_fits_70 : decode cX10_fits 70 = .ok (.aload 4, 2) := op25 (bA_at bd09_89_dec_190 9 rfl rfl) rfl
theorem dX10_fits_72 : decode cX10_fits 72 = .ok (.iload 6, 2) := op21 (bA_at bd09_89_dec_190 10 rfl rfl) rfl
theorem dX10_fits_74 : decode cX10_fits 74 = .ok (.invokevirtual 216, 3) := op182 (bA_at bd09_89_dec_190 11 rfl rfl) rfl
theorem bd09_89_dec_191 : ([(0, [167, 0, 5]), (3, [21, 6]), (5, [172])] : List (Nat × List UInt8)).all (fun x => prB x.2 ((cX10_fits.data.toList.drop 77).drop x.1)) = true := by decide +kernel
theorem dX10_fits_77 : decode cX10_fits 77 = .ok (.goto 5, 3) := op167 (bA_at bd09_89_dec_191 0 rfl rfl) (by decide +kernel)
theorem dX10_fits_80 : decode cX10_fits 80 = .ok (.iload 6, 2) := op21 (bA_at bd09_89_dec_191 1 rfl rfl) rfl
theorem dX10_fits_82 : decode cX10_fits 82 = .ok (.ireturn, 1) := op172 (bA_at bd09_89_dec_191 2 rfl rfl)
theorem bd09_89_dec_192 : ([(0, [42]), (1, [27]), (2, [182, 0, 219]), (5, [78]), (6, [45]), (7, [199, 0, 5]), (10, [2]), (11, [172]), (12, [28]), (13, [5]), (14, [160, 0, 14]), (17, [42])] : List (Nat × List UInt8)).all (fun x => prB x.2 ((cX10_choir.data.toList.drop 0).drop x.1)) = true := by decide +kernel
theorem dX10_choir_0 : decode cX10_choir 0 = .ok (.aload_n 0, 1) := op42 (bA_at bd09_89_dec_192 0 rfl rfl)
theorem dX10_choir_1 : decode cX10_choir 1 = .ok (.iload_n 1, 1) := op27 (bA_at bd09_89_dec_192 1 rfl rfl)
theorem dX10_choir_2 : decode cX10_choir 2 = .ok (.invokevirtual 219, 3) := op182 (bA_at bd09_89_dec_192 2 rfl rfl) rfl
theorem dX10_choir_5 : decode cX10_choir 5 = .ok (.astore_n 3, 1) := op78 (bA_at bd09_89_dec_192 3 rfl rfl)
theorem dX10_choir_6 : decode cX10_choir 6 = .ok (.aload_n 3, 1) := op45 (bA_at bd09_89_dec_192 4 rfl rfl)
theorem dX10_choir_7 : decode cX10_choir 7 = .ok (.ifnonnull 5, 3) := op199 (bA_at bd09_89_dec_192 5 rfl rfl) (by decide +kernel)
theorem dX10_choir_10 : decode cX10_choir 10 = .ok (.iconst (-1), 1) := op2 (bA_at bd09_89_dec_192 6 rfl rfl)
theorem dX10_choir_11 : decode cX10_choir 11 = .ok (.ireturn, 1) := op172 (bA_at bd09_89_dec_192 7 rfl rfl)
theorem dX10_choir_12 : decode cX10_choir 12 = .ok (.iload_n 2, 1) := op28 (bA_at bd09_89_dec_192 8 rfl rfl)
theorem dX10_choir_13 : decode cX10_choir 13 = .ok (.iconst 2, 1) := op5 (bA_at bd09_89_dec_192 9 rfl rfl)
theorem dX10_choir_14 : decode cX10_choir 14 = .ok (.if_icmp .ne 14, 3) := op160 (bA_at bd09_89_dec_192 10 rfl rfl) (by decide +kernel)
theorem dX10_choir_17 : decode cX10_choir 17 = .ok (.aload_n 0, 1) := op42 (bA_at bd09_89_dec_192 11 rfl rfl)
theorem bd09_89_dec_193 : ([(0, [180, 0, 44]), (3, [45]), (4, [182, 0, 223]), (7, [167, 0, 8]), (10, [45]), (11, [28]), (12, [182, 0, 227]), (15, [172])] : List (Nat × List UInt8)).all (fun x => prB x.2 ((cX10_choir.data.toList.drop 18).drop x.1)) = true := by decide +kernel
theorem dX10_choir_18 : decode cX10_choir 18 = .ok (.getfield 44, 3) := op180 (bA_at bd09_89_dec_193 0 rfl rfl) rfl
theorem dX10_choir_21 : decode cX10_choir 21 = .ok (.aload_n 3, 1) := op45 (bA_at bd09_89_dec_193 1 rfl rfl)
theorem dX10_choir_22 : decode cX10_choir 22 = .ok (.invokevirtual 223, 3) := op182 (bA_at bd09_89_dec_193 2 rfl rfl) rfl
theorem dX10_choir_25 : decode cX10_choir 25 = .ok (.goto 8, 3) := op167 (bA_at bd09_89_dec_193 3 rfl rfl) (by decide +kernel)
theorem dX10_choir_28 : decode cX10_choir 28 = .ok (.aload_n 3, 1) := op45 (bA_at bd09_89_dec_193 4 rfl rfl)
theorem dX10_choir_29 : decode cX10_choir 29 = .ok (.iload_n 2, 1) := op28 (bA_at bd09_89_dec_193 5 rfl rfl)
theorem dX10_choir_30 : decode cX10_choir 30 = .ok (.invokevirtual 227, 3) := op182 (bA_at bd09_89_dec_193 6 rfl rfl) rfl
theorem dX10_choir_33 : decode cX10_choir 33 = .ok (.ireturn, 1) := op172 (bA_at bd09_89_dec_193 7 rfl rfl)
theorem bd09_89_dec_194 : ([(0, [42]), (1, [27]), (2, [182, 0, 219]), (5, [77]), (6, [44]), (7, [199, 0, 7]), (10, [20, 0, 230]), (13, [173]), (14, [42]), (15, [180, 0, 44]), (18, [44]), (19, [182, 0, 232])] : List (Nat × List UInt8)).all (fun x => prB x.2 ((cX10_orders.data.toList.drop 0).drop x.1)) = true := by decide +kernel
theorem dX10_orders_0 : decode cX10_orders 0 = .ok (.aload_n 0, 1) := op42 (bA_at bd09_89_dec_194 0 rfl rfl)
theorem dX10_orders_1 : decode cX10_orders 1 = .ok (.iload_n 1, 1) := op27 (bA_at bd09_89_dec_194 1 rfl rfl)
theorem dX10_orders_2 : decode cX10_orders 2 = .ok (.invokevirtual 219, 3) := op182 (bA_at bd09_89_dec_194 2 rfl rfl) rfl
theorem dX10_orders_5 : decode cX10_orders 5 = .ok (.astore_n 2, 1) := op77 (bA_at bd09_89_dec_194 3 rfl rfl)
theorem dX10_orders_6 : decode cX10_orders 6 = .ok (.aload_n 2, 1) := op44 (bA_at bd09_89_dec_194 4 rfl rfl)
theorem dX10_orders_7 : decode cX10_orders 7 = .ok (.ifnonnull 7, 3) := op199 (bA_at bd09_89_dec_194 5 rfl rfl) (by decide +kernel)
theorem dX10_orders_10 : decode cX10_orders 10 = .ok (.ldc2_w 230, 3) := op20 (bA_at bd09_89_dec_194 6 rfl rfl) rfl
theorem dX10_orders_13 : decode cX10_orders 13 = .ok (.lreturn, 1) := op173 (bA_at bd09_89_dec_194 7 rfl rfl)
theorem dX10_orders_14 : decode cX10_orders 14 = .ok (.aload_n 0, 1) := op42 (bA_at bd09_89_dec_194 8 rfl rfl)
theorem dX10_orders_15 : decode cX10_orders 15 = .ok (.getfield 44, 3) := op180 (bA_at bd09_89_dec_194 9 rfl rfl) rfl
theorem dX10_orders_18 : decode cX10_orders 18 = .ok (.aload_n 2, 1) := op44 (bA_at bd09_89_dec_194 10 rfl rfl)
theorem dX10_orders_19 : decode cX10_orders 19 = .ok (.invokevirtual 232, 3) := op182 (bA_at bd09_89_dec_194 11 rfl rfl) rfl
theorem bd09_89_dec_195 : ([(0, [42]), (1, [180, 0, 44]), (4, [44]), (5, [182, 0, 236]), (8, [133]), (9, [173])] : List (Nat × List UInt8)).all (fun x => prB x.2 ((cX10_orders.data.toList.drop 22).drop x.1)) = true := by decide +kernel
theorem dX10_orders_22 : decode cX10_orders 22 = .ok (.aload_n 0, 1) := op42 (bA_at bd09_89_dec_195 0 rfl rfl)
theorem dX10_orders_23 : decode cX10_orders 23 = .ok (.getfield 44, 3) := op180 (bA_at bd09_89_dec_195 1 rfl rfl) rfl
theorem dX10_orders_26 : decode cX10_orders 26 = .ok (.aload_n 2, 1) := op44 (bA_at bd09_89_dec_195 2 rfl rfl)
theorem dX10_orders_27 : decode cX10_orders 27 = .ok (.invokevirtual 236, 3) := op182 (bA_at bd09_89_dec_195 3 rfl rfl) rfl
theorem dX10_orders_30 : decode cX10_orders 30 = .ok (.i2l, 1) := op133 (bA_at bd09_89_dec_195 4 rfl rfl)
theorem dX10_orders_31 : decode cX10_orders 31 = .ok (.lreturn, 1) := op173 (bA_at bd09_89_dec_195 5 rfl rfl)
theorem bd09_89_dec_196 : ([(0, [42]), (1, [27]), (2, [182, 0, 219]), (5, [78]), (6, [45]), (7, [198, 0, 15]), (10, [28]), (11, [155, 0, 11]), (14, [28]), (15, [45]), (16, [180, 0, 238]), (19, [161, 0, 5])] : List (Nat × List UInt8)).all (fun x => prB x.2 ((cX10_order.data.toList.drop 0).drop x.1)) = true := by decide +kernel
theorem dX10_order_0 : decode cX10_order 0 = .ok (.aload_n 0, 1) := op42 (bA_at bd09_89_dec_196 0 rfl rfl)
theorem dX10_order_1 : decode cX10_order 1 = .ok (.iload_n 1, 1) := op27 (bA_at bd09_89_dec_196 1 rfl rfl)
theorem dX10_order_2 : decode cX10_order 2 = .ok (.invokevirtual 219, 3) := op182 (bA_at bd09_89_dec_196 2 rfl rfl) rfl
theorem dX10_order_5 : decode cX10_order 5 = .ok (.astore_n 3, 1) := op78 (bA_at bd09_89_dec_196 3 rfl rfl)
theorem dX10_order_6 : decode cX10_order 6 = .ok (.aload_n 3, 1) := op45 (bA_at bd09_89_dec_196 4 rfl rfl)
theorem dX10_order_7 : decode cX10_order 7 = .ok (.ifnull 15, 3) := op198 (bA_at bd09_89_dec_196 5 rfl rfl) (by decide +kernel)
theorem dX10_order_10 : decode cX10_order 10 = .ok (.iload_n 2, 1) := op28 (bA_at bd09_89_dec_196 6 rfl rfl)
theorem dX10_order_11 : decode cX10_order 11 = .ok (.ifCond .lt 11, 3) := op155 (bA_at bd09_89_dec_196 7 rfl rfl) (by decide +kernel)
theorem dX10_order_14 : decode cX10_order 14 = .ok (.iload_n 2, 1) := op28 (bA_at bd09_89_dec_196 8 rfl rfl)
theorem dX10_order_15 : decode cX10_order 15 = .ok (.aload_n 3, 1) := op45 (bA_at bd09_89_dec_196 9 rfl rfl)
theorem dX10_order_16 : decode cX10_order 16 = .ok (.getfield 238, 3) := op180 (bA_at bd09_89_dec_196 10 rfl rfl) rfl
theorem dX10_order_19 : decode cX10_order 19 = .ok (.if_icmp .lt 5, 3) := op161 (bA_at bd09_89_dec_196 11 rfl rfl) (by decide +kernel)
theorem bd09_89_dec_197 : ([(0, [2]), (1, [172]), (2, [42]), (3, [180, 0, 44]), (6, [45]), (7, [182, 0, 232]), (10, [42]), (11, [180, 0, 44]), (14, [45]), (15, [182, 0, 236]), (18, [154, 0, 7]), (21, [2])] : List (Nat × List UInt8)).all (fun x => prB x.2 ((cX10_order.data.toList.drop 22).drop x.1)) = true := by decide +kernel
theorem dX10_order_22 : decode cX10_order 22 = .ok (.iconst (-1), 1) := op2 (bA_at bd09_89_dec_197 0 rfl rfl)
theorem dX10_order_23 : decode cX10_order 23 = .ok (.ireturn, 1) := op172 (bA_at bd09_89_dec_197 1 rfl rfl)
theorem dX10_order_24 : decode cX10_order 24 = .ok (.aload_n 0, 1) := op42 (bA_at bd09_89_dec_197 2 rfl rfl)
theorem dX10_order_25 : decode cX10_order 25 = .ok (.getfield 44, 3) := op180 (bA_at bd09_89_dec_197 3 rfl rfl) rfl
theorem dX10_order_28 : decode cX10_order 28 = .ok (.aload_n 3, 1) := op45 (bA_at bd09_89_dec_197 4 rfl rfl)
theorem dX10_order_29 : decode cX10_order 29 = .ok (.invokevirtual 232, 3) := op182 (bA_at bd09_89_dec_197 5 rfl rfl) rfl
theorem dX10_order_32 : decode cX10_order 32 = .ok (.aload_n 0, 1) := op42 (bA_at bd09_89_dec_197 6 rfl rfl)
theorem dX10_order_33 : decode cX10_order 33 = .ok (.getfield 44, 3) := op180 (bA_at bd09_89_dec_197 7 rfl rfl) rfl
theorem dX10_order_36 : decode cX10_order 36 = .ok (.aload_n 3, 1) := op45 (bA_at bd09_89_dec_197 8 rfl rfl)
theorem dX10_order_37 : decode cX10_order 37 = .ok (.invokevirtual 236, 3) := op182 (bA_at bd09_89_dec_197 9 rfl rfl) rfl
theorem dX10_order_40 : decode cX10_order 40 = .ok (.ifCond .ne 7, 3) := op154 (bA_at bd09_89_dec_197 10 rfl rfl) (by decide +kernel)
theorem dX10_order_43 : decode cX10_order 43 = .ok (.iconst (-1), 1) := op2 (bA_at bd09_89_dec_197 11 rfl rfl)
theorem bd09_89_dec_198 : ([(0, [167, 0, 12]), (3, [42]), (4, [180, 0, 44]), (7, [45]), (8, [28]), (9, [182, 0, 241]), (12, [172])] : List (Nat × List UInt8)).all (fun x => prB x.2 ((cX10_order.data.toList.drop 44).drop x.1)) = true := by decide +kernel
theorem dX10_order_44 : decode cX10_order 44 = .ok (.goto 12, 3) := op167 (bA_at bd09_89_dec_198 0 rfl rfl) (by decide +kernel)
theorem dX10_order_47 : decode cX10_order 47 = .ok (.aload_n 0, 1) := op42 (bA_at bd09_89_dec_198 1 rfl rfl)
theorem dX10_order_48 : decode cX10_order 48 = .ok (.getfield 44, 3) := op180 (bA_at bd09_89_dec_198 2 rfl rfl) rfl
theorem dX10_order_51 : decode cX10_order 51 = .ok (.aload_n 3, 1) := op45 (bA_at bd09_89_dec_198 3 rfl rfl)
theorem dX10_order_52 : decode cX10_order 52 = .ok (.iload_n 2, 1) := op28 (bA_at bd09_89_dec_198 4 rfl rfl)
theorem dX10_order_53 : decode cX10_order 53 = .ok (.invokevirtual 241, 3) := op182 (bA_at bd09_89_dec_198 5 rfl rfl) rfl
theorem dX10_order_56 : decode cX10_order 56 = .ok (.ireturn, 1) := op172 (bA_at bd09_89_dec_198 6 rfl rfl)
theorem bd09_89_dec_199 : ([(0, [27]), (1, [155, 0, 30]), (4, [27]), (5, [16, 60]), (7, [163, 0, 24]), (10, [28]), (11, [155, 0, 20]), (14, [28]), (15, [16, 60]), (17, [163, 0, 14]), (20, [29]), (21, [4])] : List (Nat × List UInt8)).all (fun x => prB x.2 ((cX10_trade.data.toList.drop 0).drop x.1)) = true := by decide +kernel
theorem dX10_trade_0 : decode cX10_trade 0 = .ok (.iload_n 1, 1) := op27 (bA_at bd09_89_dec_199 0 rfl rfl)
theorem dX10_trade_1 : decode cX10_trade 1 = .ok (.ifCond .lt 30, 3) := op155 (bA_at bd09_89_dec_199 1 rfl rfl) (by decide +kernel)
theorem dX10_trade_4 : decode cX10_trade 4 = .ok (.iload_n 1, 1) := op27 (bA_at bd09_89_dec_199 2 rfl rfl)
theorem dX10_trade_5 : decode cX10_trade 5 = .ok (.bipush 60, 2) := op16 (bA_at bd09_89_dec_199 3 rfl rfl) (by decide +kernel)
theorem dX10_trade_7 : decode cX10_trade 7 = .ok (.if_icmp .gt 24, 3) := op163 (bA_at bd09_89_dec_199 4 rfl rfl) (by decide +kernel)
theorem dX10_trade_10 : decode cX10_trade 10 = .ok (.iload_n 2, 1) := op28 (bA_at bd09_89_dec_199 5 rfl rfl)
theorem dX10_trade_11 : decode cX10_trade 11 = .ok (.ifCond .lt 20, 3) := op155 (bA_at bd09_89_dec_199 6 rfl rfl) (by decide +kernel)
theorem dX10_trade_14 : decode cX10_trade 14 = .ok (.iload_n 2, 1) := op28 (bA_at bd09_89_dec_199 7 rfl rfl)
theorem dX10_trade_15 : decode cX10_trade 15 = .ok (.bipush 60, 2) := op16 (bA_at bd09_89_dec_199 8 rfl rfl) (by decide +kernel)
theorem dX10_trade_17 : decode cX10_trade 17 = .ok (.if_icmp .gt 14, 3) := op163 (bA_at bd09_89_dec_199 9 rfl rfl) (by decide +kernel)
theorem dX10_trade_20 : decode cX10_trade 20 = .ok (.iload_n 3, 1) := op29 (bA_at bd09_89_dec_199 10 rfl rfl)
theorem dX10_trade_21 : decode cX10_trade 21 = .ok (.iconst 1, 1) := op4 (bA_at bd09_89_dec_199 11 rfl rfl)
theorem bd09_89_dec_200 : ([(0, [161, 0, 9]), (3, [29]), (4, [16, 9]), (6, [164, 0, 6]), (9, [16, 254]), (11, [172]), (12, [42]), (13, [180, 0, 51]), (16, [27]), (17, [28]), (18, [29]), (19, [182, 0, 245])] : List (Nat × List UInt8)).all (fun x => prB x.2 ((cX10_trade.data.toList.drop 22).drop x.1)) = true := by decide +kernel
theorem dX10_trade_22 : decode cX10_trade 22 = .ok (.if_icmp .lt 9, 3) := op161 (bA_at bd09_89_dec_200 0 rfl rfl) (by decide +kernel)
theorem dX10_trade_25 : decode cX10_trade 25 = .ok (.iload_n 3, 1) := op29 (bA_at bd09_89_dec_200 1 rfl rfl)
theorem dX10_trade_26 : decode cX10_trade 26 = .ok (.bipush 9, 2) := op16 (bA_at bd09_89_dec_200 2 rfl rfl) (by decide +kernel)
theorem dX10_trade_28 : decode cX10_trade 28 = .ok (.if_icmp .le 6, 3) := op164 (bA_at bd09_89_dec_200 3 rfl rfl) (by decide +kernel)
theorem dX10_trade_31 : decode cX10_trade 31 = .ok (.bipush (-2), 2) := op16 (bA_at bd09_89_dec_200 4 rfl rfl) (by decide +kernel)
theorem dX10_trade_33 : decode cX10_trade 33 = .ok (.ireturn, 1) := op172 (bA_at bd09_89_dec_200 5 rfl rfl)
theorem dX10_trade_34 : decode cX10_trade 34 = .ok (.aload_n 0, 1) := op42 (bA_at bd09_89_dec_200 6 rfl rfl)
theorem dX10_trade_35 : decode cX10_trade 35 = .ok (.getfield 51, 3) := op180 (bA_at bd09_89_dec_200 7 rfl rfl) rfl
theorem dX10_trade_38 : decode cX10_trade 38 = .ok (.iload_n 1, 1) := op27 (bA_at bd09_89_dec_200 8 rfl rfl)
theorem dX10_trade_39 : decode cX10_trade 39 = .ok (.iload_n 2, 1) := op28 (bA_at bd09_89_dec_200 9 rfl rfl)
theorem dX10_trade_40 : decode cX10_trade 40 = .ok (.iload_n 3, 1) := op29 (bA_at bd09_89_dec_200 10 rfl rfl)
theorem dX10_trade_41 : decode cX10_trade 41 = .ok (.invokevirtual 245, 3) := op182 (bA_at bd09_89_dec_200 11 rfl rfl) rfl
theorem bd09_89_dec_201 : ([(0, [42]), (1, [180, 0, 51]), (4, [27]), (5, [28]), (6, [29]), (7, [182, 0, 249]), (10, [54, 5]), (12, [21, 4]), (14, [153, 0, 6]), (17, [21, 5]), (19, [172]), (20, [21, 5])] : List (Nat × List UInt8)).all (fun x => prB x.2 ((cX10_trade.data.toList.drop 44).drop x.1)) = true := by decide +kernel
theorem dX10_trade_44 : decode cX10_trade 44 = .ok (.aload_n 0, 1) := op42 (bA_at bd09_89_dec_201 0 rfl rfl)
theorem dX10_trade_45 : decode cX10_trade 45 = .ok (.getfield 51, 3) := op180 (bA_at bd09_89_dec_201 1 rfl rfl) rfl
theorem dX10_trade_48 : decode cX10_trade 48 = .ok (.iload_n 1, 1) := op27 (bA_at bd09_89_dec_201 2 rfl rfl)
theorem dX10_trade_49 : decode cX10_trade 49 = .ok (.iload_n 2, 1) := op28 (bA_at bd09_89_dec_201 3 rfl rfl)
theorem dX10_trade_50 : decode cX10_trade 50 = .ok (.iload_n 3, 1) := op29 (bA_at bd09_89_dec_201 4 rfl rfl)
theorem dX10_trade_51 : decode cX10_trade 51 = .ok (.invokevirtual 249, 3) := op182 (bA_at bd09_89_dec_201 5 rfl rfl) rfl
theorem dX10_trade_54 : decode cX10_trade 54 = .ok (.istore 5, 2) := op54 (bA_at bd09_89_dec_201 6 rfl rfl) rfl
theorem dX10_trade_56 : decode cX10_trade 56 = .ok (.iload 4, 2) := op21 (bA_at bd09_89_dec_201 7 rfl rfl) rfl
theorem dX10_trade_58 : decode cX10_trade 58 = .ok (.ifCond .eq 6, 3) := op153 (bA_at bd09_89_dec_201 8 rfl rfl) (by decide +kernel)
theorem dX10_trade_61 : decode cX10_trade 61 = .ok (.iload 5, 2) := op21 (bA_at bd09_89_dec_201 9 rfl rfl) rfl
theorem dX10_trade_63 : decode cX10_trade 63 = .ok (.ireturn, 1) := op172 (bA_at bd09_89_dec_201 10 rfl rfl)
theorem dX10_trade_64 : decode cX10_trade 64 = .ok (.iload 5, 2) := op21 (bA_at bd09_89_dec_201 11 rfl rfl) rfl
theorem bd09_89_dec_202 : ([(0, [2]), (1, [160, 0, 7]), (4, [3]), (5, [167, 0, 4]), (8, [4]), (9, [172])] : List (Nat × List UInt8)).all (fun x => prB x.2 ((cX10_trade.data.toList.drop 66).drop x.1)) = true := by decide +kernel
theorem dX10_trade_66 : decode cX10_trade 66 = .ok (.iconst (-1), 1) := op2 (bA_at bd09_89_dec_202 0 rfl rfl)
theorem dX10_trade_67 : decode cX10_trade 67 = .ok (.if_icmp .ne 7, 3) := op160 (bA_at bd09_89_dec_202 1 rfl rfl) (by decide +kernel)
theorem dX10_trade_70 : decode cX10_trade 70 = .ok (.iconst 0, 1) := op3 (bA_at bd09_89_dec_202 2 rfl rfl)
theorem dX10_trade_71 : decode cX10_trade 71 = .ok (.goto 4, 3) := op167 (bA_at bd09_89_dec_202 3 rfl rfl) (by decide +kernel)
theorem dX10_trade_74 : decode cX10_trade 74 = .ok (.iconst 1, 1) := op4 (bA_at bd09_89_dec_202 4 rfl rfl)
theorem dX10_trade_75 : decode cX10_trade 75 = .ok (.ireturn, 1) := op172 (bA_at bd09_89_dec_202 5 rfl rfl)
theorem bd09_89_dec_203 : ([(0, [42]), (1, [27]), (2, [182, 0, 89]), (5, [58, 4]), (7, [42]), (8, [28]), (9, [182, 0, 109]), (12, [58, 5]), (14, [25, 4]), (16, [198, 0, 17]), (19, [25, 5]), (21, [198, 0, 12])] : List (Nat × List UInt8)).all (fun x => prB x.2 ((cX10_odds.data.toList.drop 0).drop x.1)) = true := by decide +kernel
theorem dX10_odds_0 : decode cX10_odds 0 = .ok (.aload_n 0, 1) := op42 (bA_at bd09_89_dec_203 0 rfl rfl)
theorem dX10_odds_1 : decode cX10_odds 1 = .ok (.iload_n 1, 1) := op27 (bA_at bd09_89_dec_203 1 rfl rfl)
theorem dX10_odds_2 : decode cX10_odds 2 = .ok (.invokevirtual 89, 3) := op182 (bA_at bd09_89_dec_203 2 rfl rfl) rfl
theorem dX10_odds_5 : decode cX10_odds 5 = .ok (.astore 4, 2) := op58 (bA_at bd09_89_dec_203 3 rfl rfl) rfl
theorem dX10_odds_7 : decode cX10_odds 7 = .ok (.aload_n 0, 1) := op42 (bA_at bd09_89_dec_203 4 rfl rfl)
theorem dX10_odds_8 : decode cX10_odds 8 = .ok (.iload_n 2, 1) := op28 (bA_at bd09_89_dec_203 5 rfl rfl)
theorem dX10_odds_9 : decode cX10_odds 9 = .ok (.invokevirtual 109, 3) := op182 (bA_at bd09_89_dec_203 6 rfl rfl) rfl
theorem dX10_odds_12 : decode cX10_odds 12 = .ok (.astore 5, 2) := op58 (bA_at bd09_89_dec_203 7 rfl rfl) rfl
theorem dX10_odds_14 : decode cX10_odds 14 = .ok (.aload 4, 2) := op25 (bA_at bd09_89_dec_203 8 rfl rfl) rfl
theorem dX10_odds_16 : decode cX10_odds 16 = .ok (.ifnull 17, 3) := op198 (bA_at bd09_89_dec_203 9 rfl rfl) (by decide +kernel)
theorem dX10_odds_19 : decode cX10_odds 19 = .ok (.aload 5, 2) := op25 (bA_at bd09_89_dec_203 10 rfl rfl) rfl
theorem dX10_odds_21 : decode cX10_odds 21 = .ok (.ifnull 12, 3) := op198 (bA_at bd09_89_dec_203 11 rfl rfl) (by decide +kernel)
theorem bd09_89_dec_204 : ([(0, [29]), (1, [155, 0, 8]), (4, [29]), (5, [5]), (6, [164, 0, 7]), (9, [20, 0, 230]), (12, [173]), (13, [42]), (14, [180, 0, 30]), (17, [25, 4]), (19, [25, 5]), (21, [25, 5])] : List (Nat × List UInt8)).all (fun x => prB x.2 ((cX10_odds.data.toList.drop 24).drop x.1)) = true := by decide +kernel
theorem dX10_odds_24 : decode cX10_odds 24 = .ok (.iload_n 3, 1) := op29 (bA_at bd09_89_dec_204 0 rfl rfl)
theorem dX10_odds_25 : decode cX10_odds 25 = .ok (.ifCond .lt 8, 3) := op155 (bA_at bd09_89_dec_204 1 rfl rfl) (by decide +kernel)
theorem dX10_odds_28 : decode cX10_odds 28 = .ok (.iload_n 3, 1) := op29 (bA_at bd09_89_dec_204 2 rfl rfl)
theorem dX10_odds_29 : decode cX10_odds 29 = .ok (.iconst 2, 1) := op5 (bA_at bd09_89_dec_204 3 rfl rfl)
theorem dX10_odds_30 : decode cX10_odds 30 = .ok (.if_icmp .le 7, 3) := op164 (bA_at bd09_89_dec_204 4 rfl rfl) (by decide +kernel)
theorem dX10_odds_33 : decode cX10_odds 33 = .ok (.ldc2_w 230, 3) := op20 (bA_at bd09_89_dec_204 5 rfl rfl) rfl
theorem dX10_odds_36 : decode cX10_odds 36 = .ok (.lreturn, 1) := op173 (bA_at bd09_89_dec_204 6 rfl rfl)
theorem dX10_odds_37 : decode cX10_odds 37 = .ok (.aload_n 0, 1) := op42 (bA_at bd09_89_dec_204 7 rfl rfl)
theorem dX10_odds_38 : decode cX10_odds 38 = .ok (.getfield 30, 3) := op180 (bA_at bd09_89_dec_204 8 rfl rfl) rfl
theorem dX10_odds_41 : decode cX10_odds 41 = .ok (.aload 4, 2) := op25 (bA_at bd09_89_dec_204 9 rfl rfl) rfl
theorem dX10_odds_43 : decode cX10_odds 43 = .ok (.aload 5, 2) := op25 (bA_at bd09_89_dec_204 10 rfl rfl) rfl
theorem dX10_odds_45 : decode cX10_odds 45 = .ok (.aload 5, 2) := op25 (bA_at bd09_89_dec_204 11 rfl rfl) rfl
theorem bd09_89_dec_205 : ([(0, [180, 0, 113]), (3, [182, 0, 120]), (6, [87]), (7, [29]), (8, [5]), (9, [160, 0, 21]), (12, [42]), (13, [180, 0, 30]), (16, [180, 0, 253]), (19, [16, 10]), (21, [25, 4]), (23, [180, 1, 0])] : List (Nat × List UInt8)).all (fun x => prB x.2 ((cX10_odds.data.toList.drop 47).drop x.1)) = true := by decide +kernel
theorem dX10_odds_47 : decode cX10_odds 47 = .ok (.getfield 113, 3) := op180 (bA_at bd09_89_dec_205 0 rfl rfl) rfl
theorem dX10_odds_50 : decode cX10_odds 50 = .ok (.invokevirtual 120, 3) := op182 (bA_at bd09_89_dec_205 1 rfl rfl) rfl
theorem dX10_odds_53 : decode cX10_odds 53 = .ok (.pop, 1) := op87 (bA_at bd09_89_dec_205 2 rfl rfl)
theorem dX10_odds_54 : decode cX10_odds 54 = .ok (.iload_n 3, 1) := op29 (bA_at bd09_89_dec_205 3 rfl rfl)
theorem dX10_odds_55 : decode cX10_odds 55 = .ok (.iconst 2, 1) := op5 (bA_at bd09_89_dec_205 4 rfl rfl)
theorem dX10_odds_56 : decode cX10_odds 56 = .ok (.if_icmp .ne 21, 3) := op160 (bA_at bd09_89_dec_205 5 rfl rfl) (by decide +kernel)
theorem dX10_odds_59 : decode cX10_odds 59 = .ok (.aload_n 0, 1) := op42 (bA_at bd09_89_dec_205 6 rfl rfl)
theorem dX10_odds_60 : decode cX10_odds 60 = .ok (.getfield 30, 3) := op180 (bA_at bd09_89_dec_205 7 rfl rfl) rfl
theorem dX10_odds_63 : decode cX10_odds 63 = .ok (.getfield 253, 3) := op180 (bA_at bd09_89_dec_205 8 rfl rfl) rfl
theorem dX10_odds_66 : decode cX10_odds 66 = .ok (.bipush 10, 2) := op16 (bA_at bd09_89_dec_205 9 rfl rfl) (by decide +kernel)
theorem dX10_odds_68 : decode cX10_odds 68 = .ok (.aload 4, 2) := op25 (bA_at bd09_89_dec_205 10 rfl rfl) rfl
theorem dX10_odds_70 : decode cX10_odds 70 = .ok (.getfield 256, 3) := op180 (bA_at bd09_89_dec_205 11 rfl rfl) rfl
theorem bd09_89_dec_206 : ([(0, [100]), (1, [104]), (2, [133]), (3, [173]), (4, [42]), (5, [180, 0, 30]), (8, [180, 0, 253]), (11, [16, 18]), (13, [164, 0, 7]), (16, [20, 0, 230]), (19, [173]), (20, [25, 4])] : List (Nat × List UInt8)).all (fun x => prB x.2 ((cX10_odds.data.toList.drop 73).drop x.1)) = true := by decide +kernel
theorem dX10_odds_73 : decode cX10_odds 73 = .ok (.isub, 1) := op100 (bA_at bd09_89_dec_206 0 rfl rfl)
theorem dX10_odds_74 : decode cX10_odds 74 = .ok (.imul, 1) := op104 (bA_at bd09_89_dec_206 1 rfl rfl)
theorem dX10_odds_75 : decode cX10_odds 75 = .ok (.i2l, 1) := op133 (bA_at bd09_89_dec_206 2 rfl rfl)
theorem dX10_odds_76 : decode cX10_odds 76 = .ok (.lreturn, 1) := op173 (bA_at bd09_89_dec_206 3 rfl rfl)
theorem dX10_odds_77 : decode cX10_odds 77 = .ok (.aload_n 0, 1) := op42 (bA_at bd09_89_dec_206 4 rfl rfl)
theorem dX10_odds_78 : decode cX10_odds 78 = .ok (.getfield 30, 3) := op180 (bA_at bd09_89_dec_206 5 rfl rfl) rfl
theorem dX10_odds_81 : decode cX10_odds 81 = .ok (.getfield 253, 3) := op180 (bA_at bd09_89_dec_206 6 rfl rfl) rfl
theorem dX10_odds_84 : decode cX10_odds 84 = .ok (.bipush 18, 2) := op16 (bA_at bd09_89_dec_206 7 rfl rfl) (by decide +kernel)
theorem dX10_odds_86 : decode cX10_odds 86 = .ok (.if_icmp .le 7, 3) := op164 (bA_at bd09_89_dec_206 8 rfl rfl) (by decide +kernel)
theorem dX10_odds_89 : decode cX10_odds 89 = .ok (.ldc2_w 230, 3) := op20 (bA_at bd09_89_dec_206 9 rfl rfl) rfl
theorem dX10_odds_92 : decode cX10_odds 92 = .ok (.lreturn, 1) := op173 (bA_at bd09_89_dec_206 10 rfl rfl)
theorem dX10_odds_93 : decode cX10_odds 93 = .ok (.aload 4, 2) := op25 (bA_at bd09_89_dec_206 11 rfl rfl) rfl
theorem bd09_89_dec_207 : ([(0, [180, 1, 0]), (3, [184, 1, 3]), (6, [54, 6]), (8, [29]), (9, [154, 0, 11]), (12, [25, 4]), (14, [180, 1, 0]), (17, [167, 0, 5]), (20, [16, 10]), (22, [21, 6]), (24, [108]), (25, [42])] : List (Nat × List UInt8)).all (fun x => prB x.2 ((cX10_odds.data.toList.drop 95).drop x.1)) = true := by decide +kernel
theorem dX10_odds_95 : decode cX10_odds 95 = .ok (.getfield 256, 3) := op180 (bA_at bd09_89_dec_207 0 rfl rfl) rfl
theorem dX10_odds_98 : decode cX10_odds 98 = .ok (.invokestatic 259, 3) := op184 (bA_at bd09_89_dec_207 1 rfl rfl) rfl
theorem dX10_odds_101 : decode cX10_odds 101 = .ok (.istore 6, 2) := op54 (bA_at bd09_89_dec_207 2 rfl rfl) rfl
theorem dX10_odds_103 : decode cX10_odds 103 = .ok (.iload_n 3, 1) := op29 (bA_at bd09_89_dec_207 3 rfl rfl)
theorem dX10_odds_104 : decode cX10_odds 104 = .ok (.ifCond .ne 11, 3) := op154 (bA_at bd09_89_dec_207 4 rfl rfl) (by decide +kernel)
theorem dX10_odds_107 : decode cX10_odds 107 = .ok (.aload 4, 2) := op25 (bA_at bd09_89_dec_207 5 rfl rfl) rfl
theorem dX10_odds_109 : decode cX10_odds 109 = .ok (.getfield 256, 3) := op180 (bA_at bd09_89_dec_207 6 rfl rfl) rfl
theorem dX10_odds_112 : decode cX10_odds 112 = .ok (.goto 5, 3) := op167 (bA_at bd09_89_dec_207 7 rfl rfl) (by decide +kernel)
theorem dX10_odds_115 : decode cX10_odds 115 = .ok (.bipush 10, 2) := op16 (bA_at bd09_89_dec_207 8 rfl rfl) (by decide +kernel)
theorem dX10_odds_117 : decode cX10_odds 117 = .ok (.iload 6, 2) := op21 (bA_at bd09_89_dec_207 9 rfl rfl) rfl
theorem dX10_odds_119 : decode cX10_odds 119 = .ok (.idiv, 1) := op108 (bA_at bd09_89_dec_207 10 rfl rfl)
theorem dX10_odds_120 : decode cX10_odds 120 = .ok (.aload_n 0, 1) := op42 (bA_at bd09_89_dec_207 11 rfl rfl)
theorem bd09_89_dec_208 : ([(0, [180, 0, 30]), (3, [180, 0, 253]), (6, [184, 1, 6]), (9, [173])] : List (Nat × List UInt8)).all (fun x => prB x.2 ((cX10_odds.data.toList.drop 121).drop x.1)) = true := by decide +kernel
theorem dX10_odds_121 : decode cX10_odds 121 = .ok (.getfield 30, 3) := op180 (bA_at bd09_89_dec_208 0 rfl rfl) rfl
theorem dX10_odds_124 : decode cX10_odds 124 = .ok (.getfield 253, 3) := op180 (bA_at bd09_89_dec_208 1 rfl rfl) rfl
theorem dX10_odds_127 : decode cX10_odds 127 = .ok (.invokestatic 262, 3) := op184 (bA_at bd09_89_dec_208 2 rfl rfl) rfl
theorem dX10_odds_130 : decode cX10_odds 130 = .ok (.lreturn, 1) := op173 (bA_at bd09_89_dec_208 3 rfl rfl)
theorem bd09_89_dec_209 : ([(0, [42]), (1, [27]), (2, [182, 0, 89]), (5, [58, 5]), (7, [25, 5]), (9, [198, 0, 21]), (12, [25, 5]), (14, [180, 1, 10]), (17, [153, 0, 13]), (20, [29]), (21, [155, 0, 9]), (24, [29])] : List (Nat × List UInt8)).all (fun x => prB x.2 ((cX10_drawn.data.toList.drop 0).drop x.1)) = true := by decide +kernel
theorem dX10_drawn_0 : decode cX10_drawn 0 = .ok (.aload_n 0, 1) := op42 (bA_at bd09_89_dec_209 0 rfl rfl)
theorem dX10_drawn_1 : decode cX10_drawn 1 = .ok (.iload_n 1, 1) := op27 (bA_at bd09_89_dec_209 1 rfl rfl)
theorem dX10_drawn_2 : decode cX10_drawn 2 = .ok (.invokevirtual 89, 3) := op182 (bA_at bd09_89_dec_209 2 rfl rfl) rfl
theorem dX10_drawn_5 : decode cX10_drawn 5 = .ok (.astore 5, 2) := op58 (bA_at bd09_89_dec_209 3 rfl rfl) rfl
theorem dX10_drawn_7 : decode cX10_drawn 7 = .ok (.aload 5, 2) := op25 (bA_at bd09_89_dec_209 4 rfl rfl) rfl
theorem dX10_drawn_9 : decode cX10_drawn 9 = .ok (.ifnull 21, 3) := op198 (bA_at bd09_89_dec_209 5 rfl rfl) (by decide +kernel)
theorem dX10_drawn_12 : decode cX10_drawn 12 = .ok (.aload 5, 2) := op25 (bA_at bd09_89_dec_209 6 rfl rfl) rfl
theorem dX10_drawn_14 : decode cX10_drawn 14 = .ok (.getfield 266, 3) := op180 (bA_at bd09_89_dec_209 7 rfl rfl) rfl
theorem dX10_drawn_17 : decode cX10_drawn 17 = .ok (.ifCond .eq 13, 3) := op153 (bA_at bd09_89_dec_209 8 rfl rfl) (by decide +kernel)
theorem dX10_drawn_20 : decode cX10_drawn 20 = .ok (.iload_n 3, 1) := op29 (bA_at bd09_89_dec_209 9 rfl rfl)
theorem dX10_drawn_21 : decode cX10_drawn 21 = .ok (.ifCond .lt 9, 3) := op155 (bA_at bd09_89_dec_209 10 rfl rfl) (by decide +kernel)
theorem dX10_drawn_24 : decode cX10_drawn 24 = .ok (.iload_n 3, 1) := op29 (bA_at bd09_89_dec_209 11 rfl rfl)
theorem bd09_89_dec_210 : ([(0, [16, 60]), (2, [164, 0, 7]), (5, [17, 252, 24]), (8, [172]), (9, [42]), (10, [180, 0, 30]), (13, [25, 5]), (15, [28]), (16, [29]), (17, [182, 1, 13]), (20, [42]), (21, [180, 0, 30])] : List (Nat × List UInt8)).all (fun x => prB x.2 ((cX10_drawn.data.toList.drop 25).drop x.1)) = true := by decide +kernel
theorem dX10_drawn_25 : decode cX10_drawn 25 = .ok (.bipush 60, 2) := op16 (bA_at bd09_89_dec_210 0 rfl rfl) (by decide +kernel)
theorem dX10_drawn_27 : decode cX10_drawn 27 = .ok (.if_icmp .le 7, 3) := op164 (bA_at bd09_89_dec_210 1 rfl rfl) (by decide +kernel)
theorem dX10_drawn_30 : decode cX10_drawn 30 = .ok (.sipush (-1000), 3) := op17 (bA_at bd09_89_dec_210 2 rfl rfl) (by decide +kernel)
theorem dX10_drawn_33 : decode cX10_drawn 33 = .ok (.ireturn, 1) := op172 (bA_at bd09_89_dec_210 3 rfl rfl)
theorem dX10_drawn_34 : decode cX10_drawn 34 = .ok (.aload_n 0, 1) := op42 (bA_at bd09_89_dec_210 4 rfl rfl)
theorem dX10_drawn_35 : decode cX10_drawn 35 = .ok (.getfield 30, 3) := op180 (bA_at bd09_89_dec_210 5 rfl rfl) rfl
theorem dX10_drawn_38 : decode cX10_drawn 38 = .ok (.aload 5, 2) := op25 (bA_at bd09_89_dec_210 6 rfl rfl) rfl
theorem dX10_drawn_40 : decode cX10_drawn 40 = .ok (.iload_n 2, 1) := op28 (bA_at bd09_89_dec_210 7 rfl rfl)
theorem dX10_drawn_41 : decode cX10_drawn 41 = .ok (.iload_n 3, 1) := op29 (bA_at bd09_89_dec_210 8 rfl rfl)
theorem dX10_drawn_42 : decode cX10_drawn 42 = .ok (.invokevirtual 269, 3) := op182 (bA_at bd09_89_dec_210 9 rfl rfl) rfl
theorem dX10_drawn_45 : decode cX10_drawn 45 = .ok (.aload_n 0, 1) := op42 (bA_at bd09_89_dec_210 10 rfl rfl)
theorem dX10_drawn_46 : decode cX10_drawn 46 = .ok (.getfield 30, 3) := op180 (bA_at bd09_89_dec_210 11 rfl rfl) rfl
theorem bd09_89_dec_211 : ([(0, [25, 5]), (2, [21, 4]), (4, [182, 0, 132]), (7, [172])] : List (Nat × List UInt8)).all (fun x => prB x.2 ((cX10_drawn.data.toList.drop 49).drop x.1)) = true := by decide +kernel
theorem dX10_drawn_49 : decode cX10_drawn 49 = .ok (.aload 5, 2) := op25 (bA_at bd09_89_dec_211 0 rfl rfl) rfl
theorem dX10_drawn_51 : decode cX10_drawn 51 = .ok (.iload 4, 2) := op21 (bA_at bd09_89_dec_211 1 rfl rfl) rfl
theorem dX10_drawn_53 : decode cX10_drawn 53 = .ok (.invokevirtual 132, 3) := op182 (bA_at bd09_89_dec_211 2 rfl rfl) rfl
theorem dX10_drawn_56 : decode cX10_drawn 56 = .ok (.ireturn, 1) := op172 (bA_at bd09_89_dec_211 3 rfl rfl)
theorem bd09_89_dec_212 : ([(0, [42]), (1, [27]), (2, [182, 0, 89]), (5, [58, 5]), (7, [25, 5]), (9, [198, 0, 33]), (12, [25, 5]), (14, [28]), (15, [182, 0, 135]), (18, [153, 0, 24]), (21, [29]), (22, [155, 0, 20])] : List (Nat × List UInt8)).all (fun x => prB x.2 ((cX10_psalm.data.toList.drop 0).drop x.1)) = true := by decide +kernel
theorem dX10_psalm_0 : decode cX10_psalm 0 = .ok (.aload_n 0, 1) := op42 (bA_at bd09_89_dec_212 0 rfl rfl)
theorem dX10_psalm_1 : decode cX10_psalm 1 = .ok (.iload_n 1, 1) := op27 (bA_at bd09_89_dec_212 1 rfl rfl)
theorem dX10_psalm_2 : decode cX10_psalm 2 = .ok (.invokevirtual 89, 3) := op182 (bA_at bd09_89_dec_212 2 rfl rfl) rfl
theorem dX10_psalm_5 : decode cX10_psalm 5 = .ok (.astore 5, 2) := op58 (bA_at bd09_89_dec_212 3 rfl rfl) rfl
theorem dX10_psalm_7 : decode cX10_psalm 7 = .ok (.aload 5, 2) := op25 (bA_at bd09_89_dec_212 4 rfl rfl) rfl
theorem dX10_psalm_9 : decode cX10_psalm 9 = .ok (.ifnull 33, 3) := op198 (bA_at bd09_89_dec_212 5 rfl rfl) (by decide +kernel)
theorem dX10_psalm_12 : decode cX10_psalm 12 = .ok (.aload 5, 2) := op25 (bA_at bd09_89_dec_212 6 rfl rfl) rfl
theorem dX10_psalm_14 : decode cX10_psalm 14 = .ok (.iload_n 2, 1) := op28 (bA_at bd09_89_dec_212 7 rfl rfl)
theorem dX10_psalm_15 : decode cX10_psalm 15 = .ok (.invokevirtual 135, 3) := op182 (bA_at bd09_89_dec_212 8 rfl rfl) rfl
theorem dX10_psalm_18 : decode cX10_psalm 18 = .ok (.ifCond .eq 24, 3) := op153 (bA_at bd09_89_dec_212 9 rfl rfl) (by decide +kernel)
theorem dX10_psalm_21 : decode cX10_psalm 21 = .ok (.iload_n 3, 1) := op29 (bA_at bd09_89_dec_212 10 rfl rfl)
theorem dX10_psalm_22 : decode cX10_psalm 22 = .ok (.ifCond .lt 20, 3) := op155 (bA_at bd09_89_dec_212 11 rfl rfl) (by decide +kernel)
theorem bd09_89_dec_213 : ([(0, [29]), (1, [16, 99]), (3, [163, 0, 14]), (6, [21, 4]), (8, [155, 0, 9]), (11, [21, 4]), (13, [5]), (14, [164, 0, 6]), (17, [16, 254]), (19, [172]), (20, [42]), (21, [180, 0, 37])] : List (Nat × List UInt8)).all (fun x => prB x.2 ((cX10_psalm.data.toList.drop 25).drop x.1)) = true := by decide +kernel
theorem dX10_psalm_25 : decode cX10_psalm 25 = .ok (.iload_n 3, 1) := op29 (bA_at bd09_89_dec_213 0 rfl rfl)
theorem dX10_psalm_26 : decode cX10_psalm 26 = .ok (.bipush 99, 2) := op16 (bA_at bd09_89_dec_213 1 rfl rfl) (by decide +kernel)
theorem dX10_psalm_28 : decode cX10_psalm 28 = .ok (.if_icmp .gt 14, 3) := op163 (bA_at bd09_89_dec_213 2 rfl rfl) (by decide +kernel)
theorem dX10_psalm_31 : decode cX10_psalm 31 = .ok (.iload 4, 2) := op21 (bA_at bd09_89_dec_213 3 rfl rfl) rfl
theorem dX10_psalm_33 : decode cX10_psalm 33 = .ok (.ifCond .lt 9, 3) := op155 (bA_at bd09_89_dec_213 4 rfl rfl) (by decide +kernel)
theorem dX10_psalm_36 : decode cX10_psalm 36 = .ok (.iload 4, 2) := op21 (bA_at bd09_89_dec_213 5 rfl rfl) rfl
theorem dX10_psalm_38 : decode cX10_psalm 38 = .ok (.iconst 2, 1) := op5 (bA_at bd09_89_dec_213 6 rfl rfl)
theorem dX10_psalm_39 : decode cX10_psalm 39 = .ok (.if_icmp .le 6, 3) := op164 (bA_at bd09_89_dec_213 7 rfl rfl) (by decide +kernel)
theorem dX10_psalm_42 : decode cX10_psalm 42 = .ok (.bipush (-2), 2) := op16 (bA_at bd09_89_dec_213 8 rfl rfl) (by decide +kernel)
theorem dX10_psalm_44 : decode cX10_psalm 44 = .ok (.ireturn, 1) := op172 (bA_at bd09_89_dec_213 9 rfl rfl)
theorem dX10_psalm_45 : decode cX10_psalm 45 = .ok (.aload_n 0, 1) := op42 (bA_at bd09_89_dec_213 10 rfl rfl)
theorem dX10_psalm_46 : decode cX10_psalm 46 = .ok (.getfield 37, 3) := op180 (bA_at bd09_89_dec_213 11 rfl rfl) rfl
theorem bd09_89_dec_214 : ([(0, [25, 5]), (2, [182, 0, 139]), (5, [42]), (6, [180, 0, 37]), (9, [25, 5]), (11, [28]), (12, [29]), (13, [182, 1, 17]), (16, [54, 6]), (18, [21, 4]), (20, [154, 0, 6]), (23, [21, 6])] : List (Nat × List UInt8)).all (fun x => prB x.2 ((cX10_psalm.data.toList.drop 49).drop x.1)) = true := by decide +kernel
theorem dX10_psalm_49 : decode cX10_psalm 49 = .ok (.aload 5, 2) := op25 (bA_at bd09_89_dec_214 0 rfl rfl) rfl
theorem dX10_psalm_51 : decode cX10_psalm 51 = .ok (.invokevirtual 139, 3) := op182 (bA_at bd09_89_dec_214 1 rfl rfl) rfl
theorem dX10_psalm_54 : decode cX10_psalm 54 = .ok (.aload_n 0, 1) := op42 (bA_at bd09_89_dec_214 2 rfl rfl)
theorem dX10_psalm_55 : decode cX10_psalm 55 = .ok (.getfield 37, 3) := op180 (bA_at bd09_89_dec_214 3 rfl rfl) rfl
theorem dX10_psalm_58 : decode cX10_psalm 58 = .ok (.aload 5, 2) := op25 (bA_at bd09_89_dec_214 4 rfl rfl) rfl
theorem dX10_psalm_60 : decode cX10_psalm 60 = .ok (.iload_n 2, 1) := op28 (bA_at bd09_89_dec_214 5 rfl rfl)
theorem dX10_psalm_61 : decode cX10_psalm 61 = .ok (.iload_n 3, 1) := op29 (bA_at bd09_89_dec_214 6 rfl rfl)
theorem dX10_psalm_62 : decode cX10_psalm 62 = .ok (.invokevirtual 273, 3) := op182 (bA_at bd09_89_dec_214 7 rfl rfl) rfl
theorem dX10_psalm_65 : decode cX10_psalm 65 = .ok (.istore 6, 2) := op54 (bA_at bd09_89_dec_214 8 rfl rfl) rfl
theorem dX10_psalm_67 : decode cX10_psalm 67 = .ok (.iload 4, 2) := op21 (bA_at bd09_89_dec_214 9 rfl rfl) rfl
theorem dX10_psalm_69 : decode cX10_psalm 69 = .ok (.ifCond .ne 6, 3) := op154 (bA_at bd09_89_dec_214 10 rfl rfl) (by decide +kernel)
theorem dX10_psalm_72 : decode cX10_psalm 72 = .ok (.iload 6, 2) := op21 (bA_at bd09_89_dec_214 11 rfl rfl) rfl
theorem bd09_89_dec_215 : ([(0, [172]), (1, [21, 6]), (3, [154, 0, 5]), (6, [2]), (7, [172]), (8, [21, 4]), (10, [4]), (11, [160, 0, 13]), (14, [25, 5]), (16, [21, 6]), (18, [182, 1, 20]), (21, [167, 0, 15])] : List (Nat × List UInt8)).all (fun x => prB x.2 ((cX10_psalm.data.toList.drop 74).drop x.1)) = true := by decide +kernel
theorem dX10_psalm_74 : decode cX10_psalm 74 = .ok (.ireturn, 1) := op172 (bA_at bd09_89_dec_215 0 rfl rfl)
theorem dX10_psalm_75 : decode cX10_psalm 75 = .ok (.iload 6, 2) := op21 (bA_at bd09_89_dec_215 1 rfl rfl) rfl
theorem dX10_psalm_77 : decode cX10_psalm 77 = .ok (.ifCond .ne 5, 3) := op154 (bA_at bd09_89_dec_215 2 rfl rfl) (by decide +kernel)
theorem dX10_psalm_80 : decode cX10_psalm 80 = .ok (.iconst (-1), 1) := op2 (bA_at bd09_89_dec_215 3 rfl rfl)
theorem dX10_psalm_81 : decode cX10_psalm 81 = .ok (.ireturn, 1) := op172 (bA_at bd09_89_dec_215 4 rfl rfl)
theorem dX10_psalm_82 : decode cX10_psalm 82 = .ok (.iload 4, 2) := op21 (bA_at bd09_89_dec_215 5 rfl rfl) rfl
theorem dX10_psalm_84 : decode cX10_psalm 84 = .ok (.iconst 1, 1) := op4 (bA_at bd09_89_dec_215 6 rfl rfl)
theorem dX10_psalm_85 : decode cX10_psalm 85 = .ok (.if_icmp .ne 13, 3) := op160 (bA_at bd09_89_dec_215 7 rfl rfl) (by decide +kernel)
theorem dX10_psalm_88 : decode cX10_psalm 88 = .ok (.aload 5, 2) := op25 (bA_at bd09_89_dec_215 8 rfl rfl) rfl
theorem dX10_psalm_90 : decode cX10_psalm 90 = .ok (.iload 6, 2) := op21 (bA_at bd09_89_dec_215 9 rfl rfl) rfl
theorem dX10_psalm_92 : decode cX10_psalm 92 = .ok (.invokevirtual 276, 3) := op182 (bA_at bd09_89_dec_215 10 rfl rfl) rfl
theorem dX10_psalm_95 : decode cX10_psalm 95 = .ok (.goto 15, 3) := op167 (bA_at bd09_89_dec_215 11 rfl rfl) (by decide +kernel)
theorem bd09_89_dec_216 : ([(0, [29]), (1, [42]), (2, [180, 0, 37]), (5, [25, 5]), (7, [28]), (8, [182, 1, 23]), (11, [100]), (12, [172])] : List (Nat × List UInt8)).all (fun x => prB x.2 ((cX10_psalm.data.toList.drop 98).drop x.1)) = true := by decide +kernel
theorem dX10_psalm_98 : decode cX10_psalm 98 = .ok (.iload_n 3, 1) := op29 (bA_at bd09_89_dec_216 0 rfl rfl)
theorem dX10_psalm_99 : decode cX10_psalm 99 = .ok (.aload_n 0, 1) := op42 (bA_at bd09_89_dec_216 1 rfl rfl)
theorem dX10_psalm_100 : decode cX10_psalm 100 = .ok (.getfield 37, 3) := op180 (bA_at bd09_89_dec_216 2 rfl rfl) rfl
theorem dX10_psalm_103 : decode cX10_psalm 103 = .ok (.aload 5, 2) := op25 (bA_at bd09_89_dec_216 3 rfl rfl) rfl
theorem dX10_psalm_105 : decode cX10_psalm 105 = .ok (.iload_n 2, 1) := op28 (bA_at bd09_89_dec_216 4 rfl rfl)
theorem dX10_psalm_106 : decode cX10_psalm 106 = .ok (.invokevirtual 279, 3) := op182 (bA_at bd09_89_dec_216 5 rfl rfl) rfl
theorem dX10_psalm_109 : decode cX10_psalm 109 = .ok (.isub, 1) := op100 (bA_at bd09_89_dec_216 6 rfl rfl)
theorem dX10_psalm_110 : decode cX10_psalm 110 = .ok (.ireturn, 1) := op172 (bA_at bd09_89_dec_216 7 rfl rfl)
theorem bd09_89_dec_217 : ([(0, [42]), (1, [27]), (2, [182, 0, 89]), (5, [58, 5]), (7, [25, 5]), (9, [198, 0, 26]), (12, [25, 5]), (14, [28]), (15, [182, 1, 26]), (18, [153, 0, 17]), (21, [25, 5]), (23, [29])] : List (Nat × List UInt8)).all (fun x => prB x.2 ((cX10_meet.data.toList.drop 0).drop x.1)) = true := by decide +kernel
theorem dX10_meet_0 : decode cX10_meet 0 = .ok (.aload_n 0, 1) := op42 (bA_at bd09_89_dec_217 0 rfl rfl)
theorem dX10_meet_1 : decode cX10_meet 1 = .ok (.iload_n 1, 1) := op27 (bA_at bd09_89_dec_217 1 rfl rfl)
theorem dX10_meet_2 : decode cX10_meet 2 = .ok (.invokevirtual 89, 3) := op182 (bA_at bd09_89_dec_217 2 rfl rfl) rfl
theorem dX10_meet_5 : decode cX10_meet 5 = .ok (.astore 5, 2) := op58 (bA_at bd09_89_dec_217 3 rfl rfl) rfl
theorem dX10_meet_7 : decode cX10_meet 7 = .ok (.aload 5, 2) := op25 (bA_at bd09_89_dec_217 4 rfl rfl) rfl
theorem dX10_meet_9 : decode cX10_meet 9 = .ok (.ifnull 26, 3) := op198 (bA_at bd09_89_dec_217 5 rfl rfl) (by decide +kernel)
theorem dX10_meet_12 : decode cX10_meet 12 = .ok (.aload 5, 2) := op25 (bA_at bd09_89_dec_217 6 rfl rfl) rfl
theorem dX10_meet_14 : decode cX10_meet 14 = .ok (.iload_n 2, 1) := op28 (bA_at bd09_89_dec_217 7 rfl rfl)
theorem dX10_meet_15 : decode cX10_meet 15 = .ok (.invokevirtual 282, 3) := op182 (bA_at bd09_89_dec_217 8 rfl rfl) rfl
theorem dX10_meet_18 : decode cX10_meet 18 = .ok (.ifCond .eq 17, 3) := op153 (bA_at bd09_89_dec_217 9 rfl rfl) (by decide +kernel)
theorem dX10_meet_21 : decode cX10_meet 21 = .ok (.aload 5, 2) := op25 (bA_at bd09_89_dec_217 10 rfl rfl) rfl
theorem dX10_meet_23 : decode cX10_meet 23 = .ok (.iload_n 3, 1) := op29 (bA_at bd09_89_dec_217 11 rfl rfl)
theorem bd09_89_dec_218 : ([(0, [182, 1, 26]), (3, [153, 0, 8]), (6, [28]), (7, [29]), (8, [160, 0, 5]), (11, [2]), (12, [172]), (13, [42]), (14, [180, 0, 37]), (17, [25, 5]), (19, [182, 1, 29]), (22, [42])] : List (Nat × List UInt8)).all (fun x => prB x.2 ((cX10_meet.data.toList.drop 24).drop x.1)) = true := by decide +kernel
theorem dX10_meet_24 : decode cX10_meet 24 = .ok (.invokevirtual 282, 3) := op182 (bA_at bd09_89_dec_218 0 rfl rfl) rfl
theorem dX10_meet_27 : decode cX10_meet 27 = .ok (.ifCond .eq 8, 3) := op153 (bA_at bd09_89_dec_218 1 rfl rfl) (by decide +kernel)
theorem dX10_meet_30 : decode cX10_meet 30 = .ok (.iload_n 2, 1) := op28 (bA_at bd09_89_dec_218 2 rfl rfl)
theorem dX10_meet_31 : decode cX10_meet 31 = .ok (.iload_n 3, 1) := op29 (bA_at bd09_89_dec_218 3 rfl rfl)
theorem dX10_meet_32 : decode cX10_meet 32 = .ok (.if_icmp .ne 5, 3) := op160 (bA_at bd09_89_dec_218 4 rfl rfl) (by decide +kernel)
theorem dX10_meet_35 : decode cX10_meet 35 = .ok (.iconst (-1), 1) := op2 (bA_at bd09_89_dec_218 5 rfl rfl)
theorem dX10_meet_36 : decode cX10_meet 36 = .ok (.ireturn, 1) := op172 (bA_at bd09_89_dec_218 6 rfl rfl)
theorem dX10_meet_37 : decode cX10_meet 37 = .ok (.aload_n 0, 1) := op42 (bA_at bd09_89_dec_218 7 rfl rfl)
theorem dX10_meet_38 : decode cX10_meet 38 = .ok (.getfield 37, 3) := op180 (bA_at bd09_89_dec_218 8 rfl rfl) rfl
theorem dX10_meet_41 : decode cX10_meet 41 = .ok (.aload 5, 2) := op25 (bA_at bd09_89_dec_218 9 rfl rfl) rfl
theorem dX10_meet_43 : decode cX10_meet 43 = .ok (.invokevirtual 285, 3) := op182 (bA_at bd09_89_dec_218 10 rfl rfl) rfl
theorem dX10_meet_46 : decode cX10_meet 46 = .ok (.aload_n 0, 1) := op42 (bA_at bd09_89_dec_218 11 rfl rfl)
theorem bd09_89_dec_219 : ([(0, [180, 0, 37]), (3, [25, 5]), (5, [42]), (6, [180, 0, 37]), (9, [180, 1, 32]), (12, [25, 5]), (14, [180, 1, 35]), (17, [28]), (18, [46]), (19, [25, 5]), (21, [180, 1, 35]), (24, [29])] : List (Nat × List UInt8)).all (fun x => prB x.2 ((cX10_meet.data.toList.drop 47).drop x.1)) = true := by decide +kernel
theorem dX10_meet_47 : decode cX10_meet 47 = .ok (.getfield 37, 3) := op180 (bA_at bd09_89_dec_219 0 rfl rfl) rfl
theorem dX10_meet_50 : decode cX10_meet 50 = .ok (.aload 5, 2) := op25 (bA_at bd09_89_dec_219 1 rfl rfl) rfl
theorem dX10_meet_52 : decode cX10_meet 52 = .ok (.aload_n 0, 1) := op42 (bA_at bd09_89_dec_219 2 rfl rfl)
theorem dX10_meet_53 : decode cX10_meet 53 = .ok (.getfield 37, 3) := op180 (bA_at bd09_89_dec_219 3 rfl rfl) rfl
theorem dX10_meet_56 : decode cX10_meet 56 = .ok (.getfield 288, 3) := op180 (bA_at bd09_89_dec_219 4 rfl rfl) rfl
theorem dX10_meet_59 : decode cX10_meet 59 = .ok (.aload 5, 2) := op25 (bA_at bd09_89_dec_219 5 rfl rfl) rfl
theorem dX10_meet_61 : decode cX10_meet 61 = .ok (.getfield 291, 3) := op180 (bA_at bd09_89_dec_219 6 rfl rfl) rfl
theorem dX10_meet_64 : decode cX10_meet 64 = .ok (.iload_n 2, 1) := op28 (bA_at bd09_89_dec_219 7 rfl rfl)
theorem dX10_meet_65 : decode cX10_meet 65 = .ok (.iaload, 1) := op46 (bA_at bd09_89_dec_219 8 rfl rfl)
theorem dX10_meet_66 : decode cX10_meet 66 = .ok (.aload 5, 2) := op25 (bA_at bd09_89_dec_219 9 rfl rfl) rfl
theorem dX10_meet_68 : decode cX10_meet 68 = .ok (.getfield 291, 3) := op180 (bA_at bd09_89_dec_219 10 rfl rfl) rfl
theorem dX10_meet_71 : decode cX10_meet 71 = .ok (.iload_n 3, 1) := op29 (bA_at bd09_89_dec_219 11 rfl rfl)
theorem bd09_89_dec_220 : ([(0, [46]), (1, [21, 4]), (3, [182, 1, 38]), (6, [172])] : List (Nat × List UInt8)).all (fun x => prB x.2 ((cX10_meet.data.toList.drop 72).drop x.1)) = true := by decide +kernel
theorem dX10_meet_72 : decode cX10_meet 72 = .ok (.iaload, 1) := op46 (bA_at bd09_89_dec_220 0 rfl rfl)
theorem dX10_meet_73 : decode cX10_meet 73 = .ok (.iload 4, 2) := op21 (bA_at bd09_89_dec_220 1 rfl rfl) rfl
theorem dX10_meet_75 : decode cX10_meet 75 = .ok (.invokevirtual 294, 3) := op182 (bA_at bd09_89_dec_220 2 rfl rfl) rfl
theorem dX10_meet_78 : decode cX10_meet 78 = .ok (.ireturn, 1) := op172 (bA_at bd09_89_dec_220 3 rfl rfl)
theorem bd09_89_dec_221 : ([(0, [42]), (1, [27]), (2, [182, 0, 89]), (5, [58, 4]), (7, [25, 4]), (9, [198, 0, 12]), (12, [25, 4]), (14, [28]), (15, [182, 1, 26]), (18, [154, 0, 5]), (21, [2]), (22, [172])] : List (Nat × List UInt8)).all (fun x => prB x.2 ((cX10_carry.data.toList.drop 0).drop x.1)) = true := by decide +kernel
theorem dX10_carry_0 : decode cX10_carry 0 = .ok (.aload_n 0, 1) := op42 (bA_at bd09_89_dec_221 0 rfl rfl)
theorem dX10_carry_1 : decode cX10_carry 1 = .ok (.iload_n 1, 1) := op27 (bA_at bd09_89_dec_221 1 rfl rfl)
theorem dX10_carry_2 : decode cX10_carry 2 = .ok (.invokevirtual 89, 3) := op182 (bA_at bd09_89_dec_221 2 rfl rfl) rfl
theorem dX10_carry_5 : decode cX10_carry 5 = .ok (.astore 4, 2) := op58 (bA_at bd09_89_dec_221 3 rfl rfl) rfl
theorem dX10_carry_7 : decode cX10_carry 7 = .ok (.aload 4, 2) := op25 (bA_at bd09_89_dec_221 4 rfl rfl) rfl
theorem dX10_carry_9 : decode cX10_carry 9 = .ok (.ifnull 12, 3) := op198 (bA_at bd09_89_dec_221 5 rfl rfl) (by decide +kernel)
theorem dX10_carry_12 : decode cX10_carry 12 = .ok (.aload 4, 2) := op25 (bA_at bd09_89_dec_221 6 rfl rfl) rfl
theorem dX10_carry_14 : decode cX10_carry 14 = .ok (.iload_n 2, 1) := op28 (bA_at bd09_89_dec_221 7 rfl rfl)
theorem dX10_carry_15 : decode cX10_carry 15 = .ok (.invokevirtual 282, 3) := op182 (bA_at bd09_89_dec_221 8 rfl rfl) rfl
theorem dX10_carry_18 : decode cX10_carry 18 = .ok (.ifCond .ne 5, 3) := op154 (bA_at bd09_89_dec_221 9 rfl rfl) (by decide +kernel)
theorem dX10_carry_21 : decode cX10_carry 21 = .ok (.iconst (-1), 1) := op2 (bA_at bd09_89_dec_221 10 rfl rfl)
theorem dX10_carry_22 : decode cX10_carry 22 = .ok (.ireturn, 1) := op172 (bA_at bd09_89_dec_221 11 rfl rfl)
theorem bd09_89_dec_222 : ([(0, [42]), (1, [180, 0, 37]), (4, [25, 4]), (6, [182, 0, 139]), (9, [42]), (10, [180, 0, 37]), (13, [25, 4]), (15, [182, 1, 29]), (18, [42]), (19, [180, 0, 37]), (22, [25, 4]), (24, [25, 4])] : List (Nat × List UInt8)).all (fun x => prB x.2 ((cX10_carry.data.toList.drop 23).drop x.1)) = true := by decide +kernel
theorem dX10_carry_23 : decode cX10_carry 23 = .ok (.aload_n 0, 1) := op42 (bA_at bd09_89_dec_222 0 rfl rfl)
theorem dX10_carry_24 : decode cX10_carry 24 = .ok (.getfield 37, 3) := op180 (bA_at bd09_89_dec_222 1 rfl rfl) rfl
theorem dX10_carry_27 : decode cX10_carry 27 = .ok (.aload 4, 2) := op25 (bA_at bd09_89_dec_222 2 rfl rfl) rfl
theorem dX10_carry_29 : decode cX10_carry 29 = .ok (.invokevirtual 139, 3) := op182 (bA_at bd09_89_dec_222 3 rfl rfl) rfl
theorem dX10_carry_32 : decode cX10_carry 32 = .ok (.aload_n 0, 1) := op42 (bA_at bd09_89_dec_222 4 rfl rfl)
theorem dX10_carry_33 : decode cX10_carry 33 = .ok (.getfield 37, 3) := op180 (bA_at bd09_89_dec_222 5 rfl rfl) rfl
theorem dX10_carry_36 : decode cX10_carry 36 = .ok (.aload 4, 2) := op25 (bA_at bd09_89_dec_222 6 rfl rfl) rfl
theorem dX10_carry_38 : decode cX10_carry 38 = .ok (.invokevirtual 285, 3) := op182 (bA_at bd09_89_dec_222 7 rfl rfl) rfl
theorem dX10_carry_41 : decode cX10_carry 41 = .ok (.aload_n 0, 1) := op42 (bA_at bd09_89_dec_222 8 rfl rfl)
theorem dX10_carry_42 : decode cX10_carry 42 = .ok (.getfield 37, 3) := op180 (bA_at bd09_89_dec_222 9 rfl rfl) rfl
theorem dX10_carry_45 : decode cX10_carry 45 = .ok (.aload 4, 2) := op25 (bA_at bd09_89_dec_222 10 rfl rfl) rfl
theorem dX10_carry_47 : decode cX10_carry 47 = .ok (.aload 4, 2) := op25 (bA_at bd09_89_dec_222 11 rfl rfl) rfl
theorem bd09_89_dec_223 : ([(0, [180, 1, 35]), (3, [28]), (4, [46]), (5, [29]), (6, [182, 1, 42]), (9, [172])] : List (Nat × List UInt8)).all (fun x => prB x.2 ((cX10_carry.data.toList.drop 49).drop x.1)) = true := by decide +kernel
theorem dX10_carry_49 : decode cX10_carry 49 = .ok (.getfield 291, 3) := op180 (bA_at bd09_89_dec_223 0 rfl rfl) rfl
theorem dX10_carry_52 : decode cX10_carry 52 = .ok (.iload_n 2, 1) := op28 (bA_at bd09_89_dec_223 1 rfl rfl)
theorem dX10_carry_53 : decode cX10_carry 53 = .ok (.iaload, 1) := op46 (bA_at bd09_89_dec_223 2 rfl rfl)
theorem dX10_carry_54 : decode cX10_carry 54 = .ok (.iload_n 3, 1) := op29 (bA_at bd09_89_dec_223 3 rfl rfl)
theorem dX10_carry_55 : decode cX10_carry 55 = .ok (.invokevirtual 298, 3) := op182 (bA_at bd09_89_dec_223 4 rfl rfl) rfl
theorem dX10_carry_58 : decode cX10_carry 58 = .ok (.ireturn, 1) := op172 (bA_at bd09_89_dec_223 5 rfl rfl)
theorem bd09_89_dec_224 : ([(0, [42]), (1, [27]), (2, [182, 0, 89]), (5, [58, 5]), (7, [25, 5]), (9, [198, 0, 21]), (12, [25, 5]), (14, [28]), (15, [182, 0, 176]), (18, [153, 0, 12]), (21, [25, 5]), (23, [29])] : List (Nat × List UInt8)).all (fun x => prB x.2 ((cX10_join.data.toList.drop 0).drop x.1)) = true := by decide +kernel
theorem dX10_join_0 : decode cX10_join 0 = .ok (.aload_n 0, 1) := op42 (bA_at bd09_89_dec_224 0 rfl rfl)
theorem dX10_join_1 : decode cX10_join 1 = .ok (.iload_n 1, 1) := op27 (bA_at bd09_89_dec_224 1 rfl rfl)
theorem dX10_join_2 : decode cX10_join 2 = .ok (.invokevirtual 89, 3) := op182 (bA_at bd09_89_dec_224 2 rfl rfl) rfl
theorem dX10_join_5 : decode cX10_join 5 = .ok (.astore 5, 2) := op58 (bA_at bd09_89_dec_224 3 rfl rfl) rfl
theorem dX10_join_7 : decode cX10_join 7 = .ok (.aload 5, 2) := op25 (bA_at bd09_89_dec_224 4 rfl rfl) rfl
theorem dX10_join_9 : decode cX10_join 9 = .ok (.ifnull 21, 3) := op198 (bA_at bd09_89_dec_224 5 rfl rfl) (by decide +kernel)
theorem dX10_join_12 : decode cX10_join 12 = .ok (.aload 5, 2) := op25 (bA_at bd09_89_dec_224 6 rfl rfl) rfl
theorem dX10_join_14 : decode cX10_join 14 = .ok (.iload_n 2, 1) := op28 (bA_at bd09_89_dec_224 7 rfl rfl)
theorem dX10_join_15 : decode cX10_join 15 = .ok (.invokevirtual 176, 3) := op182 (bA_at bd09_89_dec_224 8 rfl rfl) rfl
theorem dX10_join_18 : decode cX10_join 18 = .ok (.ifCond .eq 12, 3) := op153 (bA_at bd09_89_dec_224 9 rfl rfl) (by decide +kernel)
theorem dX10_join_21 : decode cX10_join 21 = .ok (.aload 5, 2) := op25 (bA_at bd09_89_dec_224 10 rfl rfl) rfl
theorem dX10_join_23 : decode cX10_join 23 = .ok (.iload_n 3, 1) := op29 (bA_at bd09_89_dec_224 11 rfl rfl)
theorem bd09_89_dec_225 : ([(0, [182, 0, 176]), (3, [154, 0, 5]), (6, [2]), (7, [172]), (8, [42]), (9, [180, 0, 37]), (12, [25, 5]), (14, [182, 0, 139]), (17, [42]), (18, [180, 0, 37]), (21, [25, 5]), (23, [42])] : List (Nat × List UInt8)).all (fun x => prB x.2 ((cX10_join.data.toList.drop 24).drop x.1)) = true := by decide +kernel
theorem dX10_join_24 : decode cX10_join 24 = .ok (.invokevirtual 176, 3) := op182 (bA_at bd09_89_dec_225 0 rfl rfl) rfl
theorem dX10_join_27 : decode cX10_join 27 = .ok (.ifCond .ne 5, 3) := op154 (bA_at bd09_89_dec_225 1 rfl rfl) (by decide +kernel)
theorem dX10_join_30 : decode cX10_join 30 = .ok (.iconst (-1), 1) := op2 (bA_at bd09_89_dec_225 2 rfl rfl)
theorem dX10_join_31 : decode cX10_join 31 = .ok (.ireturn, 1) := op172 (bA_at bd09_89_dec_225 3 rfl rfl)
theorem dX10_join_32 : decode cX10_join 32 = .ok (.aload_n 0, 1) := op42 (bA_at bd09_89_dec_225 4 rfl rfl)
theorem dX10_join_33 : decode cX10_join 33 = .ok (.getfield 37, 3) := op180 (bA_at bd09_89_dec_225 5 rfl rfl) rfl
theorem dX10_join_36 : decode cX10_join 36 = .ok (.aload 5, 2) := op25 (bA_at bd09_89_dec_225 6 rfl rfl) rfl
theorem dX10_join_38 : decode cX10_join 38 = .ok (.invokevirtual 139, 3) := op182 (bA_at bd09_89_dec_225 7 rfl rfl) rfl
theorem dX10_join_41 : decode cX10_join 41 = .ok (.aload_n 0, 1) := op42 (bA_at bd09_89_dec_225 8 rfl rfl)
theorem dX10_join_42 : decode cX10_join 42 = .ok (.getfield 37, 3) := op180 (bA_at bd09_89_dec_225 9 rfl rfl) rfl
theorem dX10_join_45 : decode cX10_join 45 = .ok (.aload 5, 2) := op25 (bA_at bd09_89_dec_225 10 rfl rfl) rfl
theorem dX10_join_47 : decode cX10_join 47 = .ok (.aload_n 0, 1) := op42 (bA_at bd09_89_dec_225 11 rfl rfl)
theorem bd09_89_dec_226 : ([(0, [180, 0, 37]), (3, [180, 0, 143]), (6, [28]), (7, [29]), (8, [21, 4]), (10, [182, 1, 38]), (13, [172])] : List (Nat × List UInt8)).all (fun x => prB x.2 ((cX10_join.data.toList.drop 48).drop x.1)) = true := by decide +kernel
theorem dX10_join_48 : decode cX10_join 48 = .ok (.getfield 37, 3) := op180 (bA_at bd09_89_dec_226 0 rfl rfl) rfl
theorem dX10_join_51 : decode cX10_join 51 = .ok (.getfield 143, 3) := op180 (bA_at bd09_89_dec_226 1 rfl rfl) rfl
theorem dX10_join_54 : decode cX10_join 54 = .ok (.iload_n 2, 1) := op28 (bA_at bd09_89_dec_226 2 rfl rfl)
theorem dX10_join_55 : decode cX10_join 55 = .ok (.iload_n 3, 1) := op29 (bA_at bd09_89_dec_226 3 rfl rfl)
theorem dX10_join_56 : decode cX10_join 56 = .ok (.iload 4, 2) := op21 (bA_at bd09_89_dec_226 4 rfl rfl) rfl
theorem dX10_join_58 : decode cX10_join 58 = .ok (.invokevirtual 294, 3) := op182 (bA_at bd09_89_dec_226 5 rfl rfl) rfl
theorem dX10_join_61 : decode cX10_join 61 = .ok (.ireturn, 1) := op172 (bA_at bd09_89_dec_226 6 rfl rfl)
theorem bd09_89_dec_227 : ([(0, [42]), (1, [27]), (2, [182, 0, 89]), (5, [78]), (6, [45]), (7, [199, 0, 5]), (10, [2]), (11, [172]), (12, [42]), (13, [180, 0, 37]), (16, [45]), (17, [182, 0, 139])] : List (Nat × List UInt8)).all (fun x => prB x.2 ((cX10_slopes.data.toList.drop 0).drop x.1)) = true := by decide +kernel
theorem dX10_slopes_0 : decode cX10_slopes 0 = .ok (.aload_n 0, 1) := op42 (bA_at bd09_89_dec_227 0 rfl rfl)
theorem dX10_slopes_1 : decode cX10_slopes 1 = .ok (.iload_n 1, 1) := op27 (bA_at bd09_89_dec_227 1 rfl rfl)
theorem dX10_slopes_2 : decode cX10_slopes 2 = .ok (.invokevirtual 89, 3) := op182 (bA_at bd09_89_dec_227 2 rfl rfl) rfl
theorem dX10_slopes_5 : decode cX10_slopes 5 = .ok (.astore_n 3, 1) := op78 (bA_at bd09_89_dec_227 3 rfl rfl)
theorem dX10_slopes_6 : decode cX10_slopes 6 = .ok (.aload_n 3, 1) := op45 (bA_at bd09_89_dec_227 4 rfl rfl)
theorem dX10_slopes_7 : decode cX10_slopes 7 = .ok (.ifnonnull 5, 3) := op199 (bA_at bd09_89_dec_227 5 rfl rfl) (by decide +kernel)
theorem dX10_slopes_10 : decode cX10_slopes 10 = .ok (.iconst (-1), 1) := op2 (bA_at bd09_89_dec_227 6 rfl rfl)
theorem dX10_slopes_11 : decode cX10_slopes 11 = .ok (.ireturn, 1) := op172 (bA_at bd09_89_dec_227 7 rfl rfl)
theorem dX10_slopes_12 : decode cX10_slopes 12 = .ok (.aload_n 0, 1) := op42 (bA_at bd09_89_dec_227 8 rfl rfl)
theorem dX10_slopes_13 : decode cX10_slopes 13 = .ok (.getfield 37, 3) := op180 (bA_at bd09_89_dec_227 9 rfl rfl) rfl
theorem dX10_slopes_16 : decode cX10_slopes 16 = .ok (.aload_n 3, 1) := op45 (bA_at bd09_89_dec_227 10 rfl rfl)
theorem dX10_slopes_17 : decode cX10_slopes 17 = .ok (.invokevirtual 139, 3) := op182 (bA_at bd09_89_dec_227 11 rfl rfl) rfl
theorem dX10_slopes_21 : decode cX10_slopes 21 = .ok (.tableswitch 67 0 3 #[31, 40, 49, 58], 31) := by decide +kernel
theorem bd09_89_dec_228 : ([(0, [28]), (32, [42]), (33, [180, 0, 37]), (36, [45]), (37, [182, 1, 46]), (40, [172]), (41, [42]), (42, [180, 0, 37]), (45, [45]), (46, [182, 1, 49]), (49, [172])] : List (Nat × List UInt8)).all (fun x => prB x.2 ((cX10_slopes.data.toList.drop 20).drop x.1)) = true := by decide +kernel
theorem dX10_slopes_20 : decode cX10_slopes 20 = .ok (.iload_n 2, 1) := op28 (bA_at bd09_89_dec_228 0 rfl rfl)
theorem dX10_slopes_52 : decode cX10_slopes 52 = .ok (.aload_n 0, 1) := op42 (bA_at bd09_89_dec_228 1 rfl rfl)
theorem dX10_slopes_53 : decode cX10_slopes 53 = .ok (.getfield 37, 3) := op180 (bA_at bd09_89_dec_228 2 rfl rfl) rfl
theorem dX10_slopes_56 : decode cX10_slopes 56 = .ok (.aload_n 3, 1) := op45 (bA_at bd09_89_dec_228 3 rfl rfl)
theorem dX10_slopes_57 : decode cX10_slopes 57 = .ok (.invokevirtual 302, 3) := op182 (bA_at bd09_89_dec_228 4 rfl rfl) rfl
theorem dX10_slopes_60 : decode cX10_slopes 60 = .ok (.ireturn, 1) := op172 (bA_at bd09_89_dec_228 5 rfl rfl)
theorem dX10_slopes_61 : decode cX10_slopes 61 = .ok (.aload_n 0, 1) := op42 (bA_at bd09_89_dec_228 6 rfl rfl)
theorem dX10_slopes_62 : decode cX10_slopes 62 = .ok (.getfield 37, 3) := op180 (bA_at bd09_89_dec_228 7 rfl rfl) rfl
theorem dX10_slopes_65 : decode cX10_slopes 65 = .ok (.aload_n 3, 1) := op45 (bA_at bd09_89_dec_228 8 rfl rfl)
theorem dX10_slopes_66 : decode cX10_slopes 66 = .ok (.invokevirtual 305, 3) := op182 (bA_at bd09_89_dec_228 9 rfl rfl) rfl
theorem dX10_slopes_69 : decode cX10_slopes 69 = .ok (.ireturn, 1) := op172 (bA_at bd09_89_dec_228 10 rfl rfl)
theorem bd09_89_dec_229 : ([(0, [42]), (1, [180, 0, 37]), (4, [45]), (5, [182, 1, 52]), (8, [172]), (9, [42]), (10, [180, 0, 37]), (13, [45]), (14, [182, 1, 55]), (17, [172]), (18, [2]), (19, [172])] : List (Nat × List UInt8)).all (fun x => prB x.2 ((cX10_slopes.data.toList.drop 70).drop x.1)) = true := by decide +kernel
theorem dX10_slopes_70 : decode cX10_slopes 70 = .ok (.aload_n 0, 1) := op42 (bA_at bd09_89_dec_229 0 rfl rfl)
theorem dX10_slopes_71 : decode cX10_slopes 71 = .ok (.getfield 37, 3) := op180 (bA_at bd09_89_dec_229 1 rfl rfl) rfl
theorem dX10_slopes_74 : decode cX10_slopes 74 = .ok (.aload_n 3, 1) := op45 (bA_at bd09_89_dec_229 2 rfl rfl)
theorem dX10_slopes_75 : decode cX10_slopes 75 = .ok (.invokevirtual 308, 3) := op182 (bA_at bd09_89_dec_229 3 rfl rfl) rfl
theorem dX10_slopes_78 : decode cX10_slopes 78 = .ok (.ireturn, 1) := op172 (bA_at bd09_89_dec_229 4 rfl rfl)
theorem dX10_slopes_79 : decode cX10_slopes 79 = .ok (.aload_n 0, 1) := op42 (bA_at bd09_89_dec_229 5 rfl rfl)
theorem dX10_slopes_80 : decode cX10_slopes 80 = .ok (.getfield 37, 3) := op180 (bA_at bd09_89_dec_229 6 rfl rfl) rfl
theorem dX10_slopes_83 : decode cX10_slopes 83 = .ok (.aload_n 3, 1) := op45 (bA_at bd09_89_dec_229 7 rfl rfl)
theorem dX10_slopes_84 : decode cX10_slopes 84 = .ok (.invokevirtual 311, 3) := op182 (bA_at bd09_89_dec_229 8 rfl rfl) rfl
theorem dX10_slopes_87 : decode cX10_slopes 87 = .ok (.ireturn, 1) := op172 (bA_at bd09_89_dec_229 9 rfl rfl)
theorem dX10_slopes_88 : decode cX10_slopes 88 = .ok (.iconst (-1), 1) := op2 (bA_at bd09_89_dec_229 10 rfl rfl)
theorem dX10_slopes_89 : decode cX10_slopes 89 = .ok (.ireturn, 1) := op172 (bA_at bd09_89_dec_229 11 rfl rfl)
theorem bd09_89_dec_230 : ([(0, [42]), (1, [27]), (2, [182, 0, 89]), (5, [58, 5]), (7, [25, 5]), (9, [198, 0, 26]), (12, [25, 5]), (14, [28]), (15, [182, 0, 176]), (18, [153, 0, 17]), (21, [25, 5]), (23, [29])] : List (Nat × List UInt8)).all (fun x => prB x.2 ((cX10_flood.data.toList.drop 0).drop x.1)) = true := by decide +kernel
theorem dX10_flood_0 : decode cX10_flood 0 = .ok (.aload_n 0, 1) := op42 (bA_at bd09_89_dec_230 0 rfl rfl)
theorem dX10_flood_1 : decode cX10_flood 1 = .ok (.iload_n 1, 1) := op27 (bA_at bd09_89_dec_230 1 rfl rfl)
theorem dX10_flood_2 : decode cX10_flood 2 = .ok (.invokevirtual 89, 3) := op182 (bA_at bd09_89_dec_230 2 rfl rfl) rfl
theorem dX10_flood_5 : decode cX10_flood 5 = .ok (.astore 5, 2) := op58 (bA_at bd09_89_dec_230 3 rfl rfl) rfl
theorem dX10_flood_7 : decode cX10_flood 7 = .ok (.aload 5, 2) := op25 (bA_at bd09_89_dec_230 4 rfl rfl) rfl
theorem dX10_flood_9 : decode cX10_flood 9 = .ok (.ifnull 26, 3) := op198 (bA_at bd09_89_dec_230 5 rfl rfl) (by decide +kernel)
theorem dX10_flood_12 : decode cX10_flood 12 = .ok (.aload 5, 2) := op25 (bA_at bd09_89_dec_230 6 rfl rfl) rfl
theorem dX10_flood_14 : decode cX10_flood 14 = .ok (.iload_n 2, 1) := op28 (bA_at bd09_89_dec_230 7 rfl rfl)
theorem dX10_flood_15 : decode cX10_flood 15 = .ok (.invokevirtual 176, 3) := op182 (bA_at bd09_89_dec_230 8 rfl rfl) rfl
theorem dX10_flood_18 : decode cX10_flood 18 = .ok (.ifCond .eq 17, 3) := op153 (bA_at bd09_89_dec_230 9 rfl rfl) (by decide +kernel)
theorem dX10_flood_21 : decode cX10_flood 21 = .ok (.aload 5, 2) := op25 (bA_at bd09_89_dec_230 10 rfl rfl) rfl
theorem dX10_flood_23 : decode cX10_flood 23 = .ok (.iload_n 3, 1) := op29 (bA_at bd09_89_dec_230 11 rfl rfl)
theorem bd09_89_dec_231 : ([(0, [182, 0, 176]), (3, [153, 0, 8]), (6, [28]), (7, [29]), (8, [160, 0, 5]), (11, [2]), (12, [172]), (13, [42]), (14, [180, 0, 37]), (17, [25, 5]), (19, [182, 0, 179]), (22, [42])] : List (Nat × List UInt8)).all (fun x => prB x.2 ((cX10_flood.data.toList.drop 24).drop x.1)) = true := by decide +kernel
theorem dX10_flood_24 : decode cX10_flood 24 = .ok (.invokevirtual 176, 3) := op182 (bA_at bd09_89_dec_231 0 rfl rfl) rfl
theorem dX10_flood_27 : decode cX10_flood 27 = .ok (.ifCond .eq 8, 3) := op153 (bA_at bd09_89_dec_231 1 rfl rfl) (by decide +kernel)
theorem dX10_flood_30 : decode cX10_flood 30 = .ok (.iload_n 2, 1) := op28 (bA_at bd09_89_dec_231 2 rfl rfl)
theorem dX10_flood_31 : decode cX10_flood 31 = .ok (.iload_n 3, 1) := op29 (bA_at bd09_89_dec_231 3 rfl rfl)
theorem dX10_flood_32 : decode cX10_flood 32 = .ok (.if_icmp .ne 5, 3) := op160 (bA_at bd09_89_dec_231 4 rfl rfl) (by decide +kernel)
theorem dX10_flood_35 : decode cX10_flood 35 = .ok (.iconst (-1), 1) := op2 (bA_at bd09_89_dec_231 5 rfl rfl)
theorem dX10_flood_36 : decode cX10_flood 36 = .ok (.ireturn, 1) := op172 (bA_at bd09_89_dec_231 6 rfl rfl)
theorem dX10_flood_37 : decode cX10_flood 37 = .ok (.aload_n 0, 1) := op42 (bA_at bd09_89_dec_231 7 rfl rfl)
theorem dX10_flood_38 : decode cX10_flood 38 = .ok (.getfield 37, 3) := op180 (bA_at bd09_89_dec_231 8 rfl rfl) rfl
theorem dX10_flood_41 : decode cX10_flood 41 = .ok (.aload 5, 2) := op25 (bA_at bd09_89_dec_231 9 rfl rfl) rfl
theorem dX10_flood_43 : decode cX10_flood 43 = .ok (.invokevirtual 179, 3) := op182 (bA_at bd09_89_dec_231 10 rfl rfl) rfl
theorem dX10_flood_46 : decode cX10_flood 46 = .ok (.aload_n 0, 1) := op42 (bA_at bd09_89_dec_231 11 rfl rfl)
theorem bd09_89_dec_232 : ([(0, [180, 0, 37]), (3, [25, 5]), (5, [28]), (6, [29]), (7, [182, 1, 58]), (10, [54, 6]), (12, [21, 6]), (14, [2]), (15, [159, 0, 8]), (18, [21, 4]), (20, [153, 0, 8]), (23, [21, 6])] : List (Nat × List UInt8)).all (fun x => prB x.2 ((cX10_flood.data.toList.drop 47).drop x.1)) = true := by decide +kernel
theorem dX10_flood_47 : decode cX10_flood 47 = .ok (.getfield 37, 3) := op180 (bA_at bd09_89_dec_232 0 rfl rfl) rfl
theorem dX10_flood_50 : decode cX10_flood 50 = .ok (.aload 5, 2) := op25 (bA_at bd09_89_dec_232 1 rfl rfl) rfl
theorem dX10_flood_52 : decode cX10_flood 52 = .ok (.iload_n 2, 1) := op28 (bA_at bd09_89_dec_232 2 rfl rfl)
theorem dX10_flood_53 : decode cX10_flood 53 = .ok (.iload_n 3, 1) := op29 (bA_at bd09_89_dec_232 3 rfl rfl)
theorem dX10_flood_54 : decode cX10_flood 54 = .ok (.invokevirtual 314, 3) := op182 (bA_at bd09_89_dec_232 4 rfl rfl) rfl
theorem dX10_flood_57 : decode cX10_flood 57 = .ok (.istore 6, 2) := op54 (bA_at bd09_89_dec_232 5 rfl rfl) rfl
theorem dX10_flood_59 : decode cX10_flood 59 = .ok (.iload 6, 2) := op21 (bA_at bd09_89_dec_232 6 rfl rfl) rfl
theorem dX10_flood_61 : decode cX10_flood 61 = .ok (.iconst (-1), 1) := op2 (bA_at bd09_89_dec_232 7 rfl rfl)
theorem dX10_flood_62 : decode cX10_flood 62 = .ok (.if_icmp .eq 8, 3) := op159 (bA_at bd09_89_dec_232 8 rfl rfl) (by decide +kernel)
theorem dX10_flood_65 : decode cX10_flood 65 = .ok (.iload 4, 2) := op21 (bA_at bd09_89_dec_232 9 rfl rfl) rfl
theorem dX10_flood_67 : decode cX10_flood 67 = .ok (.ifCond .eq 8, 3) := op153 (bA_at bd09_89_dec_232 10 rfl rfl) (by decide +kernel)
theorem dX10_flood_70 : decode cX10_flood 70 = .ok (.iload 6, 2) := op21 (bA_at bd09_89_dec_232 11 rfl rfl) rfl
theorem bd09_89_dec_233 : ([(0, [167, 0, 8]), (3, [21, 6]), (5, [184, 0, 191]), (8, [172])] : List (Nat × List UInt8)).all (fun x => prB x.2 ((cX10_flood.data.toList.drop 72).drop x.1)) = true := by decide +kernel
theorem dX10_flood_72 : decode cX10_flood 72 = .ok (.goto 8, 3) := op167 (bA_at bd09_89_dec_233 0 rfl rfl) (by decide +kernel)
theorem dX10_flood_75 : decode cX10_flood 75 = .ok (.iload 6, 2) := op21 (bA_at bd09_89_dec_233 1 rfl rfl) rfl
theorem dX10_flood_77 : decode cX10_flood 77 = .ok (.invokestatic 191, 3) := op184 (bA_at bd09_89_dec_233 2 rfl rfl) rfl
theorem dX10_flood_80 : decode cX10_flood 80 = .ok (.ireturn, 1) := op172 (bA_at bd09_89_dec_233 3 rfl rfl)
theorem bd09_89_dec_234 : ([(0, [21, 4]), (2, [155, 0, 19]), (5, [21, 4]), (7, [8]), (8, [162, 0, 13]), (11, [42]), (12, [27]), (13, [28]), (14, [29]), (15, [182, 0, 124]), (18, [154, 0, 5]), (21, [2])] : List (Nat × List UInt8)).all (fun x => prB x.2 ((cX10_teach.data.toList.drop 0).drop x.1)) = true := by decide +kernel
theorem dX10_teach_0 : decode cX10_teach 0 = .ok (.iload 4, 2) := op21 (bA_at bd09_89_dec_234 0 rfl rfl) rfl
theorem dX10_teach_2 : decode cX10_teach 2 = .ok (.ifCond .lt 19, 3) := op155 (bA_at bd09_89_dec_234 1 rfl rfl) (by decide +kernel)
theorem dX10_teach_5 : decode cX10_teach 5 = .ok (.iload 4, 2) := op21 (bA_at bd09_89_dec_234 2 rfl rfl) rfl
theorem dX10_teach_7 : decode cX10_teach 7 = .ok (.iconst 5, 1) := op8 (bA_at bd09_89_dec_234 3 rfl rfl)
theorem dX10_teach_8 : decode cX10_teach 8 = .ok (.if_icmp .ge 13, 3) := op162 (bA_at bd09_89_dec_234 4 rfl rfl) (by decide +kernel)
theorem dX10_teach_11 : decode cX10_teach 11 = .ok (.aload_n 0, 1) := op42 (bA_at bd09_89_dec_234 5 rfl rfl)
theorem dX10_teach_12 : decode cX10_teach 12 = .ok (.iload_n 1, 1) := op27 (bA_at bd09_89_dec_234 6 rfl rfl)
theorem dX10_teach_13 : decode cX10_teach 13 = .ok (.iload_n 2, 1) := op28 (bA_at bd09_89_dec_234 7 rfl rfl)
theorem dX10_teach_14 : decode cX10_teach 14 = .ok (.iload_n 3, 1) := op29 (bA_at bd09_89_dec_234 8 rfl rfl)
theorem dX10_teach_15 : decode cX10_teach 15 = .ok (.invokevirtual 124, 3) := op182 (bA_at bd09_89_dec_234 9 rfl rfl) rfl
theorem dX10_teach_18 : decode cX10_teach 18 = .ok (.ifCond .ne 5, 3) := op154 (bA_at bd09_89_dec_234 10 rfl rfl) (by decide +kernel)
theorem dX10_teach_21 : decode cX10_teach 21 = .ok (.iconst (-1), 1) := op2 (bA_at bd09_89_dec_234 11 rfl rfl)
theorem bd09_89_dec_235 : ([(0, [172]), (1, [42]), (2, [180, 0, 30]), (5, [42]), (6, [180, 0, 10]), (9, [180, 0, 128]), (12, [27]), (13, [50]), (14, [21, 4]), (16, [182, 1, 61]), (19, [172])] : List (Nat × List UInt8)).all (fun x => prB x.2 ((cX10_teach.data.toList.drop 22).drop x.1)) = true := by decide +kernel
theorem dX10_teach_22 : decode cX10_teach 22 = .ok (.ireturn, 1) := op172 (bA_at bd09_89_dec_235 0 rfl rfl)
theorem dX10_teach_23 : decode cX10_teach 23 = .ok (.aload_n 0, 1) := op42 (bA_at bd09_89_dec_235 1 rfl rfl)
theorem dX10_teach_24 : decode cX10_teach 24 = .ok (.getfield 30, 3) := op180 (bA_at bd09_89_dec_235 2 rfl rfl) rfl
theorem dX10_teach_27 : decode cX10_teach 27 = .ok (.aload_n 0, 1) := op42 (bA_at bd09_89_dec_235 3 rfl rfl)
theorem dX10_teach_28 : decode cX10_teach 28 = .ok (.getfield 10, 3) := op180 (bA_at bd09_89_dec_235 4 rfl rfl) rfl
theorem dX10_teach_31 : decode cX10_teach 31 = .ok (.getfield 128, 3) := op180 (bA_at bd09_89_dec_235 5 rfl rfl) rfl
theorem dX10_teach_34 : decode cX10_teach 34 = .ok (.iload_n 1, 1) := op27 (bA_at bd09_89_dec_235 6 rfl rfl)
theorem dX10_teach_35 : decode cX10_teach 35 = .ok (.aaload, 1) := op50 (bA_at bd09_89_dec_235 7 rfl rfl)
theorem dX10_teach_36 : decode cX10_teach 36 = .ok (.iload 4, 2) := op21 (bA_at bd09_89_dec_235 8 rfl rfl) rfl
theorem dX10_teach_38 : decode cX10_teach 38 = .ok (.invokevirtual 317, 3) := op182 (bA_at bd09_89_dec_235 9 rfl rfl) rfl
theorem dX10_teach_41 : decode cX10_teach 41 = .ok (.ireturn, 1) := op172 (bA_at bd09_89_dec_235 10 rfl rfl)
theorem bd09_89_dec_236 : ([(0, [27]), (1, [155, 0, 8]), (4, [27]), (5, [7]), (6, [161, 0, 8]), (9, [16, 254]), (11, [167, 0, 12]), (14, [42]), (15, [180, 0, 10]), (18, [180, 1, 64]), (21, [27]), (22, [46])] : List (Nat × List UInt8)).all (fun x => prB x.2 ((cX10_count.data.toList.drop 0).drop x.1)) = true := by decide +kernel
theorem dX10_count_0 : decode cX10_count 0 = .ok (.iload_n 1, 1) := op27 (bA_at bd09_89_dec_236 0 rfl rfl)
theorem dX10_count_1 : decode cX10_count 1 = .ok (.ifCond .lt 8, 3) := op155 (bA_at bd09_89_dec_236 1 rfl rfl) (by decide +kernel)
theorem dX10_count_4 : decode cX10_count 4 = .ok (.iload_n 1, 1) := op27 (bA_at bd09_89_dec_236 2 rfl rfl)
theorem dX10_count_5 : decode cX10_count 5 = .ok (.iconst 4, 1) := op7 (bA_at bd09_89_dec_236 3 rfl rfl)
theorem dX10_count_6 : decode cX10_count 6 = .ok (.if_icmp .lt 8, 3) := op161 (bA_at bd09_89_dec_236 4 rfl rfl) (by decide +kernel)
theorem dX10_count_9 : decode cX10_count 9 = .ok (.bipush (-2), 2) := op16 (bA_at bd09_89_dec_236 5 rfl rfl) (by decide +kernel)
theorem dX10_count_11 : decode cX10_count 11 = .ok (.goto 12, 3) := op167 (bA_at bd09_89_dec_236 6 rfl rfl) (by decide +kernel)
theorem dX10_count_14 : decode cX10_count 14 = .ok (.aload_n 0, 1) := op42 (bA_at bd09_89_dec_236 7 rfl rfl)
theorem dX10_count_15 : decode cX10_count 15 = .ok (.getfield 10, 3) := op180 (bA_at bd09_89_dec_236 8 rfl rfl) rfl
theorem dX10_count_18 : decode cX10_count 18 = .ok (.getfield 320, 3) := op180 (bA_at bd09_89_dec_236 9 rfl rfl) rfl
theorem dX10_count_21 : decode cX10_count 21 = .ok (.iload_n 1, 1) := op27 (bA_at bd09_89_dec_236 10 rfl rfl)
theorem dX10_count_22 : decode cX10_count 22 = .ok (.iaload, 1) := op46 (bA_at bd09_89_dec_236 11 rfl rfl)
theorem bd09_89_dec_237 : ([(0, [172])] : List (Nat × List UInt8)).all (fun x => prB x.2 ((cX10_count.data.toList.drop 23).drop x.1)) = true := by decide +kernel
theorem dX10_count_23 : decode cX10_count 23 = .ok (.ireturn, 1) := op172 (bA_at bd09_89_dec_237 0 rfl rfl)
theorem bd09_89_dec_238 : ([(0, [27]), (1, [155, 0, 8]), (4, [27]), (5, [7]), (6, [161, 0, 6]), (9, [16, 254]), (11, [172]), (12, [42]), (13, [180, 0, 10]), (16, [180, 1, 64]), (19, [27]), (20, [46])] : List (Nat × List UInt8)).all (fun x => prB x.2 ((cX10_numberFor.data.toList.drop 0).drop x.1)) = true := by decide +kernel
theorem dX10_numberFor_0 : decode cX10_numberFor 0 = .ok (.iload_n 1, 1) := op27 (bA_at bd09_89_dec_238 0 rfl rfl)
theorem dX10_numberFor_1 : decode cX10_numberFor 1 = .ok (.ifCond .lt 8, 3) := op155 (bA_at bd09_89_dec_238 1 rfl rfl) (by decide +kernel)
theorem dX10_numberFor_4 : decode cX10_numberFor 4 = .ok (.iload_n 1, 1) := op27 (bA_at bd09_89_dec_238 2 rfl rfl)
theorem dX10_numberFor_5 : decode cX10_numberFor 5 = .ok (.iconst 4, 1) := op7 (bA_at bd09_89_dec_238 3 rfl rfl)
theorem dX10_numberFor_6 : decode cX10_numberFor 6 = .ok (.if_icmp .lt 6, 3) := op161 (bA_at bd09_89_dec_238 4 rfl rfl) (by decide +kernel)
theorem dX10_numberFor_9 : decode cX10_numberFor 9 = .ok (.bipush (-2), 2) := op16 (bA_at bd09_89_dec_238 5 rfl rfl) (by decide +kernel)
theorem dX10_numberFor_11 : decode cX10_numberFor 11 = .ok (.ireturn, 1) := op172 (bA_at bd09_89_dec_238 6 rfl rfl)
theorem dX10_numberFor_12 : decode cX10_numberFor 12 = .ok (.aload_n 0, 1) := op42 (bA_at bd09_89_dec_238 7 rfl rfl)
theorem dX10_numberFor_13 : decode cX10_numberFor 13 = .ok (.getfield 10, 3) := op180 (bA_at bd09_89_dec_238 8 rfl rfl) rfl
theorem dX10_numberFor_16 : decode cX10_numberFor 16 = .ok (.getfield 320, 3) := op180 (bA_at bd09_89_dec_238 9 rfl rfl) rfl
theorem dX10_numberFor_19 : decode cX10_numberFor 19 = .ok (.iload_n 1, 1) := op27 (bA_at bd09_89_dec_238 10 rfl rfl)
theorem dX10_numberFor_20 : decode cX10_numberFor 20 = .ok (.iaload, 1) := op46 (bA_at bd09_89_dec_238 11 rfl rfl)
theorem bd09_89_dec_239 : ([(0, [62]), (1, [28]), (2, [2]), (3, [160, 0, 15]), (6, [29]), (7, [5]), (8, [162, 0, 7]), (11, [29]), (12, [167, 0, 5]), (15, [16, 254]), (17, [172]), (18, [28])] : List (Nat × List UInt8)).all (fun x => prB x.2 ((cX10_numberFor.data.toList.drop 21).drop x.1)) = true := by decide +kernel
theorem dX10_numberFor_21 : decode cX10_numberFor 21 = .ok (.istore_n 3, 1) := op62 (bA_at bd09_89_dec_239 0 rfl rfl)
theorem dX10_numberFor_22 : decode cX10_numberFor 22 = .ok (.iload_n 2, 1) := op28 (bA_at bd09_89_dec_239 1 rfl rfl)
theorem dX10_numberFor_23 : decode cX10_numberFor 23 = .ok (.iconst (-1), 1) := op2 (bA_at bd09_89_dec_239 2 rfl rfl)
theorem dX10_numberFor_24 : decode cX10_numberFor 24 = .ok (.if_icmp .ne 15, 3) := op160 (bA_at bd09_89_dec_239 3 rfl rfl) (by decide +kernel)
theorem dX10_numberFor_27 : decode cX10_numberFor 27 = .ok (.iload_n 3, 1) := op29 (bA_at bd09_89_dec_239 4 rfl rfl)
theorem dX10_numberFor_28 : decode cX10_numberFor 28 = .ok (.iconst 2, 1) := op5 (bA_at bd09_89_dec_239 5 rfl rfl)
theorem dX10_numberFor_29 : decode cX10_numberFor 29 = .ok (.if_icmp .ge 7, 3) := op162 (bA_at bd09_89_dec_239 6 rfl rfl) (by decide +kernel)
theorem dX10_numberFor_32 : decode cX10_numberFor 32 = .ok (.iload_n 3, 1) := op29 (bA_at bd09_89_dec_239 7 rfl rfl)
theorem dX10_numberFor_33 : decode cX10_numberFor 33 = .ok (.goto 5, 3) := op167 (bA_at bd09_89_dec_239 8 rfl rfl) (by decide +kernel)
theorem dX10_numberFor_36 : decode cX10_numberFor 36 = .ok (.bipush (-2), 2) := op16 (bA_at bd09_89_dec_239 9 rfl rfl) (by decide +kernel)
theorem dX10_numberFor_38 : decode cX10_numberFor 38 = .ok (.ireturn, 1) := op172 (bA_at bd09_89_dec_239 10 rfl rfl)
theorem dX10_numberFor_39 : decode cX10_numberFor 39 = .ok (.iload_n 2, 1) := op28 (bA_at bd09_89_dec_239 11 rfl rfl)
theorem bd09_89_dec_240 : ([(0, [155, 0, 12]), (3, [28]), (4, [29]), (5, [162, 0, 7]), (8, [28]), (9, [167, 0, 5]), (12, [16, 254]), (14, [172])] : List (Nat × List UInt8)).all (fun x => prB x.2 ((cX10_numberFor.data.toList.drop 40).drop x.1)) = true := by decide +kernel
theorem dX10_numberFor_40 : decode cX10_numberFor 40 = .ok (.ifCond .lt 12, 3) := op155 (bA_at bd09_89_dec_240 0 rfl rfl) (by decide +kernel)
theorem dX10_numberFor_43 : decode cX10_numberFor 43 = .ok (.iload_n 2, 1) := op28 (bA_at bd09_89_dec_240 1 rfl rfl)
theorem dX10_numberFor_44 : decode cX10_numberFor 44 = .ok (.iload_n 3, 1) := op29 (bA_at bd09_89_dec_240 2 rfl rfl)
theorem dX10_numberFor_45 : decode cX10_numberFor 45 = .ok (.if_icmp .ge 7, 3) := op162 (bA_at bd09_89_dec_240 3 rfl rfl) (by decide +kernel)
theorem dX10_numberFor_48 : decode cX10_numberFor 48 = .ok (.iload_n 2, 1) := op28 (bA_at bd09_89_dec_240 4 rfl rfl)
theorem dX10_numberFor_49 : decode cX10_numberFor 49 = .ok (.goto 5, 3) := op167 (bA_at bd09_89_dec_240 5 rfl rfl) (by decide +kernel)
theorem dX10_numberFor_52 : decode cX10_numberFor 52 = .ok (.bipush (-2), 2) := op16 (bA_at bd09_89_dec_240 6 rfl rfl) (by decide +kernel)
theorem dX10_numberFor_54 : decode cX10_numberFor 54 = .ok (.ireturn, 1) := op172 (bA_at bd09_89_dec_240 7 rfl rfl)
theorem bd09_89_dec_241 : ([(0, [27]), (1, [154, 0, 25]), (4, [42]), (5, [180, 0, 10]), (8, [180, 0, 128]), (11, [28]), (12, [50]), (13, [42]), (14, [180, 0, 23]), (17, [180, 1, 71]), (20, [182, 1, 75]), (23, [167, 0, 76])] : List (Nat × List UInt8)).all (fun x => prB x.2 ((cX10_keep.data.toList.drop 0).drop x.1)) = true := by decide +kernel
theorem dX10_keep_0 : decode cX10_keep 0 = .ok (.iload_n 1, 1) := op27 (bA_at bd09_89_dec_241 0 rfl rfl)
theorem dX10_keep_1 : decode cX10_keep 1 = .ok (.ifCond .ne 25, 3) := op154 (bA_at bd09_89_dec_241 1 rfl rfl) (by decide +kernel)
theorem dX10_keep_4 : decode cX10_keep 4 = .ok (.aload_n 0, 1) := op42 (bA_at bd09_89_dec_241 2 rfl rfl)
theorem dX10_keep_5 : decode cX10_keep 5 = .ok (.getfield 10, 3) := op180 (bA_at bd09_89_dec_241 3 rfl rfl) rfl
theorem dX10_keep_8 : decode cX10_keep 8 = .ok (.getfield 128, 3) := op180 (bA_at bd09_89_dec_241 4 rfl rfl) rfl
theorem dX10_keep_11 : decode cX10_keep 11 = .ok (.iload_n 2, 1) := op28 (bA_at bd09_89_dec_241 5 rfl rfl)
theorem dX10_keep_12 : decode cX10_keep 12 = .ok (.aaload, 1) := op50 (bA_at bd09_89_dec_241 6 rfl rfl)
theorem dX10_keep_13 : decode cX10_keep 13 = .ok (.aload_n 0, 1) := op42 (bA_at bd09_89_dec_241 7 rfl rfl)
theorem dX10_keep_14 : decode cX10_keep 14 = .ok (.getfield 23, 3) := op180 (bA_at bd09_89_dec_241 8 rfl rfl) rfl
theorem dX10_keep_17 : decode cX10_keep 17 = .ok (.getfield 327, 3) := op180 (bA_at bd09_89_dec_241 9 rfl rfl) rfl
theorem dX10_keep_20 : decode cX10_keep 20 = .ok (.invokevirtual 331, 3) := op182 (bA_at bd09_89_dec_241 10 rfl rfl) rfl
theorem dX10_keep_23 : decode cX10_keep 23 = .ok (.goto 76, 3) := op167 (bA_at bd09_89_dec_241 11 rfl rfl) (by decide +kernel)
theorem bd09_89_dec_242 : ([(0, [27]), (1, [4]), (2, [160, 0, 25]), (5, [42]), (6, [180, 0, 10]), (9, [180, 1, 77]), (12, [28]), (13, [50]), (14, [42]), (15, [180, 0, 23]), (18, [180, 1, 81]), (21, [182, 1, 85])] : List (Nat × List UInt8)).all (fun x => prB x.2 ((cX10_keep.data.toList.drop 26).drop x.1)) = true := by decide +kernel
theorem dX10_keep_26 : decode cX10_keep 26 = .ok (.iload_n 1, 1) := op27 (bA_at bd09_89_dec_242 0 rfl rfl)
theorem dX10_keep_27 : decode cX10_keep 27 = .ok (.iconst 1, 1) := op4 (bA_at bd09_89_dec_242 1 rfl rfl)
theorem dX10_keep_28 : decode cX10_keep 28 = .ok (.if_icmp .ne 25, 3) := op160 (bA_at bd09_89_dec_242 2 rfl rfl) (by decide +kernel)
theorem dX10_keep_31 : decode cX10_keep 31 = .ok (.aload_n 0, 1) := op42 (bA_at bd09_89_dec_242 3 rfl rfl)
theorem dX10_keep_32 : decode cX10_keep 32 = .ok (.getfield 10, 3) := op180 (bA_at bd09_89_dec_242 4 rfl rfl) rfl
theorem dX10_keep_35 : decode cX10_keep 35 = .ok (.getfield 333, 3) := op180 (bA_at bd09_89_dec_242 5 rfl rfl) rfl
theorem dX10_keep_38 : decode cX10_keep 38 = .ok (.iload_n 2, 1) := op28 (bA_at bd09_89_dec_242 6 rfl rfl)
theorem dX10_keep_39 : decode cX10_keep 39 = .ok (.aaload, 1) := op50 (bA_at bd09_89_dec_242 7 rfl rfl)
theorem dX10_keep_40 : decode cX10_keep 40 = .ok (.aload_n 0, 1) := op42 (bA_at bd09_89_dec_242 8 rfl rfl)
theorem dX10_keep_41 : decode cX10_keep 41 = .ok (.getfield 23, 3) := op180 (bA_at bd09_89_dec_242 9 rfl rfl) rfl
theorem dX10_keep_44 : decode cX10_keep 44 = .ok (.getfield 337, 3) := op180 (bA_at bd09_89_dec_242 10 rfl rfl) rfl
theorem dX10_keep_47 : decode cX10_keep 47 = .ok (.invokevirtual 341, 3) := op182 (bA_at bd09_89_dec_242 11 rfl rfl) rfl
theorem bd09_89_dec_243 : ([(0, [167, 0, 49]), (3, [27]), (4, [5]), (5, [160, 0, 25]), (8, [42]), (9, [180, 0, 10]), (12, [180, 1, 88]), (15, [28]), (16, [50]), (17, [42]), (18, [180, 0, 23]), (21, [180, 1, 92])] : List (Nat × List UInt8)).all (fun x => prB x.2 ((cX10_keep.data.toList.drop 50).drop x.1)) = true := by decide +kernel
theorem dX10_keep_50 : decode cX10_keep 50 = .ok (.goto 49, 3) := op167 (bA_at bd09_89_dec_243 0 rfl rfl) (by decide +kernel)
theorem dX10_keep_53 : decode cX10_keep 53 = .ok (.iload_n 1, 1) := op27 (bA_at bd09_89_dec_243 1 rfl rfl)
theorem dX10_keep_54 : decode cX10_keep 54 = .ok (.iconst 2, 1) := op5 (bA_at bd09_89_dec_243 2 rfl rfl)
theorem dX10_keep_55 : decode cX10_keep 55 = .ok (.if_icmp .ne 25, 3) := op160 (bA_at bd09_89_dec_243 3 rfl rfl) (by decide +kernel)
theorem dX10_keep_58 : decode cX10_keep 58 = .ok (.aload_n 0, 1) := op42 (bA_at bd09_89_dec_243 4 rfl rfl)
theorem dX10_keep_59 : decode cX10_keep 59 = .ok (.getfield 10, 3) := op180 (bA_at bd09_89_dec_243 5 rfl rfl) rfl
theorem dX10_keep_62 : decode cX10_keep 62 = .ok (.getfield 344, 3) := op180 (bA_at bd09_89_dec_243 6 rfl rfl) rfl
theorem dX10_keep_65 : decode cX10_keep 65 = .ok (.iload_n 2, 1) := op28 (bA_at bd09_89_dec_243 7 rfl rfl)
theorem dX10_keep_66 : decode cX10_keep 66 = .ok (.aaload, 1) := op50 (bA_at bd09_89_dec_243 8 rfl rfl)
theorem dX10_keep_67 : decode cX10_keep 67 = .ok (.aload_n 0, 1) := op42 (bA_at bd09_89_dec_243 9 rfl rfl)
theorem dX10_keep_68 : decode cX10_keep 68 = .ok (.getfield 23, 3) := op180 (bA_at bd09_89_dec_243 10 rfl rfl) rfl
theorem dX10_keep_71 : decode cX10_keep 71 = .ok (.getfield 348, 3) := op180 (bA_at bd09_89_dec_243 11 rfl rfl) rfl
theorem bd09_89_dec_244 : ([(0, [182, 1, 96]), (3, [167, 0, 22]), (6, [42]), (7, [180, 0, 10]), (10, [180, 1, 99]), (13, [28]), (14, [50]), (15, [42]), (16, [180, 0, 23]), (19, [180, 1, 103]), (22, [182, 1, 107]), (25, [42])] : List (Nat × List UInt8)).all (fun x => prB x.2 ((cX10_keep.data.toList.drop 74).drop x.1)) = true := by decide +kernel
theorem dX10_keep_74 : decode cX10_keep 74 = .ok (.invokevirtual 352, 3) := op182 (bA_at bd09_89_dec_244 0 rfl rfl) rfl
theorem dX10_keep_77 : decode cX10_keep 77 = .ok (.goto 22, 3) := op167 (bA_at bd09_89_dec_244 1 rfl rfl) (by decide +kernel)
theorem dX10_keep_80 : decode cX10_keep 80 = .ok (.aload_n 0, 1) := op42 (bA_at bd09_89_dec_244 2 rfl rfl)
theorem dX10_keep_81 : decode cX10_keep 81 = .ok (.getfield 10, 3) := op180 (bA_at bd09_89_dec_244 3 rfl rfl) rfl
theorem dX10_keep_84 : decode cX10_keep 84 = .ok (.getfield 355, 3) := op180 (bA_at bd09_89_dec_244 4 rfl rfl) rfl
theorem dX10_keep_87 : decode cX10_keep 87 = .ok (.iload_n 2, 1) := op28 (bA_at bd09_89_dec_244 5 rfl rfl)
theorem dX10_keep_88 : decode cX10_keep 88 = .ok (.aaload, 1) := op50 (bA_at bd09_89_dec_244 6 rfl rfl)
theorem dX10_keep_89 : decode cX10_keep 89 = .ok (.aload_n 0, 1) := op42 (bA_at bd09_89_dec_244 7 rfl rfl)
theorem dX10_keep_90 : decode cX10_keep 90 = .ok (.getfield 23, 3) := op180 (bA_at bd09_89_dec_244 8 rfl rfl) rfl
theorem dX10_keep_93 : decode cX10_keep 93 = .ok (.getfield 359, 3) := op180 (bA_at bd09_89_dec_244 9 rfl rfl) rfl
theorem dX10_keep_96 : decode cX10_keep 96 = .ok (.invokevirtual 363, 3) := op182 (bA_at bd09_89_dec_244 10 rfl rfl) rfl
theorem dX10_keep_99 : decode cX10_keep 99 = .ok (.aload_n 0, 1) := op42 (bA_at bd09_89_dec_244 11 rfl rfl)
theorem bd09_89_dec_245 : ([(0, [180, 0, 10]), (3, [180, 1, 64]), (6, [27]), (7, [42]), (8, [180, 0, 10]), (11, [180, 1, 64]), (14, [27]), (15, [46]), (16, [28]), (17, [4]), (18, [96]), (19, [184, 1, 109])] : List (Nat × List UInt8)).all (fun x => prB x.2 ((cX10_keep.data.toList.drop 100).drop x.1)) = true := by decide +kernel
theorem dX10_keep_100 : decode cX10_keep 100 = .ok (.getfield 10, 3) := op180 (bA_at bd09_89_dec_245 0 rfl rfl) rfl
theorem dX10_keep_103 : decode cX10_keep 103 = .ok (.getfield 320, 3) := op180 (bA_at bd09_89_dec_245 1 rfl rfl) rfl
theorem dX10_keep_106 : decode cX10_keep 106 = .ok (.iload_n 1, 1) := op27 (bA_at bd09_89_dec_245 2 rfl rfl)
theorem dX10_keep_107 : decode cX10_keep 107 = .ok (.aload_n 0, 1) := op42 (bA_at bd09_89_dec_245 3 rfl rfl)
theorem dX10_keep_108 : decode cX10_keep 108 = .ok (.getfield 10, 3) := op180 (bA_at bd09_89_dec_245 4 rfl rfl) rfl
theorem dX10_keep_111 : decode cX10_keep 111 = .ok (.getfield 320, 3) := op180 (bA_at bd09_89_dec_245 5 rfl rfl) rfl
theorem dX10_keep_114 : decode cX10_keep 114 = .ok (.iload_n 1, 1) := op27 (bA_at bd09_89_dec_245 6 rfl rfl)
theorem dX10_keep_115 : decode cX10_keep 115 = .ok (.iaload, 1) := op46 (bA_at bd09_89_dec_245 7 rfl rfl)
theorem dX10_keep_116 : decode cX10_keep 116 = .ok (.iload_n 2, 1) := op28 (bA_at bd09_89_dec_245 8 rfl rfl)
theorem dX10_keep_117 : decode cX10_keep 117 = .ok (.iconst 1, 1) := op4 (bA_at bd09_89_dec_245 9 rfl rfl)
theorem dX10_keep_118 : decode cX10_keep 118 = .ok (.iadd, 1) := op96 (bA_at bd09_89_dec_245 10 rfl rfl)
theorem dX10_keep_119 : decode cX10_keep 119 = .ok (.invokestatic 365, 3) := op184 (bA_at bd09_89_dec_245 11 rfl rfl) rfl
theorem bd09_89_dec_246 : ([(0, [79]), (1, [177])] : List (Nat × List UInt8)).all (fun x => prB x.2 ((cX10_keep.data.toList.drop 122).drop x.1)) = true := by decide +kernel
theorem dX10_keep_122 : decode cX10_keep 122 = .ok (.iastore, 1) := op79 (bA_at bd09_89_dec_246 0 rfl rfl)
theorem dX10_keep_123 : decode cX10_keep 123 = .ok (.return_, 1) := op177 (bA_at bd09_89_dec_246 1 rfl rfl)
theorem bd09_89_dec_247 : ([(0, [27]), (1, [155, 0, 28]), (4, [27]), (5, [42]), (6, [180, 0, 10]), (9, [180, 1, 64]), (12, [3]), (13, [46]), (14, [162, 0, 15]), (17, [42]), (18, [180, 0, 10]), (21, [180, 0, 128])] : List (Nat × List UInt8)).all (fun x => prB x.2 ((cX10_landAt.data.toList.drop 0).drop x.1)) = true := by decide +kernel
theorem dX10_landAt_0 : decode cX10_landAt 0 = .ok (.iload_n 1, 1) := op27 (bA_at bd09_89_dec_247 0 rfl rfl)
theorem dX10_landAt_1 : decode cX10_landAt 1 = .ok (.ifCond .lt 28, 3) := op155 (bA_at bd09_89_dec_247 1 rfl rfl) (by decide +kernel)
theorem dX10_landAt_4 : decode cX10_landAt 4 = .ok (.iload_n 1, 1) := op27 (bA_at bd09_89_dec_247 2 rfl rfl)
theorem dX10_landAt_5 : decode cX10_landAt 5 = .ok (.aload_n 0, 1) := op42 (bA_at bd09_89_dec_247 3 rfl rfl)
theorem dX10_landAt_6 : decode cX10_landAt 6 = .ok (.getfield 10, 3) := op180 (bA_at bd09_89_dec_247 4 rfl rfl) rfl
theorem dX10_landAt_9 : decode cX10_landAt 9 = .ok (.getfield 320, 3) := op180 (bA_at bd09_89_dec_247 5 rfl rfl) rfl
theorem dX10_landAt_12 : decode cX10_landAt 12 = .ok (.iconst 0, 1) := op3 (bA_at bd09_89_dec_247 6 rfl rfl)
theorem dX10_landAt_13 : decode cX10_landAt 13 = .ok (.iaload, 1) := op46 (bA_at bd09_89_dec_247 7 rfl rfl)
theorem dX10_landAt_14 : decode cX10_landAt 14 = .ok (.if_icmp .ge 15, 3) := op162 (bA_at bd09_89_dec_247 8 rfl rfl) (by decide +kernel)
theorem dX10_landAt_17 : decode cX10_landAt 17 = .ok (.aload_n 0, 1) := op42 (bA_at bd09_89_dec_247 9 rfl rfl)
theorem dX10_landAt_18 : decode cX10_landAt 18 = .ok (.getfield 10, 3) := op180 (bA_at bd09_89_dec_247 10 rfl rfl) rfl
theorem dX10_landAt_21 : decode cX10_landAt 21 = .ok (.getfield 128, 3) := op180 (bA_at bd09_89_dec_247 11 rfl rfl) rfl
theorem bd09_89_dec_248 : ([(0, [27]), (1, [50]), (2, [167, 0, 4]), (5, [1]), (6, [176])] : List (Nat × List UInt8)).all (fun x => prB x.2 ((cX10_landAt.data.toList.drop 24).drop x.1)) = true := by decide +kernel
theorem dX10_landAt_24 : decode cX10_landAt 24 = .ok (.iload_n 1, 1) := op27 (bA_at bd09_89_dec_248 0 rfl rfl)
theorem dX10_landAt_25 : decode cX10_landAt 25 = .ok (.aaload, 1) := op50 (bA_at bd09_89_dec_248 1 rfl rfl)
theorem dX10_landAt_26 : decode cX10_landAt 26 = .ok (.goto 4, 3) := op167 (bA_at bd09_89_dec_248 2 rfl rfl) (by decide +kernel)
theorem dX10_landAt_29 : decode cX10_landAt 29 = .ok (.aconst_null, 1) := op1 (bA_at bd09_89_dec_248 3 rfl rfl)
theorem dX10_landAt_30 : decode cX10_landAt 30 = .ok (.areturn, 1) := op176 (bA_at bd09_89_dec_248 4 rfl rfl)
theorem bd09_89_dec_249 : ([(0, [27]), (1, [155, 0, 28]), (4, [27]), (5, [42]), (6, [180, 0, 10]), (9, [180, 1, 64]), (12, [4]), (13, [46]), (14, [162, 0, 15]), (17, [42]), (18, [180, 0, 10]), (21, [180, 1, 77])] : List (Nat × List UInt8)).all (fun x => prB x.2 ((cX10_eveningAt.data.toList.drop 0).drop x.1)) = true := by decide +kernel
theorem dX10_eveningAt_0 : decode cX10_eveningAt 0 = .ok (.iload_n 1, 1) := op27 (bA_at bd09_89_dec_249 0 rfl rfl)
theorem dX10_eveningAt_1 : decode cX10_eveningAt 1 = .ok (.ifCond .lt 28, 3) := op155 (bA_at bd09_89_dec_249 1 rfl rfl) (by decide +kernel)
theorem dX10_eveningAt_4 : decode cX10_eveningAt 4 = .ok (.iload_n 1, 1) := op27 (bA_at bd09_89_dec_249 2 rfl rfl)
theorem dX10_eveningAt_5 : decode cX10_eveningAt 5 = .ok (.aload_n 0, 1) := op42 (bA_at bd09_89_dec_249 3 rfl rfl)
theorem dX10_eveningAt_6 : decode cX10_eveningAt 6 = .ok (.getfield 10, 3) := op180 (bA_at bd09_89_dec_249 4 rfl rfl) rfl
theorem dX10_eveningAt_9 : decode cX10_eveningAt 9 = .ok (.getfield 320, 3) := op180 (bA_at bd09_89_dec_249 5 rfl rfl) rfl
theorem dX10_eveningAt_12 : decode cX10_eveningAt 12 = .ok (.iconst 1, 1) := op4 (bA_at bd09_89_dec_249 6 rfl rfl)
theorem dX10_eveningAt_13 : decode cX10_eveningAt 13 = .ok (.iaload, 1) := op46 (bA_at bd09_89_dec_249 7 rfl rfl)
theorem dX10_eveningAt_14 : decode cX10_eveningAt 14 = .ok (.if_icmp .ge 15, 3) := op162 (bA_at bd09_89_dec_249 8 rfl rfl) (by decide +kernel)
theorem dX10_eveningAt_17 : decode cX10_eveningAt 17 = .ok (.aload_n 0, 1) := op42 (bA_at bd09_89_dec_249 9 rfl rfl)
theorem dX10_eveningAt_18 : decode cX10_eveningAt 18 = .ok (.getfield 10, 3) := op180 (bA_at bd09_89_dec_249 10 rfl rfl) rfl
theorem dX10_eveningAt_21 : decode cX10_eveningAt 21 = .ok (.getfield 333, 3) := op180 (bA_at bd09_89_dec_249 11 rfl rfl) rfl
theorem bd09_89_dec_250 : ([(0, [27]), (1, [50]), (2, [167, 0, 4]), (5, [1]), (6, [176])] : List (Nat × List UInt8)).all (fun x => prB x.2 ((cX10_eveningAt.data.toList.drop 24).drop x.1)) = true := by decide +kernel
theorem dX10_eveningAt_24 : decode cX10_eveningAt 24 = .ok (.iload_n 1, 1) := op27 (bA_at bd09_89_dec_250 0 rfl rfl)
theorem dX10_eveningAt_25 : decode cX10_eveningAt 25 = .ok (.aaload, 1) := op50 (bA_at bd09_89_dec_250 1 rfl rfl)
theorem dX10_eveningAt_26 : decode cX10_eveningAt 26 = .ok (.goto 4, 3) := op167 (bA_at bd09_89_dec_250 2 rfl rfl) (by decide +kernel)
theorem dX10_eveningAt_29 : decode cX10_eveningAt 29 = .ok (.aconst_null, 1) := op1 (bA_at bd09_89_dec_250 3 rfl rfl)
theorem dX10_eveningAt_30 : decode cX10_eveningAt 30 = .ok (.areturn, 1) := op176 (bA_at bd09_89_dec_250 4 rfl rfl)
theorem bd09_89_dec_251 : ([(0, [27]), (1, [155, 0, 28]), (4, [27]), (5, [42]), (6, [180, 0, 10]), (9, [180, 1, 64]), (12, [5]), (13, [46]), (14, [162, 0, 15]), (17, [42]), (18, [180, 0, 10]), (21, [180, 1, 88])] : List (Nat × List UInt8)).all (fun x => prB x.2 ((cX10_sightAt.data.toList.drop 0).drop x.1)) = true := by decide +kernel
theorem dX10_sightAt_0 : decode cX10_sightAt 0 = .ok (.iload_n 1, 1) := op27 (bA_at bd09_89_dec_251 0 rfl rfl)
theorem dX10_sightAt_1 : decode cX10_sightAt 1 = .ok (.ifCond .lt 28, 3) := op155 (bA_at bd09_89_dec_251 1 rfl rfl) (by decide +kernel)
theorem dX10_sightAt_4 : decode cX10_sightAt 4 = .ok (.iload_n 1, 1) := op27 (bA_at bd09_89_dec_251 2 rfl rfl)
theorem dX10_sightAt_5 : decode cX10_sightAt 5 = .ok (.aload_n 0, 1) := op42 (bA_at bd09_89_dec_251 3 rfl rfl)
theorem dX10_sightAt_6 : decode cX10_sightAt 6 = .ok (.getfield 10, 3) := op180 (bA_at bd09_89_dec_251 4 rfl rfl) rfl
theorem dX10_sightAt_9 : decode cX10_sightAt 9 = .ok (.getfield 320, 3) := op180 (bA_at bd09_89_dec_251 5 rfl rfl) rfl
theorem dX10_sightAt_12 : decode cX10_sightAt 12 = .ok (.iconst 2, 1) := op5 (bA_at bd09_89_dec_251 6 rfl rfl)
theorem dX10_sightAt_13 : decode cX10_sightAt 13 = .ok (.iaload, 1) := op46 (bA_at bd09_89_dec_251 7 rfl rfl)
theorem dX10_sightAt_14 : decode cX10_sightAt 14 = .ok (.if_icmp .ge 15, 3) := op162 (bA_at bd09_89_dec_251 8 rfl rfl) (by decide +kernel)
theorem dX10_sightAt_17 : decode cX10_sightAt 17 = .ok (.aload_n 0, 1) := op42 (bA_at bd09_89_dec_251 9 rfl rfl)
theorem dX10_sightAt_18 : decode cX10_sightAt 18 = .ok (.getfield 10, 3) := op180 (bA_at bd09_89_dec_251 10 rfl rfl) rfl
theorem dX10_sightAt_21 : decode cX10_sightAt 21 = .ok (.getfield 344, 3) := op180 (bA_at bd09_89_dec_251 11 rfl rfl) rfl
theorem bd09_89_dec_252 : ([(0, [27]), (1, [50]), (2, [167, 0, 4]), (5, [1]), (6, [176])] : List (Nat × List UInt8)).all (fun x => prB x.2 ((cX10_sightAt.data.toList.drop 24).drop x.1)) = true := by decide +kernel
theorem dX10_sightAt_24 : decode cX10_sightAt 24 = .ok (.iload_n 1, 1) := op27 (bA_at bd09_89_dec_252 0 rfl rfl)
theorem dX10_sightAt_25 : decode cX10_sightAt 25 = .ok (.aaload, 1) := op50 (bA_at bd09_89_dec_252 1 rfl rfl)
theorem dX10_sightAt_26 : decode cX10_sightAt 26 = .ok (.goto 4, 3) := op167 (bA_at bd09_89_dec_252 2 rfl rfl) (by decide +kernel)
theorem dX10_sightAt_29 : decode cX10_sightAt 29 = .ok (.aconst_null, 1) := op1 (bA_at bd09_89_dec_252 3 rfl rfl)
theorem dX10_sightAt_30 : decode cX10_sightAt 30 = .ok (.areturn, 1) := op176 (bA_at bd09_89_dec_252 4 rfl rfl)
theorem bd09_89_dec_253 : ([(0, [27]), (1, [155, 0, 28]), (4, [27]), (5, [42]), (6, [180, 0, 10]), (9, [180, 1, 64]), (12, [6]), (13, [46]), (14, [162, 0, 15]), (17, [42]), (18, [180, 0, 10]), (21, [180, 1, 99])] : List (Nat × List UInt8)).all (fun x => prB x.2 ((cX10_choirAt.data.toList.drop 0).drop x.1)) = true := by decide +kernel
theorem dX10_choirAt_0 : decode cX10_choirAt 0 = .ok (.iload_n 1, 1) := op27 (bA_at bd09_89_dec_253 0 rfl rfl)
theorem dX10_choirAt_1 : decode cX10_choirAt 1 = .ok (.ifCond .lt 28, 3) := op155 (bA_at bd09_89_dec_253 1 rfl rfl) (by decide +kernel)
theorem dX10_choirAt_4 : decode cX10_choirAt 4 = .ok (.iload_n 1, 1) := op27 (bA_at bd09_89_dec_253 2 rfl rfl)
theorem dX10_choirAt_5 : decode cX10_choirAt 5 = .ok (.aload_n 0, 1) := op42 (bA_at bd09_89_dec_253 3 rfl rfl)
theorem dX10_choirAt_6 : decode cX10_choirAt 6 = .ok (.getfield 10, 3) := op180 (bA_at bd09_89_dec_253 4 rfl rfl) rfl
theorem dX10_choirAt_9 : decode cX10_choirAt 9 = .ok (.getfield 320, 3) := op180 (bA_at bd09_89_dec_253 5 rfl rfl) rfl
theorem dX10_choirAt_12 : decode cX10_choirAt 12 = .ok (.iconst 3, 1) := op6 (bA_at bd09_89_dec_253 6 rfl rfl)
theorem dX10_choirAt_13 : decode cX10_choirAt 13 = .ok (.iaload, 1) := op46 (bA_at bd09_89_dec_253 7 rfl rfl)
theorem dX10_choirAt_14 : decode cX10_choirAt 14 = .ok (.if_icmp .ge 15, 3) := op162 (bA_at bd09_89_dec_253 8 rfl rfl) (by decide +kernel)
theorem dX10_choirAt_17 : decode cX10_choirAt 17 = .ok (.aload_n 0, 1) := op42 (bA_at bd09_89_dec_253 9 rfl rfl)
theorem dX10_choirAt_18 : decode cX10_choirAt 18 = .ok (.getfield 10, 3) := op180 (bA_at bd09_89_dec_253 10 rfl rfl) rfl
theorem dX10_choirAt_21 : decode cX10_choirAt 21 = .ok (.getfield 355, 3) := op180 (bA_at bd09_89_dec_253 11 rfl rfl) rfl
theorem bd09_89_dec_254 : ([(0, [27]), (1, [50]), (2, [167, 0, 4]), (5, [1]), (6, [176])] : List (Nat × List UInt8)).all (fun x => prB x.2 ((cX10_choirAt.data.toList.drop 24).drop x.1)) = true := by decide +kernel
theorem dX10_choirAt_24 : decode cX10_choirAt 24 = .ok (.iload_n 1, 1) := op27 (bA_at bd09_89_dec_254 0 rfl rfl)
theorem dX10_choirAt_25 : decode cX10_choirAt 25 = .ok (.aaload, 1) := op50 (bA_at bd09_89_dec_254 1 rfl rfl)
theorem dX10_choirAt_26 : decode cX10_choirAt 26 = .ok (.goto 4, 3) := op167 (bA_at bd09_89_dec_254 2 rfl rfl) (by decide +kernel)
theorem dX10_choirAt_29 : decode cX10_choirAt 29 = .ok (.aconst_null, 1) := op1 (bA_at bd09_89_dec_254 3 rfl rfl)
theorem dX10_choirAt_30 : decode cX10_choirAt 30 = .ok (.areturn, 1) := op176 (bA_at bd09_89_dec_254 4 rfl rfl)
theorem bd09_89_dec_255 : ([(0, [42]), (1, [27]), (2, [182, 0, 89]), (5, [58, 4]), (7, [42]), (8, [28]), (9, [182, 0, 109]), (12, [58, 5]), (14, [25, 4]), (16, [198, 0, 21]), (19, [25, 5]), (21, [198, 0, 16])] : List (Nat × List UInt8)).all (fun x => prB x.2 ((cX10_reachState.data.toList.drop 0).drop x.1)) = true := by decide +kernel
theorem dX10_reachState_0 : decode cX10_reachState 0 = .ok (.aload_n 0, 1) := op42 (bA_at bd09_89_dec_255 0 rfl rfl)
theorem dX10_reachState_1 : decode cX10_reachState 1 = .ok (.iload_n 1, 1) := op27 (bA_at bd09_89_dec_255 1 rfl rfl)
theorem dX10_reachState_2 : decode cX10_reachState 2 = .ok (.invokevirtual 89, 3) := op182 (bA_at bd09_89_dec_255 2 rfl rfl) rfl
theorem dX10_reachState_5 : decode cX10_reachState 5 = .ok (.astore 4, 2) := op58 (bA_at bd09_89_dec_255 3 rfl rfl) rfl
theorem dX10_reachState_7 : decode cX10_reachState 7 = .ok (.aload_n 0, 1) := op42 (bA_at bd09_89_dec_255 4 rfl rfl)
theorem dX10_reachState_8 : decode cX10_reachState 8 = .ok (.iload_n 2, 1) := op28 (bA_at bd09_89_dec_255 5 rfl rfl)
theorem dX10_reachState_9 : decode cX10_reachState 9 = .ok (.invokevirtual 109, 3) := op182 (bA_at bd09_89_dec_255 6 rfl rfl) rfl
theorem dX10_reachState_12 : decode cX10_reachState 12 = .ok (.astore 5, 2) := op58 (bA_at bd09_89_dec_255 7 rfl rfl) rfl
theorem dX10_reachState_14 : decode cX10_reachState 14 = .ok (.aload 4, 2) := op25 (bA_at bd09_89_dec_255 8 rfl rfl) rfl
theorem dX10_reachState_16 : decode cX10_reachState 16 = .ok (.ifnull 21, 3) := op198 (bA_at bd09_89_dec_255 9 rfl rfl) (by decide +kernel)
theorem dX10_reachState_19 : decode cX10_reachState 19 = .ok (.aload 5, 2) := op25 (bA_at bd09_89_dec_255 10 rfl rfl) rfl
theorem dX10_reachState_21 : decode cX10_reachState 21 = .ok (.ifnull 16, 3) := op198 (bA_at bd09_89_dec_255 11 rfl rfl) (by decide +kernel)
theorem bd09_89_dec_256 : ([(0, [29]), (1, [155, 0, 12]), (4, [29]), (5, [25, 5]), (7, [180, 0, 113]), (10, [164, 0, 5]), (13, [3]), (14, [172]), (15, [42]), (16, [180, 0, 30]), (19, [25, 4]), (21, [25, 5])] : List (Nat × List UInt8)).all (fun x => prB x.2 ((cX10_reachState.data.toList.drop 24).drop x.1)) = true := by decide +kernel
theorem dX10_reachState_24 : decode cX10_reachState 24 = .ok (.iload_n 3, 1) := op29 (bA_at bd09_89_dec_256 0 rfl rfl)
theorem dX10_reachState_25 : decode cX10_reachState 25 = .ok (.ifCond .lt 12, 3) := op155 (bA_at bd09_89_dec_256 1 rfl rfl) (by decide +kernel)
theorem dX10_reachState_28 : decode cX10_reachState 28 = .ok (.iload_n 3, 1) := op29 (bA_at bd09_89_dec_256 2 rfl rfl)
theorem dX10_reachState_29 : decode cX10_reachState 29 = .ok (.aload 5, 2) := op25 (bA_at bd09_89_dec_256 3 rfl rfl) rfl
theorem dX10_reachState_31 : decode cX10_reachState 31 = .ok (.getfield 113, 3) := op180 (bA_at bd09_89_dec_256 4 rfl rfl) rfl
theorem dX10_reachState_34 : decode cX10_reachState 34 = .ok (.if_icmp .le 5, 3) := op164 (bA_at bd09_89_dec_256 5 rfl rfl) (by decide +kernel)
theorem dX10_reachState_37 : decode cX10_reachState 37 = .ok (.iconst 0, 1) := op3 (bA_at bd09_89_dec_256 6 rfl rfl)
theorem dX10_reachState_38 : decode cX10_reachState 38 = .ok (.ireturn, 1) := op172 (bA_at bd09_89_dec_256 7 rfl rfl)
theorem dX10_reachState_39 : decode cX10_reachState 39 = .ok (.aload_n 0, 1) := op42 (bA_at bd09_89_dec_256 8 rfl rfl)
theorem dX10_reachState_40 : decode cX10_reachState 40 = .ok (.getfield 30, 3) := op180 (bA_at bd09_89_dec_256 9 rfl rfl) rfl
theorem dX10_reachState_43 : decode cX10_reachState 43 = .ok (.aload 4, 2) := op25 (bA_at bd09_89_dec_256 10 rfl rfl) rfl
theorem dX10_reachState_45 : decode cX10_reachState 45 = .ok (.aload 5, 2) := op25 (bA_at bd09_89_dec_256 11 rfl rfl) rfl
theorem bd09_89_dec_257 : ([(0, [29]), (1, [182, 0, 120]), (4, [29]), (5, [160, 0, 7]), (8, [4]), (9, [167, 0, 4]), (12, [3]), (13, [172])] : List (Nat × List UInt8)).all (fun x => prB x.2 ((cX10_reachState.data.toList.drop 47).drop x.1)) = true := by decide +kernel
theorem dX10_reachState_47 : decode cX10_reachState 47 = .ok (.iload_n 3, 1) := op29 (bA_at bd09_89_dec_257 0 rfl rfl)
theorem dX10_reachState_48 : decode cX10_reachState 48 = .ok (.invokevirtual 120, 3) := op182 (bA_at bd09_89_dec_257 1 rfl rfl) rfl
theorem dX10_reachState_51 : decode cX10_reachState 51 = .ok (.iload_n 3, 1) := op29 (bA_at bd09_89_dec_257 2 rfl rfl)
theorem dX10_reachState_52 : decode cX10_reachState 52 = .ok (.if_icmp .ne 7, 3) := op160 (bA_at bd09_89_dec_257 3 rfl rfl) (by decide +kernel)
theorem dX10_reachState_55 : decode cX10_reachState 55 = .ok (.iconst 1, 1) := op4 (bA_at bd09_89_dec_257 4 rfl rfl)
theorem dX10_reachState_56 : decode cX10_reachState 56 = .ok (.goto 4, 3) := op167 (bA_at bd09_89_dec_257 5 rfl rfl) (by decide +kernel)
theorem dX10_reachState_59 : decode cX10_reachState 59 = .ok (.iconst 0, 1) := op3 (bA_at bd09_89_dec_257 6 rfl rfl)
theorem dX10_reachState_60 : decode cX10_reachState 60 = .ok (.ireturn, 1) := op172 (bA_at bd09_89_dec_257 7 rfl rfl)
theorem bd09_89_dec_258 : ([(0, [26]), (1, [17, 3, 232]), (4, [162, 0, 7]), (7, [26]), (8, [167, 0, 4]), (11, [2]), (12, [172])] : List (Nat × List UInt8)).all (fun x => prB x.2 ((cX10_nearOrNone.data.toList.drop 0).drop x.1)) = true := by decide +kernel
theorem dX10_nearOrNone_0 : decode cX10_nearOrNone 0 = .ok (.iload_n 0, 1) := op26 (bA_at bd09_89_dec_258 0 rfl rfl)
theorem dX10_nearOrNone_1 : decode cX10_nearOrNone 1 = .ok (.sipush 1000, 3) := op17 (bA_at bd09_89_dec_258 1 rfl rfl) (by decide +kernel)
theorem dX10_nearOrNone_4 : decode cX10_nearOrNone 4 = .ok (.if_icmp .ge 7, 3) := op162 (bA_at bd09_89_dec_258 2 rfl rfl) (by decide +kernel)
theorem dX10_nearOrNone_7 : decode cX10_nearOrNone 7 = .ok (.iload_n 0, 1) := op26 (bA_at bd09_89_dec_258 3 rfl rfl)
theorem dX10_nearOrNone_8 : decode cX10_nearOrNone 8 = .ok (.goto 4, 3) := op167 (bA_at bd09_89_dec_258 4 rfl rfl) (by decide +kernel)
theorem dX10_nearOrNone_11 : decode cX10_nearOrNone 11 = .ok (.iconst (-1), 1) := op2 (bA_at bd09_89_dec_258 5 rfl rfl)
theorem dX10_nearOrNone_12 : decode cX10_nearOrNone 12 = .ok (.ireturn, 1) := op172 (bA_at bd09_89_dec_258 6 rfl rfl)
theorem bd09_89_dec_259 : ([(0, [26]), (1, [16, 10]), (3, [112]), (4, [154, 0, 6]), (7, [16, 10]), (9, [172]), (10, [26]), (11, [8]), (12, [112]), (13, [154, 0, 5]), (16, [8]), (17, [172])] : List (Nat × List UInt8)).all (fun x => prB x.2 ((cX10_sharedDivisor.data.toList.drop 0).drop x.1)) = true := by decide +kernel
theorem dX10_sharedDivisor_0 : decode cX10_sharedDivisor 0 = .ok (.iload_n 0, 1) := op26 (bA_at bd09_89_dec_259 0 rfl rfl)
theorem dX10_sharedDivisor_1 : decode cX10_sharedDivisor 1 = .ok (.bipush 10, 2) := op16 (bA_at bd09_89_dec_259 1 rfl rfl) (by decide +kernel)
theorem dX10_sharedDivisor_3 : decode cX10_sharedDivisor 3 = .ok (.irem, 1) := op112 (bA_at bd09_89_dec_259 2 rfl rfl)
theorem dX10_sharedDivisor_4 : decode cX10_sharedDivisor 4 = .ok (.ifCond .ne 6, 3) := op154 (bA_at bd09_89_dec_259 3 rfl rfl) (by decide +kernel)
theorem dX10_sharedDivisor_7 : decode cX10_sharedDivisor 7 = .ok (.bipush 10, 2) := op16 (bA_at bd09_89_dec_259 4 rfl rfl) (by decide +kernel)
theorem dX10_sharedDivisor_9 : decode cX10_sharedDivisor 9 = .ok (.ireturn, 1) := op172 (bA_at bd09_89_dec_259 5 rfl rfl)
theorem dX10_sharedDivisor_10 : decode cX10_sharedDivisor 10 = .ok (.iload_n 0, 1) := op26 (bA_at bd09_89_dec_259 6 rfl rfl)
theorem dX10_sharedDivisor_11 : decode cX10_sharedDivisor 11 = .ok (.iconst 5, 1) := op8 (bA_at bd09_89_dec_259 7 rfl rfl)
theorem dX10_sharedDivisor_12 : decode cX10_sharedDivisor 12 = .ok (.irem, 1) := op112 (bA_at bd09_89_dec_259 8 rfl rfl)
theorem dX10_sharedDivisor_13 : decode cX10_sharedDivisor 13 = .ok (.ifCond .ne 5, 3) := op154 (bA_at bd09_89_dec_259 9 rfl rfl) (by decide +kernel)
theorem dX10_sharedDivisor_16 : decode cX10_sharedDivisor 16 = .ok (.iconst 5, 1) := op8 (bA_at bd09_89_dec_259 10 rfl rfl)
theorem dX10_sharedDivisor_17 : decode cX10_sharedDivisor 17 = .ok (.ireturn, 1) := op172 (bA_at bd09_89_dec_259 11 rfl rfl)
theorem bd09_89_dec_260 : ([(0, [26]), (1, [5]), (2, [112]), (3, [154, 0, 7]), (6, [5]), (7, [167, 0, 4]), (10, [4]), (11, [172])] : List (Nat × List UInt8)).all (fun x => prB x.2 ((cX10_sharedDivisor.data.toList.drop 18).drop x.1)) = true := by decide +kernel
theorem dX10_sharedDivisor_18 : decode cX10_sharedDivisor 18 = .ok (.iload_n 0, 1) := op26 (bA_at bd09_89_dec_260 0 rfl rfl)
theorem dX10_sharedDivisor_19 : decode cX10_sharedDivisor 19 = .ok (.iconst 2, 1) := op5 (bA_at bd09_89_dec_260 1 rfl rfl)
theorem dX10_sharedDivisor_20 : decode cX10_sharedDivisor 20 = .ok (.irem, 1) := op112 (bA_at bd09_89_dec_260 2 rfl rfl)
theorem dX10_sharedDivisor_21 : decode cX10_sharedDivisor 21 = .ok (.ifCond .ne 7, 3) := op154 (bA_at bd09_89_dec_260 3 rfl rfl) (by decide +kernel)
theorem dX10_sharedDivisor_24 : decode cX10_sharedDivisor 24 = .ok (.iconst 2, 1) := op5 (bA_at bd09_89_dec_260 4 rfl rfl)
theorem dX10_sharedDivisor_25 : decode cX10_sharedDivisor 25 = .ok (.goto 4, 3) := op167 (bA_at bd09_89_dec_260 5 rfl rfl) (by decide +kernel)
theorem dX10_sharedDivisor_28 : decode cX10_sharedDivisor 28 = .ok (.iconst 1, 1) := op4 (bA_at bd09_89_dec_260 6 rfl rfl)
theorem dX10_sharedDivisor_29 : decode cX10_sharedDivisor 29 = .ok (.ireturn, 1) := op172 (bA_at bd09_89_dec_260 7 rfl rfl)
theorem bd09_89_dec_261 : ([(0, [10]), (1, [65]), (2, [3]), (3, [54, 4]), (5, [21, 4]), (7, [27]), (8, [162, 0, 14]), (11, [32]), (12, [26]), (13, [133]), (14, [105]), (15, [65])] : List (Nat × List UInt8)).all (fun x => prB x.2 ((cX10_power.data.toList.drop 0).drop x.1)) = true := by decide +kernel
theorem dX10_power_0 : decode cX10_power 0 = .ok (.lconst 1, 1) := op10 (bA_at bd09_89_dec_261 0 rfl rfl)
theorem dX10_power_1 : decode cX10_power 1 = .ok (.lstore_n 2, 1) := op65 (bA_at bd09_89_dec_261 1 rfl rfl)
theorem dX10_power_2 : decode cX10_power 2 = .ok (.iconst 0, 1) := op3 (bA_at bd09_89_dec_261 2 rfl rfl)
theorem dX10_power_3 : decode cX10_power 3 = .ok (.istore 4, 2) := op54 (bA_at bd09_89_dec_261 3 rfl rfl) rfl
theorem dX10_power_5 : decode cX10_power 5 = .ok (.iload 4, 2) := op21 (bA_at bd09_89_dec_261 4 rfl rfl) rfl
theorem dX10_power_7 : decode cX10_power 7 = .ok (.iload_n 1, 1) := op27 (bA_at bd09_89_dec_261 5 rfl rfl)
theorem dX10_power_8 : decode cX10_power 8 = .ok (.if_icmp .ge 14, 3) := op162 (bA_at bd09_89_dec_261 6 rfl rfl) (by decide +kernel)
theorem dX10_power_11 : decode cX10_power 11 = .ok (.lload_n 2, 1) := op32 (bA_at bd09_89_dec_261 7 rfl rfl)
theorem dX10_power_12 : decode cX10_power 12 = .ok (.iload_n 0, 1) := op26 (bA_at bd09_89_dec_261 8 rfl rfl)
theorem dX10_power_13 : decode cX10_power 13 = .ok (.i2l, 1) := op133 (bA_at bd09_89_dec_261 9 rfl rfl)
theorem dX10_power_14 : decode cX10_power 14 = .ok (.lmul, 1) := op105 (bA_at bd09_89_dec_261 10 rfl rfl)
theorem dX10_power_15 : decode cX10_power 15 = .ok (.lstore_n 2, 1) := op65 (bA_at bd09_89_dec_261 11 rfl rfl)
theorem bd09_89_dec_262 : ([(0, [132, 4, 1]), (3, [167, 255, 242]), (6, [32]), (7, [173])] : List (Nat × List UInt8)).all (fun x => prB x.2 ((cX10_power.data.toList.drop 16).drop x.1)) = true := by decide +kernel
theorem dX10_power_16 : decode cX10_power 16 = .ok (.iinc 4 1, 3) := op132 (bA_at bd09_89_dec_262 0 rfl rfl) rfl (by decide +kernel)
theorem dX10_power_19 : decode cX10_power 19 = .ok (.goto (-14), 3) := op167 (bA_at bd09_89_dec_262 1 rfl rfl) (by decide +kernel)
theorem dX10_power_22 : decode cX10_power 22 = .ok (.lload_n 2, 1) := op32 (bA_at bd09_89_dec_262 2 rfl rfl)
theorem dX10_power_23 : decode cX10_power 23 = .ok (.lreturn, 1) := op173 (bA_at bd09_89_dec_262 3 rfl rfl)
theorem bd09_89_dec_263 : ([(0, [42]), (1, [180, 0, 9]), (4, [190]), (5, [42]), (6, [182, 1, 79]), (9, [122]), (10, [172])] : List (Nat × List UInt8)).all (fun x => prB x.2 ((cJ0_length_8abf5.data.toList.drop 0).drop x.1)) = true := by decide +kernel
theorem dJ0_length_8abf5_0 : decode cJ0_length_8abf5 0 = .ok (.aload_n 0, 1) := op42 (bA_at bd09_89_dec_263 0 rfl rfl)
theorem dJ0_length_8abf5_1 : decode cJ0_length_8abf5 1 = .ok (.getfield 9, 3) := op180 (bA_at bd09_89_dec_263 1 rfl rfl) rfl
theorem dJ0_length_8abf5_4 : decode cJ0_length_8abf5 4 = .ok (.arraylength, 1) := op190 (bA_at bd09_89_dec_263 2 rfl rfl)
theorem dJ0_length_8abf5_5 : decode cJ0_length_8abf5 5 = .ok (.aload_n 0, 1) := op42 (bA_at bd09_89_dec_263 3 rfl rfl)
theorem dJ0_length_8abf5_6 : decode cJ0_length_8abf5 6 = .ok (.invokevirtual 335, 3) := op182 (bA_at bd09_89_dec_263 4 rfl rfl) rfl
theorem dJ0_length_8abf5_9 : decode cJ0_length_8abf5 9 = .ok (.ishr, 1) := op122 (bA_at bd09_89_dec_263 5 rfl rfl)
theorem dJ0_length_8abf5_10 : decode cJ0_length_8abf5 10 = .ok (.ireturn, 1) := op172 (bA_at bd09_89_dec_263 6 rfl rfl)
theorem bd09_89_dec_264 : ([(0, [42]), (1, [182, 1, 236]), (4, [153, 0, 12]), (7, [42]), (8, [180, 0, 9]), (11, [27]), (12, [184, 1, 239]), (15, [172])] : List (Nat × List UInt8)).all (fun x => prB x.2 ((cJ0_charAt_5068e.data.toList.drop 0).drop x.1)) = true := by decide +kernel
theorem dJ0_charAt_5068e_0 : decode cJ0_charAt_5068e 0 = .ok (.aload_n 0, 1) := op42 (bA_at bd09_89_dec_264 0 rfl rfl)
theorem dJ0_charAt_5068e_1 : decode cJ0_charAt_5068e 1 = .ok (.invokevirtual 492, 3) := op182 (bA_at bd09_89_dec_264 1 rfl rfl) rfl
theorem dJ0_charAt_5068e_4 : decode cJ0_charAt_5068e 4 = .ok (.ifCond .eq 12, 3) := op153 (bA_at bd09_89_dec_264 2 rfl rfl) (by decide +kernel)
theorem dJ0_charAt_5068e_7 : decode cJ0_charAt_5068e 7 = .ok (.aload_n 0, 1) := op42 (bA_at bd09_89_dec_264 3 rfl rfl)
theorem dJ0_charAt_5068e_8 : decode cJ0_charAt_5068e 8 = .ok (.getfield 9, 3) := op180 (bA_at bd09_89_dec_264 4 rfl rfl) rfl
theorem dJ0_charAt_5068e_11 : decode cJ0_charAt_5068e 11 = .ok (.iload_n 1, 1) := op27 (bA_at bd09_89_dec_264 5 rfl rfl)
theorem dJ0_charAt_5068e_12 : decode cJ0_charAt_5068e 12 = .ok (.invokestatic 495, 3) := op184 (bA_at bd09_89_dec_264 6 rfl rfl) rfl
theorem dJ0_charAt_5068e_15 : decode cJ0_charAt_5068e 15 = .ok (.ireturn, 1) := op172 (bA_at bd09_89_dec_264 7 rfl rfl)
theorem bd09_89_dec_265 : ([(0, [178, 0, 38]), (3, [153, 0, 10]), (6, [42]), (7, [180, 0, 15]), (10, [167, 0, 4]), (14, [172])] : List (Nat × List UInt8)).all (fun x => prB x.2 ((cJ0_coder_7d493.data.toList.drop 0).drop x.1)) = true := by decide +kernel
theorem dJ0_coder_7d493_0 : decode cJ0_coder_7d493 0 = .ok (.getstatic 38, 3) := op178 (bA_at bd09_89_dec_265 0 rfl rfl) rfl
theorem dJ0_coder_7d493_3 : decode cJ0_coder_7d493 3 = .ok (.ifCond .eq 10, 3) := op153 (bA_at bd09_89_dec_265 1 rfl rfl) (by decide +kernel)
theorem dJ0_coder_7d493_6 : decode cJ0_coder_7d493 6 = .ok (.aload_n 0, 1) := op42 (bA_at bd09_89_dec_265 2 rfl rfl)
theorem dJ0_coder_7d493_7 : decode cJ0_coder_7d493 7 = .ok (.getfield 15, 3) := op180 (bA_at bd09_89_dec_265 3 rfl rfl) rfl
theorem dJ0_coder_7d493_10 : decode cJ0_coder_7d493 10 = .ok (.goto 4, 3) := op167 (bA_at bd09_89_dec_265 4 rfl rfl) (by decide +kernel)
theorem dJ0_coder_7d493_14 : decode cJ0_coder_7d493 14 = .ok (.ireturn, 1) := op172 (bA_at bd09_89_dec_265 5 rfl rfl)
theorem bd09_89_dec_266 : ([(0, [178, 0, 38]), (3, [153, 0, 14]), (6, [42]), (7, [180, 0, 15]), (10, [154, 0, 7]), (13, [4]), (14, [167, 0, 4]), (18, [172])] : List (Nat × List UInt8)).all (fun x => prB x.2 ((cJ0_isLatin1_aae02.data.toList.drop 0).drop x.1)) = true := by decide +kernel
theorem dJ0_isLatin1_aae02_0 : decode cJ0_isLatin1_aae02 0 = .ok (.getstatic 38, 3) := op178 (bA_at bd09_89_dec_266 0 rfl rfl) rfl
theorem dJ0_isLatin1_aae02_3 : decode cJ0_isLatin1_aae02 3 = .ok (.ifCond .eq 14, 3) := op153 (bA_at bd09_89_dec_266 1 rfl rfl) (by decide +kernel)
theorem dJ0_isLatin1_aae02_6 : decode cJ0_isLatin1_aae02 6 = .ok (.aload_n 0, 1) := op42 (bA_at bd09_89_dec_266 2 rfl rfl)
theorem dJ0_isLatin1_aae02_7 : decode cJ0_isLatin1_aae02 7 = .ok (.getfield 15, 3) := op180 (bA_at bd09_89_dec_266 3 rfl rfl) rfl
theorem dJ0_isLatin1_aae02_10 : decode cJ0_isLatin1_aae02 10 = .ok (.ifCond .ne 7, 3) := op154 (bA_at bd09_89_dec_266 4 rfl rfl) (by decide +kernel)
theorem dJ0_isLatin1_aae02_13 : decode cJ0_isLatin1_aae02 13 = .ok (.iconst 1, 1) := op4 (bA_at bd09_89_dec_266 5 rfl rfl)
theorem dJ0_isLatin1_aae02_14 : decode cJ0_isLatin1_aae02 14 = .ok (.goto 4, 3) := op167 (bA_at bd09_89_dec_266 6 rfl rfl) (by decide +kernel)
theorem dJ0_isLatin1_aae02_18 : decode cJ0_isLatin1_aae02 18 = .ok (.ireturn, 1) := op172 (bA_at bd09_89_dec_266 7 rfl rfl)
theorem bd09_89_dec_267 : ([(0, [26]), (1, [27]), (2, [178, 4, 29]), (5, [184, 4, 35]), (8, [87]), (9, [177])] : List (Nat × List UInt8)).all (fun x => prB x.2 ((cJ0_checkIndex_df160.data.toList.drop 0).drop x.1)) = true := by decide +kernel
theorem dJ0_checkIndex_df160_0 : decode cJ0_checkIndex_df160 0 = .ok (.iload_n 0, 1) := op26 (bA_at bd09_89_dec_267 0 rfl rfl)
theorem dJ0_checkIndex_df160_1 : decode cJ0_checkIndex_df160 1 = .ok (.iload_n 1, 1) := op27 (bA_at bd09_89_dec_267 1 rfl rfl)
theorem dJ0_checkIndex_df160_2 : decode cJ0_checkIndex_df160 2 = .ok (.getstatic 1053, 3) := op178 (bA_at bd09_89_dec_267 2 rfl rfl) rfl
theorem dJ0_checkIndex_df160_5 : decode cJ0_checkIndex_df160 5 = .ok (.invokestatic 1059, 3) := op184 (bA_at bd09_89_dec_267 3 rfl rfl) rfl
theorem dJ0_checkIndex_df160_8 : decode cJ0_checkIndex_df160 8 = .ok (.pop, 1) := op87 (bA_at bd09_89_dec_267 4 rfl rfl)
theorem dJ0_checkIndex_df160_9 : decode cJ0_checkIndex_df160 9 = .ok (.return_, 1) := op177 (bA_at bd09_89_dec_267 5 rfl rfl)
theorem bd09_89_dec_268 : ([(0, [27]), (1, [42]), (2, [190]), (3, [184, 0, 9]), (6, [42]), (7, [27]), (8, [51]), (9, [17, 0, 255]), (12, [126]), (13, [146]), (14, [172])] : List (Nat × List UInt8)).all (fun x => prB x.2 ((cJ1_charAt_3b067.data.toList.drop 0).drop x.1)) = true := by decide +kernel
theorem dJ1_charAt_3b067_0 : decode cJ1_charAt_3b067 0 = .ok (.iload_n 1, 1) := op27 (bA_at bd09_89_dec_268 0 rfl rfl)
theorem dJ1_charAt_3b067_1 : decode cJ1_charAt_3b067 1 = .ok (.aload_n 0, 1) := op42 (bA_at bd09_89_dec_268 1 rfl rfl)
theorem dJ1_charAt_3b067_2 : decode cJ1_charAt_3b067 2 = .ok (.arraylength, 1) := op190 (bA_at bd09_89_dec_268 2 rfl rfl)
theorem dJ1_charAt_3b067_3 : decode cJ1_charAt_3b067 3 = .ok (.invokestatic 9, 3) := op184 (bA_at bd09_89_dec_268 3 rfl rfl) rfl
theorem dJ1_charAt_3b067_6 : decode cJ1_charAt_3b067 6 = .ok (.aload_n 0, 1) := op42 (bA_at bd09_89_dec_268 4 rfl rfl)
theorem dJ1_charAt_3b067_7 : decode cJ1_charAt_3b067 7 = .ok (.iload_n 1, 1) := op27 (bA_at bd09_89_dec_268 5 rfl rfl)
theorem dJ1_charAt_3b067_8 : decode cJ1_charAt_3b067 8 = .ok (.baload, 1) := op51 (bA_at bd09_89_dec_268 6 rfl rfl)
theorem dJ1_charAt_3b067_9 : decode cJ1_charAt_3b067 9 = .ok (.sipush 255, 3) := op17 (bA_at bd09_89_dec_268 7 rfl rfl) (by decide +kernel)
theorem dJ1_charAt_3b067_12 : decode cJ1_charAt_3b067 12 = .ok (.iand, 1) := op126 (bA_at bd09_89_dec_268 8 rfl rfl)
theorem dJ1_charAt_3b067_13 : decode cJ1_charAt_3b067 13 = .ok (.i2c, 1) := op146 (bA_at bd09_89_dec_268 9 rfl rfl)
theorem dJ1_charAt_3b067_14 : decode cJ1_charAt_3b067 14 = .ok (.ireturn, 1) := op172 (bA_at bd09_89_dec_268 10 rfl rfl)
theorem bd09_89_dec_269 : ([(0, [26]), (1, [155, 0, 8]), (4, [26]), (5, [27]), (6, [161, 0, 10]), (16, [26]), (17, [172])] : List (Nat × List UInt8)).all (fun x => prB x.2 ((cJ3_checkIndex_8e157.data.toList.drop 0).drop x.1)) = true := by decide +kernel
theorem dJ3_checkIndex_8e157_0 : decode cJ3_checkIndex_8e157 0 = .ok (.iload_n 0, 1) := op26 (bA_at bd09_89_dec_269 0 rfl rfl)
theorem dJ3_checkIndex_8e157_1 : decode cJ3_checkIndex_8e157 1 = .ok (.ifCond .lt 8, 3) := op155 (bA_at bd09_89_dec_269 1 rfl rfl) (by decide +kernel)
theorem dJ3_checkIndex_8e157_4 : decode cJ3_checkIndex_8e157 4 = .ok (.iload_n 0, 1) := op26 (bA_at bd09_89_dec_269 2 rfl rfl)
theorem dJ3_checkIndex_8e157_5 : decode cJ3_checkIndex_8e157 5 = .ok (.iload_n 1, 1) := op27 (bA_at bd09_89_dec_269 3 rfl rfl)
theorem dJ3_checkIndex_8e157_6 : decode cJ3_checkIndex_8e157 6 = .ok (.if_icmp .lt 10, 3) := op161 (bA_at bd09_89_dec_269 4 rfl rfl) (by decide +kernel)
theorem dJ3_checkIndex_8e157_16 : decode cJ3_checkIndex_8e157 16 = .ok (.iload_n 0, 1) := op26 (bA_at bd09_89_dec_269 5 rfl rfl)
theorem dJ3_checkIndex_8e157_17 : decode cJ3_checkIndex_8e157 17 = .ok (.ireturn, 1) := op172 (bA_at bd09_89_dec_269 6 rfl rfl)

