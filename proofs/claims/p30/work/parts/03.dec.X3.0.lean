section
theorem bd03_dec_X3_0_0 : ([(0, [42]), (1, [43]), (2, [182, 0, 27]), (5, [3]), (6, [54, 4]), (8, [21, 4]), (10, [29]), (11, [162, 0, 50]), (14, [21, 4]), (16, [44]), (17, [180, 0, 31]), (20, [162, 0, 41])] : List (Nat × List UInt8)).all (fun x => prB x.2 ((cX3_play.data.toList.drop 0).drop x.1)) = true := by decide +kernel
theorem dX3_play_0 : decode cX3_play 0 = .ok (.aload_n 0, 1) := op42 (bA_at bd03_dec_X3_0_0 0 rfl rfl)
theorem dX3_play_1 : decode cX3_play 1 = .ok (.aload_n 1, 1) := op43 (bA_at bd03_dec_X3_0_0 1 rfl rfl)
theorem dX3_play_2 : decode cX3_play 2 = .ok (.invokevirtual 27, 3) := op182 (bA_at bd03_dec_X3_0_0 2 rfl rfl) rfl
theorem dX3_play_5 : decode cX3_play 5 = .ok (.iconst 0, 1) := op3 (bA_at bd03_dec_X3_0_0 3 rfl rfl)
theorem dX3_play_6 : decode cX3_play 6 = .ok (.istore 4, 2) := op54 (bA_at bd03_dec_X3_0_0 4 rfl rfl) rfl
theorem dX3_play_8 : decode cX3_play 8 = .ok (.iload 4, 2) := op21 (bA_at bd03_dec_X3_0_0 5 rfl rfl) rfl
theorem dX3_play_10 : decode cX3_play 10 = .ok (.iload_n 3, 1) := op29 (bA_at bd03_dec_X3_0_0 6 rfl rfl)
theorem dX3_play_11 : decode cX3_play 11 = .ok (.if_icmp .ge 50, 3) := op162 (bA_at bd03_dec_X3_0_0 7 rfl rfl) (by decide +kernel)
theorem dX3_play_14 : decode cX3_play 14 = .ok (.iload 4, 2) := op21 (bA_at bd03_dec_X3_0_0 8 rfl rfl) rfl
theorem dX3_play_16 : decode cX3_play 16 = .ok (.aload_n 2, 1) := op44 (bA_at bd03_dec_X3_0_0 9 rfl rfl)
theorem dX3_play_17 : decode cX3_play 17 = .ok (.getfield 31, 3) := op180 (bA_at bd03_dec_X3_0_0 10 rfl rfl) rfl
theorem dX3_play_20 : decode cX3_play 20 = .ok (.if_icmp .ge 41, 3) := op162 (bA_at bd03_dec_X3_0_0 11 rfl rfl) (by decide +kernel)
theorem bd03_dec_X3_0_1 : ([(0, [42]), (1, [43]), (2, [44]), (3, [180, 0, 37]), (6, [21, 4]), (8, [46]), (9, [44]), (10, [180, 0, 40]), (13, [21, 4]), (15, [46]), (16, [44]), (17, [180, 0, 43])] : List (Nat × List UInt8)).all (fun x => prB x.2 ((cX3_play.data.toList.drop 23).drop x.1)) = true := by decide +kernel
theorem dX3_play_23 : decode cX3_play 23 = .ok (.aload_n 0, 1) := op42 (bA_at bd03_dec_X3_0_1 0 rfl rfl)
theorem dX3_play_24 : decode cX3_play 24 = .ok (.aload_n 1, 1) := op43 (bA_at bd03_dec_X3_0_1 1 rfl rfl)
theorem dX3_play_25 : decode cX3_play 25 = .ok (.aload_n 2, 1) := op44 (bA_at bd03_dec_X3_0_1 2 rfl rfl)
theorem dX3_play_26 : decode cX3_play 26 = .ok (.getfield 37, 3) := op180 (bA_at bd03_dec_X3_0_1 3 rfl rfl) rfl
theorem dX3_play_29 : decode cX3_play 29 = .ok (.iload 4, 2) := op21 (bA_at bd03_dec_X3_0_1 4 rfl rfl) rfl
theorem dX3_play_31 : decode cX3_play 31 = .ok (.iaload, 1) := op46 (bA_at bd03_dec_X3_0_1 5 rfl rfl)
theorem dX3_play_32 : decode cX3_play 32 = .ok (.aload_n 2, 1) := op44 (bA_at bd03_dec_X3_0_1 6 rfl rfl)
theorem dX3_play_33 : decode cX3_play 33 = .ok (.getfield 40, 3) := op180 (bA_at bd03_dec_X3_0_1 7 rfl rfl) rfl
theorem dX3_play_36 : decode cX3_play 36 = .ok (.iload 4, 2) := op21 (bA_at bd03_dec_X3_0_1 8 rfl rfl) rfl
theorem dX3_play_38 : decode cX3_play 38 = .ok (.iaload, 1) := op46 (bA_at bd03_dec_X3_0_1 9 rfl rfl)
theorem dX3_play_39 : decode cX3_play 39 = .ok (.aload_n 2, 1) := op44 (bA_at bd03_dec_X3_0_1 10 rfl rfl)
theorem dX3_play_40 : decode cX3_play 40 = .ok (.getfield 43, 3) := op180 (bA_at bd03_dec_X3_0_1 11 rfl rfl) rfl
theorem bd03_dec_X3_0_2 : ([(0, [21, 4]), (2, [46]), (3, [182, 0, 46]), (6, [154, 0, 6]), (9, [21, 4]), (11, [172]), (12, [132, 4, 1]), (15, [167, 255, 206]), (18, [29]), (19, [172])] : List (Nat × List UInt8)).all (fun x => prB x.2 ((cX3_play.data.toList.drop 43).drop x.1)) = true := by decide +kernel
theorem dX3_play_43 : decode cX3_play 43 = .ok (.iload 4, 2) := op21 (bA_at bd03_dec_X3_0_2 0 rfl rfl) rfl
theorem dX3_play_45 : decode cX3_play 45 = .ok (.iaload, 1) := op46 (bA_at bd03_dec_X3_0_2 1 rfl rfl)
theorem dX3_play_46 : decode cX3_play 46 = .ok (.invokevirtual 46, 3) := op182 (bA_at bd03_dec_X3_0_2 2 rfl rfl) rfl
theorem dX3_play_49 : decode cX3_play 49 = .ok (.ifCond .ne 6, 3) := op154 (bA_at bd03_dec_X3_0_2 3 rfl rfl) (by decide +kernel)
theorem dX3_play_52 : decode cX3_play 52 = .ok (.iload 4, 2) := op21 (bA_at bd03_dec_X3_0_2 4 rfl rfl) rfl
theorem dX3_play_54 : decode cX3_play 54 = .ok (.ireturn, 1) := op172 (bA_at bd03_dec_X3_0_2 5 rfl rfl)
theorem dX3_play_55 : decode cX3_play 55 = .ok (.iinc 4 1, 3) := op132 (bA_at bd03_dec_X3_0_2 6 rfl rfl) rfl (by decide +kernel)
theorem dX3_play_58 : decode cX3_play 58 = .ok (.goto (-50), 3) := op167 (bA_at bd03_dec_X3_0_2 7 rfl rfl) (by decide +kernel)
theorem dX3_play_61 : decode cX3_play 61 = .ok (.iload_n 3, 1) := op29 (bA_at bd03_dec_X3_0_2 8 rfl rfl)
theorem dX3_play_62 : decode cX3_play 62 = .ok (.ireturn, 1) := op172 (bA_at bd03_dec_X3_0_2 9 rfl rfl)
theorem bd03_dec_X3_0_3 : ([(0, [42]), (1, [43]), (2, [182, 0, 27]), (5, [42]), (6, [28]), (7, [181, 0, 50]), (10, [3]), (11, [54, 4]), (13, [21, 4]), (15, [29]), (16, [162, 0, 83]), (19, [42])] : List (Nat × List UInt8)).all (fun x => prB x.2 ((cX3_draw.data.toList.drop 0).drop x.1)) = true := by decide +kernel
theorem dX3_draw_0 : decode cX3_draw 0 = .ok (.aload_n 0, 1) := op42 (bA_at bd03_dec_X3_0_3 0 rfl rfl)
theorem dX3_draw_1 : decode cX3_draw 1 = .ok (.aload_n 1, 1) := op43 (bA_at bd03_dec_X3_0_3 1 rfl rfl)
theorem dX3_draw_2 : decode cX3_draw 2 = .ok (.invokevirtual 27, 3) := op182 (bA_at bd03_dec_X3_0_3 2 rfl rfl) rfl
theorem dX3_draw_5 : decode cX3_draw 5 = .ok (.aload_n 0, 1) := op42 (bA_at bd03_dec_X3_0_3 3 rfl rfl)
theorem dX3_draw_6 : decode cX3_draw 6 = .ok (.iload_n 2, 1) := op28 (bA_at bd03_dec_X3_0_3 4 rfl rfl)
theorem dX3_draw_7 : decode cX3_draw 7 = .ok (.putfield 50, 3) := op181 (bA_at bd03_dec_X3_0_3 5 rfl rfl) rfl
theorem dX3_draw_10 : decode cX3_draw 10 = .ok (.iconst 0, 1) := op3 (bA_at bd03_dec_X3_0_3 6 rfl rfl)
theorem dX3_draw_11 : decode cX3_draw 11 = .ok (.istore 4, 2) := op54 (bA_at bd03_dec_X3_0_3 7 rfl rfl) rfl
theorem dX3_draw_13 : decode cX3_draw 13 = .ok (.iload 4, 2) := op21 (bA_at bd03_dec_X3_0_3 8 rfl rfl) rfl
theorem dX3_draw_15 : decode cX3_draw 15 = .ok (.iload_n 3, 1) := op29 (bA_at bd03_dec_X3_0_3 9 rfl rfl)
theorem dX3_draw_16 : decode cX3_draw 16 = .ok (.if_icmp .ge 83, 3) := op162 (bA_at bd03_dec_X3_0_3 10 rfl rfl) (by decide +kernel)
theorem dX3_draw_19 : decode cX3_draw 19 = .ok (.aload_n 0, 1) := op42 (bA_at bd03_dec_X3_0_3 11 rfl rfl)
theorem bd03_dec_X3_0_4 : ([(0, [43]), (1, [180, 0, 53]), (4, [182, 0, 58]), (7, [54, 5]), (9, [42]), (10, [16, 8]), (12, [182, 0, 58]), (15, [5]), (16, [163, 0, 23]), (19, [42]), (20, [43]), (21, [6])] : List (Nat × List UInt8)).all (fun x => prB x.2 ((cX3_draw.data.toList.drop 20).drop x.1)) = true := by decide +kernel
theorem dX3_draw_20 : decode cX3_draw 20 = .ok (.aload_n 1, 1) := op43 (bA_at bd03_dec_X3_0_4 0 rfl rfl)
theorem dX3_draw_21 : decode cX3_draw 21 = .ok (.getfield 53, 3) := op180 (bA_at bd03_dec_X3_0_4 1 rfl rfl) rfl
theorem dX3_draw_24 : decode cX3_draw 24 = .ok (.invokevirtual 58, 3) := op182 (bA_at bd03_dec_X3_0_4 2 rfl rfl) rfl
theorem dX3_draw_27 : decode cX3_draw 27 = .ok (.istore 5, 2) := op54 (bA_at bd03_dec_X3_0_4 3 rfl rfl) rfl
theorem dX3_draw_29 : decode cX3_draw 29 = .ok (.aload_n 0, 1) := op42 (bA_at bd03_dec_X3_0_4 4 rfl rfl)
theorem dX3_draw_30 : decode cX3_draw 30 = .ok (.bipush 8, 2) := op16 (bA_at bd03_dec_X3_0_4 5 rfl rfl) (by decide +kernel)
theorem dX3_draw_32 : decode cX3_draw 32 = .ok (.invokevirtual 58, 3) := op182 (bA_at bd03_dec_X3_0_4 6 rfl rfl) rfl
theorem dX3_draw_35 : decode cX3_draw 35 = .ok (.iconst 2, 1) := op5 (bA_at bd03_dec_X3_0_4 7 rfl rfl)
theorem dX3_draw_36 : decode cX3_draw 36 = .ok (.if_icmp .gt 23, 3) := op163 (bA_at bd03_dec_X3_0_4 8 rfl rfl) (by decide +kernel)
theorem dX3_draw_39 : decode cX3_draw 39 = .ok (.aload_n 0, 1) := op42 (bA_at bd03_dec_X3_0_4 9 rfl rfl)
theorem dX3_draw_40 : decode cX3_draw 40 = .ok (.aload_n 1, 1) := op43 (bA_at bd03_dec_X3_0_4 10 rfl rfl)
theorem dX3_draw_41 : decode cX3_draw 41 = .ok (.iconst 3, 1) := op6 (bA_at bd03_dec_X3_0_4 11 rfl rfl)
theorem bd03_dec_X3_0_5 : ([(0, [21, 5]), (2, [42]), (3, [43]), (4, [180, 0, 62]), (7, [182, 0, 58]), (10, [182, 0, 46]), (13, [87]), (14, [167, 0, 37]), (17, [42]), (18, [8]), (19, [182, 0, 58]), (22, [54, 6])] : List (Nat × List UInt8)).all (fun x => prB x.2 ((cX3_draw.data.toList.drop 42).drop x.1)) = true := by decide +kernel
theorem dX3_draw_42 : decode cX3_draw 42 = .ok (.iload 5, 2) := op21 (bA_at bd03_dec_X3_0_5 0 rfl rfl) rfl
theorem dX3_draw_44 : decode cX3_draw 44 = .ok (.aload_n 0, 1) := op42 (bA_at bd03_dec_X3_0_5 1 rfl rfl)
theorem dX3_draw_45 : decode cX3_draw 45 = .ok (.aload_n 1, 1) := op43 (bA_at bd03_dec_X3_0_5 2 rfl rfl)
theorem dX3_draw_46 : decode cX3_draw 46 = .ok (.getfield 62, 3) := op180 (bA_at bd03_dec_X3_0_5 3 rfl rfl) rfl
theorem dX3_draw_49 : decode cX3_draw 49 = .ok (.invokevirtual 58, 3) := op182 (bA_at bd03_dec_X3_0_5 4 rfl rfl) rfl
theorem dX3_draw_52 : decode cX3_draw 52 = .ok (.invokevirtual 46, 3) := op182 (bA_at bd03_dec_X3_0_5 5 rfl rfl) rfl
theorem dX3_draw_55 : decode cX3_draw 55 = .ok (.pop, 1) := op87 (bA_at bd03_dec_X3_0_5 6 rfl rfl)
theorem dX3_draw_56 : decode cX3_draw 56 = .ok (.goto 37, 3) := op167 (bA_at bd03_dec_X3_0_5 7 rfl rfl) (by decide +kernel)
theorem dX3_draw_59 : decode cX3_draw 59 = .ok (.aload_n 0, 1) := op42 (bA_at bd03_dec_X3_0_5 8 rfl rfl)
theorem dX3_draw_60 : decode cX3_draw 60 = .ok (.iconst 5, 1) := op8 (bA_at bd03_dec_X3_0_5 9 rfl rfl)
theorem dX3_draw_61 : decode cX3_draw 61 = .ok (.invokevirtual 58, 3) := op182 (bA_at bd03_dec_X3_0_5 10 rfl rfl) rfl
theorem dX3_draw_64 : decode cX3_draw 64 = .ok (.istore 6, 2) := op54 (bA_at bd03_dec_X3_0_5 11 rfl rfl) rfl
theorem bd03_dec_X3_0_6 : ([(0, [42]), (1, [43]), (2, [42]), (3, [180, 0, 64]), (6, [21, 6]), (8, [184, 0, 67]), (11, [153, 0, 7]), (14, [4]), (15, [167, 0, 4]), (18, [3]), (19, [21, 5]), (21, [21, 6])] : List (Nat × List UInt8)).all (fun x => prB x.2 ((cX3_draw.data.toList.drop 66).drop x.1)) = true := by decide +kernel
theorem dX3_draw_66 : decode cX3_draw 66 = .ok (.aload_n 0, 1) := op42 (bA_at bd03_dec_X3_0_6 0 rfl rfl)
theorem dX3_draw_67 : decode cX3_draw 67 = .ok (.aload_n 1, 1) := op43 (bA_at bd03_dec_X3_0_6 1 rfl rfl)
theorem dX3_draw_68 : decode cX3_draw 68 = .ok (.aload_n 0, 1) := op42 (bA_at bd03_dec_X3_0_6 2 rfl rfl)
theorem dX3_draw_69 : decode cX3_draw 69 = .ok (.getfield 64, 3) := op180 (bA_at bd03_dec_X3_0_6 3 rfl rfl) rfl
theorem dX3_draw_72 : decode cX3_draw 72 = .ok (.iload 6, 2) := op21 (bA_at bd03_dec_X3_0_6 4 rfl rfl) rfl
theorem dX3_draw_74 : decode cX3_draw 74 = .ok (.invokestatic 67, 3) := op184 (bA_at bd03_dec_X3_0_6 5 rfl rfl) rfl
theorem dX3_draw_77 : decode cX3_draw 77 = .ok (.ifCond .eq 7, 3) := op153 (bA_at bd03_dec_X3_0_6 6 rfl rfl) (by decide +kernel)
theorem dX3_draw_80 : decode cX3_draw 80 = .ok (.iconst 1, 1) := op4 (bA_at bd03_dec_X3_0_6 7 rfl rfl)
theorem dX3_draw_81 : decode cX3_draw 81 = .ok (.goto 4, 3) := op167 (bA_at bd03_dec_X3_0_6 8 rfl rfl) (by decide +kernel)
theorem dX3_draw_84 : decode cX3_draw 84 = .ok (.iconst 0, 1) := op3 (bA_at bd03_dec_X3_0_6 9 rfl rfl)
theorem dX3_draw_85 : decode cX3_draw 85 = .ok (.iload 5, 2) := op21 (bA_at bd03_dec_X3_0_6 10 rfl rfl) rfl
theorem dX3_draw_87 : decode cX3_draw 87 = .ok (.iload 6, 2) := op21 (bA_at bd03_dec_X3_0_6 11 rfl rfl) rfl
theorem bd03_dec_X3_0_7 : ([(0, [182, 0, 46]), (3, [87]), (4, [132, 4, 1]), (7, [167, 255, 173]), (10, [177])] : List (Nat × List UInt8)).all (fun x => prB x.2 ((cX3_draw.data.toList.drop 89).drop x.1)) = true := by decide +kernel
theorem dX3_draw_89 : decode cX3_draw 89 = .ok (.invokevirtual 46, 3) := op182 (bA_at bd03_dec_X3_0_7 0 rfl rfl) rfl
theorem dX3_draw_92 : decode cX3_draw 92 = .ok (.pop, 1) := op87 (bA_at bd03_dec_X3_0_7 1 rfl rfl)
theorem dX3_draw_93 : decode cX3_draw 93 = .ok (.iinc 4 1, 3) := op132 (bA_at bd03_dec_X3_0_7 2 rfl rfl) rfl (by decide +kernel)
theorem dX3_draw_96 : decode cX3_draw 96 = .ok (.goto (-83), 3) := op167 (bA_at bd03_dec_X3_0_7 3 rfl rfl) (by decide +kernel)
theorem dX3_draw_99 : decode cX3_draw 99 = .ok (.return_, 1) := op177 (bA_at bd03_dec_X3_0_7 4 rfl rfl)
theorem bd03_dec_X3_0_8 : ([(0, [42]), (1, [42]), (2, [180, 0, 50]), (5, [18, 71]), (7, [104]), (8, [17, 48, 57]), (11, [96]), (12, [181, 0, 50]), (15, [27]), (16, [158, 0, 15]), (19, [42]), (20, [180, 0, 50])] : List (Nat × List UInt8)).all (fun x => prB x.2 ((cX3_below.data.toList.drop 0).drop x.1)) = true := by decide +kernel
theorem dX3_below_0 : decode cX3_below 0 = .ok (.aload_n 0, 1) := op42 (bA_at bd03_dec_X3_0_8 0 rfl rfl)
theorem dX3_below_1 : decode cX3_below 1 = .ok (.aload_n 0, 1) := op42 (bA_at bd03_dec_X3_0_8 1 rfl rfl)
theorem dX3_below_2 : decode cX3_below 2 = .ok (.getfield 50, 3) := op180 (bA_at bd03_dec_X3_0_8 2 rfl rfl) rfl
theorem dX3_below_5 : decode cX3_below 5 = .ok (.ldc 71, 2) := op18 (bA_at bd03_dec_X3_0_8 3 rfl rfl) rfl
theorem dX3_below_7 : decode cX3_below 7 = .ok (.imul, 1) := op104 (bA_at bd03_dec_X3_0_8 4 rfl rfl)
theorem dX3_below_8 : decode cX3_below 8 = .ok (.sipush 12345, 3) := op17 (bA_at bd03_dec_X3_0_8 5 rfl rfl) (by decide +kernel)
theorem dX3_below_11 : decode cX3_below 11 = .ok (.iadd, 1) := op96 (bA_at bd03_dec_X3_0_8 6 rfl rfl)
theorem dX3_below_12 : decode cX3_below 12 = .ok (.putfield 50, 3) := op181 (bA_at bd03_dec_X3_0_8 7 rfl rfl) rfl
theorem dX3_below_15 : decode cX3_below 15 = .ok (.iload_n 1, 1) := op27 (bA_at bd03_dec_X3_0_8 8 rfl rfl)
theorem dX3_below_16 : decode cX3_below 16 = .ok (.ifCond .le 15, 3) := op158 (bA_at bd03_dec_X3_0_8 9 rfl rfl) (by decide +kernel)
theorem dX3_below_19 : decode cX3_below 19 = .ok (.aload_n 0, 1) := op42 (bA_at bd03_dec_X3_0_8 10 rfl rfl)
theorem dX3_below_20 : decode cX3_below 20 = .ok (.getfield 50, 3) := op180 (bA_at bd03_dec_X3_0_8 11 rfl rfl) rfl
theorem bd03_dec_X3_0_9 : ([(0, [16, 16]), (2, [124]), (3, [27]), (4, [112]), (5, [167, 0, 4]), (8, [3]), (9, [172])] : List (Nat × List UInt8)).all (fun x => prB x.2 ((cX3_below.data.toList.drop 23).drop x.1)) = true := by decide +kernel
theorem dX3_below_23 : decode cX3_below 23 = .ok (.bipush 16, 2) := op16 (bA_at bd03_dec_X3_0_9 0 rfl rfl) (by decide +kernel)
theorem dX3_below_25 : decode cX3_below 25 = .ok (.iushr, 1) := op124 (bA_at bd03_dec_X3_0_9 1 rfl rfl)
theorem dX3_below_26 : decode cX3_below 26 = .ok (.iload_n 1, 1) := op27 (bA_at bd03_dec_X3_0_9 2 rfl rfl)
theorem dX3_below_27 : decode cX3_below 27 = .ok (.irem, 1) := op112 (bA_at bd03_dec_X3_0_9 3 rfl rfl)
theorem dX3_below_28 : decode cX3_below 28 = .ok (.goto 4, 3) := op167 (bA_at bd03_dec_X3_0_9 4 rfl rfl) (by decide +kernel)
theorem dX3_below_31 : decode cX3_below 31 = .ok (.iconst 0, 1) := op3 (bA_at bd03_dec_X3_0_9 5 rfl rfl)
theorem dX3_below_32 : decode cX3_below 32 = .ok (.ireturn, 1) := op172 (bA_at bd03_dec_X3_0_9 6 rfl rfl)
theorem bd03_dec_X3_0_10 : ([(0, [42]), (1, [3]), (2, [181, 0, 72]), (5, [42]), (6, [3]), (7, [181, 0, 75]), (10, [42]), (11, [3]), (12, [181, 0, 64]), (15, [42]), (16, [3]), (17, [181, 0, 78])] : List (Nat × List UInt8)).all (fun x => prB x.2 ((cX3_start.data.toList.drop 0).drop x.1)) = true := by decide +kernel
theorem dX3_start_0 : decode cX3_start 0 = .ok (.aload_n 0, 1) := op42 (bA_at bd03_dec_X3_0_10 0 rfl rfl)
theorem dX3_start_1 : decode cX3_start 1 = .ok (.iconst 0, 1) := op3 (bA_at bd03_dec_X3_0_10 1 rfl rfl)
theorem dX3_start_2 : decode cX3_start 2 = .ok (.putfield 72, 3) := op181 (bA_at bd03_dec_X3_0_10 2 rfl rfl) rfl
theorem dX3_start_5 : decode cX3_start 5 = .ok (.aload_n 0, 1) := op42 (bA_at bd03_dec_X3_0_10 3 rfl rfl)
theorem dX3_start_6 : decode cX3_start 6 = .ok (.iconst 0, 1) := op3 (bA_at bd03_dec_X3_0_10 4 rfl rfl)
theorem dX3_start_7 : decode cX3_start 7 = .ok (.putfield 75, 3) := op181 (bA_at bd03_dec_X3_0_10 5 rfl rfl) rfl
theorem dX3_start_10 : decode cX3_start 10 = .ok (.aload_n 0, 1) := op42 (bA_at bd03_dec_X3_0_10 6 rfl rfl)
theorem dX3_start_11 : decode cX3_start 11 = .ok (.iconst 0, 1) := op3 (bA_at bd03_dec_X3_0_10 7 rfl rfl)
theorem dX3_start_12 : decode cX3_start 12 = .ok (.putfield 64, 3) := op181 (bA_at bd03_dec_X3_0_10 8 rfl rfl) rfl
theorem dX3_start_15 : decode cX3_start 15 = .ok (.aload_n 0, 1) := op42 (bA_at bd03_dec_X3_0_10 9 rfl rfl)
theorem dX3_start_16 : decode cX3_start 16 = .ok (.iconst 0, 1) := op3 (bA_at bd03_dec_X3_0_10 10 rfl rfl)
theorem dX3_start_17 : decode cX3_start 17 = .ok (.putfield 78, 3) := op181 (bA_at bd03_dec_X3_0_10 11 rfl rfl) rfl
theorem bd03_dec_X3_0_11 : ([(0, [43]), (1, [180, 0, 81]), (4, [3]), (5, [42]), (6, [180, 0, 9]), (9, [3]), (10, [16, 6]), (12, [184, 0, 84]), (15, [43]), (16, [180, 0, 90]), (19, [3]), (20, [42])] : List (Nat × List UInt8)).all (fun x => prB x.2 ((cX3_start.data.toList.drop 20).drop x.1)) = true := by decide +kernel
theorem dX3_start_20 : decode cX3_start 20 = .ok (.aload_n 1, 1) := op43 (bA_at bd03_dec_X3_0_11 0 rfl rfl)
theorem dX3_start_21 : decode cX3_start 21 = .ok (.getfield 81, 3) := op180 (bA_at bd03_dec_X3_0_11 1 rfl rfl) rfl
theorem dX3_start_24 : decode cX3_start 24 = .ok (.iconst 0, 1) := op3 (bA_at bd03_dec_X3_0_11 2 rfl rfl)
theorem dX3_start_25 : decode cX3_start 25 = .ok (.aload_n 0, 1) := op42 (bA_at bd03_dec_X3_0_11 3 rfl rfl)
theorem dX3_start_26 : decode cX3_start 26 = .ok (.getfield 9, 3) := op180 (bA_at bd03_dec_X3_0_11 4 rfl rfl) rfl
theorem dX3_start_29 : decode cX3_start 29 = .ok (.iconst 0, 1) := op3 (bA_at bd03_dec_X3_0_11 5 rfl rfl)
theorem dX3_start_30 : decode cX3_start 30 = .ok (.bipush 6, 2) := op16 (bA_at bd03_dec_X3_0_11 6 rfl rfl) (by decide +kernel)
theorem dX3_start_32 : decode cX3_start 32 = .ok (.invokestatic 84, 3) := op184 (bA_at bd03_dec_X3_0_11 7 rfl rfl) rfl
theorem dX3_start_35 : decode cX3_start 35 = .ok (.aload_n 1, 1) := op43 (bA_at bd03_dec_X3_0_11 8 rfl rfl)
theorem dX3_start_36 : decode cX3_start 36 = .ok (.getfield 90, 3) := op180 (bA_at bd03_dec_X3_0_11 9 rfl rfl) rfl
theorem dX3_start_39 : decode cX3_start 39 = .ok (.iconst 0, 1) := op3 (bA_at bd03_dec_X3_0_11 10 rfl rfl)
theorem dX3_start_40 : decode cX3_start 40 = .ok (.aload_n 0, 1) := op42 (bA_at bd03_dec_X3_0_11 11 rfl rfl)
theorem bd03_dec_X3_0_12 : ([(0, [180, 0, 15]), (3, [3]), (4, [16, 6]), (6, [184, 0, 84]), (9, [42]), (10, [180, 0, 18]), (13, [2]), (14, [184, 0, 91]), (17, [42]), (18, [180, 0, 21]), (21, [3]), (22, [184, 0, 91])] : List (Nat × List UInt8)).all (fun x => prB x.2 ((cX3_start.data.toList.drop 41).drop x.1)) = true := by decide +kernel
theorem dX3_start_41 : decode cX3_start 41 = .ok (.getfield 15, 3) := op180 (bA_at bd03_dec_X3_0_12 0 rfl rfl) rfl
theorem dX3_start_44 : decode cX3_start 44 = .ok (.iconst 0, 1) := op3 (bA_at bd03_dec_X3_0_12 1 rfl rfl)
theorem dX3_start_45 : decode cX3_start 45 = .ok (.bipush 6, 2) := op16 (bA_at bd03_dec_X3_0_12 2 rfl rfl) (by decide +kernel)
theorem dX3_start_47 : decode cX3_start 47 = .ok (.invokestatic 84, 3) := op184 (bA_at bd03_dec_X3_0_12 3 rfl rfl) rfl
theorem dX3_start_50 : decode cX3_start 50 = .ok (.aload_n 0, 1) := op42 (bA_at bd03_dec_X3_0_12 4 rfl rfl)
theorem dX3_start_51 : decode cX3_start 51 = .ok (.getfield 18, 3) := op180 (bA_at bd03_dec_X3_0_12 5 rfl rfl) rfl
theorem dX3_start_54 : decode cX3_start 54 = .ok (.iconst (-1), 1) := op2 (bA_at bd03_dec_X3_0_12 6 rfl rfl)
theorem dX3_start_55 : decode cX3_start 55 = .ok (.invokestatic 91, 3) := op184 (bA_at bd03_dec_X3_0_12 7 rfl rfl) rfl
theorem dX3_start_58 : decode cX3_start 58 = .ok (.aload_n 0, 1) := op42 (bA_at bd03_dec_X3_0_12 8 rfl rfl)
theorem dX3_start_59 : decode cX3_start 59 = .ok (.getfield 21, 3) := op180 (bA_at bd03_dec_X3_0_12 9 rfl rfl) rfl
theorem dX3_start_62 : decode cX3_start 62 = .ok (.iconst 0, 1) := op3 (bA_at bd03_dec_X3_0_12 10 rfl rfl)
theorem dX3_start_63 : decode cX3_start 63 = .ok (.invokestatic 91, 3) := op184 (bA_at bd03_dec_X3_0_12 11 rfl rfl) rfl
theorem bd03_dec_X3_0_13 : ([(0, [177])] : List (Nat × List UInt8)).all (fun x => prB x.2 ((cX3_start.data.toList.drop 66).drop x.1)) = true := by decide +kernel
theorem dX3_start_66 : decode cX3_start 66 = .ok (.return_, 1) := op177 (bA_at bd03_dec_X3_0_13 0 rfl rfl)
theorem dX3_act_11 : decode cX3_act 11 = .ok (.tableswitch 47 3 5 #[25, 34, 41], 25) := by decide +kernel
theorem bd03_dec_X3_0_14 : ([(0, [43]), (1, [29]), (2, [182, 0, 97]), (5, [154, 0, 5]), (8, [3]), (9, [172]), (10, [28]), (36, [42]), (37, [43]), (38, [29]), (39, [21, 4])] : List (Nat × List UInt8)).all (fun x => prB x.2 ((cX3_act.data.toList.drop 0).drop x.1)) = true := by decide +kernel
theorem dX3_act_0 : decode cX3_act 0 = .ok (.aload_n 1, 1) := op43 (bA_at bd03_dec_X3_0_14 0 rfl rfl)
theorem dX3_act_1 : decode cX3_act 1 = .ok (.iload_n 3, 1) := op29 (bA_at bd03_dec_X3_0_14 1 rfl rfl)
theorem dX3_act_2 : decode cX3_act 2 = .ok (.invokevirtual 97, 3) := op182 (bA_at bd03_dec_X3_0_14 2 rfl rfl) rfl
theorem dX3_act_5 : decode cX3_act 5 = .ok (.ifCond .ne 5, 3) := op154 (bA_at bd03_dec_X3_0_14 3 rfl rfl) (by decide +kernel)
theorem dX3_act_8 : decode cX3_act 8 = .ok (.iconst 0, 1) := op3 (bA_at bd03_dec_X3_0_14 4 rfl rfl)
theorem dX3_act_9 : decode cX3_act 9 = .ok (.ireturn, 1) := op172 (bA_at bd03_dec_X3_0_14 5 rfl rfl)
theorem dX3_act_10 : decode cX3_act 10 = .ok (.iload_n 2, 1) := op28 (bA_at bd03_dec_X3_0_14 6 rfl rfl)
theorem dX3_act_36 : decode cX3_act 36 = .ok (.aload_n 0, 1) := op42 (bA_at bd03_dec_X3_0_14 7 rfl rfl)
theorem dX3_act_37 : decode cX3_act 37 = .ok (.aload_n 1, 1) := op43 (bA_at bd03_dec_X3_0_14 8 rfl rfl)
theorem dX3_act_38 : decode cX3_act 38 = .ok (.iload_n 3, 1) := op29 (bA_at bd03_dec_X3_0_14 9 rfl rfl)
theorem dX3_act_39 : decode cX3_act 39 = .ok (.iload 4, 2) := op21 (bA_at bd03_dec_X3_0_14 10 rfl rfl) rfl
theorem bd03_dec_X3_0_15 : ([(0, [182, 0, 101]), (3, [172]), (4, [42]), (5, [43]), (6, [29]), (7, [182, 0, 105]), (10, [172]), (11, [42]), (12, [29]), (13, [182, 0, 109]), (16, [172]), (17, [42])] : List (Nat × List UInt8)).all (fun x => prB x.2 ((cX3_act.data.toList.drop 41).drop x.1)) = true := by decide +kernel
theorem dX3_act_41 : decode cX3_act 41 = .ok (.invokevirtual 101, 3) := op182 (bA_at bd03_dec_X3_0_15 0 rfl rfl) rfl
theorem dX3_act_44 : decode cX3_act 44 = .ok (.ireturn, 1) := op172 (bA_at bd03_dec_X3_0_15 1 rfl rfl)
theorem dX3_act_45 : decode cX3_act 45 = .ok (.aload_n 0, 1) := op42 (bA_at bd03_dec_X3_0_15 2 rfl rfl)
theorem dX3_act_46 : decode cX3_act 46 = .ok (.aload_n 1, 1) := op43 (bA_at bd03_dec_X3_0_15 3 rfl rfl)
theorem dX3_act_47 : decode cX3_act 47 = .ok (.iload_n 3, 1) := op29 (bA_at bd03_dec_X3_0_15 4 rfl rfl)
theorem dX3_act_48 : decode cX3_act 48 = .ok (.invokevirtual 105, 3) := op182 (bA_at bd03_dec_X3_0_15 5 rfl rfl) rfl
theorem dX3_act_51 : decode cX3_act 51 = .ok (.ireturn, 1) := op172 (bA_at bd03_dec_X3_0_15 6 rfl rfl)
theorem dX3_act_52 : decode cX3_act 52 = .ok (.aload_n 0, 1) := op42 (bA_at bd03_dec_X3_0_15 7 rfl rfl)
theorem dX3_act_53 : decode cX3_act 53 = .ok (.iload_n 3, 1) := op29 (bA_at bd03_dec_X3_0_15 8 rfl rfl)
theorem dX3_act_54 : decode cX3_act 54 = .ok (.invokevirtual 109, 3) := op182 (bA_at bd03_dec_X3_0_15 9 rfl rfl) rfl
theorem dX3_act_57 : decode cX3_act 57 = .ok (.ireturn, 1) := op172 (bA_at bd03_dec_X3_0_15 10 rfl rfl)
theorem dX3_act_58 : decode cX3_act 58 = .ok (.aload_n 0, 1) := op42 (bA_at bd03_dec_X3_0_15 11 rfl rfl)
theorem bd03_dec_X3_0_16 : ([(0, [43]), (1, [28]), (2, [29]), (3, [21, 4]), (5, [182, 0, 112]), (8, [172])] : List (Nat × List UInt8)).all (fun x => prB x.2 ((cX3_act.data.toList.drop 59).drop x.1)) = true := by decide +kernel
theorem dX3_act_59 : decode cX3_act 59 = .ok (.aload_n 1, 1) := op43 (bA_at bd03_dec_X3_0_16 0 rfl rfl)
theorem dX3_act_60 : decode cX3_act 60 = .ok (.iload_n 2, 1) := op28 (bA_at bd03_dec_X3_0_16 1 rfl rfl)
theorem dX3_act_61 : decode cX3_act 61 = .ok (.iload_n 3, 1) := op29 (bA_at bd03_dec_X3_0_16 2 rfl rfl)
theorem dX3_act_62 : decode cX3_act 62 = .ok (.iload 4, 2) := op21 (bA_at bd03_dec_X3_0_16 3 rfl rfl) rfl
theorem dX3_act_64 : decode cX3_act 64 = .ok (.invokevirtual 112, 3) := op182 (bA_at bd03_dec_X3_0_16 4 rfl rfl) rfl
theorem dX3_act_67 : decode cX3_act 67 = .ok (.ireturn, 1) := op172 (bA_at bd03_dec_X3_0_16 5 rfl rfl)
theorem bd03_dec_X3_0_17 : ([(0, [42]), (1, [180, 0, 9]), (4, [28]), (5, [46]), (6, [54, 4]), (8, [43]), (9, [29]), (10, [182, 0, 115]), (13, [153, 0, 33]), (16, [42]), (17, [180, 0, 78]), (20, [28])] : List (Nat × List UInt8)).all (fun x => prB x.2 ((cX3_walk.data.toList.drop 0).drop x.1)) = true := by decide +kernel
theorem dX3_walk_0 : decode cX3_walk 0 = .ok (.aload_n 0, 1) := op42 (bA_at bd03_dec_X3_0_17 0 rfl rfl)
theorem dX3_walk_1 : decode cX3_walk 1 = .ok (.getfield 9, 3) := op180 (bA_at bd03_dec_X3_0_17 1 rfl rfl) rfl
theorem dX3_walk_4 : decode cX3_walk 4 = .ok (.iload_n 2, 1) := op28 (bA_at bd03_dec_X3_0_17 2 rfl rfl)
theorem dX3_walk_5 : decode cX3_walk 5 = .ok (.iaload, 1) := op46 (bA_at bd03_dec_X3_0_17 3 rfl rfl)
theorem dX3_walk_6 : decode cX3_walk 6 = .ok (.istore 4, 2) := op54 (bA_at bd03_dec_X3_0_17 4 rfl rfl) rfl
theorem dX3_walk_8 : decode cX3_walk 8 = .ok (.aload_n 1, 1) := op43 (bA_at bd03_dec_X3_0_17 5 rfl rfl)
theorem dX3_walk_9 : decode cX3_walk 9 = .ok (.iload_n 3, 1) := op29 (bA_at bd03_dec_X3_0_17 6 rfl rfl)
theorem dX3_walk_10 : decode cX3_walk 10 = .ok (.invokevirtual 115, 3) := op182 (bA_at bd03_dec_X3_0_17 7 rfl rfl) rfl
theorem dX3_walk_13 : decode cX3_walk 13 = .ok (.ifCond .eq 33, 3) := op153 (bA_at bd03_dec_X3_0_17 8 rfl rfl) (by decide +kernel)
theorem dX3_walk_16 : decode cX3_walk 16 = .ok (.aload_n 0, 1) := op42 (bA_at bd03_dec_X3_0_17 9 rfl rfl)
theorem dX3_walk_17 : decode cX3_walk 17 = .ok (.getfield 78, 3) := op180 (bA_at bd03_dec_X3_0_17 10 rfl rfl) rfl
theorem dX3_walk_20 : decode cX3_walk 20 = .ok (.iload_n 2, 1) := op28 (bA_at bd03_dec_X3_0_17 11 rfl rfl)
theorem bd03_dec_X3_0_18 : ([(0, [184, 0, 67]), (3, [154, 0, 22]), (6, [42]), (7, [43]), (8, [21, 4]), (10, [182, 0, 118]), (13, [154, 0, 12]), (16, [42]), (17, [43]), (18, [29]), (19, [182, 0, 118]), (22, [153, 0, 5])] : List (Nat × List UInt8)).all (fun x => prB x.2 ((cX3_walk.data.toList.drop 21).drop x.1)) = true := by decide +kernel
theorem dX3_walk_21 : decode cX3_walk 21 = .ok (.invokestatic 67, 3) := op184 (bA_at bd03_dec_X3_0_18 0 rfl rfl) rfl
theorem dX3_walk_24 : decode cX3_walk 24 = .ok (.ifCond .ne 22, 3) := op154 (bA_at bd03_dec_X3_0_18 1 rfl rfl) (by decide +kernel)
theorem dX3_walk_27 : decode cX3_walk 27 = .ok (.aload_n 0, 1) := op42 (bA_at bd03_dec_X3_0_18 2 rfl rfl)
theorem dX3_walk_28 : decode cX3_walk 28 = .ok (.aload_n 1, 1) := op43 (bA_at bd03_dec_X3_0_18 3 rfl rfl)
theorem dX3_walk_29 : decode cX3_walk 29 = .ok (.iload 4, 2) := op21 (bA_at bd03_dec_X3_0_18 4 rfl rfl) rfl
theorem dX3_walk_31 : decode cX3_walk 31 = .ok (.invokevirtual 118, 3) := op182 (bA_at bd03_dec_X3_0_18 5 rfl rfl) rfl
theorem dX3_walk_34 : decode cX3_walk 34 = .ok (.ifCond .ne 12, 3) := op154 (bA_at bd03_dec_X3_0_18 6 rfl rfl) (by decide +kernel)
theorem dX3_walk_37 : decode cX3_walk 37 = .ok (.aload_n 0, 1) := op42 (bA_at bd03_dec_X3_0_18 7 rfl rfl)
theorem dX3_walk_38 : decode cX3_walk 38 = .ok (.aload_n 1, 1) := op43 (bA_at bd03_dec_X3_0_18 8 rfl rfl)
theorem dX3_walk_39 : decode cX3_walk 39 = .ok (.iload_n 3, 1) := op29 (bA_at bd03_dec_X3_0_18 9 rfl rfl)
theorem dX3_walk_40 : decode cX3_walk 40 = .ok (.invokevirtual 118, 3) := op182 (bA_at bd03_dec_X3_0_18 10 rfl rfl) rfl
theorem dX3_walk_43 : decode cX3_walk 43 = .ok (.ifCond .eq 5, 3) := op153 (bA_at bd03_dec_X3_0_18 11 rfl rfl) (by decide +kernel)
theorem bd03_dec_X3_0_19 : ([(0, [3]), (1, [172]), (2, [43]), (3, [180, 0, 121]), (6, [21, 4]), (8, [16, 9]), (10, [104]), (11, [29]), (12, [96]), (13, [46]), (14, [54, 5]), (16, [21, 5])] : List (Nat × List UInt8)).all (fun x => prB x.2 ((cX3_walk.data.toList.drop 46).drop x.1)) = true := by decide +kernel
theorem dX3_walk_46 : decode cX3_walk 46 = .ok (.iconst 0, 1) := op3 (bA_at bd03_dec_X3_0_19 0 rfl rfl)
theorem dX3_walk_47 : decode cX3_walk 47 = .ok (.ireturn, 1) := op172 (bA_at bd03_dec_X3_0_19 1 rfl rfl)
theorem dX3_walk_48 : decode cX3_walk 48 = .ok (.aload_n 1, 1) := op43 (bA_at bd03_dec_X3_0_19 2 rfl rfl)
theorem dX3_walk_49 : decode cX3_walk 49 = .ok (.getfield 121, 3) := op180 (bA_at bd03_dec_X3_0_19 3 rfl rfl) rfl
theorem dX3_walk_52 : decode cX3_walk 52 = .ok (.iload 4, 2) := op21 (bA_at bd03_dec_X3_0_19 4 rfl rfl) rfl
theorem dX3_walk_54 : decode cX3_walk 54 = .ok (.bipush 9, 2) := op16 (bA_at bd03_dec_X3_0_19 5 rfl rfl) (by decide +kernel)
theorem dX3_walk_56 : decode cX3_walk 56 = .ok (.imul, 1) := op104 (bA_at bd03_dec_X3_0_19 6 rfl rfl)
theorem dX3_walk_57 : decode cX3_walk 57 = .ok (.iload_n 3, 1) := op29 (bA_at bd03_dec_X3_0_19 7 rfl rfl)
theorem dX3_walk_58 : decode cX3_walk 58 = .ok (.iadd, 1) := op96 (bA_at bd03_dec_X3_0_19 8 rfl rfl)
theorem dX3_walk_59 : decode cX3_walk 59 = .ok (.iaload, 1) := op46 (bA_at bd03_dec_X3_0_19 9 rfl rfl)
theorem dX3_walk_60 : decode cX3_walk 60 = .ok (.istore 5, 2) := op54 (bA_at bd03_dec_X3_0_19 10 rfl rfl) rfl
theorem dX3_walk_62 : decode cX3_walk 62 = .ok (.iload 5, 2) := op21 (bA_at bd03_dec_X3_0_19 11 rfl rfl) rfl
theorem bd03_dec_X3_0_20 : ([(0, [154, 0, 5]), (3, [3]), (4, [172]), (5, [42]), (6, [89]), (7, [180, 0, 72]), (10, [21, 5]), (12, [96]), (13, [181, 0, 72]), (16, [42]), (17, [180, 0, 9]), (20, [28])] : List (Nat × List UInt8)).all (fun x => prB x.2 ((cX3_walk.data.toList.drop 64).drop x.1)) = true := by decide +kernel
theorem dX3_walk_64 : decode cX3_walk 64 = .ok (.ifCond .ne 5, 3) := op154 (bA_at bd03_dec_X3_0_20 0 rfl rfl) (by decide +kernel)
theorem dX3_walk_67 : decode cX3_walk 67 = .ok (.iconst 0, 1) := op3 (bA_at bd03_dec_X3_0_20 1 rfl rfl)
theorem dX3_walk_68 : decode cX3_walk 68 = .ok (.ireturn, 1) := op172 (bA_at bd03_dec_X3_0_20 2 rfl rfl)
theorem dX3_walk_69 : decode cX3_walk 69 = .ok (.aload_n 0, 1) := op42 (bA_at bd03_dec_X3_0_20 3 rfl rfl)
theorem dX3_walk_70 : decode cX3_walk 70 = .ok (.dup, 1) := op89 (bA_at bd03_dec_X3_0_20 4 rfl rfl)
theorem dX3_walk_71 : decode cX3_walk 71 = .ok (.getfield 72, 3) := op180 (bA_at bd03_dec_X3_0_20 5 rfl rfl) rfl
theorem dX3_walk_74 : decode cX3_walk 74 = .ok (.iload 5, 2) := op21 (bA_at bd03_dec_X3_0_20 6 rfl rfl) rfl
theorem dX3_walk_76 : decode cX3_walk 76 = .ok (.iadd, 1) := op96 (bA_at bd03_dec_X3_0_20 7 rfl rfl)
theorem dX3_walk_77 : decode cX3_walk 77 = .ok (.putfield 72, 3) := op181 (bA_at bd03_dec_X3_0_20 8 rfl rfl) rfl
theorem dX3_walk_80 : decode cX3_walk 80 = .ok (.aload_n 0, 1) := op42 (bA_at bd03_dec_X3_0_20 9 rfl rfl)
theorem dX3_walk_81 : decode cX3_walk 81 = .ok (.getfield 9, 3) := op180 (bA_at bd03_dec_X3_0_20 10 rfl rfl) rfl
theorem dX3_walk_84 : decode cX3_walk 84 = .ok (.iload_n 2, 1) := op28 (bA_at bd03_dec_X3_0_20 11 rfl rfl)
theorem bd03_dec_X3_0_21 : ([(0, [29]), (1, [79]), (2, [4]), (3, [172])] : List (Nat × List UInt8)).all (fun x => prB x.2 ((cX3_walk.data.toList.drop 85).drop x.1)) = true := by decide +kernel
theorem dX3_walk_85 : decode cX3_walk 85 = .ok (.iload_n 3, 1) := op29 (bA_at bd03_dec_X3_0_21 0 rfl rfl)
theorem dX3_walk_86 : decode cX3_walk 86 = .ok (.iastore, 1) := op79 (bA_at bd03_dec_X3_0_21 1 rfl rfl)
theorem dX3_walk_87 : decode cX3_walk 87 = .ok (.iconst 1, 1) := op4 (bA_at bd03_dec_X3_0_21 2 rfl rfl)
theorem dX3_walk_88 : decode cX3_walk 88 = .ok (.ireturn, 1) := op172 (bA_at bd03_dec_X3_0_21 3 rfl rfl)
theorem bd03_dec_X3_0_22 : ([(0, [42]), (1, [180, 0, 78]), (4, [28]), (5, [184, 0, 67]), (8, [154, 0, 17]), (11, [43]), (12, [180, 0, 124]), (15, [42]), (16, [180, 0, 9]), (19, [28]), (20, [46]), (21, [46])] : List (Nat × List UInt8)).all (fun x => prB x.2 ((cX3_climb.data.toList.drop 0).drop x.1)) = true := by decide +kernel
theorem dX3_climb_0 : decode cX3_climb 0 = .ok (.aload_n 0, 1) := op42 (bA_at bd03_dec_X3_0_22 0 rfl rfl)
theorem dX3_climb_1 : decode cX3_climb 1 = .ok (.getfield 78, 3) := op180 (bA_at bd03_dec_X3_0_22 1 rfl rfl) rfl
theorem dX3_climb_4 : decode cX3_climb 4 = .ok (.iload_n 2, 1) := op28 (bA_at bd03_dec_X3_0_22 2 rfl rfl)
theorem dX3_climb_5 : decode cX3_climb 5 = .ok (.invokestatic 67, 3) := op184 (bA_at bd03_dec_X3_0_22 3 rfl rfl) rfl
theorem dX3_climb_8 : decode cX3_climb 8 = .ok (.ifCond .ne 17, 3) := op154 (bA_at bd03_dec_X3_0_22 4 rfl rfl) (by decide +kernel)
theorem dX3_climb_11 : decode cX3_climb 11 = .ok (.aload_n 1, 1) := op43 (bA_at bd03_dec_X3_0_22 5 rfl rfl)
theorem dX3_climb_12 : decode cX3_climb 12 = .ok (.getfield 124, 3) := op180 (bA_at bd03_dec_X3_0_22 6 rfl rfl) rfl
theorem dX3_climb_15 : decode cX3_climb 15 = .ok (.aload_n 0, 1) := op42 (bA_at bd03_dec_X3_0_22 7 rfl rfl)
theorem dX3_climb_16 : decode cX3_climb 16 = .ok (.getfield 9, 3) := op180 (bA_at bd03_dec_X3_0_22 8 rfl rfl) rfl
theorem dX3_climb_19 : decode cX3_climb 19 = .ok (.iload_n 2, 1) := op28 (bA_at bd03_dec_X3_0_22 9 rfl rfl)
theorem dX3_climb_20 : decode cX3_climb 20 = .ok (.iaload, 1) := op46 (bA_at bd03_dec_X3_0_22 10 rfl rfl)
theorem dX3_climb_21 : decode cX3_climb 21 = .ok (.iaload, 1) := op46 (bA_at bd03_dec_X3_0_22 11 rfl rfl)
theorem bd03_dec_X3_0_23 : ([(0, [154, 0, 5]), (3, [3]), (4, [172]), (5, [42]), (6, [89]), (7, [180, 0, 78]), (10, [4]), (11, [28]), (12, [120]), (13, [128]), (14, [181, 0, 78]), (17, [4])] : List (Nat × List UInt8)).all (fun x => prB x.2 ((cX3_climb.data.toList.drop 22).drop x.1)) = true := by decide +kernel
theorem dX3_climb_22 : decode cX3_climb 22 = .ok (.ifCond .ne 5, 3) := op154 (bA_at bd03_dec_X3_0_23 0 rfl rfl) (by decide +kernel)
theorem dX3_climb_25 : decode cX3_climb 25 = .ok (.iconst 0, 1) := op3 (bA_at bd03_dec_X3_0_23 1 rfl rfl)
theorem dX3_climb_26 : decode cX3_climb 26 = .ok (.ireturn, 1) := op172 (bA_at bd03_dec_X3_0_23 2 rfl rfl)
theorem dX3_climb_27 : decode cX3_climb 27 = .ok (.aload_n 0, 1) := op42 (bA_at bd03_dec_X3_0_23 3 rfl rfl)
theorem dX3_climb_28 : decode cX3_climb 28 = .ok (.dup, 1) := op89 (bA_at bd03_dec_X3_0_23 4 rfl rfl)
theorem dX3_climb_29 : decode cX3_climb 29 = .ok (.getfield 78, 3) := op180 (bA_at bd03_dec_X3_0_23 5 rfl rfl) rfl
theorem dX3_climb_32 : decode cX3_climb 32 = .ok (.iconst 1, 1) := op4 (bA_at bd03_dec_X3_0_23 6 rfl rfl)
theorem dX3_climb_33 : decode cX3_climb 33 = .ok (.iload_n 2, 1) := op28 (bA_at bd03_dec_X3_0_23 7 rfl rfl)
theorem dX3_climb_34 : decode cX3_climb 34 = .ok (.ishl, 1) := op120 (bA_at bd03_dec_X3_0_23 8 rfl rfl)
theorem dX3_climb_35 : decode cX3_climb 35 = .ok (.ior, 1) := op128 (bA_at bd03_dec_X3_0_23 9 rfl rfl)
theorem dX3_climb_36 : decode cX3_climb 36 = .ok (.putfield 78, 3) := op181 (bA_at bd03_dec_X3_0_23 10 rfl rfl) rfl
theorem dX3_climb_39 : decode cX3_climb 39 = .ok (.iconst 1, 1) := op4 (bA_at bd03_dec_X3_0_23 11 rfl rfl)
theorem bd03_dec_X3_0_24 : ([(0, [172])] : List (Nat × List UInt8)).all (fun x => prB x.2 ((cX3_climb.data.toList.drop 40).drop x.1)) = true := by decide +kernel
theorem dX3_climb_40 : decode cX3_climb 40 = .ok (.ireturn, 1) := op172 (bA_at bd03_dec_X3_0_24 0 rfl rfl)
theorem bd03_dec_X3_0_25 : ([(0, [42]), (1, [180, 0, 78]), (4, [27]), (5, [184, 0, 67]), (8, [154, 0, 5]), (11, [3]), (12, [172]), (13, [42]), (14, [89]), (15, [180, 0, 78]), (18, [4]), (19, [27])] : List (Nat × List UInt8)).all (fun x => prB x.2 ((cX3_descend.data.toList.drop 0).drop x.1)) = true := by decide +kernel
theorem dX3_descend_0 : decode cX3_descend 0 = .ok (.aload_n 0, 1) := op42 (bA_at bd03_dec_X3_0_25 0 rfl rfl)
theorem dX3_descend_1 : decode cX3_descend 1 = .ok (.getfield 78, 3) := op180 (bA_at bd03_dec_X3_0_25 1 rfl rfl) rfl
theorem dX3_descend_4 : decode cX3_descend 4 = .ok (.iload_n 1, 1) := op27 (bA_at bd03_dec_X3_0_25 2 rfl rfl)
theorem dX3_descend_5 : decode cX3_descend 5 = .ok (.invokestatic 67, 3) := op184 (bA_at bd03_dec_X3_0_25 3 rfl rfl) rfl
theorem dX3_descend_8 : decode cX3_descend 8 = .ok (.ifCond .ne 5, 3) := op154 (bA_at bd03_dec_X3_0_25 4 rfl rfl) (by decide +kernel)
theorem dX3_descend_11 : decode cX3_descend 11 = .ok (.iconst 0, 1) := op3 (bA_at bd03_dec_X3_0_25 5 rfl rfl)
theorem dX3_descend_12 : decode cX3_descend 12 = .ok (.ireturn, 1) := op172 (bA_at bd03_dec_X3_0_25 6 rfl rfl)
theorem dX3_descend_13 : decode cX3_descend 13 = .ok (.aload_n 0, 1) := op42 (bA_at bd03_dec_X3_0_25 7 rfl rfl)
theorem dX3_descend_14 : decode cX3_descend 14 = .ok (.dup, 1) := op89 (bA_at bd03_dec_X3_0_25 8 rfl rfl)
theorem dX3_descend_15 : decode cX3_descend 15 = .ok (.getfield 78, 3) := op180 (bA_at bd03_dec_X3_0_25 9 rfl rfl) rfl
theorem dX3_descend_18 : decode cX3_descend 18 = .ok (.iconst 1, 1) := op4 (bA_at bd03_dec_X3_0_25 10 rfl rfl)
theorem dX3_descend_19 : decode cX3_descend 19 = .ok (.iload_n 1, 1) := op27 (bA_at bd03_dec_X3_0_25 11 rfl rfl)
theorem bd03_dec_X3_0_26 : ([(0, [120]), (1, [2]), (2, [130]), (3, [126]), (4, [181, 0, 78]), (7, [4]), (8, [172])] : List (Nat × List UInt8)).all (fun x => prB x.2 ((cX3_descend.data.toList.drop 20).drop x.1)) = true := by decide +kernel
theorem dX3_descend_20 : decode cX3_descend 20 = .ok (.ishl, 1) := op120 (bA_at bd03_dec_X3_0_26 0 rfl rfl)
theorem dX3_descend_21 : decode cX3_descend 21 = .ok (.iconst (-1), 1) := op2 (bA_at bd03_dec_X3_0_26 1 rfl rfl)
theorem dX3_descend_22 : decode cX3_descend 22 = .ok (.ixor, 1) := op130 (bA_at bd03_dec_X3_0_26 2 rfl rfl)
theorem dX3_descend_23 : decode cX3_descend 23 = .ok (.iand, 1) := op126 (bA_at bd03_dec_X3_0_26 3 rfl rfl)
theorem dX3_descend_24 : decode cX3_descend 24 = .ok (.putfield 78, 3) := op181 (bA_at bd03_dec_X3_0_26 4 rfl rfl) rfl
theorem dX3_descend_27 : decode cX3_descend 27 = .ok (.iconst 1, 1) := op4 (bA_at bd03_dec_X3_0_26 5 rfl rfl)
theorem dX3_descend_28 : decode cX3_descend 28 = .ok (.ireturn, 1) := op172 (bA_at bd03_dec_X3_0_26 6 rfl rfl)
theorem bd03_dec_X3_0_27 : ([(0, [42]), (1, [180, 0, 9]), (4, [29]), (5, [46]), (6, [54, 5]), (8, [21, 4]), (10, [155, 0, 32]), (13, [21, 4]), (15, [8]), (16, [162, 0, 26]), (19, [42]), (20, [180, 0, 15])] : List (Nat × List UInt8)).all (fun x => prB x.2 ((cX3_raise.data.toList.drop 0).drop x.1)) = true := by decide +kernel
theorem dX3_raise_0 : decode cX3_raise 0 = .ok (.aload_n 0, 1) := op42 (bA_at bd03_dec_X3_0_27 0 rfl rfl)
theorem dX3_raise_1 : decode cX3_raise 1 = .ok (.getfield 9, 3) := op180 (bA_at bd03_dec_X3_0_27 1 rfl rfl) rfl
theorem dX3_raise_4 : decode cX3_raise 4 = .ok (.iload_n 3, 1) := op29 (bA_at bd03_dec_X3_0_27 2 rfl rfl)
theorem dX3_raise_5 : decode cX3_raise 5 = .ok (.iaload, 1) := op46 (bA_at bd03_dec_X3_0_27 3 rfl rfl)
theorem dX3_raise_6 : decode cX3_raise 6 = .ok (.istore 5, 2) := op54 (bA_at bd03_dec_X3_0_27 4 rfl rfl) rfl
theorem dX3_raise_8 : decode cX3_raise 8 = .ok (.iload 4, 2) := op21 (bA_at bd03_dec_X3_0_27 5 rfl rfl) rfl
theorem dX3_raise_10 : decode cX3_raise 10 = .ok (.ifCond .lt 32, 3) := op155 (bA_at bd03_dec_X3_0_27 6 rfl rfl) (by decide +kernel)
theorem dX3_raise_13 : decode cX3_raise 13 = .ok (.iload 4, 2) := op21 (bA_at bd03_dec_X3_0_27 7 rfl rfl) rfl
theorem dX3_raise_15 : decode cX3_raise 15 = .ok (.iconst 5, 1) := op8 (bA_at bd03_dec_X3_0_27 8 rfl rfl)
theorem dX3_raise_16 : decode cX3_raise 16 = .ok (.if_icmp .ge 26, 3) := op162 (bA_at bd03_dec_X3_0_27 9 rfl rfl) (by decide +kernel)
theorem dX3_raise_19 : decode cX3_raise 19 = .ok (.aload_n 0, 1) := op42 (bA_at bd03_dec_X3_0_27 10 rfl rfl)
theorem dX3_raise_20 : decode cX3_raise 20 = .ok (.getfield 15, 3) := op180 (bA_at bd03_dec_X3_0_27 11 rfl rfl) rfl
theorem bd03_dec_X3_0_28 : ([(0, [29]), (1, [46]), (2, [21, 4]), (4, [184, 0, 67]), (7, [153, 0, 12]), (10, [43]), (11, [21, 5]), (13, [182, 0, 127]), (16, [153, 0, 5]), (19, [3]), (20, [172]), (21, [42])] : List (Nat × List UInt8)).all (fun x => prB x.2 ((cX3_raise.data.toList.drop 23).drop x.1)) = true := by decide +kernel
theorem dX3_raise_23 : decode cX3_raise 23 = .ok (.iload_n 3, 1) := op29 (bA_at bd03_dec_X3_0_28 0 rfl rfl)
theorem dX3_raise_24 : decode cX3_raise 24 = .ok (.iaload, 1) := op46 (bA_at bd03_dec_X3_0_28 1 rfl rfl)
theorem dX3_raise_25 : decode cX3_raise 25 = .ok (.iload 4, 2) := op21 (bA_at bd03_dec_X3_0_28 2 rfl rfl) rfl
theorem dX3_raise_27 : decode cX3_raise 27 = .ok (.invokestatic 67, 3) := op184 (bA_at bd03_dec_X3_0_28 3 rfl rfl) rfl
theorem dX3_raise_30 : decode cX3_raise 30 = .ok (.ifCond .eq 12, 3) := op153 (bA_at bd03_dec_X3_0_28 4 rfl rfl) (by decide +kernel)
theorem dX3_raise_33 : decode cX3_raise 33 = .ok (.aload_n 1, 1) := op43 (bA_at bd03_dec_X3_0_28 5 rfl rfl)
theorem dX3_raise_34 : decode cX3_raise 34 = .ok (.iload 5, 2) := op21 (bA_at bd03_dec_X3_0_28 6 rfl rfl) rfl
theorem dX3_raise_36 : decode cX3_raise 36 = .ok (.invokevirtual 127, 3) := op182 (bA_at bd03_dec_X3_0_28 7 rfl rfl) rfl
theorem dX3_raise_39 : decode cX3_raise 39 = .ok (.ifCond .eq 5, 3) := op153 (bA_at bd03_dec_X3_0_28 8 rfl rfl) (by decide +kernel)
theorem dX3_raise_42 : decode cX3_raise 42 = .ok (.iconst 0, 1) := op3 (bA_at bd03_dec_X3_0_28 9 rfl rfl)
theorem dX3_raise_43 : decode cX3_raise 43 = .ok (.ireturn, 1) := op172 (bA_at bd03_dec_X3_0_28 10 rfl rfl)
theorem dX3_raise_44 : decode cX3_raise 44 = .ok (.aload_n 0, 1) := op42 (bA_at bd03_dec_X3_0_28 11 rfl rfl)
theorem bd03_dec_X3_0_29 : ([(0, [180, 0, 64]), (3, [21, 4]), (5, [184, 0, 67]), (8, [28]), (9, [154, 0, 7]), (12, [4]), (13, [167, 0, 4]), (16, [3]), (17, [160, 0, 5]), (20, [3]), (21, [172]), (22, [42])] : List (Nat × List UInt8)).all (fun x => prB x.2 ((cX3_raise.data.toList.drop 45).drop x.1)) = true := by decide +kernel
theorem dX3_raise_45 : decode cX3_raise 45 = .ok (.getfield 64, 3) := op180 (bA_at bd03_dec_X3_0_29 0 rfl rfl) rfl
theorem dX3_raise_48 : decode cX3_raise 48 = .ok (.iload 4, 2) := op21 (bA_at bd03_dec_X3_0_29 1 rfl rfl) rfl
theorem dX3_raise_50 : decode cX3_raise 50 = .ok (.invokestatic 67, 3) := op184 (bA_at bd03_dec_X3_0_29 2 rfl rfl) rfl
theorem dX3_raise_53 : decode cX3_raise 53 = .ok (.iload_n 2, 1) := op28 (bA_at bd03_dec_X3_0_29 3 rfl rfl)
theorem dX3_raise_54 : decode cX3_raise 54 = .ok (.ifCond .ne 7, 3) := op154 (bA_at bd03_dec_X3_0_29 4 rfl rfl) (by decide +kernel)
theorem dX3_raise_57 : decode cX3_raise 57 = .ok (.iconst 1, 1) := op4 (bA_at bd03_dec_X3_0_29 5 rfl rfl)
theorem dX3_raise_58 : decode cX3_raise 58 = .ok (.goto 4, 3) := op167 (bA_at bd03_dec_X3_0_29 6 rfl rfl) (by decide +kernel)
theorem dX3_raise_61 : decode cX3_raise 61 = .ok (.iconst 0, 1) := op3 (bA_at bd03_dec_X3_0_29 7 rfl rfl)
theorem dX3_raise_62 : decode cX3_raise 62 = .ok (.if_icmp .ne 5, 3) := op160 (bA_at bd03_dec_X3_0_29 8 rfl rfl) (by decide +kernel)
theorem dX3_raise_65 : decode cX3_raise 65 = .ok (.iconst 0, 1) := op3 (bA_at bd03_dec_X3_0_29 9 rfl rfl)
theorem dX3_raise_66 : decode cX3_raise 66 = .ok (.ireturn, 1) := op172 (bA_at bd03_dec_X3_0_29 10 rfl rfl)
theorem dX3_raise_67 : decode cX3_raise 67 = .ok (.aload_n 0, 1) := op42 (bA_at bd03_dec_X3_0_29 11 rfl rfl)
theorem bd03_dec_X3_0_30 : ([(0, [43]), (1, [29]), (2, [182, 0, 130]), (5, [54, 6]), (7, [28]), (8, [21, 6]), (10, [42]), (11, [180, 0, 18]), (14, [21, 4]), (16, [46]), (17, [184, 0, 134]), (20, [153, 0, 24])] : List (Nat × List UInt8)).all (fun x => prB x.2 ((cX3_raise.data.toList.drop 68).drop x.1)) = true := by decide +kernel
theorem dX3_raise_68 : decode cX3_raise 68 = .ok (.aload_n 1, 1) := op43 (bA_at bd03_dec_X3_0_30 0 rfl rfl)
theorem dX3_raise_69 : decode cX3_raise 69 = .ok (.iload_n 3, 1) := op29 (bA_at bd03_dec_X3_0_30 1 rfl rfl)
theorem dX3_raise_70 : decode cX3_raise 70 = .ok (.invokevirtual 130, 3) := op182 (bA_at bd03_dec_X3_0_30 2 rfl rfl) rfl
theorem dX3_raise_73 : decode cX3_raise 73 = .ok (.istore 6, 2) := op54 (bA_at bd03_dec_X3_0_30 3 rfl rfl) rfl
theorem dX3_raise_75 : decode cX3_raise 75 = .ok (.iload_n 2, 1) := op28 (bA_at bd03_dec_X3_0_30 4 rfl rfl)
theorem dX3_raise_76 : decode cX3_raise 76 = .ok (.iload 6, 2) := op21 (bA_at bd03_dec_X3_0_30 5 rfl rfl) rfl
theorem dX3_raise_78 : decode cX3_raise 78 = .ok (.aload_n 0, 1) := op42 (bA_at bd03_dec_X3_0_30 6 rfl rfl)
theorem dX3_raise_79 : decode cX3_raise 79 = .ok (.getfield 18, 3) := op180 (bA_at bd03_dec_X3_0_30 7 rfl rfl) rfl
theorem dX3_raise_82 : decode cX3_raise 82 = .ok (.iload 4, 2) := op21 (bA_at bd03_dec_X3_0_30 8 rfl rfl) rfl
theorem dX3_raise_84 : decode cX3_raise 84 = .ok (.iaload, 1) := op46 (bA_at bd03_dec_X3_0_30 9 rfl rfl)
theorem dX3_raise_85 : decode cX3_raise 85 = .ok (.invokestatic 134, 3) := op184 (bA_at bd03_dec_X3_0_30 10 rfl rfl) rfl
theorem dX3_raise_88 : decode cX3_raise 88 = .ok (.ifCond .eq 24, 3) := op153 (bA_at bd03_dec_X3_0_30 11 rfl rfl) (by decide +kernel)
theorem bd03_dec_X3_0_31 : ([(0, [42]), (1, [89]), (2, [180, 0, 75]), (5, [4]), (6, [96]), (7, [181, 0, 75]), (10, [42]), (11, [180, 0, 21]), (14, [21, 5]), (16, [92]), (17, [46]), (18, [4])] : List (Nat × List UInt8)).all (fun x => prB x.2 ((cX3_raise.data.toList.drop 91).drop x.1)) = true := by decide +kernel
theorem dX3_raise_91 : decode cX3_raise 91 = .ok (.aload_n 0, 1) := op42 (bA_at bd03_dec_X3_0_31 0 rfl rfl)
theorem dX3_raise_92 : decode cX3_raise 92 = .ok (.dup, 1) := op89 (bA_at bd03_dec_X3_0_31 1 rfl rfl)
theorem dX3_raise_93 : decode cX3_raise 93 = .ok (.getfield 75, 3) := op180 (bA_at bd03_dec_X3_0_31 2 rfl rfl) rfl
theorem dX3_raise_96 : decode cX3_raise 96 = .ok (.iconst 1, 1) := op4 (bA_at bd03_dec_X3_0_31 3 rfl rfl)
theorem dX3_raise_97 : decode cX3_raise 97 = .ok (.iadd, 1) := op96 (bA_at bd03_dec_X3_0_31 4 rfl rfl)
theorem dX3_raise_98 : decode cX3_raise 98 = .ok (.putfield 75, 3) := op181 (bA_at bd03_dec_X3_0_31 5 rfl rfl) rfl
theorem dX3_raise_101 : decode cX3_raise 101 = .ok (.aload_n 0, 1) := op42 (bA_at bd03_dec_X3_0_31 6 rfl rfl)
theorem dX3_raise_102 : decode cX3_raise 102 = .ok (.getfield 21, 3) := op180 (bA_at bd03_dec_X3_0_31 7 rfl rfl) rfl
theorem dX3_raise_105 : decode cX3_raise 105 = .ok (.iload 5, 2) := op21 (bA_at bd03_dec_X3_0_31 8 rfl rfl) rfl
theorem dX3_raise_107 : decode cX3_raise 107 = .ok (.dup2, 1) := op92 (bA_at bd03_dec_X3_0_31 9 rfl rfl)
theorem dX3_raise_108 : decode cX3_raise 108 = .ok (.iaload, 1) := op46 (bA_at bd03_dec_X3_0_31 10 rfl rfl)
theorem dX3_raise_109 : decode cX3_raise 109 = .ok (.iconst 1, 1) := op4 (bA_at bd03_dec_X3_0_31 11 rfl rfl)
theorem bd03_dec_X3_0_32 : ([(0, [96]), (1, [79]), (2, [42]), (3, [89]), (4, [180, 0, 64]), (7, [4]), (8, [21, 4]), (10, [120]), (11, [128]), (12, [181, 0, 64]), (15, [42]), (16, [180, 0, 18])] : List (Nat × List UInt8)).all (fun x => prB x.2 ((cX3_raise.data.toList.drop 110).drop x.1)) = true := by decide +kernel
theorem dX3_raise_110 : decode cX3_raise 110 = .ok (.iadd, 1) := op96 (bA_at bd03_dec_X3_0_32 0 rfl rfl)
theorem dX3_raise_111 : decode cX3_raise 111 = .ok (.iastore, 1) := op79 (bA_at bd03_dec_X3_0_32 1 rfl rfl)
theorem dX3_raise_112 : decode cX3_raise 112 = .ok (.aload_n 0, 1) := op42 (bA_at bd03_dec_X3_0_32 2 rfl rfl)
theorem dX3_raise_113 : decode cX3_raise 113 = .ok (.dup, 1) := op89 (bA_at bd03_dec_X3_0_32 3 rfl rfl)
theorem dX3_raise_114 : decode cX3_raise 114 = .ok (.getfield 64, 3) := op180 (bA_at bd03_dec_X3_0_32 4 rfl rfl) rfl
theorem dX3_raise_117 : decode cX3_raise 117 = .ok (.iconst 1, 1) := op4 (bA_at bd03_dec_X3_0_32 5 rfl rfl)
theorem dX3_raise_118 : decode cX3_raise 118 = .ok (.iload 4, 2) := op21 (bA_at bd03_dec_X3_0_32 6 rfl rfl) rfl
theorem dX3_raise_120 : decode cX3_raise 120 = .ok (.ishl, 1) := op120 (bA_at bd03_dec_X3_0_32 7 rfl rfl)
theorem dX3_raise_121 : decode cX3_raise 121 = .ok (.ior, 1) := op128 (bA_at bd03_dec_X3_0_32 8 rfl rfl)
theorem dX3_raise_122 : decode cX3_raise 122 = .ok (.putfield 64, 3) := op181 (bA_at bd03_dec_X3_0_32 9 rfl rfl) rfl
theorem dX3_raise_125 : decode cX3_raise 125 = .ok (.aload_n 0, 1) := op42 (bA_at bd03_dec_X3_0_32 10 rfl rfl)
theorem dX3_raise_126 : decode cX3_raise 126 = .ok (.getfield 18, 3) := op180 (bA_at bd03_dec_X3_0_32 11 rfl rfl) rfl
theorem bd03_dec_X3_0_33 : ([(0, [21, 4]), (2, [21, 6]), (4, [79]), (5, [42]), (6, [43]), (7, [43]), (8, [21, 5]), (10, [182, 0, 138]), (13, [182, 0, 141]), (16, [54, 7]), (18, [3]), (19, [54, 8])] : List (Nat × List UInt8)).all (fun x => prB x.2 ((cX3_raise.data.toList.drop 129).drop x.1)) = true := by decide +kernel
theorem dX3_raise_129 : decode cX3_raise 129 = .ok (.iload 4, 2) := op21 (bA_at bd03_dec_X3_0_33 0 rfl rfl) rfl
theorem dX3_raise_131 : decode cX3_raise 131 = .ok (.iload 6, 2) := op21 (bA_at bd03_dec_X3_0_33 1 rfl rfl) rfl
theorem dX3_raise_133 : decode cX3_raise 133 = .ok (.iastore, 1) := op79 (bA_at bd03_dec_X3_0_33 2 rfl rfl)
theorem dX3_raise_134 : decode cX3_raise 134 = .ok (.aload_n 0, 1) := op42 (bA_at bd03_dec_X3_0_33 3 rfl rfl)
theorem dX3_raise_135 : decode cX3_raise 135 = .ok (.aload_n 1, 1) := op43 (bA_at bd03_dec_X3_0_33 4 rfl rfl)
theorem dX3_raise_136 : decode cX3_raise 136 = .ok (.aload_n 1, 1) := op43 (bA_at bd03_dec_X3_0_33 5 rfl rfl)
theorem dX3_raise_137 : decode cX3_raise 137 = .ok (.iload 5, 2) := op21 (bA_at bd03_dec_X3_0_33 6 rfl rfl) rfl
theorem dX3_raise_139 : decode cX3_raise 139 = .ok (.invokevirtual 138, 3) := op182 (bA_at bd03_dec_X3_0_33 7 rfl rfl) rfl
theorem dX3_raise_142 : decode cX3_raise 142 = .ok (.invokevirtual 141, 3) := op182 (bA_at bd03_dec_X3_0_33 8 rfl rfl) rfl
theorem dX3_raise_145 : decode cX3_raise 145 = .ok (.istore 7, 2) := op54 (bA_at bd03_dec_X3_0_33 9 rfl rfl) rfl
theorem dX3_raise_147 : decode cX3_raise 147 = .ok (.iconst 0, 1) := op3 (bA_at bd03_dec_X3_0_33 10 rfl rfl)
theorem dX3_raise_148 : decode cX3_raise 148 = .ok (.istore 8, 2) := op54 (bA_at bd03_dec_X3_0_33 11 rfl rfl) rfl
theorem bd03_dec_X3_0_34 : ([(0, [21, 8]), (2, [43]), (3, [180, 0, 53]), (6, [162, 0, 33]), (9, [21, 7]), (11, [21, 8]), (13, [184, 0, 67]), (16, [153, 0, 17]), (19, [42]), (20, [180, 0, 15]), (23, [21, 8]), (25, [92])] : List (Nat × List UInt8)).all (fun x => prB x.2 ((cX3_raise.data.toList.drop 150).drop x.1)) = true := by decide +kernel
theorem dX3_raise_150 : decode cX3_raise 150 = .ok (.iload 8, 2) := op21 (bA_at bd03_dec_X3_0_34 0 rfl rfl) rfl
theorem dX3_raise_152 : decode cX3_raise 152 = .ok (.aload_n 1, 1) := op43 (bA_at bd03_dec_X3_0_34 1 rfl rfl)
theorem dX3_raise_153 : decode cX3_raise 153 = .ok (.getfield 53, 3) := op180 (bA_at bd03_dec_X3_0_34 2 rfl rfl) rfl
theorem dX3_raise_156 : decode cX3_raise 156 = .ok (.if_icmp .ge 33, 3) := op162 (bA_at bd03_dec_X3_0_34 3 rfl rfl) (by decide +kernel)
theorem dX3_raise_159 : decode cX3_raise 159 = .ok (.iload 7, 2) := op21 (bA_at bd03_dec_X3_0_34 4 rfl rfl) rfl
theorem dX3_raise_161 : decode cX3_raise 161 = .ok (.iload 8, 2) := op21 (bA_at bd03_dec_X3_0_34 5 rfl rfl) rfl
theorem dX3_raise_163 : decode cX3_raise 163 = .ok (.invokestatic 67, 3) := op184 (bA_at bd03_dec_X3_0_34 6 rfl rfl) rfl
theorem dX3_raise_166 : decode cX3_raise 166 = .ok (.ifCond .eq 17, 3) := op153 (bA_at bd03_dec_X3_0_34 7 rfl rfl) (by decide +kernel)
theorem dX3_raise_169 : decode cX3_raise 169 = .ok (.aload_n 0, 1) := op42 (bA_at bd03_dec_X3_0_34 8 rfl rfl)
theorem dX3_raise_170 : decode cX3_raise 170 = .ok (.getfield 15, 3) := op180 (bA_at bd03_dec_X3_0_34 9 rfl rfl) rfl
theorem dX3_raise_173 : decode cX3_raise 173 = .ok (.iload 8, 2) := op21 (bA_at bd03_dec_X3_0_34 10 rfl rfl) rfl
theorem dX3_raise_175 : decode cX3_raise 175 = .ok (.dup2, 1) := op92 (bA_at bd03_dec_X3_0_34 11 rfl rfl)
theorem bd03_dec_X3_0_35 : ([(0, [46]), (1, [4]), (2, [21, 4]), (4, [120]), (5, [128]), (6, [79]), (7, [132, 8, 1]), (10, [167, 255, 220]), (13, [4]), (14, [172])] : List (Nat × List UInt8)).all (fun x => prB x.2 ((cX3_raise.data.toList.drop 176).drop x.1)) = true := by decide +kernel
theorem dX3_raise_176 : decode cX3_raise 176 = .ok (.iaload, 1) := op46 (bA_at bd03_dec_X3_0_35 0 rfl rfl)
theorem dX3_raise_177 : decode cX3_raise 177 = .ok (.iconst 1, 1) := op4 (bA_at bd03_dec_X3_0_35 1 rfl rfl)
theorem dX3_raise_178 : decode cX3_raise 178 = .ok (.iload 4, 2) := op21 (bA_at bd03_dec_X3_0_35 2 rfl rfl) rfl
theorem dX3_raise_180 : decode cX3_raise 180 = .ok (.ishl, 1) := op120 (bA_at bd03_dec_X3_0_35 3 rfl rfl)
theorem dX3_raise_181 : decode cX3_raise 181 = .ok (.ior, 1) := op128 (bA_at bd03_dec_X3_0_35 4 rfl rfl)
theorem dX3_raise_182 : decode cX3_raise 182 = .ok (.iastore, 1) := op79 (bA_at bd03_dec_X3_0_35 5 rfl rfl)
theorem dX3_raise_183 : decode cX3_raise 183 = .ok (.iinc 8 1, 3) := op132 (bA_at bd03_dec_X3_0_35 6 rfl rfl) rfl (by decide +kernel)
theorem dX3_raise_186 : decode cX3_raise 186 = .ok (.goto (-36), 3) := op167 (bA_at bd03_dec_X3_0_35 7 rfl rfl) (by decide +kernel)
theorem dX3_raise_189 : decode cX3_raise 189 = .ok (.iconst 1, 1) := op4 (bA_at bd03_dec_X3_0_35 8 rfl rfl)
theorem dX3_raise_190 : decode cX3_raise 190 = .ok (.ireturn, 1) := op172 (bA_at bd03_dec_X3_0_35 9 rfl rfl)
theorem bd03_dec_X3_0_36 : ([(0, [26]), (1, [4]), (2, [160, 0, 14]), (5, [27]), (6, [28]), (7, [161, 0, 7]), (10, [4]), (11, [167, 0, 4]), (14, [3]), (15, [172]), (16, [26]), (17, [5])] : List (Nat × List UInt8)).all (fun x => prB x.2 ((cX3_isWrong.data.toList.drop 0).drop x.1)) = true := by decide +kernel
theorem dX3_isWrong_0 : decode cX3_isWrong 0 = .ok (.iload_n 0, 1) := op26 (bA_at bd03_dec_X3_0_36 0 rfl rfl)
theorem dX3_isWrong_1 : decode cX3_isWrong 1 = .ok (.iconst 1, 1) := op4 (bA_at bd03_dec_X3_0_36 1 rfl rfl)
theorem dX3_isWrong_2 : decode cX3_isWrong 2 = .ok (.if_icmp .ne 14, 3) := op160 (bA_at bd03_dec_X3_0_36 2 rfl rfl) (by decide +kernel)
theorem dX3_isWrong_5 : decode cX3_isWrong 5 = .ok (.iload_n 1, 1) := op27 (bA_at bd03_dec_X3_0_36 3 rfl rfl)
theorem dX3_isWrong_6 : decode cX3_isWrong 6 = .ok (.iload_n 2, 1) := op28 (bA_at bd03_dec_X3_0_36 4 rfl rfl)
theorem dX3_isWrong_7 : decode cX3_isWrong 7 = .ok (.if_icmp .lt 7, 3) := op161 (bA_at bd03_dec_X3_0_36 5 rfl rfl) (by decide +kernel)
theorem dX3_isWrong_10 : decode cX3_isWrong 10 = .ok (.iconst 1, 1) := op4 (bA_at bd03_dec_X3_0_36 6 rfl rfl)
theorem dX3_isWrong_11 : decode cX3_isWrong 11 = .ok (.goto 4, 3) := op167 (bA_at bd03_dec_X3_0_36 7 rfl rfl) (by decide +kernel)
theorem dX3_isWrong_14 : decode cX3_isWrong 14 = .ok (.iconst 0, 1) := op3 (bA_at bd03_dec_X3_0_36 8 rfl rfl)
theorem dX3_isWrong_15 : decode cX3_isWrong 15 = .ok (.ireturn, 1) := op172 (bA_at bd03_dec_X3_0_36 9 rfl rfl)
theorem dX3_isWrong_16 : decode cX3_isWrong 16 = .ok (.iload_n 0, 1) := op26 (bA_at bd03_dec_X3_0_36 10 rfl rfl)
theorem dX3_isWrong_17 : decode cX3_isWrong 17 = .ok (.iconst 2, 1) := op5 (bA_at bd03_dec_X3_0_36 11 rfl rfl)
theorem bd03_dec_X3_0_37 : ([(0, [160, 0, 12]), (3, [27]), (4, [28]), (5, [164, 0, 7]), (8, [4]), (9, [167, 0, 4]), (12, [3]), (13, [172])] : List (Nat × List UInt8)).all (fun x => prB x.2 ((cX3_isWrong.data.toList.drop 18).drop x.1)) = true := by decide +kernel
theorem dX3_isWrong_18 : decode cX3_isWrong 18 = .ok (.if_icmp .ne 12, 3) := op160 (bA_at bd03_dec_X3_0_37 0 rfl rfl) (by decide +kernel)
theorem dX3_isWrong_21 : decode cX3_isWrong 21 = .ok (.iload_n 1, 1) := op27 (bA_at bd03_dec_X3_0_37 1 rfl rfl)
theorem dX3_isWrong_22 : decode cX3_isWrong 22 = .ok (.iload_n 2, 1) := op28 (bA_at bd03_dec_X3_0_37 2 rfl rfl)
theorem dX3_isWrong_23 : decode cX3_isWrong 23 = .ok (.if_icmp .le 7, 3) := op164 (bA_at bd03_dec_X3_0_37 3 rfl rfl) (by decide +kernel)
theorem dX3_isWrong_26 : decode cX3_isWrong 26 = .ok (.iconst 1, 1) := op4 (bA_at bd03_dec_X3_0_37 4 rfl rfl)
theorem dX3_isWrong_27 : decode cX3_isWrong 27 = .ok (.goto 4, 3) := op167 (bA_at bd03_dec_X3_0_37 5 rfl rfl) (by decide +kernel)
theorem dX3_isWrong_30 : decode cX3_isWrong 30 = .ok (.iconst 0, 1) := op3 (bA_at bd03_dec_X3_0_37 6 rfl rfl)
theorem dX3_isWrong_31 : decode cX3_isWrong 31 = .ok (.ireturn, 1) := op172 (bA_at bd03_dec_X3_0_37 7 rfl rfl)
theorem bd03_dec_X3_0_38 : ([(0, [42]), (1, [180, 0, 21]), (4, [28]), (5, [46]), (6, [43]), (7, [180, 0, 144]), (10, [161, 0, 7]), (13, [4]), (14, [167, 0, 4]), (17, [3]), (18, [172])] : List (Nat × List UInt8)).all (fun x => prB x.2 ((cX3_isCut.data.toList.drop 0).drop x.1)) = true := by decide +kernel
theorem dX3_isCut_0 : decode cX3_isCut 0 = .ok (.aload_n 0, 1) := op42 (bA_at bd03_dec_X3_0_38 0 rfl rfl)
theorem dX3_isCut_1 : decode cX3_isCut 1 = .ok (.getfield 21, 3) := op180 (bA_at bd03_dec_X3_0_38 1 rfl rfl) rfl
theorem dX3_isCut_4 : decode cX3_isCut 4 = .ok (.iload_n 2, 1) := op28 (bA_at bd03_dec_X3_0_38 2 rfl rfl)
theorem dX3_isCut_5 : decode cX3_isCut 5 = .ok (.iaload, 1) := op46 (bA_at bd03_dec_X3_0_38 3 rfl rfl)
theorem dX3_isCut_6 : decode cX3_isCut 6 = .ok (.aload_n 1, 1) := op43 (bA_at bd03_dec_X3_0_38 4 rfl rfl)
theorem dX3_isCut_7 : decode cX3_isCut 7 = .ok (.getfield 144, 3) := op180 (bA_at bd03_dec_X3_0_38 5 rfl rfl) rfl
theorem dX3_isCut_10 : decode cX3_isCut 10 = .ok (.if_icmp .lt 7, 3) := op161 (bA_at bd03_dec_X3_0_38 6 rfl rfl) (by decide +kernel)
theorem dX3_isCut_13 : decode cX3_isCut 13 = .ok (.iconst 1, 1) := op4 (bA_at bd03_dec_X3_0_38 7 rfl rfl)
theorem dX3_isCut_14 : decode cX3_isCut 14 = .ok (.goto 4, 3) := op167 (bA_at bd03_dec_X3_0_38 8 rfl rfl) (by decide +kernel)
theorem dX3_isCut_17 : decode cX3_isCut 17 = .ok (.iconst 0, 1) := op3 (bA_at bd03_dec_X3_0_38 9 rfl rfl)
theorem dX3_isCut_18 : decode cX3_isCut 18 = .ok (.ireturn, 1) := op172 (bA_at bd03_dec_X3_0_38 10 rfl rfl)
theorem bd03_dec_X3_0_39 : ([(0, [42]), (1, [180, 0, 9]), (4, [28]), (5, [46]), (6, [62]), (7, [43]), (8, [180, 0, 147]), (11, [29]), (12, [46]), (13, [43]), (14, [180, 0, 150]), (17, [28])] : List (Nat × List UInt8)).all (fun x => prB x.2 ((cX3_high.data.toList.drop 0).drop x.1)) = true := by decide +kernel
theorem dX3_high_0 : decode cX3_high 0 = .ok (.aload_n 0, 1) := op42 (bA_at bd03_dec_X3_0_39 0 rfl rfl)
theorem dX3_high_1 : decode cX3_high 1 = .ok (.getfield 9, 3) := op180 (bA_at bd03_dec_X3_0_39 1 rfl rfl) rfl
theorem dX3_high_4 : decode cX3_high 4 = .ok (.iload_n 2, 1) := op28 (bA_at bd03_dec_X3_0_39 2 rfl rfl)
theorem dX3_high_5 : decode cX3_high 5 = .ok (.iaload, 1) := op46 (bA_at bd03_dec_X3_0_39 3 rfl rfl)
theorem dX3_high_6 : decode cX3_high 6 = .ok (.istore_n 3, 1) := op62 (bA_at bd03_dec_X3_0_39 4 rfl rfl)
theorem dX3_high_7 : decode cX3_high 7 = .ok (.aload_n 1, 1) := op43 (bA_at bd03_dec_X3_0_39 5 rfl rfl)
theorem dX3_high_8 : decode cX3_high 8 = .ok (.getfield 147, 3) := op180 (bA_at bd03_dec_X3_0_39 6 rfl rfl) rfl
theorem dX3_high_11 : decode cX3_high 11 = .ok (.iload_n 3, 1) := op29 (bA_at bd03_dec_X3_0_39 7 rfl rfl)
theorem dX3_high_12 : decode cX3_high 12 = .ok (.iaload, 1) := op46 (bA_at bd03_dec_X3_0_39 8 rfl rfl)
theorem dX3_high_13 : decode cX3_high 13 = .ok (.aload_n 1, 1) := op43 (bA_at bd03_dec_X3_0_39 9 rfl rfl)
theorem dX3_high_14 : decode cX3_high 14 = .ok (.getfield 150, 3) := op180 (bA_at bd03_dec_X3_0_39 10 rfl rfl) rfl
theorem dX3_high_17 : decode cX3_high 17 = .ok (.iload_n 2, 1) := op28 (bA_at bd03_dec_X3_0_39 11 rfl rfl)
theorem bd03_dec_X3_0_40 : ([(0, [46]), (1, [100]), (2, [54, 4]), (4, [42]), (5, [180, 0, 78]), (8, [28]), (9, [184, 0, 67]), (12, [153, 0, 15]), (15, [21, 4]), (17, [43]), (18, [180, 0, 124]), (21, [29])] : List (Nat × List UInt8)).all (fun x => prB x.2 ((cX3_high.data.toList.drop 18).drop x.1)) = true := by decide +kernel
theorem dX3_high_18 : decode cX3_high 18 = .ok (.iaload, 1) := op46 (bA_at bd03_dec_X3_0_40 0 rfl rfl)
theorem dX3_high_19 : decode cX3_high 19 = .ok (.isub, 1) := op100 (bA_at bd03_dec_X3_0_40 1 rfl rfl)
theorem dX3_high_20 : decode cX3_high 20 = .ok (.istore 4, 2) := op54 (bA_at bd03_dec_X3_0_40 2 rfl rfl) rfl
theorem dX3_high_22 : decode cX3_high 22 = .ok (.aload_n 0, 1) := op42 (bA_at bd03_dec_X3_0_40 3 rfl rfl)
theorem dX3_high_23 : decode cX3_high 23 = .ok (.getfield 78, 3) := op180 (bA_at bd03_dec_X3_0_40 4 rfl rfl) rfl
theorem dX3_high_26 : decode cX3_high 26 = .ok (.iload_n 2, 1) := op28 (bA_at bd03_dec_X3_0_40 5 rfl rfl)
theorem dX3_high_27 : decode cX3_high 27 = .ok (.invokestatic 67, 3) := op184 (bA_at bd03_dec_X3_0_40 6 rfl rfl) rfl
theorem dX3_high_30 : decode cX3_high 30 = .ok (.ifCond .eq 15, 3) := op153 (bA_at bd03_dec_X3_0_40 7 rfl rfl) (by decide +kernel)
theorem dX3_high_33 : decode cX3_high 33 = .ok (.iload 4, 2) := op21 (bA_at bd03_dec_X3_0_40 8 rfl rfl) rfl
theorem dX3_high_35 : decode cX3_high 35 = .ok (.aload_n 1, 1) := op43 (bA_at bd03_dec_X3_0_40 9 rfl rfl)
theorem dX3_high_36 : decode cX3_high 36 = .ok (.getfield 124, 3) := op180 (bA_at bd03_dec_X3_0_40 10 rfl rfl) rfl
theorem dX3_high_39 : decode cX3_high 39 = .ok (.iload_n 3, 1) := op29 (bA_at bd03_dec_X3_0_40 11 rfl rfl)
theorem bd03_dec_X3_0_41 : ([(0, [46]), (1, [96]), (2, [167, 0, 5]), (5, [21, 4]), (7, [172])] : List (Nat × List UInt8)).all (fun x => prB x.2 ((cX3_high.data.toList.drop 40).drop x.1)) = true := by decide +kernel
theorem dX3_high_40 : decode cX3_high 40 = .ok (.iaload, 1) := op46 (bA_at bd03_dec_X3_0_41 0 rfl rfl)
theorem dX3_high_41 : decode cX3_high 41 = .ok (.iadd, 1) := op96 (bA_at bd03_dec_X3_0_41 1 rfl rfl)
theorem dX3_high_42 : decode cX3_high 42 = .ok (.goto 5, 3) := op167 (bA_at bd03_dec_X3_0_41 2 rfl rfl) (by decide +kernel)
theorem dX3_high_45 : decode cX3_high 45 = .ok (.iload 4, 2) := op21 (bA_at bd03_dec_X3_0_41 3 rfl rfl) rfl
theorem dX3_high_47 : decode cX3_high 47 = .ok (.ireturn, 1) := op172 (bA_at bd03_dec_X3_0_41 4 rfl rfl)
theorem bd03_dec_X3_0_42 : ([(0, [3]), (1, [62]), (2, [3]), (3, [54, 4]), (5, [21, 4]), (7, [43]), (8, [180, 0, 53]), (11, [162, 0, 30]), (14, [28]), (15, [42]), (16, [180, 0, 9]), (19, [21, 4])] : List (Nat × List UInt8)).all (fun x => prB x.2 ((cX3_singersIn.data.toList.drop 0).drop x.1)) = true := by decide +kernel
theorem dX3_singersIn_0 : decode cX3_singersIn 0 = .ok (.iconst 0, 1) := op3 (bA_at bd03_dec_X3_0_42 0 rfl rfl)
theorem dX3_singersIn_1 : decode cX3_singersIn 1 = .ok (.istore_n 3, 1) := op62 (bA_at bd03_dec_X3_0_42 1 rfl rfl)
theorem dX3_singersIn_2 : decode cX3_singersIn 2 = .ok (.iconst 0, 1) := op3 (bA_at bd03_dec_X3_0_42 2 rfl rfl)
theorem dX3_singersIn_3 : decode cX3_singersIn 3 = .ok (.istore 4, 2) := op54 (bA_at bd03_dec_X3_0_42 3 rfl rfl) rfl
theorem dX3_singersIn_5 : decode cX3_singersIn 5 = .ok (.iload 4, 2) := op21 (bA_at bd03_dec_X3_0_42 4 rfl rfl) rfl
theorem dX3_singersIn_7 : decode cX3_singersIn 7 = .ok (.aload_n 1, 1) := op43 (bA_at bd03_dec_X3_0_42 5 rfl rfl)
theorem dX3_singersIn_8 : decode cX3_singersIn 8 = .ok (.getfield 53, 3) := op180 (bA_at bd03_dec_X3_0_42 6 rfl rfl) rfl
theorem dX3_singersIn_11 : decode cX3_singersIn 11 = .ok (.if_icmp .ge 30, 3) := op162 (bA_at bd03_dec_X3_0_42 7 rfl rfl) (by decide +kernel)
theorem dX3_singersIn_14 : decode cX3_singersIn 14 = .ok (.iload_n 2, 1) := op28 (bA_at bd03_dec_X3_0_42 8 rfl rfl)
theorem dX3_singersIn_15 : decode cX3_singersIn 15 = .ok (.aload_n 0, 1) := op42 (bA_at bd03_dec_X3_0_42 9 rfl rfl)
theorem dX3_singersIn_16 : decode cX3_singersIn 16 = .ok (.getfield 9, 3) := op180 (bA_at bd03_dec_X3_0_42 10 rfl rfl) rfl
theorem dX3_singersIn_19 : decode cX3_singersIn 19 = .ok (.iload 4, 2) := op21 (bA_at bd03_dec_X3_0_42 11 rfl rfl) rfl
theorem bd03_dec_X3_0_43 : ([(0, [46]), (1, [184, 0, 67]), (4, [153, 0, 10]), (7, [29]), (8, [4]), (9, [21, 4]), (11, [120]), (12, [128]), (13, [62]), (14, [132, 4, 1]), (17, [167, 255, 223]), (20, [29])] : List (Nat × List UInt8)).all (fun x => prB x.2 ((cX3_singersIn.data.toList.drop 21).drop x.1)) = true := by decide +kernel
theorem dX3_singersIn_21 : decode cX3_singersIn 21 = .ok (.iaload, 1) := op46 (bA_at bd03_dec_X3_0_43 0 rfl rfl)
theorem dX3_singersIn_22 : decode cX3_singersIn 22 = .ok (.invokestatic 67, 3) := op184 (bA_at bd03_dec_X3_0_43 1 rfl rfl) rfl
theorem dX3_singersIn_25 : decode cX3_singersIn 25 = .ok (.ifCond .eq 10, 3) := op153 (bA_at bd03_dec_X3_0_43 2 rfl rfl) (by decide +kernel)
theorem dX3_singersIn_28 : decode cX3_singersIn 28 = .ok (.iload_n 3, 1) := op29 (bA_at bd03_dec_X3_0_43 3 rfl rfl)
theorem dX3_singersIn_29 : decode cX3_singersIn 29 = .ok (.iconst 1, 1) := op4 (bA_at bd03_dec_X3_0_43 4 rfl rfl)
theorem dX3_singersIn_30 : decode cX3_singersIn 30 = .ok (.iload 4, 2) := op21 (bA_at bd03_dec_X3_0_43 5 rfl rfl) rfl
theorem dX3_singersIn_32 : decode cX3_singersIn 32 = .ok (.ishl, 1) := op120 (bA_at bd03_dec_X3_0_43 6 rfl rfl)
theorem dX3_singersIn_33 : decode cX3_singersIn 33 = .ok (.ior, 1) := op128 (bA_at bd03_dec_X3_0_43 7 rfl rfl)
theorem dX3_singersIn_34 : decode cX3_singersIn 34 = .ok (.istore_n 3, 1) := op62 (bA_at bd03_dec_X3_0_43 8 rfl rfl)
theorem dX3_singersIn_35 : decode cX3_singersIn 35 = .ok (.iinc 4 1, 3) := op132 (bA_at bd03_dec_X3_0_43 9 rfl rfl) rfl (by decide +kernel)
theorem dX3_singersIn_38 : decode cX3_singersIn 38 = .ok (.goto (-33), 3) := op167 (bA_at bd03_dec_X3_0_43 10 rfl rfl) (by decide +kernel)
theorem dX3_singersIn_41 : decode cX3_singersIn 41 = .ok (.iload_n 3, 1) := op29 (bA_at bd03_dec_X3_0_43 11 rfl rfl)
theorem bd03_dec_X3_0_44 : ([(0, [172])] : List (Nat × List UInt8)).all (fun x => prB x.2 ((cX3_singersIn.data.toList.drop 42).drop x.1)) = true := by decide +kernel
theorem dX3_singersIn_42 : decode cX3_singersIn 42 = .ok (.ireturn, 1) := op172 (bA_at bd03_dec_X3_0_44 0 rfl rfl)
theorem bd03_dec_X3_0_45 : ([(0, [3]), (1, [62]), (2, [3]), (3, [54, 4]), (5, [21, 4]), (7, [43]), (8, [180, 0, 53]), (11, [162, 0, 30]), (14, [42]), (15, [180, 0, 15]), (18, [21, 4]), (20, [46])] : List (Nat × List UInt8)).all (fun x => prB x.2 ((cX3_knowers.data.toList.drop 0).drop x.1)) = true := by decide +kernel
theorem dX3_knowers_0 : decode cX3_knowers 0 = .ok (.iconst 0, 1) := op3 (bA_at bd03_dec_X3_0_45 0 rfl rfl)
theorem dX3_knowers_1 : decode cX3_knowers 1 = .ok (.istore_n 3, 1) := op62 (bA_at bd03_dec_X3_0_45 1 rfl rfl)
theorem dX3_knowers_2 : decode cX3_knowers 2 = .ok (.iconst 0, 1) := op3 (bA_at bd03_dec_X3_0_45 2 rfl rfl)
theorem dX3_knowers_3 : decode cX3_knowers 3 = .ok (.istore 4, 2) := op54 (bA_at bd03_dec_X3_0_45 3 rfl rfl) rfl
theorem dX3_knowers_5 : decode cX3_knowers 5 = .ok (.iload 4, 2) := op21 (bA_at bd03_dec_X3_0_45 4 rfl rfl) rfl
theorem dX3_knowers_7 : decode cX3_knowers 7 = .ok (.aload_n 1, 1) := op43 (bA_at bd03_dec_X3_0_45 5 rfl rfl)
theorem dX3_knowers_8 : decode cX3_knowers 8 = .ok (.getfield 53, 3) := op180 (bA_at bd03_dec_X3_0_45 6 rfl rfl) rfl
theorem dX3_knowers_11 : decode cX3_knowers 11 = .ok (.if_icmp .ge 30, 3) := op162 (bA_at bd03_dec_X3_0_45 7 rfl rfl) (by decide +kernel)
theorem dX3_knowers_14 : decode cX3_knowers 14 = .ok (.aload_n 0, 1) := op42 (bA_at bd03_dec_X3_0_45 8 rfl rfl)
theorem dX3_knowers_15 : decode cX3_knowers 15 = .ok (.getfield 15, 3) := op180 (bA_at bd03_dec_X3_0_45 9 rfl rfl) rfl
theorem dX3_knowers_18 : decode cX3_knowers 18 = .ok (.iload 4, 2) := op21 (bA_at bd03_dec_X3_0_45 10 rfl rfl) rfl
theorem dX3_knowers_20 : decode cX3_knowers 20 = .ok (.iaload, 1) := op46 (bA_at bd03_dec_X3_0_45 11 rfl rfl)
theorem bd03_dec_X3_0_46 : ([(0, [28]), (1, [184, 0, 67]), (4, [153, 0, 10]), (7, [29]), (8, [4]), (9, [21, 4]), (11, [120]), (12, [128]), (13, [62]), (14, [132, 4, 1]), (17, [167, 255, 223]), (20, [29])] : List (Nat × List UInt8)).all (fun x => prB x.2 ((cX3_knowers.data.toList.drop 21).drop x.1)) = true := by decide +kernel
theorem dX3_knowers_21 : decode cX3_knowers 21 = .ok (.iload_n 2, 1) := op28 (bA_at bd03_dec_X3_0_46 0 rfl rfl)
theorem dX3_knowers_22 : decode cX3_knowers 22 = .ok (.invokestatic 67, 3) := op184 (bA_at bd03_dec_X3_0_46 1 rfl rfl) rfl
theorem dX3_knowers_25 : decode cX3_knowers 25 = .ok (.ifCond .eq 10, 3) := op153 (bA_at bd03_dec_X3_0_46 2 rfl rfl) (by decide +kernel)
theorem dX3_knowers_28 : decode cX3_knowers 28 = .ok (.iload_n 3, 1) := op29 (bA_at bd03_dec_X3_0_46 3 rfl rfl)
theorem dX3_knowers_29 : decode cX3_knowers 29 = .ok (.iconst 1, 1) := op4 (bA_at bd03_dec_X3_0_46 4 rfl rfl)
theorem dX3_knowers_30 : decode cX3_knowers 30 = .ok (.iload 4, 2) := op21 (bA_at bd03_dec_X3_0_46 5 rfl rfl) rfl
theorem dX3_knowers_32 : decode cX3_knowers 32 = .ok (.ishl, 1) := op120 (bA_at bd03_dec_X3_0_46 6 rfl rfl)
theorem dX3_knowers_33 : decode cX3_knowers 33 = .ok (.ior, 1) := op128 (bA_at bd03_dec_X3_0_46 7 rfl rfl)
theorem dX3_knowers_34 : decode cX3_knowers 34 = .ok (.istore_n 3, 1) := op62 (bA_at bd03_dec_X3_0_46 8 rfl rfl)
theorem dX3_knowers_35 : decode cX3_knowers 35 = .ok (.iinc 4 1, 3) := op132 (bA_at bd03_dec_X3_0_46 9 rfl rfl) rfl (by decide +kernel)
theorem dX3_knowers_38 : decode cX3_knowers 38 = .ok (.goto (-33), 3) := op167 (bA_at bd03_dec_X3_0_46 10 rfl rfl) (by decide +kernel)
theorem dX3_knowers_41 : decode cX3_knowers 41 = .ok (.iload_n 3, 1) := op29 (bA_at bd03_dec_X3_0_46 11 rfl rfl)
theorem bd03_dec_X3_0_47 : ([(0, [172])] : List (Nat × List UInt8)).all (fun x => prB x.2 ((cX3_knowers.data.toList.drop 42).drop x.1)) = true := by decide +kernel
theorem dX3_knowers_42 : decode cX3_knowers 42 = .ok (.ireturn, 1) := op172 (bA_at bd03_dec_X3_0_47 0 rfl rfl)
theorem bd03_dec_X3_0_48 : ([(0, [28]), (1, [155, 0, 9]), (4, [28]), (5, [16, 79]), (7, [164, 0, 7]), (10, [17, 252, 24]), (13, [172]), (14, [28]), (15, [16, 10]), (17, [112]), (18, [62]), (19, [28])] : List (Nat × List UInt8)).all (fun x => prB x.2 ((cX3_look.data.toList.drop 0).drop x.1)) = true := by decide +kernel
theorem dX3_look_0 : decode cX3_look 0 = .ok (.iload_n 2, 1) := op28 (bA_at bd03_dec_X3_0_48 0 rfl rfl)
theorem dX3_look_1 : decode cX3_look 1 = .ok (.ifCond .lt 9, 3) := op155 (bA_at bd03_dec_X3_0_48 1 rfl rfl) (by decide +kernel)
theorem dX3_look_4 : decode cX3_look 4 = .ok (.iload_n 2, 1) := op28 (bA_at bd03_dec_X3_0_48 2 rfl rfl)
theorem dX3_look_5 : decode cX3_look 5 = .ok (.bipush 79, 2) := op16 (bA_at bd03_dec_X3_0_48 3 rfl rfl) (by decide +kernel)
theorem dX3_look_7 : decode cX3_look 7 = .ok (.if_icmp .le 7, 3) := op164 (bA_at bd03_dec_X3_0_48 4 rfl rfl) (by decide +kernel)
theorem dX3_look_10 : decode cX3_look 10 = .ok (.sipush (-1000), 3) := op17 (bA_at bd03_dec_X3_0_48 5 rfl rfl) (by decide +kernel)
theorem dX3_look_13 : decode cX3_look 13 = .ok (.ireturn, 1) := op172 (bA_at bd03_dec_X3_0_48 6 rfl rfl)
theorem dX3_look_14 : decode cX3_look 14 = .ok (.iload_n 2, 1) := op28 (bA_at bd03_dec_X3_0_48 7 rfl rfl)
theorem dX3_look_15 : decode cX3_look 15 = .ok (.bipush 10, 2) := op16 (bA_at bd03_dec_X3_0_48 8 rfl rfl) (by decide +kernel)
theorem dX3_look_17 : decode cX3_look 17 = .ok (.irem, 1) := op112 (bA_at bd03_dec_X3_0_48 9 rfl rfl)
theorem dX3_look_18 : decode cX3_look 18 = .ok (.istore_n 3, 1) := op62 (bA_at bd03_dec_X3_0_48 10 rfl rfl)
theorem dX3_look_19 : decode cX3_look 19 = .ok (.iload_n 2, 1) := op28 (bA_at bd03_dec_X3_0_48 11 rfl rfl)
theorem dX3_look_23 : decode cX3_look 23 = .ok (.tableswitch 112 0 7 #[45, 52, 70, 112, 112, 112, 112, 91], 45) := by decide +kernel
theorem bd03_dec_X3_0_49 : ([(0, [16, 10]), (2, [108]), (48, [42]), (49, [43]), (50, [29]), (51, [182, 0, 153]), (54, [172]), (55, [29]), (56, [8]), (57, [162, 0, 12]), (60, [42])] : List (Nat × List UInt8)).all (fun x => prB x.2 ((cX3_look.data.toList.drop 20).drop x.1)) = true := by decide +kernel
theorem dX3_look_20 : decode cX3_look 20 = .ok (.bipush 10, 2) := op16 (bA_at bd03_dec_X3_0_49 0 rfl rfl) (by decide +kernel)
theorem dX3_look_22 : decode cX3_look 22 = .ok (.idiv, 1) := op108 (bA_at bd03_dec_X3_0_49 1 rfl rfl)
theorem dX3_look_68 : decode cX3_look 68 = .ok (.aload_n 0, 1) := op42 (bA_at bd03_dec_X3_0_49 2 rfl rfl)
theorem dX3_look_69 : decode cX3_look 69 = .ok (.aload_n 1, 1) := op43 (bA_at bd03_dec_X3_0_49 3 rfl rfl)
theorem dX3_look_70 : decode cX3_look 70 = .ok (.iload_n 3, 1) := op29 (bA_at bd03_dec_X3_0_49 4 rfl rfl)
theorem dX3_look_71 : decode cX3_look 71 = .ok (.invokevirtual 153, 3) := op182 (bA_at bd03_dec_X3_0_49 5 rfl rfl) rfl
theorem dX3_look_74 : decode cX3_look 74 = .ok (.ireturn, 1) := op172 (bA_at bd03_dec_X3_0_49 6 rfl rfl)
theorem dX3_look_75 : decode cX3_look 75 = .ok (.iload_n 3, 1) := op29 (bA_at bd03_dec_X3_0_49 7 rfl rfl)
theorem dX3_look_76 : decode cX3_look 76 = .ok (.iconst 5, 1) := op8 (bA_at bd03_dec_X3_0_49 8 rfl rfl)
theorem dX3_look_77 : decode cX3_look 77 = .ok (.if_icmp .ge 12, 3) := op162 (bA_at bd03_dec_X3_0_49 9 rfl rfl) (by decide +kernel)
theorem dX3_look_80 : decode cX3_look 80 = .ok (.aload_n 0, 1) := op42 (bA_at bd03_dec_X3_0_49 10 rfl rfl)
theorem bd03_dec_X3_0_50 : ([(0, [180, 0, 18]), (3, [29]), (4, [46]), (5, [167, 0, 6]), (8, [17, 252, 24]), (11, [172]), (12, [29]), (13, [8]), (14, [162, 0, 15]), (17, [42]), (18, [43]), (19, [29])] : List (Nat × List UInt8)).all (fun x => prB x.2 ((cX3_look.data.toList.drop 81).drop x.1)) = true := by decide +kernel
theorem dX3_look_81 : decode cX3_look 81 = .ok (.getfield 18, 3) := op180 (bA_at bd03_dec_X3_0_50 0 rfl rfl) rfl
theorem dX3_look_84 : decode cX3_look 84 = .ok (.iload_n 3, 1) := op29 (bA_at bd03_dec_X3_0_50 1 rfl rfl)
theorem dX3_look_85 : decode cX3_look 85 = .ok (.iaload, 1) := op46 (bA_at bd03_dec_X3_0_50 2 rfl rfl)
theorem dX3_look_86 : decode cX3_look 86 = .ok (.goto 6, 3) := op167 (bA_at bd03_dec_X3_0_50 3 rfl rfl) (by decide +kernel)
theorem dX3_look_89 : decode cX3_look 89 = .ok (.sipush (-1000), 3) := op17 (bA_at bd03_dec_X3_0_50 4 rfl rfl) (by decide +kernel)
theorem dX3_look_92 : decode cX3_look 92 = .ok (.ireturn, 1) := op172 (bA_at bd03_dec_X3_0_50 5 rfl rfl)
theorem dX3_look_93 : decode cX3_look 93 = .ok (.iload_n 3, 1) := op29 (bA_at bd03_dec_X3_0_50 6 rfl rfl)
theorem dX3_look_94 : decode cX3_look 94 = .ok (.iconst 5, 1) := op8 (bA_at bd03_dec_X3_0_50 7 rfl rfl)
theorem dX3_look_95 : decode cX3_look 95 = .ok (.if_icmp .ge 15, 3) := op162 (bA_at bd03_dec_X3_0_50 8 rfl rfl) (by decide +kernel)
theorem dX3_look_98 : decode cX3_look 98 = .ok (.aload_n 0, 1) := op42 (bA_at bd03_dec_X3_0_50 9 rfl rfl)
theorem dX3_look_99 : decode cX3_look 99 = .ok (.aload_n 1, 1) := op43 (bA_at bd03_dec_X3_0_50 10 rfl rfl)
theorem dX3_look_100 : decode cX3_look 100 = .ok (.iload_n 3, 1) := op29 (bA_at bd03_dec_X3_0_50 11 rfl rfl)
theorem bd03_dec_X3_0_51 : ([(0, [182, 0, 156]), (3, [184, 0, 159]), (6, [167, 0, 6]), (9, [17, 252, 24]), (12, [172]), (13, [43]), (14, [29]), (15, [182, 0, 115]), (18, [153, 0, 12]), (21, [42]), (22, [180, 0, 21]), (25, [29])] : List (Nat × List UInt8)).all (fun x => prB x.2 ((cX3_look.data.toList.drop 101).drop x.1)) = true := by decide +kernel
theorem dX3_look_101 : decode cX3_look 101 = .ok (.invokevirtual 156, 3) := op182 (bA_at bd03_dec_X3_0_51 0 rfl rfl) rfl
theorem dX3_look_104 : decode cX3_look 104 = .ok (.invokestatic 159, 3) := op184 (bA_at bd03_dec_X3_0_51 1 rfl rfl) rfl
theorem dX3_look_107 : decode cX3_look 107 = .ok (.goto 6, 3) := op167 (bA_at bd03_dec_X3_0_51 2 rfl rfl) (by decide +kernel)
theorem dX3_look_110 : decode cX3_look 110 = .ok (.sipush (-1000), 3) := op17 (bA_at bd03_dec_X3_0_51 3 rfl rfl) (by decide +kernel)
theorem dX3_look_113 : decode cX3_look 113 = .ok (.ireturn, 1) := op172 (bA_at bd03_dec_X3_0_51 4 rfl rfl)
theorem dX3_look_114 : decode cX3_look 114 = .ok (.aload_n 1, 1) := op43 (bA_at bd03_dec_X3_0_51 5 rfl rfl)
theorem dX3_look_115 : decode cX3_look 115 = .ok (.iload_n 3, 1) := op29 (bA_at bd03_dec_X3_0_51 6 rfl rfl)
theorem dX3_look_116 : decode cX3_look 116 = .ok (.invokevirtual 115, 3) := op182 (bA_at bd03_dec_X3_0_51 7 rfl rfl) rfl
theorem dX3_look_119 : decode cX3_look 119 = .ok (.ifCond .eq 12, 3) := op153 (bA_at bd03_dec_X3_0_51 8 rfl rfl) (by decide +kernel)
theorem dX3_look_122 : decode cX3_look 122 = .ok (.aload_n 0, 1) := op42 (bA_at bd03_dec_X3_0_51 9 rfl rfl)
theorem dX3_look_123 : decode cX3_look 123 = .ok (.getfield 21, 3) := op180 (bA_at bd03_dec_X3_0_51 10 rfl rfl) rfl
theorem dX3_look_126 : decode cX3_look 126 = .ok (.iload_n 3, 1) := op29 (bA_at bd03_dec_X3_0_51 11 rfl rfl)
theorem bd03_dec_X3_0_52 : ([(0, [46]), (1, [167, 0, 6]), (4, [17, 252, 24]), (7, [172]), (8, [43]), (9, [29]), (10, [182, 0, 97]), (13, [153, 0, 16]), (16, [42]), (17, [43]), (18, [28]), (19, [16, 10])] : List (Nat × List UInt8)).all (fun x => prB x.2 ((cX3_look.data.toList.drop 127).drop x.1)) = true := by decide +kernel
theorem dX3_look_127 : decode cX3_look 127 = .ok (.iaload, 1) := op46 (bA_at bd03_dec_X3_0_52 0 rfl rfl)
theorem dX3_look_128 : decode cX3_look 128 = .ok (.goto 6, 3) := op167 (bA_at bd03_dec_X3_0_52 1 rfl rfl) (by decide +kernel)
theorem dX3_look_131 : decode cX3_look 131 = .ok (.sipush (-1000), 3) := op17 (bA_at bd03_dec_X3_0_52 2 rfl rfl) (by decide +kernel)
theorem dX3_look_134 : decode cX3_look 134 = .ok (.ireturn, 1) := op172 (bA_at bd03_dec_X3_0_52 3 rfl rfl)
theorem dX3_look_135 : decode cX3_look 135 = .ok (.aload_n 1, 1) := op43 (bA_at bd03_dec_X3_0_52 4 rfl rfl)
theorem dX3_look_136 : decode cX3_look 136 = .ok (.iload_n 3, 1) := op29 (bA_at bd03_dec_X3_0_52 5 rfl rfl)
theorem dX3_look_137 : decode cX3_look 137 = .ok (.invokevirtual 97, 3) := op182 (bA_at bd03_dec_X3_0_52 6 rfl rfl) rfl
theorem dX3_look_140 : decode cX3_look 140 = .ok (.ifCond .eq 16, 3) := op153 (bA_at bd03_dec_X3_0_52 7 rfl rfl) (by decide +kernel)
theorem dX3_look_143 : decode cX3_look 143 = .ok (.aload_n 0, 1) := op42 (bA_at bd03_dec_X3_0_52 8 rfl rfl)
theorem dX3_look_144 : decode cX3_look 144 = .ok (.aload_n 1, 1) := op43 (bA_at bd03_dec_X3_0_52 9 rfl rfl)
theorem dX3_look_145 : decode cX3_look 145 = .ok (.iload_n 2, 1) := op28 (bA_at bd03_dec_X3_0_52 10 rfl rfl)
theorem dX3_look_146 : decode cX3_look 146 = .ok (.bipush 10, 2) := op16 (bA_at bd03_dec_X3_0_52 11 rfl rfl) (by decide +kernel)
theorem bd03_dec_X3_0_53 : ([(0, [108]), (1, [29]), (2, [182, 0, 164]), (5, [167, 0, 6]), (8, [17, 252, 24]), (11, [172])] : List (Nat × List UInt8)).all (fun x => prB x.2 ((cX3_look.data.toList.drop 148).drop x.1)) = true := by decide +kernel
theorem dX3_look_148 : decode cX3_look 148 = .ok (.idiv, 1) := op108 (bA_at bd03_dec_X3_0_53 0 rfl rfl)
theorem dX3_look_149 : decode cX3_look 149 = .ok (.iload_n 3, 1) := op29 (bA_at bd03_dec_X3_0_53 1 rfl rfl)
theorem dX3_look_150 : decode cX3_look 150 = .ok (.invokevirtual 164, 3) := op182 (bA_at bd03_dec_X3_0_53 2 rfl rfl) rfl
theorem dX3_look_153 : decode cX3_look 153 = .ok (.goto 6, 3) := op167 (bA_at bd03_dec_X3_0_53 3 rfl rfl) (by decide +kernel)
theorem dX3_look_156 : decode cX3_look 156 = .ok (.sipush (-1000), 3) := op17 (bA_at bd03_dec_X3_0_53 4 rfl rfl) (by decide +kernel)
theorem dX3_look_159 : decode cX3_look 159 = .ok (.ireturn, 1) := op172 (bA_at bd03_dec_X3_0_53 5 rfl rfl)
theorem dX3_lookWhole_1 : decode cX3_lookWhole 1 = .ok (.tableswitch 62 0 4 #[35, 40, 45, 51, 56], 35) := by decide +kernel
theorem bd03_dec_X3_0_54 : ([(0, [28]), (36, [42]), (37, [180, 0, 72]), (40, [172]), (41, [42]), (42, [180, 0, 75]), (45, [172]), (46, [42]), (47, [43]), (48, [182, 0, 168]), (51, [172])] : List (Nat × List UInt8)).all (fun x => prB x.2 ((cX3_lookWhole.data.toList.drop 0).drop x.1)) = true := by decide +kernel
theorem dX3_lookWhole_0 : decode cX3_lookWhole 0 = .ok (.iload_n 2, 1) := op28 (bA_at bd03_dec_X3_0_54 0 rfl rfl)
theorem dX3_lookWhole_36 : decode cX3_lookWhole 36 = .ok (.aload_n 0, 1) := op42 (bA_at bd03_dec_X3_0_54 1 rfl rfl)
theorem dX3_lookWhole_37 : decode cX3_lookWhole 37 = .ok (.getfield 72, 3) := op180 (bA_at bd03_dec_X3_0_54 2 rfl rfl) rfl
theorem dX3_lookWhole_40 : decode cX3_lookWhole 40 = .ok (.ireturn, 1) := op172 (bA_at bd03_dec_X3_0_54 3 rfl rfl)
theorem dX3_lookWhole_41 : decode cX3_lookWhole 41 = .ok (.aload_n 0, 1) := op42 (bA_at bd03_dec_X3_0_54 4 rfl rfl)
theorem dX3_lookWhole_42 : decode cX3_lookWhole 42 = .ok (.getfield 75, 3) := op180 (bA_at bd03_dec_X3_0_54 5 rfl rfl) rfl
theorem dX3_lookWhole_45 : decode cX3_lookWhole 45 = .ok (.ireturn, 1) := op172 (bA_at bd03_dec_X3_0_54 6 rfl rfl)
theorem dX3_lookWhole_46 : decode cX3_lookWhole 46 = .ok (.aload_n 0, 1) := op42 (bA_at bd03_dec_X3_0_54 7 rfl rfl)
theorem dX3_lookWhole_47 : decode cX3_lookWhole 47 = .ok (.aload_n 1, 1) := op43 (bA_at bd03_dec_X3_0_54 8 rfl rfl)
theorem dX3_lookWhole_48 : decode cX3_lookWhole 48 = .ok (.invokevirtual 168, 3) := op182 (bA_at bd03_dec_X3_0_54 9 rfl rfl) rfl
theorem dX3_lookWhole_51 : decode cX3_lookWhole 51 = .ok (.ireturn, 1) := op172 (bA_at bd03_dec_X3_0_54 10 rfl rfl)
theorem bd03_dec_X3_0_55 : ([(0, [42]), (1, [180, 0, 64]), (4, [172]), (5, [42]), (6, [43]), (7, [182, 0, 172]), (10, [172]), (11, [17, 252, 24]), (14, [172])] : List (Nat × List UInt8)).all (fun x => prB x.2 ((cX3_lookWhole.data.toList.drop 52).drop x.1)) = true := by decide +kernel
theorem dX3_lookWhole_52 : decode cX3_lookWhole 52 = .ok (.aload_n 0, 1) := op42 (bA_at bd03_dec_X3_0_55 0 rfl rfl)
theorem dX3_lookWhole_53 : decode cX3_lookWhole 53 = .ok (.getfield 64, 3) := op180 (bA_at bd03_dec_X3_0_55 1 rfl rfl) rfl
theorem dX3_lookWhole_56 : decode cX3_lookWhole 56 = .ok (.ireturn, 1) := op172 (bA_at bd03_dec_X3_0_55 2 rfl rfl)
theorem dX3_lookWhole_57 : decode cX3_lookWhole 57 = .ok (.aload_n 0, 1) := op42 (bA_at bd03_dec_X3_0_55 3 rfl rfl)
theorem dX3_lookWhole_58 : decode cX3_lookWhole 58 = .ok (.aload_n 1, 1) := op43 (bA_at bd03_dec_X3_0_55 4 rfl rfl)
theorem dX3_lookWhole_59 : decode cX3_lookWhole 59 = .ok (.invokevirtual 172, 3) := op182 (bA_at bd03_dec_X3_0_55 5 rfl rfl) rfl
theorem dX3_lookWhole_62 : decode cX3_lookWhole 62 = .ok (.ireturn, 1) := op172 (bA_at bd03_dec_X3_0_55 6 rfl rfl)
theorem dX3_lookWhole_63 : decode cX3_lookWhole 63 = .ok (.sipush (-1000), 3) := op17 (bA_at bd03_dec_X3_0_55 7 rfl rfl) (by decide +kernel)
theorem dX3_lookWhole_66 : decode cX3_lookWhole 66 = .ok (.ireturn, 1) := op172 (bA_at bd03_dec_X3_0_55 8 rfl rfl)
theorem dX3_lookSinger_1 : decode cX3_lookSinger 1 = .ok (.tableswitch 58 3 5 #[27, 34, 41], 27) := by decide +kernel
theorem bd03_dec_X3_0_56 : ([(0, [28]), (28, [42]), (29, [180, 0, 9]), (32, [29]), (33, [46]), (34, [172]), (35, [42]), (36, [180, 0, 15]), (39, [29]), (40, [46]), (41, [172])] : List (Nat × List UInt8)).all (fun x => prB x.2 ((cX3_lookSinger.data.toList.drop 0).drop x.1)) = true := by decide +kernel
theorem dX3_lookSinger_0 : decode cX3_lookSinger 0 = .ok (.iload_n 2, 1) := op28 (bA_at bd03_dec_X3_0_56 0 rfl rfl)
theorem dX3_lookSinger_28 : decode cX3_lookSinger 28 = .ok (.aload_n 0, 1) := op42 (bA_at bd03_dec_X3_0_56 1 rfl rfl)
theorem dX3_lookSinger_29 : decode cX3_lookSinger 29 = .ok (.getfield 9, 3) := op180 (bA_at bd03_dec_X3_0_56 2 rfl rfl) rfl
theorem dX3_lookSinger_32 : decode cX3_lookSinger 32 = .ok (.iload_n 3, 1) := op29 (bA_at bd03_dec_X3_0_56 3 rfl rfl)
theorem dX3_lookSinger_33 : decode cX3_lookSinger 33 = .ok (.iaload, 1) := op46 (bA_at bd03_dec_X3_0_56 4 rfl rfl)
theorem dX3_lookSinger_34 : decode cX3_lookSinger 34 = .ok (.ireturn, 1) := op172 (bA_at bd03_dec_X3_0_56 5 rfl rfl)
theorem dX3_lookSinger_35 : decode cX3_lookSinger 35 = .ok (.aload_n 0, 1) := op42 (bA_at bd03_dec_X3_0_56 6 rfl rfl)
theorem dX3_lookSinger_36 : decode cX3_lookSinger 36 = .ok (.getfield 15, 3) := op180 (bA_at bd03_dec_X3_0_56 7 rfl rfl) rfl
theorem dX3_lookSinger_39 : decode cX3_lookSinger 39 = .ok (.iload_n 3, 1) := op29 (bA_at bd03_dec_X3_0_56 8 rfl rfl)
theorem dX3_lookSinger_40 : decode cX3_lookSinger 40 = .ok (.iaload, 1) := op46 (bA_at bd03_dec_X3_0_56 9 rfl rfl)
theorem dX3_lookSinger_41 : decode cX3_lookSinger 41 = .ok (.ireturn, 1) := op172 (bA_at bd03_dec_X3_0_56 10 rfl rfl)
theorem bd03_dec_X3_0_57 : ([(0, [42]), (1, [180, 0, 78]), (4, [29]), (5, [184, 0, 67]), (8, [153, 0, 7]), (11, [4]), (12, [167, 0, 4]), (15, [3]), (16, [172]), (17, [42]), (18, [43]), (19, [29])] : List (Nat × List UInt8)).all (fun x => prB x.2 ((cX3_lookSinger.data.toList.drop 42).drop x.1)) = true := by decide +kernel
theorem dX3_lookSinger_42 : decode cX3_lookSinger 42 = .ok (.aload_n 0, 1) := op42 (bA_at bd03_dec_X3_0_57 0 rfl rfl)
theorem dX3_lookSinger_43 : decode cX3_lookSinger 43 = .ok (.getfield 78, 3) := op180 (bA_at bd03_dec_X3_0_57 1 rfl rfl) rfl
theorem dX3_lookSinger_46 : decode cX3_lookSinger 46 = .ok (.iload_n 3, 1) := op29 (bA_at bd03_dec_X3_0_57 2 rfl rfl)
theorem dX3_lookSinger_47 : decode cX3_lookSinger 47 = .ok (.invokestatic 67, 3) := op184 (bA_at bd03_dec_X3_0_57 3 rfl rfl) rfl
theorem dX3_lookSinger_50 : decode cX3_lookSinger 50 = .ok (.ifCond .eq 7, 3) := op153 (bA_at bd03_dec_X3_0_57 4 rfl rfl) (by decide +kernel)
theorem dX3_lookSinger_53 : decode cX3_lookSinger 53 = .ok (.iconst 1, 1) := op4 (bA_at bd03_dec_X3_0_57 5 rfl rfl)
theorem dX3_lookSinger_54 : decode cX3_lookSinger 54 = .ok (.goto 4, 3) := op167 (bA_at bd03_dec_X3_0_57 6 rfl rfl) (by decide +kernel)
theorem dX3_lookSinger_57 : decode cX3_lookSinger 57 = .ok (.iconst 0, 1) := op3 (bA_at bd03_dec_X3_0_57 7 rfl rfl)
theorem dX3_lookSinger_58 : decode cX3_lookSinger 58 = .ok (.ireturn, 1) := op172 (bA_at bd03_dec_X3_0_57 8 rfl rfl)
theorem dX3_lookSinger_59 : decode cX3_lookSinger 59 = .ok (.aload_n 0, 1) := op42 (bA_at bd03_dec_X3_0_57 9 rfl rfl)
theorem dX3_lookSinger_60 : decode cX3_lookSinger 60 = .ok (.aload_n 1, 1) := op43 (bA_at bd03_dec_X3_0_57 10 rfl rfl)
theorem dX3_lookSinger_61 : decode cX3_lookSinger 61 = .ok (.iload_n 3, 1) := op29 (bA_at bd03_dec_X3_0_57 11 rfl rfl)
theorem bd03_dec_X3_0_58 : ([(0, [182, 0, 130]), (3, [172])] : List (Nat × List UInt8)).all (fun x => prB x.2 ((cX3_lookSinger.data.toList.drop 62).drop x.1)) = true := by decide +kernel
theorem dX3_lookSinger_62 : decode cX3_lookSinger 62 = .ok (.invokevirtual 130, 3) := op182 (bA_at bd03_dec_X3_0_58 0 rfl rfl) rfl
theorem dX3_lookSinger_65 : decode cX3_lookSinger 65 = .ok (.ireturn, 1) := op172 (bA_at bd03_dec_X3_0_58 1 rfl rfl)
theorem bd03_dec_X3_0_59 : ([(0, [3]), (1, [61]), (2, [3]), (3, [62]), (4, [29]), (5, [43]), (6, [180, 0, 53]), (9, [162, 0, 31]), (12, [42]), (13, [180, 0, 64]), (16, [42]), (17, [180, 0, 15])] : List (Nat × List UInt8)).all (fun x => prB x.2 ((cX3_seers.data.toList.drop 0).drop x.1)) = true := by decide +kernel
theorem dX3_seers_0 : decode cX3_seers 0 = .ok (.iconst 0, 1) := op3 (bA_at bd03_dec_X3_0_59 0 rfl rfl)
theorem dX3_seers_1 : decode cX3_seers 1 = .ok (.istore_n 2, 1) := op61 (bA_at bd03_dec_X3_0_59 1 rfl rfl)
theorem dX3_seers_2 : decode cX3_seers 2 = .ok (.iconst 0, 1) := op3 (bA_at bd03_dec_X3_0_59 2 rfl rfl)
theorem dX3_seers_3 : decode cX3_seers 3 = .ok (.istore_n 3, 1) := op62 (bA_at bd03_dec_X3_0_59 3 rfl rfl)
theorem dX3_seers_4 : decode cX3_seers 4 = .ok (.iload_n 3, 1) := op29 (bA_at bd03_dec_X3_0_59 4 rfl rfl)
theorem dX3_seers_5 : decode cX3_seers 5 = .ok (.aload_n 1, 1) := op43 (bA_at bd03_dec_X3_0_59 5 rfl rfl)
theorem dX3_seers_6 : decode cX3_seers 6 = .ok (.getfield 53, 3) := op180 (bA_at bd03_dec_X3_0_59 6 rfl rfl) rfl
theorem dX3_seers_9 : decode cX3_seers 9 = .ok (.if_icmp .ge 31, 3) := op162 (bA_at bd03_dec_X3_0_59 7 rfl rfl) (by decide +kernel)
theorem dX3_seers_12 : decode cX3_seers 12 = .ok (.aload_n 0, 1) := op42 (bA_at bd03_dec_X3_0_59 8 rfl rfl)
theorem dX3_seers_13 : decode cX3_seers 13 = .ok (.getfield 64, 3) := op180 (bA_at bd03_dec_X3_0_59 9 rfl rfl) rfl
theorem dX3_seers_16 : decode cX3_seers 16 = .ok (.aload_n 0, 1) := op42 (bA_at bd03_dec_X3_0_59 10 rfl rfl)
theorem dX3_seers_17 : decode cX3_seers 17 = .ok (.getfield 15, 3) := op180 (bA_at bd03_dec_X3_0_59 11 rfl rfl) rfl
theorem bd03_dec_X3_0_60 : ([(0, [29]), (1, [46]), (2, [2]), (3, [130]), (4, [126]), (5, [154, 0, 9]), (8, [28]), (9, [4]), (10, [29]), (11, [120]), (12, [128]), (13, [61])] : List (Nat × List UInt8)).all (fun x => prB x.2 ((cX3_seers.data.toList.drop 20).drop x.1)) = true := by decide +kernel
theorem dX3_seers_20 : decode cX3_seers 20 = .ok (.iload_n 3, 1) := op29 (bA_at bd03_dec_X3_0_60 0 rfl rfl)
theorem dX3_seers_21 : decode cX3_seers 21 = .ok (.iaload, 1) := op46 (bA_at bd03_dec_X3_0_60 1 rfl rfl)
theorem dX3_seers_22 : decode cX3_seers 22 = .ok (.iconst (-1), 1) := op2 (bA_at bd03_dec_X3_0_60 2 rfl rfl)
theorem dX3_seers_23 : decode cX3_seers 23 = .ok (.ixor, 1) := op130 (bA_at bd03_dec_X3_0_60 3 rfl rfl)
theorem dX3_seers_24 : decode cX3_seers 24 = .ok (.iand, 1) := op126 (bA_at bd03_dec_X3_0_60 4 rfl rfl)
theorem dX3_seers_25 : decode cX3_seers 25 = .ok (.ifCond .ne 9, 3) := op154 (bA_at bd03_dec_X3_0_60 5 rfl rfl) (by decide +kernel)
theorem dX3_seers_28 : decode cX3_seers 28 = .ok (.iload_n 2, 1) := op28 (bA_at bd03_dec_X3_0_60 6 rfl rfl)
theorem dX3_seers_29 : decode cX3_seers 29 = .ok (.iconst 1, 1) := op4 (bA_at bd03_dec_X3_0_60 7 rfl rfl)
theorem dX3_seers_30 : decode cX3_seers 30 = .ok (.iload_n 3, 1) := op29 (bA_at bd03_dec_X3_0_60 8 rfl rfl)
theorem dX3_seers_31 : decode cX3_seers 31 = .ok (.ishl, 1) := op120 (bA_at bd03_dec_X3_0_60 9 rfl rfl)
theorem dX3_seers_32 : decode cX3_seers 32 = .ok (.ior, 1) := op128 (bA_at bd03_dec_X3_0_60 10 rfl rfl)
theorem dX3_seers_33 : decode cX3_seers 33 = .ok (.istore_n 2, 1) := op61 (bA_at bd03_dec_X3_0_60 11 rfl rfl)
theorem bd03_dec_X3_0_61 : ([(0, [132, 3, 1]), (3, [167, 255, 223]), (6, [28]), (7, [172])] : List (Nat × List UInt8)).all (fun x => prB x.2 ((cX3_seers.data.toList.drop 34).drop x.1)) = true := by decide +kernel
theorem dX3_seers_34 : decode cX3_seers 34 = .ok (.iinc 3 1, 3) := op132 (bA_at bd03_dec_X3_0_61 0 rfl rfl) rfl (by decide +kernel)
theorem dX3_seers_37 : decode cX3_seers 37 = .ok (.goto (-33), 3) := op167 (bA_at bd03_dec_X3_0_61 1 rfl rfl) (by decide +kernel)
theorem dX3_seers_40 : decode cX3_seers 40 = .ok (.iload_n 2, 1) := op28 (bA_at bd03_dec_X3_0_61 2 rfl rfl)
theorem dX3_seers_41 : decode cX3_seers 41 = .ok (.ireturn, 1) := op172 (bA_at bd03_dec_X3_0_61 3 rfl rfl)
theorem bd03_dec_X3_0_62 : ([(0, [42]), (1, [43]), (2, [182, 0, 175]), (5, [42]), (6, [180, 0, 64]), (9, [61]), (10, [3]), (11, [62]), (12, [29]), (13, [43]), (14, [180, 0, 53]), (17, [162, 0, 67])] : List (Nat × List UInt8)).all (fun x => prB x.2 ((cX3_doneFor.data.toList.drop 0).drop x.1)) = true := by decide +kernel
theorem dX3_doneFor_0 : decode cX3_doneFor 0 = .ok (.aload_n 0, 1) := op42 (bA_at bd03_dec_X3_0_62 0 rfl rfl)
theorem dX3_doneFor_1 : decode cX3_doneFor 1 = .ok (.aload_n 1, 1) := op43 (bA_at bd03_dec_X3_0_62 1 rfl rfl)
theorem dX3_doneFor_2 : decode cX3_doneFor 2 = .ok (.invokevirtual 175, 3) := op182 (bA_at bd03_dec_X3_0_62 2 rfl rfl) rfl
theorem dX3_doneFor_5 : decode cX3_doneFor 5 = .ok (.aload_n 0, 1) := op42 (bA_at bd03_dec_X3_0_62 3 rfl rfl)
theorem dX3_doneFor_6 : decode cX3_doneFor 6 = .ok (.getfield 64, 3) := op180 (bA_at bd03_dec_X3_0_62 4 rfl rfl) rfl
theorem dX3_doneFor_9 : decode cX3_doneFor 9 = .ok (.istore_n 2, 1) := op61 (bA_at bd03_dec_X3_0_62 5 rfl rfl)
theorem dX3_doneFor_10 : decode cX3_doneFor 10 = .ok (.iconst 0, 1) := op3 (bA_at bd03_dec_X3_0_62 6 rfl rfl)
theorem dX3_doneFor_11 : decode cX3_doneFor 11 = .ok (.istore_n 3, 1) := op62 (bA_at bd03_dec_X3_0_62 7 rfl rfl)
theorem dX3_doneFor_12 : decode cX3_doneFor 12 = .ok (.iload_n 3, 1) := op29 (bA_at bd03_dec_X3_0_62 8 rfl rfl)
theorem dX3_doneFor_13 : decode cX3_doneFor 13 = .ok (.aload_n 1, 1) := op43 (bA_at bd03_dec_X3_0_62 9 rfl rfl)
theorem dX3_doneFor_14 : decode cX3_doneFor 14 = .ok (.getfield 53, 3) := op180 (bA_at bd03_dec_X3_0_62 10 rfl rfl) rfl
theorem dX3_doneFor_17 : decode cX3_doneFor 17 = .ok (.if_icmp .ge 67, 3) := op162 (bA_at bd03_dec_X3_0_62 11 rfl rfl) (by decide +kernel)
theorem bd03_dec_X3_0_63 : ([(0, [42]), (1, [43]), (2, [29]), (3, [182, 0, 178]), (6, [54, 4]), (8, [3]), (9, [54, 5]), (11, [21, 5]), (13, [8]), (14, [162, 0, 44]), (17, [42]), (18, [180, 0, 15])] : List (Nat × List UInt8)).all (fun x => prB x.2 ((cX3_doneFor.data.toList.drop 20).drop x.1)) = true := by decide +kernel
theorem dX3_doneFor_20 : decode cX3_doneFor 20 = .ok (.aload_n 0, 1) := op42 (bA_at bd03_dec_X3_0_63 0 rfl rfl)
theorem dX3_doneFor_21 : decode cX3_doneFor 21 = .ok (.aload_n 1, 1) := op43 (bA_at bd03_dec_X3_0_63 1 rfl rfl)
theorem dX3_doneFor_22 : decode cX3_doneFor 22 = .ok (.iload_n 3, 1) := op29 (bA_at bd03_dec_X3_0_63 2 rfl rfl)
theorem dX3_doneFor_23 : decode cX3_doneFor 23 = .ok (.invokevirtual 178, 3) := op182 (bA_at bd03_dec_X3_0_63 3 rfl rfl) rfl
theorem dX3_doneFor_26 : decode cX3_doneFor 26 = .ok (.istore 4, 2) := op54 (bA_at bd03_dec_X3_0_63 4 rfl rfl) rfl
theorem dX3_doneFor_28 : decode cX3_doneFor 28 = .ok (.iconst 0, 1) := op3 (bA_at bd03_dec_X3_0_63 5 rfl rfl)
theorem dX3_doneFor_29 : decode cX3_doneFor 29 = .ok (.istore 5, 2) := op54 (bA_at bd03_dec_X3_0_63 6 rfl rfl) rfl
theorem dX3_doneFor_31 : decode cX3_doneFor 31 = .ok (.iload 5, 2) := op21 (bA_at bd03_dec_X3_0_63 7 rfl rfl) rfl
theorem dX3_doneFor_33 : decode cX3_doneFor 33 = .ok (.iconst 5, 1) := op8 (bA_at bd03_dec_X3_0_63 8 rfl rfl)
theorem dX3_doneFor_34 : decode cX3_doneFor 34 = .ok (.if_icmp .ge 44, 3) := op162 (bA_at bd03_dec_X3_0_63 9 rfl rfl) (by decide +kernel)
theorem dX3_doneFor_37 : decode cX3_doneFor 37 = .ok (.aload_n 0, 1) := op42 (bA_at bd03_dec_X3_0_63 10 rfl rfl)
theorem dX3_doneFor_38 : decode cX3_doneFor 38 = .ok (.getfield 15, 3) := op180 (bA_at bd03_dec_X3_0_63 11 rfl rfl) rfl
theorem bd03_dec_X3_0_64 : ([(0, [29]), (1, [46]), (2, [21, 5]), (4, [184, 0, 67]), (7, [153, 0, 24]), (10, [21, 4]), (12, [42]), (13, [180, 0, 18]), (16, [21, 5]), (18, [46]), (19, [162, 0, 12]), (22, [28])] : List (Nat × List UInt8)).all (fun x => prB x.2 ((cX3_doneFor.data.toList.drop 41).drop x.1)) = true := by decide +kernel
theorem dX3_doneFor_41 : decode cX3_doneFor 41 = .ok (.iload_n 3, 1) := op29 (bA_at bd03_dec_X3_0_64 0 rfl rfl)
theorem dX3_doneFor_42 : decode cX3_doneFor 42 = .ok (.iaload, 1) := op46 (bA_at bd03_dec_X3_0_64 1 rfl rfl)
theorem dX3_doneFor_43 : decode cX3_doneFor 43 = .ok (.iload 5, 2) := op21 (bA_at bd03_dec_X3_0_64 2 rfl rfl) rfl
theorem dX3_doneFor_45 : decode cX3_doneFor 45 = .ok (.invokestatic 67, 3) := op184 (bA_at bd03_dec_X3_0_64 3 rfl rfl) rfl
theorem dX3_doneFor_48 : decode cX3_doneFor 48 = .ok (.ifCond .eq 24, 3) := op153 (bA_at bd03_dec_X3_0_64 4 rfl rfl) (by decide +kernel)
theorem dX3_doneFor_51 : decode cX3_doneFor 51 = .ok (.iload 4, 2) := op21 (bA_at bd03_dec_X3_0_64 5 rfl rfl) rfl
theorem dX3_doneFor_53 : decode cX3_doneFor 53 = .ok (.aload_n 0, 1) := op42 (bA_at bd03_dec_X3_0_64 6 rfl rfl)
theorem dX3_doneFor_54 : decode cX3_doneFor 54 = .ok (.getfield 18, 3) := op180 (bA_at bd03_dec_X3_0_64 7 rfl rfl) rfl
theorem dX3_doneFor_57 : decode cX3_doneFor 57 = .ok (.iload 5, 2) := op21 (bA_at bd03_dec_X3_0_64 8 rfl rfl) rfl
theorem dX3_doneFor_59 : decode cX3_doneFor 59 = .ok (.iaload, 1) := op46 (bA_at bd03_dec_X3_0_64 9 rfl rfl)
theorem dX3_doneFor_60 : decode cX3_doneFor 60 = .ok (.if_icmp .ge 12, 3) := op162 (bA_at bd03_dec_X3_0_64 10 rfl rfl) (by decide +kernel)
theorem dX3_doneFor_63 : decode cX3_doneFor 63 = .ok (.iload_n 2, 1) := op28 (bA_at bd03_dec_X3_0_64 11 rfl rfl)
theorem bd03_dec_X3_0_65 : ([(0, [4]), (1, [21, 5]), (3, [120]), (4, [2]), (5, [130]), (6, [126]), (7, [61]), (8, [132, 5, 1]), (11, [167, 255, 212]), (14, [132, 3, 1]), (17, [167, 255, 187]), (20, [28])] : List (Nat × List UInt8)).all (fun x => prB x.2 ((cX3_doneFor.data.toList.drop 64).drop x.1)) = true := by decide +kernel
theorem dX3_doneFor_64 : decode cX3_doneFor 64 = .ok (.iconst 1, 1) := op4 (bA_at bd03_dec_X3_0_65 0 rfl rfl)
theorem dX3_doneFor_65 : decode cX3_doneFor 65 = .ok (.iload 5, 2) := op21 (bA_at bd03_dec_X3_0_65 1 rfl rfl) rfl
theorem dX3_doneFor_67 : decode cX3_doneFor 67 = .ok (.ishl, 1) := op120 (bA_at bd03_dec_X3_0_65 2 rfl rfl)
theorem dX3_doneFor_68 : decode cX3_doneFor 68 = .ok (.iconst (-1), 1) := op2 (bA_at bd03_dec_X3_0_65 3 rfl rfl)
theorem dX3_doneFor_69 : decode cX3_doneFor 69 = .ok (.ixor, 1) := op130 (bA_at bd03_dec_X3_0_65 4 rfl rfl)
theorem dX3_doneFor_70 : decode cX3_doneFor 70 = .ok (.iand, 1) := op126 (bA_at bd03_dec_X3_0_65 5 rfl rfl)
theorem dX3_doneFor_71 : decode cX3_doneFor 71 = .ok (.istore_n 2, 1) := op61 (bA_at bd03_dec_X3_0_65 6 rfl rfl)
theorem dX3_doneFor_72 : decode cX3_doneFor 72 = .ok (.iinc 5 1, 3) := op132 (bA_at bd03_dec_X3_0_65 7 rfl rfl) rfl (by decide +kernel)
theorem dX3_doneFor_75 : decode cX3_doneFor 75 = .ok (.goto (-44), 3) := op167 (bA_at bd03_dec_X3_0_65 8 rfl rfl) (by decide +kernel)
theorem dX3_doneFor_78 : decode cX3_doneFor 78 = .ok (.iinc 3 1, 3) := op132 (bA_at bd03_dec_X3_0_65 9 rfl rfl) rfl (by decide +kernel)
theorem dX3_doneFor_81 : decode cX3_doneFor 81 = .ok (.goto (-69), 3) := op167 (bA_at bd03_dec_X3_0_65 10 rfl rfl) (by decide +kernel)
theorem dX3_doneFor_84 : decode cX3_doneFor 84 = .ok (.iload_n 2, 1) := op28 (bA_at bd03_dec_X3_0_65 11 rfl rfl)
theorem bd03_dec_X3_0_66 : ([(0, [172])] : List (Nat × List UInt8)).all (fun x => prB x.2 ((cX3_doneFor.data.toList.drop 85).drop x.1)) = true := by decide +kernel
theorem dX3_doneFor_85 : decode cX3_doneFor 85 = .ok (.ireturn, 1) := op172 (bA_at bd03_dec_X3_0_66 0 rfl rfl)
theorem bd03_dec_X3_0_67 : ([(0, [3]), (1, [61]), (2, [28]), (3, [43]), (4, [180, 0, 62]), (7, [162, 0, 76]), (10, [42]), (11, [180, 0, 24]), (14, [28]), (15, [3]), (16, [79]), (17, [3])] : List (Nat × List UInt8)).all (fun x => prB x.2 ((cX3_openWays.data.toList.drop 0).drop x.1)) = true := by decide +kernel
theorem dX3_openWays_0 : decode cX3_openWays 0 = .ok (.iconst 0, 1) := op3 (bA_at bd03_dec_X3_0_67 0 rfl rfl)
theorem dX3_openWays_1 : decode cX3_openWays 1 = .ok (.istore_n 2, 1) := op61 (bA_at bd03_dec_X3_0_67 1 rfl rfl)
theorem dX3_openWays_2 : decode cX3_openWays 2 = .ok (.iload_n 2, 1) := op28 (bA_at bd03_dec_X3_0_67 2 rfl rfl)
theorem dX3_openWays_3 : decode cX3_openWays 3 = .ok (.aload_n 1, 1) := op43 (bA_at bd03_dec_X3_0_67 3 rfl rfl)
theorem dX3_openWays_4 : decode cX3_openWays 4 = .ok (.getfield 62, 3) := op180 (bA_at bd03_dec_X3_0_67 4 rfl rfl) rfl
theorem dX3_openWays_7 : decode cX3_openWays 7 = .ok (.if_icmp .ge 76, 3) := op162 (bA_at bd03_dec_X3_0_67 5 rfl rfl) (by decide +kernel)
theorem dX3_openWays_10 : decode cX3_openWays 10 = .ok (.aload_n 0, 1) := op42 (bA_at bd03_dec_X3_0_67 6 rfl rfl)
theorem dX3_openWays_11 : decode cX3_openWays 11 = .ok (.getfield 24, 3) := op180 (bA_at bd03_dec_X3_0_67 7 rfl rfl) rfl
theorem dX3_openWays_14 : decode cX3_openWays 14 = .ok (.iload_n 2, 1) := op28 (bA_at bd03_dec_X3_0_67 8 rfl rfl)
theorem dX3_openWays_15 : decode cX3_openWays 15 = .ok (.iconst 0, 1) := op3 (bA_at bd03_dec_X3_0_67 9 rfl rfl)
theorem dX3_openWays_16 : decode cX3_openWays 16 = .ok (.iastore, 1) := op79 (bA_at bd03_dec_X3_0_67 10 rfl rfl)
theorem dX3_openWays_17 : decode cX3_openWays 17 = .ok (.iconst 0, 1) := op3 (bA_at bd03_dec_X3_0_67 11 rfl rfl)
theorem bd03_dec_X3_0_68 : ([(0, [62]), (1, [29]), (2, [43]), (3, [180, 0, 62]), (6, [162, 0, 53]), (9, [43]), (10, [180, 0, 121]), (13, [28]), (14, [16, 9]), (16, [104]), (17, [29]), (18, [96])] : List (Nat × List UInt8)).all (fun x => prB x.2 ((cX3_openWays.data.toList.drop 18).drop x.1)) = true := by decide +kernel
theorem dX3_openWays_18 : decode cX3_openWays 18 = .ok (.istore_n 3, 1) := op62 (bA_at bd03_dec_X3_0_68 0 rfl rfl)
theorem dX3_openWays_19 : decode cX3_openWays 19 = .ok (.iload_n 3, 1) := op29 (bA_at bd03_dec_X3_0_68 1 rfl rfl)
theorem dX3_openWays_20 : decode cX3_openWays 20 = .ok (.aload_n 1, 1) := op43 (bA_at bd03_dec_X3_0_68 2 rfl rfl)
theorem dX3_openWays_21 : decode cX3_openWays 21 = .ok (.getfield 62, 3) := op180 (bA_at bd03_dec_X3_0_68 3 rfl rfl) rfl
theorem dX3_openWays_24 : decode cX3_openWays 24 = .ok (.if_icmp .ge 53, 3) := op162 (bA_at bd03_dec_X3_0_68 4 rfl rfl) (by decide +kernel)
theorem dX3_openWays_27 : decode cX3_openWays 27 = .ok (.aload_n 1, 1) := op43 (bA_at bd03_dec_X3_0_68 5 rfl rfl)
theorem dX3_openWays_28 : decode cX3_openWays 28 = .ok (.getfield 121, 3) := op180 (bA_at bd03_dec_X3_0_68 6 rfl rfl) rfl
theorem dX3_openWays_31 : decode cX3_openWays 31 = .ok (.iload_n 2, 1) := op28 (bA_at bd03_dec_X3_0_68 7 rfl rfl)
theorem dX3_openWays_32 : decode cX3_openWays 32 = .ok (.bipush 9, 2) := op16 (bA_at bd03_dec_X3_0_68 8 rfl rfl) (by decide +kernel)
theorem dX3_openWays_34 : decode cX3_openWays 34 = .ok (.imul, 1) := op104 (bA_at bd03_dec_X3_0_68 9 rfl rfl)
theorem dX3_openWays_35 : decode cX3_openWays 35 = .ok (.iload_n 3, 1) := op29 (bA_at bd03_dec_X3_0_68 10 rfl rfl)
theorem dX3_openWays_36 : decode cX3_openWays 36 = .ok (.iadd, 1) := op96 (bA_at bd03_dec_X3_0_68 11 rfl rfl)
theorem bd03_dec_X3_0_69 : ([(0, [46]), (1, [158, 0, 33]), (4, [42]), (5, [43]), (6, [28]), (7, [182, 0, 118]), (10, [154, 0, 24]), (13, [42]), (14, [43]), (15, [29]), (16, [182, 0, 118]), (19, [154, 0, 15])] : List (Nat × List UInt8)).all (fun x => prB x.2 ((cX3_openWays.data.toList.drop 37).drop x.1)) = true := by decide +kernel
theorem dX3_openWays_37 : decode cX3_openWays 37 = .ok (.iaload, 1) := op46 (bA_at bd03_dec_X3_0_69 0 rfl rfl)
theorem dX3_openWays_38 : decode cX3_openWays 38 = .ok (.ifCond .le 33, 3) := op158 (bA_at bd03_dec_X3_0_69 1 rfl rfl) (by decide +kernel)
theorem dX3_openWays_41 : decode cX3_openWays 41 = .ok (.aload_n 0, 1) := op42 (bA_at bd03_dec_X3_0_69 2 rfl rfl)
theorem dX3_openWays_42 : decode cX3_openWays 42 = .ok (.aload_n 1, 1) := op43 (bA_at bd03_dec_X3_0_69 3 rfl rfl)
theorem dX3_openWays_43 : decode cX3_openWays 43 = .ok (.iload_n 2, 1) := op28 (bA_at bd03_dec_X3_0_69 4 rfl rfl)
theorem dX3_openWays_44 : decode cX3_openWays 44 = .ok (.invokevirtual 118, 3) := op182 (bA_at bd03_dec_X3_0_69 5 rfl rfl) rfl
theorem dX3_openWays_47 : decode cX3_openWays 47 = .ok (.ifCond .ne 24, 3) := op154 (bA_at bd03_dec_X3_0_69 6 rfl rfl) (by decide +kernel)
theorem dX3_openWays_50 : decode cX3_openWays 50 = .ok (.aload_n 0, 1) := op42 (bA_at bd03_dec_X3_0_69 7 rfl rfl)
theorem dX3_openWays_51 : decode cX3_openWays 51 = .ok (.aload_n 1, 1) := op43 (bA_at bd03_dec_X3_0_69 8 rfl rfl)
theorem dX3_openWays_52 : decode cX3_openWays 52 = .ok (.iload_n 3, 1) := op29 (bA_at bd03_dec_X3_0_69 9 rfl rfl)
theorem dX3_openWays_53 : decode cX3_openWays 53 = .ok (.invokevirtual 118, 3) := op182 (bA_at bd03_dec_X3_0_69 10 rfl rfl) rfl
theorem dX3_openWays_56 : decode cX3_openWays 56 = .ok (.ifCond .ne 15, 3) := op154 (bA_at bd03_dec_X3_0_69 11 rfl rfl) (by decide +kernel)
theorem bd03_dec_X3_0_70 : ([(0, [42]), (1, [180, 0, 24]), (4, [28]), (5, [92]), (6, [46]), (7, [4]), (8, [29]), (9, [120]), (10, [128]), (11, [79]), (12, [132, 3, 1]), (15, [167, 255, 201])] : List (Nat × List UInt8)).all (fun x => prB x.2 ((cX3_openWays.data.toList.drop 59).drop x.1)) = true := by decide +kernel
theorem dX3_openWays_59 : decode cX3_openWays 59 = .ok (.aload_n 0, 1) := op42 (bA_at bd03_dec_X3_0_70 0 rfl rfl)
theorem dX3_openWays_60 : decode cX3_openWays 60 = .ok (.getfield 24, 3) := op180 (bA_at bd03_dec_X3_0_70 1 rfl rfl) rfl
theorem dX3_openWays_63 : decode cX3_openWays 63 = .ok (.iload_n 2, 1) := op28 (bA_at bd03_dec_X3_0_70 2 rfl rfl)
theorem dX3_openWays_64 : decode cX3_openWays 64 = .ok (.dup2, 1) := op92 (bA_at bd03_dec_X3_0_70 3 rfl rfl)
theorem dX3_openWays_65 : decode cX3_openWays 65 = .ok (.iaload, 1) := op46 (bA_at bd03_dec_X3_0_70 4 rfl rfl)
theorem dX3_openWays_66 : decode cX3_openWays 66 = .ok (.iconst 1, 1) := op4 (bA_at bd03_dec_X3_0_70 5 rfl rfl)
theorem dX3_openWays_67 : decode cX3_openWays 67 = .ok (.iload_n 3, 1) := op29 (bA_at bd03_dec_X3_0_70 6 rfl rfl)
theorem dX3_openWays_68 : decode cX3_openWays 68 = .ok (.ishl, 1) := op120 (bA_at bd03_dec_X3_0_70 7 rfl rfl)
theorem dX3_openWays_69 : decode cX3_openWays 69 = .ok (.ior, 1) := op128 (bA_at bd03_dec_X3_0_70 8 rfl rfl)
theorem dX3_openWays_70 : decode cX3_openWays 70 = .ok (.iastore, 1) := op79 (bA_at bd03_dec_X3_0_70 9 rfl rfl)
theorem dX3_openWays_71 : decode cX3_openWays 71 = .ok (.iinc 3 1, 3) := op132 (bA_at bd03_dec_X3_0_70 10 rfl rfl) rfl (by decide +kernel)
theorem dX3_openWays_74 : decode cX3_openWays 74 = .ok (.goto (-55), 3) := op167 (bA_at bd03_dec_X3_0_70 11 rfl rfl) (by decide +kernel)
theorem bd03_dec_X3_0_71 : ([(0, [132, 2, 1]), (3, [167, 255, 178]), (6, [177])] : List (Nat × List UInt8)).all (fun x => prB x.2 ((cX3_openWays.data.toList.drop 77).drop x.1)) = true := by decide +kernel
theorem dX3_openWays_77 : decode cX3_openWays 77 = .ok (.iinc 2 1, 3) := op132 (bA_at bd03_dec_X3_0_71 0 rfl rfl) rfl (by decide +kernel)
theorem dX3_openWays_80 : decode cX3_openWays 80 = .ok (.goto (-78), 3) := op167 (bA_at bd03_dec_X3_0_71 1 rfl rfl) (by decide +kernel)
theorem dX3_openWays_83 : decode cX3_openWays 83 = .ok (.return_, 1) := op177 (bA_at bd03_dec_X3_0_71 2 rfl rfl)
theorem bd03_dec_X3_0_72 : ([(0, [42]), (1, [180, 0, 9]), (4, [28]), (5, [46]), (6, [42]), (7, [180, 0, 24]), (10, [3]), (11, [184, 0, 181]), (14, [62]), (15, [17, 3, 232]), (18, [54, 4]), (20, [3])] : List (Nat × List UInt8)).all (fun x => prB x.2 ((cX3_lowest.data.toList.drop 0).drop x.1)) = true := by decide +kernel
theorem dX3_lowest_0 : decode cX3_lowest 0 = .ok (.aload_n 0, 1) := op42 (bA_at bd03_dec_X3_0_72 0 rfl rfl)
theorem dX3_lowest_1 : decode cX3_lowest 1 = .ok (.getfield 9, 3) := op180 (bA_at bd03_dec_X3_0_72 1 rfl rfl) rfl
theorem dX3_lowest_4 : decode cX3_lowest 4 = .ok (.iload_n 2, 1) := op28 (bA_at bd03_dec_X3_0_72 2 rfl rfl)
theorem dX3_lowest_5 : decode cX3_lowest 5 = .ok (.iaload, 1) := op46 (bA_at bd03_dec_X3_0_72 3 rfl rfl)
theorem dX3_lowest_6 : decode cX3_lowest 6 = .ok (.aload_n 0, 1) := op42 (bA_at bd03_dec_X3_0_72 4 rfl rfl)
theorem dX3_lowest_7 : decode cX3_lowest 7 = .ok (.getfield 24, 3) := op180 (bA_at bd03_dec_X3_0_72 5 rfl rfl) rfl
theorem dX3_lowest_10 : decode cX3_lowest 10 = .ok (.iconst 0, 1) := op3 (bA_at bd03_dec_X3_0_72 6 rfl rfl)
theorem dX3_lowest_11 : decode cX3_lowest 11 = .ok (.invokestatic 181, 3) := op184 (bA_at bd03_dec_X3_0_72 7 rfl rfl) rfl
theorem dX3_lowest_14 : decode cX3_lowest 14 = .ok (.istore_n 3, 1) := op62 (bA_at bd03_dec_X3_0_72 8 rfl rfl)
theorem dX3_lowest_15 : decode cX3_lowest 15 = .ok (.sipush 1000, 3) := op17 (bA_at bd03_dec_X3_0_72 9 rfl rfl) (by decide +kernel)
theorem dX3_lowest_18 : decode cX3_lowest 18 = .ok (.istore 4, 2) := op54 (bA_at bd03_dec_X3_0_72 10 rfl rfl) rfl
theorem dX3_lowest_20 : decode cX3_lowest 20 = .ok (.iconst 0, 1) := op3 (bA_at bd03_dec_X3_0_72 11 rfl rfl)
theorem bd03_dec_X3_0_73 : ([(0, [54, 5]), (2, [21, 5]), (4, [43]), (5, [180, 0, 62]), (8, [162, 0, 48]), (11, [29]), (12, [21, 5]), (14, [184, 0, 67]), (17, [153, 0, 33]), (20, [43]), (21, [21, 5]), (23, [182, 0, 127])] : List (Nat × List UInt8)).all (fun x => prB x.2 ((cX3_lowest.data.toList.drop 21).drop x.1)) = true := by decide +kernel
theorem dX3_lowest_21 : decode cX3_lowest 21 = .ok (.istore 5, 2) := op54 (bA_at bd03_dec_X3_0_73 0 rfl rfl) rfl
theorem dX3_lowest_23 : decode cX3_lowest 23 = .ok (.iload 5, 2) := op21 (bA_at bd03_dec_X3_0_73 1 rfl rfl) rfl
theorem dX3_lowest_25 : decode cX3_lowest 25 = .ok (.aload_n 1, 1) := op43 (bA_at bd03_dec_X3_0_73 2 rfl rfl)
theorem dX3_lowest_26 : decode cX3_lowest 26 = .ok (.getfield 62, 3) := op180 (bA_at bd03_dec_X3_0_73 3 rfl rfl) rfl
theorem dX3_lowest_29 : decode cX3_lowest 29 = .ok (.if_icmp .ge 48, 3) := op162 (bA_at bd03_dec_X3_0_73 4 rfl rfl) (by decide +kernel)
theorem dX3_lowest_32 : decode cX3_lowest 32 = .ok (.iload_n 3, 1) := op29 (bA_at bd03_dec_X3_0_73 5 rfl rfl)
theorem dX3_lowest_33 : decode cX3_lowest 33 = .ok (.iload 5, 2) := op21 (bA_at bd03_dec_X3_0_73 6 rfl rfl) rfl
theorem dX3_lowest_35 : decode cX3_lowest 35 = .ok (.invokestatic 67, 3) := op184 (bA_at bd03_dec_X3_0_73 7 rfl rfl) rfl
theorem dX3_lowest_38 : decode cX3_lowest 38 = .ok (.ifCond .eq 33, 3) := op153 (bA_at bd03_dec_X3_0_73 8 rfl rfl) (by decide +kernel)
theorem dX3_lowest_41 : decode cX3_lowest 41 = .ok (.aload_n 1, 1) := op43 (bA_at bd03_dec_X3_0_73 9 rfl rfl)
theorem dX3_lowest_42 : decode cX3_lowest 42 = .ok (.iload 5, 2) := op21 (bA_at bd03_dec_X3_0_73 10 rfl rfl) rfl
theorem dX3_lowest_44 : decode cX3_lowest 44 = .ok (.invokevirtual 127, 3) := op182 (bA_at bd03_dec_X3_0_73 11 rfl rfl) rfl
theorem bd03_dec_X3_0_74 : ([(0, [154, 0, 24]), (3, [21, 4]), (5, [43]), (6, [180, 0, 147]), (9, [21, 5]), (11, [46]), (12, [43]), (13, [180, 0, 150]), (16, [28]), (17, [46]), (18, [100]), (19, [184, 0, 187])] : List (Nat × List UInt8)).all (fun x => prB x.2 ((cX3_lowest.data.toList.drop 47).drop x.1)) = true := by decide +kernel
theorem dX3_lowest_47 : decode cX3_lowest 47 = .ok (.ifCond .ne 24, 3) := op154 (bA_at bd03_dec_X3_0_74 0 rfl rfl) (by decide +kernel)
theorem dX3_lowest_50 : decode cX3_lowest 50 = .ok (.iload 4, 2) := op21 (bA_at bd03_dec_X3_0_74 1 rfl rfl) rfl
theorem dX3_lowest_52 : decode cX3_lowest 52 = .ok (.aload_n 1, 1) := op43 (bA_at bd03_dec_X3_0_74 2 rfl rfl)
theorem dX3_lowest_53 : decode cX3_lowest 53 = .ok (.getfield 147, 3) := op180 (bA_at bd03_dec_X3_0_74 3 rfl rfl) rfl
theorem dX3_lowest_56 : decode cX3_lowest 56 = .ok (.iload 5, 2) := op21 (bA_at bd03_dec_X3_0_74 4 rfl rfl) rfl
theorem dX3_lowest_58 : decode cX3_lowest 58 = .ok (.iaload, 1) := op46 (bA_at bd03_dec_X3_0_74 5 rfl rfl)
theorem dX3_lowest_59 : decode cX3_lowest 59 = .ok (.aload_n 1, 1) := op43 (bA_at bd03_dec_X3_0_74 6 rfl rfl)
theorem dX3_lowest_60 : decode cX3_lowest 60 = .ok (.getfield 150, 3) := op180 (bA_at bd03_dec_X3_0_74 7 rfl rfl) rfl
theorem dX3_lowest_63 : decode cX3_lowest 63 = .ok (.iload_n 2, 1) := op28 (bA_at bd03_dec_X3_0_74 8 rfl rfl)
theorem dX3_lowest_64 : decode cX3_lowest 64 = .ok (.iaload, 1) := op46 (bA_at bd03_dec_X3_0_74 9 rfl rfl)
theorem dX3_lowest_65 : decode cX3_lowest 65 = .ok (.isub, 1) := op100 (bA_at bd03_dec_X3_0_74 10 rfl rfl)
theorem dX3_lowest_66 : decode cX3_lowest 66 = .ok (.invokestatic 187, 3) := op184 (bA_at bd03_dec_X3_0_74 11 rfl rfl) rfl
theorem bd03_dec_X3_0_75 : ([(0, [54, 4]), (2, [132, 5, 1]), (5, [167, 255, 205]), (8, [21, 4]), (10, [172])] : List (Nat × List UInt8)).all (fun x => prB x.2 ((cX3_lowest.data.toList.drop 69).drop x.1)) = true := by decide +kernel
theorem dX3_lowest_69 : decode cX3_lowest 69 = .ok (.istore 4, 2) := op54 (bA_at bd03_dec_X3_0_75 0 rfl rfl) rfl
theorem dX3_lowest_71 : decode cX3_lowest 71 = .ok (.iinc 5 1, 3) := op132 (bA_at bd03_dec_X3_0_75 1 rfl rfl) rfl (by decide +kernel)
theorem dX3_lowest_74 : decode cX3_lowest 74 = .ok (.goto (-51), 3) := op167 (bA_at bd03_dec_X3_0_75 2 rfl rfl) (by decide +kernel)
theorem dX3_lowest_77 : decode cX3_lowest 77 = .ok (.iload 4, 2) := op21 (bA_at bd03_dec_X3_0_75 3 rfl rfl) rfl
theorem dX3_lowest_79 : decode cX3_lowest 79 = .ok (.ireturn, 1) := op172 (bA_at bd03_dec_X3_0_75 4 rfl rfl)
theorem bd03_dec_X3_0_76 : ([(0, [2]), (1, [62]), (2, [3]), (3, [54, 4]), (5, [21, 4]), (7, [4]), (8, [43]), (9, [180, 0, 53]), (12, [120]), (13, [162, 0, 41]), (16, [21, 4]), (18, [184, 0, 159])] : List (Nat × List UInt8)).all (fun x => prB x.2 ((cX3_fewestTimes.data.toList.drop 0).drop x.1)) = true := by decide +kernel
theorem dX3_fewestTimes_0 : decode cX3_fewestTimes 0 = .ok (.iconst (-1), 1) := op2 (bA_at bd03_dec_X3_0_76 0 rfl rfl)
theorem dX3_fewestTimes_1 : decode cX3_fewestTimes 1 = .ok (.istore_n 3, 1) := op62 (bA_at bd03_dec_X3_0_76 1 rfl rfl)
theorem dX3_fewestTimes_2 : decode cX3_fewestTimes 2 = .ok (.iconst 0, 1) := op3 (bA_at bd03_dec_X3_0_76 2 rfl rfl)
theorem dX3_fewestTimes_3 : decode cX3_fewestTimes 3 = .ok (.istore 4, 2) := op54 (bA_at bd03_dec_X3_0_76 3 rfl rfl) rfl
theorem dX3_fewestTimes_5 : decode cX3_fewestTimes 5 = .ok (.iload 4, 2) := op21 (bA_at bd03_dec_X3_0_76 4 rfl rfl) rfl
theorem dX3_fewestTimes_7 : decode cX3_fewestTimes 7 = .ok (.iconst 1, 1) := op4 (bA_at bd03_dec_X3_0_76 5 rfl rfl)
theorem dX3_fewestTimes_8 : decode cX3_fewestTimes 8 = .ok (.aload_n 1, 1) := op43 (bA_at bd03_dec_X3_0_76 6 rfl rfl)
theorem dX3_fewestTimes_9 : decode cX3_fewestTimes 9 = .ok (.getfield 53, 3) := op180 (bA_at bd03_dec_X3_0_76 7 rfl rfl) rfl
theorem dX3_fewestTimes_12 : decode cX3_fewestTimes 12 = .ok (.ishl, 1) := op120 (bA_at bd03_dec_X3_0_76 8 rfl rfl)
theorem dX3_fewestTimes_13 : decode cX3_fewestTimes 13 = .ok (.if_icmp .ge 41, 3) := op162 (bA_at bd03_dec_X3_0_76 9 rfl rfl) (by decide +kernel)
theorem dX3_fewestTimes_16 : decode cX3_fewestTimes 16 = .ok (.iload 4, 2) := op21 (bA_at bd03_dec_X3_0_76 10 rfl rfl) rfl
theorem dX3_fewestTimes_18 : decode cX3_fewestTimes 18 = .ok (.invokestatic 159, 3) := op184 (bA_at bd03_dec_X3_0_76 11 rfl rfl) rfl
theorem bd03_dec_X3_0_77 : ([(0, [54, 5]), (2, [29]), (3, [2]), (4, [159, 0, 9]), (7, [21, 5]), (9, [29]), (10, [162, 0, 17]), (13, [42]), (14, [43]), (15, [28]), (16, [21, 4]), (18, [182, 0, 193])] : List (Nat × List UInt8)).all (fun x => prB x.2 ((cX3_fewestTimes.data.toList.drop 21).drop x.1)) = true := by decide +kernel
theorem dX3_fewestTimes_21 : decode cX3_fewestTimes 21 = .ok (.istore 5, 2) := op54 (bA_at bd03_dec_X3_0_77 0 rfl rfl) rfl
theorem dX3_fewestTimes_23 : decode cX3_fewestTimes 23 = .ok (.iload_n 3, 1) := op29 (bA_at bd03_dec_X3_0_77 1 rfl rfl)
theorem dX3_fewestTimes_24 : decode cX3_fewestTimes 24 = .ok (.iconst (-1), 1) := op2 (bA_at bd03_dec_X3_0_77 2 rfl rfl)
theorem dX3_fewestTimes_25 : decode cX3_fewestTimes 25 = .ok (.if_icmp .eq 9, 3) := op159 (bA_at bd03_dec_X3_0_77 3 rfl rfl) (by decide +kernel)
theorem dX3_fewestTimes_28 : decode cX3_fewestTimes 28 = .ok (.iload 5, 2) := op21 (bA_at bd03_dec_X3_0_77 4 rfl rfl) rfl
theorem dX3_fewestTimes_30 : decode cX3_fewestTimes 30 = .ok (.iload_n 3, 1) := op29 (bA_at bd03_dec_X3_0_77 5 rfl rfl)
theorem dX3_fewestTimes_31 : decode cX3_fewestTimes 31 = .ok (.if_icmp .ge 17, 3) := op162 (bA_at bd03_dec_X3_0_77 6 rfl rfl) (by decide +kernel)
theorem dX3_fewestTimes_34 : decode cX3_fewestTimes 34 = .ok (.aload_n 0, 1) := op42 (bA_at bd03_dec_X3_0_77 7 rfl rfl)
theorem dX3_fewestTimes_35 : decode cX3_fewestTimes 35 = .ok (.aload_n 1, 1) := op43 (bA_at bd03_dec_X3_0_77 8 rfl rfl)
theorem dX3_fewestTimes_36 : decode cX3_fewestTimes 36 = .ok (.iload_n 2, 1) := op28 (bA_at bd03_dec_X3_0_77 9 rfl rfl)
theorem dX3_fewestTimes_37 : decode cX3_fewestTimes 37 = .ok (.iload 4, 2) := op21 (bA_at bd03_dec_X3_0_77 10 rfl rfl) rfl
theorem dX3_fewestTimes_39 : decode cX3_fewestTimes 39 = .ok (.invokevirtual 193, 3) := op182 (bA_at bd03_dec_X3_0_77 11 rfl rfl) rfl
theorem bd03_dec_X3_0_78 : ([(0, [153, 0, 6]), (3, [21, 5]), (5, [62]), (6, [132, 4, 1]), (9, [167, 255, 210]), (12, [29]), (13, [172])] : List (Nat × List UInt8)).all (fun x => prB x.2 ((cX3_fewestTimes.data.toList.drop 42).drop x.1)) = true := by decide +kernel
theorem dX3_fewestTimes_42 : decode cX3_fewestTimes 42 = .ok (.ifCond .eq 6, 3) := op153 (bA_at bd03_dec_X3_0_78 0 rfl rfl) (by decide +kernel)
theorem dX3_fewestTimes_45 : decode cX3_fewestTimes 45 = .ok (.iload 5, 2) := op21 (bA_at bd03_dec_X3_0_78 1 rfl rfl) rfl
theorem dX3_fewestTimes_47 : decode cX3_fewestTimes 47 = .ok (.istore_n 3, 1) := op62 (bA_at bd03_dec_X3_0_78 2 rfl rfl)
theorem dX3_fewestTimes_48 : decode cX3_fewestTimes 48 = .ok (.iinc 4 1, 3) := op132 (bA_at bd03_dec_X3_0_78 3 rfl rfl) rfl (by decide +kernel)
theorem dX3_fewestTimes_51 : decode cX3_fewestTimes 51 = .ok (.goto (-46), 3) := op167 (bA_at bd03_dec_X3_0_78 4 rfl rfl) (by decide +kernel)
theorem dX3_fewestTimes_54 : decode cX3_fewestTimes 54 = .ok (.iload_n 3, 1) := op29 (bA_at bd03_dec_X3_0_78 5 rfl rfl)
theorem dX3_fewestTimes_55 : decode cX3_fewestTimes 55 = .ok (.ireturn, 1) := op172 (bA_at bd03_dec_X3_0_78 6 rfl rfl)
theorem bd03_dec_X3_0_79 : ([(0, [42]), (1, [43]), (2, [28]), (3, [182, 0, 156]), (6, [54, 4]), (8, [42]), (9, [180, 0, 64]), (12, [28]), (13, [184, 0, 67]), (16, [153, 0, 12]), (19, [42]), (20, [180, 0, 18])] : List (Nat × List UInt8)).all (fun x => prB x.2 ((cX3_spreads.data.toList.drop 0).drop x.1)) = true := by decide +kernel
theorem dX3_spreads_0 : decode cX3_spreads 0 = .ok (.aload_n 0, 1) := op42 (bA_at bd03_dec_X3_0_79 0 rfl rfl)
theorem dX3_spreads_1 : decode cX3_spreads 1 = .ok (.aload_n 1, 1) := op43 (bA_at bd03_dec_X3_0_79 1 rfl rfl)
theorem dX3_spreads_2 : decode cX3_spreads 2 = .ok (.iload_n 2, 1) := op28 (bA_at bd03_dec_X3_0_79 2 rfl rfl)
theorem dX3_spreads_3 : decode cX3_spreads 3 = .ok (.invokevirtual 156, 3) := op182 (bA_at bd03_dec_X3_0_79 3 rfl rfl) rfl
theorem dX3_spreads_6 : decode cX3_spreads 6 = .ok (.istore 4, 2) := op54 (bA_at bd03_dec_X3_0_79 4 rfl rfl) rfl
theorem dX3_spreads_8 : decode cX3_spreads 8 = .ok (.aload_n 0, 1) := op42 (bA_at bd03_dec_X3_0_79 5 rfl rfl)
theorem dX3_spreads_9 : decode cX3_spreads 9 = .ok (.getfield 64, 3) := op180 (bA_at bd03_dec_X3_0_79 6 rfl rfl) rfl
theorem dX3_spreads_12 : decode cX3_spreads 12 = .ok (.iload_n 2, 1) := op28 (bA_at bd03_dec_X3_0_79 7 rfl rfl)
theorem dX3_spreads_13 : decode cX3_spreads 13 = .ok (.invokestatic 67, 3) := op184 (bA_at bd03_dec_X3_0_79 8 rfl rfl) rfl
theorem dX3_spreads_16 : decode cX3_spreads 16 = .ok (.ifCond .eq 12, 3) := op153 (bA_at bd03_dec_X3_0_79 9 rfl rfl) (by decide +kernel)
theorem dX3_spreads_19 : decode cX3_spreads 19 = .ok (.aload_n 0, 1) := op42 (bA_at bd03_dec_X3_0_79 10 rfl rfl)
theorem dX3_spreads_20 : decode cX3_spreads 20 = .ok (.getfield 18, 3) := op180 (bA_at bd03_dec_X3_0_79 11 rfl rfl) rfl
theorem bd03_dec_X3_0_80 : ([(0, [28]), (1, [46]), (2, [167, 0, 6]), (5, [17, 3, 232]), (8, [54, 5]), (10, [29]), (11, [54, 6]), (13, [3]), (14, [54, 7]), (16, [21, 7]), (18, [16, 6]), (20, [162, 0, 101])] : List (Nat × List UInt8)).all (fun x => prB x.2 ((cX3_spreads.data.toList.drop 23).drop x.1)) = true := by decide +kernel
theorem dX3_spreads_23 : decode cX3_spreads 23 = .ok (.iload_n 2, 1) := op28 (bA_at bd03_dec_X3_0_80 0 rfl rfl)
theorem dX3_spreads_24 : decode cX3_spreads 24 = .ok (.iaload, 1) := op46 (bA_at bd03_dec_X3_0_80 1 rfl rfl)
theorem dX3_spreads_25 : decode cX3_spreads 25 = .ok (.goto 6, 3) := op167 (bA_at bd03_dec_X3_0_80 2 rfl rfl) (by decide +kernel)
theorem dX3_spreads_28 : decode cX3_spreads 28 = .ok (.sipush 1000, 3) := op17 (bA_at bd03_dec_X3_0_80 3 rfl rfl) (by decide +kernel)
theorem dX3_spreads_31 : decode cX3_spreads 31 = .ok (.istore 5, 2) := op54 (bA_at bd03_dec_X3_0_80 4 rfl rfl) rfl
theorem dX3_spreads_33 : decode cX3_spreads 33 = .ok (.iload_n 3, 1) := op29 (bA_at bd03_dec_X3_0_80 5 rfl rfl)
theorem dX3_spreads_34 : decode cX3_spreads 34 = .ok (.istore 6, 2) := op54 (bA_at bd03_dec_X3_0_80 6 rfl rfl) rfl
theorem dX3_spreads_36 : decode cX3_spreads 36 = .ok (.iconst 0, 1) := op3 (bA_at bd03_dec_X3_0_80 7 rfl rfl)
theorem dX3_spreads_37 : decode cX3_spreads 37 = .ok (.istore 7, 2) := op54 (bA_at bd03_dec_X3_0_80 8 rfl rfl) rfl
theorem dX3_spreads_39 : decode cX3_spreads 39 = .ok (.iload 7, 2) := op21 (bA_at bd03_dec_X3_0_80 9 rfl rfl) rfl
theorem dX3_spreads_41 : decode cX3_spreads 41 = .ok (.bipush 6, 2) := op16 (bA_at bd03_dec_X3_0_80 10 rfl rfl) (by decide +kernel)
theorem dX3_spreads_43 : decode cX3_spreads 43 = .ok (.if_icmp .ge 101, 3) := op162 (bA_at bd03_dec_X3_0_80 11 rfl rfl) (by decide +kernel)
theorem bd03_dec_X3_0_81 : ([(0, [21, 6]), (2, [153, 0, 96]), (5, [42]), (6, [43]), (7, [21, 6]), (9, [182, 0, 196]), (12, [54, 8]), (14, [42]), (15, [43]), (16, [21, 8]), (18, [182, 0, 130]), (21, [54, 9])] : List (Nat × List UInt8)).all (fun x => prB x.2 ((cX3_spreads.data.toList.drop 46).drop x.1)) = true := by decide +kernel
theorem dX3_spreads_46 : decode cX3_spreads 46 = .ok (.iload 6, 2) := op21 (bA_at bd03_dec_X3_0_81 0 rfl rfl) rfl
theorem dX3_spreads_48 : decode cX3_spreads 48 = .ok (.ifCond .eq 96, 3) := op153 (bA_at bd03_dec_X3_0_81 1 rfl rfl) (by decide +kernel)
theorem dX3_spreads_51 : decode cX3_spreads 51 = .ok (.aload_n 0, 1) := op42 (bA_at bd03_dec_X3_0_81 2 rfl rfl)
theorem dX3_spreads_52 : decode cX3_spreads 52 = .ok (.aload_n 1, 1) := op43 (bA_at bd03_dec_X3_0_81 3 rfl rfl)
theorem dX3_spreads_53 : decode cX3_spreads 53 = .ok (.iload 6, 2) := op21 (bA_at bd03_dec_X3_0_81 4 rfl rfl) rfl
theorem dX3_spreads_55 : decode cX3_spreads 55 = .ok (.invokevirtual 196, 3) := op182 (bA_at bd03_dec_X3_0_81 5 rfl rfl) rfl
theorem dX3_spreads_58 : decode cX3_spreads 58 = .ok (.istore 8, 2) := op54 (bA_at bd03_dec_X3_0_81 6 rfl rfl) rfl
theorem dX3_spreads_60 : decode cX3_spreads 60 = .ok (.aload_n 0, 1) := op42 (bA_at bd03_dec_X3_0_81 7 rfl rfl)
theorem dX3_spreads_61 : decode cX3_spreads 61 = .ok (.aload_n 1, 1) := op43 (bA_at bd03_dec_X3_0_81 8 rfl rfl)
theorem dX3_spreads_62 : decode cX3_spreads 62 = .ok (.iload 8, 2) := op21 (bA_at bd03_dec_X3_0_81 9 rfl rfl) rfl
theorem dX3_spreads_64 : decode cX3_spreads 64 = .ok (.invokevirtual 130, 3) := op182 (bA_at bd03_dec_X3_0_81 10 rfl rfl) rfl
theorem dX3_spreads_67 : decode cX3_spreads 67 = .ok (.istore 9, 2) := op54 (bA_at bd03_dec_X3_0_81 11 rfl rfl) rfl
theorem bd03_dec_X3_0_82 : ([(0, [21, 4]), (2, [21, 8]), (4, [184, 0, 67]), (7, [153, 0, 24]), (10, [21, 9]), (12, [21, 5]), (14, [162, 0, 17]), (17, [43]), (18, [42]), (19, [180, 0, 9]), (22, [21, 8]), (24, [46])] : List (Nat × List UInt8)).all (fun x => prB x.2 ((cX3_spreads.data.toList.drop 69).drop x.1)) = true := by decide +kernel
theorem dX3_spreads_69 : decode cX3_spreads 69 = .ok (.iload 4, 2) := op21 (bA_at bd03_dec_X3_0_82 0 rfl rfl) rfl
theorem dX3_spreads_71 : decode cX3_spreads 71 = .ok (.iload 8, 2) := op21 (bA_at bd03_dec_X3_0_82 1 rfl rfl) rfl
theorem dX3_spreads_73 : decode cX3_spreads 73 = .ok (.invokestatic 67, 3) := op184 (bA_at bd03_dec_X3_0_82 2 rfl rfl) rfl
theorem dX3_spreads_76 : decode cX3_spreads 76 = .ok (.ifCond .eq 24, 3) := op153 (bA_at bd03_dec_X3_0_82 3 rfl rfl) (by decide +kernel)
theorem dX3_spreads_79 : decode cX3_spreads 79 = .ok (.iload 9, 2) := op21 (bA_at bd03_dec_X3_0_82 4 rfl rfl) rfl
theorem dX3_spreads_81 : decode cX3_spreads 81 = .ok (.iload 5, 2) := op21 (bA_at bd03_dec_X3_0_82 5 rfl rfl) rfl
theorem dX3_spreads_83 : decode cX3_spreads 83 = .ok (.if_icmp .ge 17, 3) := op162 (bA_at bd03_dec_X3_0_82 6 rfl rfl) (by decide +kernel)
theorem dX3_spreads_86 : decode cX3_spreads 86 = .ok (.aload_n 1, 1) := op43 (bA_at bd03_dec_X3_0_82 7 rfl rfl)
theorem dX3_spreads_87 : decode cX3_spreads 87 = .ok (.aload_n 0, 1) := op42 (bA_at bd03_dec_X3_0_82 8 rfl rfl)
theorem dX3_spreads_88 : decode cX3_spreads 88 = .ok (.getfield 9, 3) := op180 (bA_at bd03_dec_X3_0_82 9 rfl rfl) rfl
theorem dX3_spreads_91 : decode cX3_spreads 91 = .ok (.iload 8, 2) := op21 (bA_at bd03_dec_X3_0_82 10 rfl rfl) rfl
theorem dX3_spreads_93 : decode cX3_spreads 93 = .ok (.iaload, 1) := op46 (bA_at bd03_dec_X3_0_82 11 rfl rfl)
theorem bd03_dec_X3_0_83 : ([(0, [182, 0, 127]), (3, [153, 0, 5]), (6, [3]), (7, [172]), (8, [21, 9]), (10, [54, 5]), (12, [21, 4]), (14, [42]), (15, [43]), (16, [43]), (17, [42]), (18, [180, 0, 9])] : List (Nat × List UInt8)).all (fun x => prB x.2 ((cX3_spreads.data.toList.drop 94).drop x.1)) = true := by decide +kernel
theorem dX3_spreads_94 : decode cX3_spreads 94 = .ok (.invokevirtual 127, 3) := op182 (bA_at bd03_dec_X3_0_83 0 rfl rfl) rfl
theorem dX3_spreads_97 : decode cX3_spreads 97 = .ok (.ifCond .eq 5, 3) := op153 (bA_at bd03_dec_X3_0_83 1 rfl rfl) (by decide +kernel)
theorem dX3_spreads_100 : decode cX3_spreads 100 = .ok (.iconst 0, 1) := op3 (bA_at bd03_dec_X3_0_83 2 rfl rfl)
theorem dX3_spreads_101 : decode cX3_spreads 101 = .ok (.ireturn, 1) := op172 (bA_at bd03_dec_X3_0_83 3 rfl rfl)
theorem dX3_spreads_102 : decode cX3_spreads 102 = .ok (.iload 9, 2) := op21 (bA_at bd03_dec_X3_0_83 4 rfl rfl) rfl
theorem dX3_spreads_104 : decode cX3_spreads 104 = .ok (.istore 5, 2) := op54 (bA_at bd03_dec_X3_0_83 5 rfl rfl) rfl
theorem dX3_spreads_106 : decode cX3_spreads 106 = .ok (.iload 4, 2) := op21 (bA_at bd03_dec_X3_0_83 6 rfl rfl) rfl
theorem dX3_spreads_108 : decode cX3_spreads 108 = .ok (.aload_n 0, 1) := op42 (bA_at bd03_dec_X3_0_83 7 rfl rfl)
theorem dX3_spreads_109 : decode cX3_spreads 109 = .ok (.aload_n 1, 1) := op43 (bA_at bd03_dec_X3_0_83 8 rfl rfl)
theorem dX3_spreads_110 : decode cX3_spreads 110 = .ok (.aload_n 1, 1) := op43 (bA_at bd03_dec_X3_0_83 9 rfl rfl)
theorem dX3_spreads_111 : decode cX3_spreads 111 = .ok (.aload_n 0, 1) := op42 (bA_at bd03_dec_X3_0_83 10 rfl rfl)
theorem dX3_spreads_112 : decode cX3_spreads 112 = .ok (.getfield 9, 3) := op180 (bA_at bd03_dec_X3_0_83 11 rfl rfl) rfl
theorem bd03_dec_X3_0_84 : ([(0, [21, 8]), (2, [46]), (3, [182, 0, 138]), (6, [182, 0, 141]), (9, [128]), (10, [54, 4]), (12, [21, 6]), (14, [4]), (15, [21, 8]), (17, [120]), (18, [2]), (19, [130])] : List (Nat × List UInt8)).all (fun x => prB x.2 ((cX3_spreads.data.toList.drop 115).drop x.1)) = true := by decide +kernel
theorem dX3_spreads_115 : decode cX3_spreads 115 = .ok (.iload 8, 2) := op21 (bA_at bd03_dec_X3_0_84 0 rfl rfl) rfl
theorem dX3_spreads_117 : decode cX3_spreads 117 = .ok (.iaload, 1) := op46 (bA_at bd03_dec_X3_0_84 1 rfl rfl)
theorem dX3_spreads_118 : decode cX3_spreads 118 = .ok (.invokevirtual 138, 3) := op182 (bA_at bd03_dec_X3_0_84 2 rfl rfl) rfl
theorem dX3_spreads_121 : decode cX3_spreads 121 = .ok (.invokevirtual 141, 3) := op182 (bA_at bd03_dec_X3_0_84 3 rfl rfl) rfl
theorem dX3_spreads_124 : decode cX3_spreads 124 = .ok (.ior, 1) := op128 (bA_at bd03_dec_X3_0_84 4 rfl rfl)
theorem dX3_spreads_125 : decode cX3_spreads 125 = .ok (.istore 4, 2) := op54 (bA_at bd03_dec_X3_0_84 5 rfl rfl) rfl
theorem dX3_spreads_127 : decode cX3_spreads 127 = .ok (.iload 6, 2) := op21 (bA_at bd03_dec_X3_0_84 6 rfl rfl) rfl
theorem dX3_spreads_129 : decode cX3_spreads 129 = .ok (.iconst 1, 1) := op4 (bA_at bd03_dec_X3_0_84 7 rfl rfl)
theorem dX3_spreads_130 : decode cX3_spreads 130 = .ok (.iload 8, 2) := op21 (bA_at bd03_dec_X3_0_84 8 rfl rfl) rfl
theorem dX3_spreads_132 : decode cX3_spreads 132 = .ok (.ishl, 1) := op120 (bA_at bd03_dec_X3_0_84 9 rfl rfl)
theorem dX3_spreads_133 : decode cX3_spreads 133 = .ok (.iconst (-1), 1) := op2 (bA_at bd03_dec_X3_0_84 10 rfl rfl)
theorem dX3_spreads_134 : decode cX3_spreads 134 = .ok (.ixor, 1) := op130 (bA_at bd03_dec_X3_0_84 11 rfl rfl)
theorem bd03_dec_X3_0_85 : ([(0, [126]), (1, [54, 6]), (3, [132, 7, 1]), (6, [167, 255, 154]), (9, [21, 4]), (11, [184, 0, 159]), (14, [43]), (15, [180, 0, 53]), (18, [160, 0, 7]), (21, [4]), (22, [167, 0, 4]), (25, [3])] : List (Nat × List UInt8)).all (fun x => prB x.2 ((cX3_spreads.data.toList.drop 135).drop x.1)) = true := by decide +kernel
theorem dX3_spreads_135 : decode cX3_spreads 135 = .ok (.iand, 1) := op126 (bA_at bd03_dec_X3_0_85 0 rfl rfl)
theorem dX3_spreads_136 : decode cX3_spreads 136 = .ok (.istore 6, 2) := op54 (bA_at bd03_dec_X3_0_85 1 rfl rfl) rfl
theorem dX3_spreads_138 : decode cX3_spreads 138 = .ok (.iinc 7 1, 3) := op132 (bA_at bd03_dec_X3_0_85 2 rfl rfl) rfl (by decide +kernel)
theorem dX3_spreads_141 : decode cX3_spreads 141 = .ok (.goto (-102), 3) := op167 (bA_at bd03_dec_X3_0_85 3 rfl rfl) (by decide +kernel)
theorem dX3_spreads_144 : decode cX3_spreads 144 = .ok (.iload 4, 2) := op21 (bA_at bd03_dec_X3_0_85 4 rfl rfl) rfl
theorem dX3_spreads_146 : decode cX3_spreads 146 = .ok (.invokestatic 159, 3) := op184 (bA_at bd03_dec_X3_0_85 5 rfl rfl) rfl
theorem dX3_spreads_149 : decode cX3_spreads 149 = .ok (.aload_n 1, 1) := op43 (bA_at bd03_dec_X3_0_85 6 rfl rfl)
theorem dX3_spreads_150 : decode cX3_spreads 150 = .ok (.getfield 53, 3) := op180 (bA_at bd03_dec_X3_0_85 7 rfl rfl) rfl
theorem dX3_spreads_153 : decode cX3_spreads 153 = .ok (.if_icmp .ne 7, 3) := op160 (bA_at bd03_dec_X3_0_85 8 rfl rfl) (by decide +kernel)
theorem dX3_spreads_156 : decode cX3_spreads 156 = .ok (.iconst 1, 1) := op4 (bA_at bd03_dec_X3_0_85 9 rfl rfl)
theorem dX3_spreads_157 : decode cX3_spreads 157 = .ok (.goto 4, 3) := op167 (bA_at bd03_dec_X3_0_85 10 rfl rfl) (by decide +kernel)
theorem dX3_spreads_160 : decode cX3_spreads 160 = .ok (.iconst 0, 1) := op3 (bA_at bd03_dec_X3_0_85 11 rfl rfl)
theorem bd03_dec_X3_0_86 : ([(0, [172])] : List (Nat × List UInt8)).all (fun x => prB x.2 ((cX3_spreads.data.toList.drop 161).drop x.1)) = true := by decide +kernel
theorem dX3_spreads_161 : decode cX3_spreads 161 = .ok (.ireturn, 1) := op172 (bA_at bd03_dec_X3_0_86 0 rfl rfl)
theorem bd03_dec_X3_0_87 : ([(0, [3]), (1, [62]), (2, [17, 252, 24]), (5, [54, 4]), (7, [3]), (8, [54, 5]), (10, [21, 5]), (12, [43]), (13, [180, 0, 53]), (16, [162, 0, 42]), (19, [28]), (20, [21, 5])] : List (Nat × List UInt8)).all (fun x => prB x.2 ((cX3_highestOf.data.toList.drop 0).drop x.1)) = true := by decide +kernel
theorem dX3_highestOf_0 : decode cX3_highestOf 0 = .ok (.iconst 0, 1) := op3 (bA_at bd03_dec_X3_0_87 0 rfl rfl)
theorem dX3_highestOf_1 : decode cX3_highestOf 1 = .ok (.istore_n 3, 1) := op62 (bA_at bd03_dec_X3_0_87 1 rfl rfl)
theorem dX3_highestOf_2 : decode cX3_highestOf 2 = .ok (.sipush (-1000), 3) := op17 (bA_at bd03_dec_X3_0_87 2 rfl rfl) (by decide +kernel)
theorem dX3_highestOf_5 : decode cX3_highestOf 5 = .ok (.istore 4, 2) := op54 (bA_at bd03_dec_X3_0_87 3 rfl rfl) rfl
theorem dX3_highestOf_7 : decode cX3_highestOf 7 = .ok (.iconst 0, 1) := op3 (bA_at bd03_dec_X3_0_87 4 rfl rfl)
theorem dX3_highestOf_8 : decode cX3_highestOf 8 = .ok (.istore 5, 2) := op54 (bA_at bd03_dec_X3_0_87 5 rfl rfl) rfl
theorem dX3_highestOf_10 : decode cX3_highestOf 10 = .ok (.iload 5, 2) := op21 (bA_at bd03_dec_X3_0_87 6 rfl rfl) rfl
theorem dX3_highestOf_12 : decode cX3_highestOf 12 = .ok (.aload_n 1, 1) := op43 (bA_at bd03_dec_X3_0_87 7 rfl rfl)
theorem dX3_highestOf_13 : decode cX3_highestOf 13 = .ok (.getfield 53, 3) := op180 (bA_at bd03_dec_X3_0_87 8 rfl rfl) rfl
theorem dX3_highestOf_16 : decode cX3_highestOf 16 = .ok (.if_icmp .ge 42, 3) := op162 (bA_at bd03_dec_X3_0_87 9 rfl rfl) (by decide +kernel)
theorem dX3_highestOf_19 : decode cX3_highestOf 19 = .ok (.iload_n 2, 1) := op28 (bA_at bd03_dec_X3_0_87 10 rfl rfl)
theorem dX3_highestOf_20 : decode cX3_highestOf 20 = .ok (.iload 5, 2) := op21 (bA_at bd03_dec_X3_0_87 11 rfl rfl) rfl
theorem bd03_dec_X3_0_88 : ([(0, [184, 0, 67]), (3, [153, 0, 27]), (6, [42]), (7, [43]), (8, [21, 5]), (10, [182, 0, 130]), (13, [21, 4]), (15, [164, 0, 15]), (18, [21, 5]), (20, [62]), (21, [42]), (22, [43])] : List (Nat × List UInt8)).all (fun x => prB x.2 ((cX3_highestOf.data.toList.drop 22).drop x.1)) = true := by decide +kernel
theorem dX3_highestOf_22 : decode cX3_highestOf 22 = .ok (.invokestatic 67, 3) := op184 (bA_at bd03_dec_X3_0_88 0 rfl rfl) rfl
theorem dX3_highestOf_25 : decode cX3_highestOf 25 = .ok (.ifCond .eq 27, 3) := op153 (bA_at bd03_dec_X3_0_88 1 rfl rfl) (by decide +kernel)
theorem dX3_highestOf_28 : decode cX3_highestOf 28 = .ok (.aload_n 0, 1) := op42 (bA_at bd03_dec_X3_0_88 2 rfl rfl)
theorem dX3_highestOf_29 : decode cX3_highestOf 29 = .ok (.aload_n 1, 1) := op43 (bA_at bd03_dec_X3_0_88 3 rfl rfl)
theorem dX3_highestOf_30 : decode cX3_highestOf 30 = .ok (.iload 5, 2) := op21 (bA_at bd03_dec_X3_0_88 4 rfl rfl) rfl
theorem dX3_highestOf_32 : decode cX3_highestOf 32 = .ok (.invokevirtual 130, 3) := op182 (bA_at bd03_dec_X3_0_88 5 rfl rfl) rfl
theorem dX3_highestOf_35 : decode cX3_highestOf 35 = .ok (.iload 4, 2) := op21 (bA_at bd03_dec_X3_0_88 6 rfl rfl) rfl
theorem dX3_highestOf_37 : decode cX3_highestOf 37 = .ok (.if_icmp .le 15, 3) := op164 (bA_at bd03_dec_X3_0_88 7 rfl rfl) (by decide +kernel)
theorem dX3_highestOf_40 : decode cX3_highestOf 40 = .ok (.iload 5, 2) := op21 (bA_at bd03_dec_X3_0_88 8 rfl rfl) rfl
theorem dX3_highestOf_42 : decode cX3_highestOf 42 = .ok (.istore_n 3, 1) := op62 (bA_at bd03_dec_X3_0_88 9 rfl rfl)
theorem dX3_highestOf_43 : decode cX3_highestOf 43 = .ok (.aload_n 0, 1) := op42 (bA_at bd03_dec_X3_0_88 10 rfl rfl)
theorem dX3_highestOf_44 : decode cX3_highestOf 44 = .ok (.aload_n 1, 1) := op43 (bA_at bd03_dec_X3_0_88 11 rfl rfl)
theorem bd03_dec_X3_0_89 : ([(0, [21, 5]), (2, [182, 0, 130]), (5, [54, 4]), (7, [132, 5, 1]), (10, [167, 255, 211]), (13, [29]), (14, [172])] : List (Nat × List UInt8)).all (fun x => prB x.2 ((cX3_highestOf.data.toList.drop 45).drop x.1)) = true := by decide +kernel
theorem dX3_highestOf_45 : decode cX3_highestOf 45 = .ok (.iload 5, 2) := op21 (bA_at bd03_dec_X3_0_89 0 rfl rfl) rfl
theorem dX3_highestOf_47 : decode cX3_highestOf 47 = .ok (.invokevirtual 130, 3) := op182 (bA_at bd03_dec_X3_0_89 1 rfl rfl) rfl
theorem dX3_highestOf_50 : decode cX3_highestOf 50 = .ok (.istore 4, 2) := op54 (bA_at bd03_dec_X3_0_89 2 rfl rfl) rfl
theorem dX3_highestOf_52 : decode cX3_highestOf 52 = .ok (.iinc 5 1, 3) := op132 (bA_at bd03_dec_X3_0_89 3 rfl rfl) rfl (by decide +kernel)
theorem dX3_highestOf_55 : decode cX3_highestOf 55 = .ok (.goto (-45), 3) := op167 (bA_at bd03_dec_X3_0_89 4 rfl rfl) (by decide +kernel)
theorem dX3_highestOf_58 : decode cX3_highestOf 58 = .ok (.iload_n 3, 1) := op29 (bA_at bd03_dec_X3_0_89 5 rfl rfl)
theorem dX3_highestOf_59 : decode cX3_highestOf 59 = .ok (.ireturn, 1) := op172 (bA_at bd03_dec_X3_0_89 6 rfl rfl)
end
section
theorem bd03_dec_X6_0_0 : ([(0, [42]), (1, [43]), (2, [180, 0, 21]), (5, [181, 0, 21]), (8, [43]), (9, [180, 0, 9]), (12, [3]), (13, [42]), (14, [180, 0, 9]), (17, [3]), (18, [42]), (19, [180, 0, 21])] : List (Nat × List UInt8)).all (fun x => prB x.2 ((cX6_copyFrom.data.toList.drop 0).drop x.1)) = true := by decide +kernel
theorem dX6_copyFrom_0 : decode cX6_copyFrom 0 = .ok (.aload_n 0, 1) := op42 (bA_at bd03_dec_X6_0_0 0 rfl rfl)
theorem dX6_copyFrom_1 : decode cX6_copyFrom 1 = .ok (.aload_n 1, 1) := op43 (bA_at bd03_dec_X6_0_0 1 rfl rfl)
theorem dX6_copyFrom_2 : decode cX6_copyFrom 2 = .ok (.getfield 21, 3) := op180 (bA_at bd03_dec_X6_0_0 2 rfl rfl) rfl
theorem dX6_copyFrom_5 : decode cX6_copyFrom 5 = .ok (.putfield 21, 3) := op181 (bA_at bd03_dec_X6_0_0 3 rfl rfl) rfl
theorem dX6_copyFrom_8 : decode cX6_copyFrom 8 = .ok (.aload_n 1, 1) := op43 (bA_at bd03_dec_X6_0_0 4 rfl rfl)
theorem dX6_copyFrom_9 : decode cX6_copyFrom 9 = .ok (.getfield 9, 3) := op180 (bA_at bd03_dec_X6_0_0 5 rfl rfl) rfl
theorem dX6_copyFrom_12 : decode cX6_copyFrom 12 = .ok (.iconst 0, 1) := op3 (bA_at bd03_dec_X6_0_0 6 rfl rfl)
theorem dX6_copyFrom_13 : decode cX6_copyFrom 13 = .ok (.aload_n 0, 1) := op42 (bA_at bd03_dec_X6_0_0 7 rfl rfl)
theorem dX6_copyFrom_14 : decode cX6_copyFrom 14 = .ok (.getfield 9, 3) := op180 (bA_at bd03_dec_X6_0_0 8 rfl rfl) rfl
theorem dX6_copyFrom_17 : decode cX6_copyFrom 17 = .ok (.iconst 0, 1) := op3 (bA_at bd03_dec_X6_0_0 9 rfl rfl)
theorem dX6_copyFrom_18 : decode cX6_copyFrom 18 = .ok (.aload_n 0, 1) := op42 (bA_at bd03_dec_X6_0_0 10 rfl rfl)
theorem dX6_copyFrom_19 : decode cX6_copyFrom 19 = .ok (.getfield 21, 3) := op180 (bA_at bd03_dec_X6_0_0 11 rfl rfl) rfl
theorem bd03_dec_X6_0_1 : ([(0, [184, 0, 25]), (3, [43]), (4, [180, 0, 15]), (7, [3]), (8, [42]), (9, [180, 0, 15]), (12, [3]), (13, [42]), (14, [180, 0, 21]), (17, [184, 0, 25]), (20, [43]), (21, [180, 0, 18])] : List (Nat × List UInt8)).all (fun x => prB x.2 ((cX6_copyFrom.data.toList.drop 22).drop x.1)) = true := by decide +kernel
theorem dX6_copyFrom_22 : decode cX6_copyFrom 22 = .ok (.invokestatic 25, 3) := op184 (bA_at bd03_dec_X6_0_1 0 rfl rfl) rfl
theorem dX6_copyFrom_25 : decode cX6_copyFrom 25 = .ok (.aload_n 1, 1) := op43 (bA_at bd03_dec_X6_0_1 1 rfl rfl)
theorem dX6_copyFrom_26 : decode cX6_copyFrom 26 = .ok (.getfield 15, 3) := op180 (bA_at bd03_dec_X6_0_1 2 rfl rfl) rfl
theorem dX6_copyFrom_29 : decode cX6_copyFrom 29 = .ok (.iconst 0, 1) := op3 (bA_at bd03_dec_X6_0_1 3 rfl rfl)
theorem dX6_copyFrom_30 : decode cX6_copyFrom 30 = .ok (.aload_n 0, 1) := op42 (bA_at bd03_dec_X6_0_1 4 rfl rfl)
theorem dX6_copyFrom_31 : decode cX6_copyFrom 31 = .ok (.getfield 15, 3) := op180 (bA_at bd03_dec_X6_0_1 5 rfl rfl) rfl
theorem dX6_copyFrom_34 : decode cX6_copyFrom 34 = .ok (.iconst 0, 1) := op3 (bA_at bd03_dec_X6_0_1 6 rfl rfl)
theorem dX6_copyFrom_35 : decode cX6_copyFrom 35 = .ok (.aload_n 0, 1) := op42 (bA_at bd03_dec_X6_0_1 7 rfl rfl)
theorem dX6_copyFrom_36 : decode cX6_copyFrom 36 = .ok (.getfield 21, 3) := op180 (bA_at bd03_dec_X6_0_1 8 rfl rfl) rfl
theorem dX6_copyFrom_39 : decode cX6_copyFrom 39 = .ok (.invokestatic 25, 3) := op184 (bA_at bd03_dec_X6_0_1 9 rfl rfl) rfl
theorem dX6_copyFrom_42 : decode cX6_copyFrom 42 = .ok (.aload_n 1, 1) := op43 (bA_at bd03_dec_X6_0_1 10 rfl rfl)
theorem dX6_copyFrom_43 : decode cX6_copyFrom 43 = .ok (.getfield 18, 3) := op180 (bA_at bd03_dec_X6_0_1 11 rfl rfl) rfl
theorem bd03_dec_X6_0_2 : ([(0, [3]), (1, [42]), (2, [180, 0, 18]), (5, [3]), (6, [42]), (7, [180, 0, 21]), (10, [184, 0, 25]), (13, [177])] : List (Nat × List UInt8)).all (fun x => prB x.2 ((cX6_copyFrom.data.toList.drop 46).drop x.1)) = true := by decide +kernel
theorem dX6_copyFrom_46 : decode cX6_copyFrom 46 = .ok (.iconst 0, 1) := op3 (bA_at bd03_dec_X6_0_2 0 rfl rfl)
theorem dX6_copyFrom_47 : decode cX6_copyFrom 47 = .ok (.aload_n 0, 1) := op42 (bA_at bd03_dec_X6_0_2 1 rfl rfl)
theorem dX6_copyFrom_48 : decode cX6_copyFrom 48 = .ok (.getfield 18, 3) := op180 (bA_at bd03_dec_X6_0_2 2 rfl rfl) rfl
theorem dX6_copyFrom_51 : decode cX6_copyFrom 51 = .ok (.iconst 0, 1) := op3 (bA_at bd03_dec_X6_0_2 3 rfl rfl)
theorem dX6_copyFrom_52 : decode cX6_copyFrom 52 = .ok (.aload_n 0, 1) := op42 (bA_at bd03_dec_X6_0_2 4 rfl rfl)
theorem dX6_copyFrom_53 : decode cX6_copyFrom 53 = .ok (.getfield 21, 3) := op180 (bA_at bd03_dec_X6_0_2 5 rfl rfl) rfl
theorem dX6_copyFrom_56 : decode cX6_copyFrom 56 = .ok (.invokestatic 25, 3) := op184 (bA_at bd03_dec_X6_0_2 6 rfl rfl) rfl
theorem dX6_copyFrom_59 : decode cX6_copyFrom 59 = .ok (.return_, 1) := op177 (bA_at bd03_dec_X6_0_2 7 rfl rfl)
theorem bd03_dec_X6_0_3 : ([(0, [3]), (1, [61]), (2, [28]), (3, [42]), (4, [180, 0, 21]), (7, [162, 0, 21]), (10, [42]), (11, [180, 0, 15]), (14, [28]), (15, [46]), (16, [27]), (17, [161, 0, 5])] : List (Nat × List UInt8)).all (fun x => prB x.2 ((cX6_staysWithin.data.toList.drop 0).drop x.1)) = true := by decide +kernel
theorem dX6_staysWithin_0 : decode cX6_staysWithin 0 = .ok (.iconst 0, 1) := op3 (bA_at bd03_dec_X6_0_3 0 rfl rfl)
theorem dX6_staysWithin_1 : decode cX6_staysWithin 1 = .ok (.istore_n 2, 1) := op61 (bA_at bd03_dec_X6_0_3 1 rfl rfl)
theorem dX6_staysWithin_2 : decode cX6_staysWithin 2 = .ok (.iload_n 2, 1) := op28 (bA_at bd03_dec_X6_0_3 2 rfl rfl)
theorem dX6_staysWithin_3 : decode cX6_staysWithin 3 = .ok (.aload_n 0, 1) := op42 (bA_at bd03_dec_X6_0_3 3 rfl rfl)
theorem dX6_staysWithin_4 : decode cX6_staysWithin 4 = .ok (.getfield 21, 3) := op180 (bA_at bd03_dec_X6_0_3 4 rfl rfl) rfl
theorem dX6_staysWithin_7 : decode cX6_staysWithin 7 = .ok (.if_icmp .ge 21, 3) := op162 (bA_at bd03_dec_X6_0_3 5 rfl rfl) (by decide +kernel)
theorem dX6_staysWithin_10 : decode cX6_staysWithin 10 = .ok (.aload_n 0, 1) := op42 (bA_at bd03_dec_X6_0_3 6 rfl rfl)
theorem dX6_staysWithin_11 : decode cX6_staysWithin 11 = .ok (.getfield 15, 3) := op180 (bA_at bd03_dec_X6_0_3 7 rfl rfl) rfl
theorem dX6_staysWithin_14 : decode cX6_staysWithin 14 = .ok (.iload_n 2, 1) := op28 (bA_at bd03_dec_X6_0_3 8 rfl rfl)
theorem dX6_staysWithin_15 : decode cX6_staysWithin 15 = .ok (.iaload, 1) := op46 (bA_at bd03_dec_X6_0_3 9 rfl rfl)
theorem dX6_staysWithin_16 : decode cX6_staysWithin 16 = .ok (.iload_n 1, 1) := op27 (bA_at bd03_dec_X6_0_3 10 rfl rfl)
theorem dX6_staysWithin_17 : decode cX6_staysWithin 17 = .ok (.if_icmp .lt 5, 3) := op161 (bA_at bd03_dec_X6_0_3 11 rfl rfl) (by decide +kernel)
theorem bd03_dec_X6_0_4 : ([(0, [3]), (1, [172]), (2, [132, 2, 1]), (5, [167, 255, 233]), (8, [4]), (9, [172])] : List (Nat × List UInt8)).all (fun x => prB x.2 ((cX6_staysWithin.data.toList.drop 20).drop x.1)) = true := by decide +kernel
theorem dX6_staysWithin_20 : decode cX6_staysWithin 20 = .ok (.iconst 0, 1) := op3 (bA_at bd03_dec_X6_0_4 0 rfl rfl)
theorem dX6_staysWithin_21 : decode cX6_staysWithin 21 = .ok (.ireturn, 1) := op172 (bA_at bd03_dec_X6_0_4 1 rfl rfl)
theorem dX6_staysWithin_22 : decode cX6_staysWithin 22 = .ok (.iinc 2 1, 3) := op132 (bA_at bd03_dec_X6_0_4 2 rfl rfl) rfl (by decide +kernel)
theorem dX6_staysWithin_25 : decode cX6_staysWithin 25 = .ok (.goto (-23), 3) := op167 (bA_at bd03_dec_X6_0_4 3 rfl rfl) (by decide +kernel)
theorem dX6_staysWithin_28 : decode cX6_staysWithin 28 = .ok (.iconst 1, 1) := op4 (bA_at bd03_dec_X6_0_4 4 rfl rfl)
theorem dX6_staysWithin_29 : decode cX6_staysWithin 29 = .ok (.ireturn, 1) := op172 (bA_at bd03_dec_X6_0_4 5 rfl rfl)
theorem dX6_look_1 : decode cX6_look 1 = .ok (.tableswitch 48 0 2 #[27, 34, 41], 27) := by decide +kernel
theorem bd03_dec_X6_0_5 : ([(0, [28]), (28, [42]), (29, [180, 0, 9]), (32, [27]), (33, [46]), (34, [172]), (35, [42]), (36, [180, 0, 15]), (39, [27]), (40, [46]), (41, [172])] : List (Nat × List UInt8)).all (fun x => prB x.2 ((cX6_look.data.toList.drop 0).drop x.1)) = true := by decide +kernel
theorem dX6_look_0 : decode cX6_look 0 = .ok (.iload_n 2, 1) := op28 (bA_at bd03_dec_X6_0_5 0 rfl rfl)
theorem dX6_look_28 : decode cX6_look 28 = .ok (.aload_n 0, 1) := op42 (bA_at bd03_dec_X6_0_5 1 rfl rfl)
theorem dX6_look_29 : decode cX6_look 29 = .ok (.getfield 9, 3) := op180 (bA_at bd03_dec_X6_0_5 2 rfl rfl) rfl
theorem dX6_look_32 : decode cX6_look 32 = .ok (.iload_n 1, 1) := op27 (bA_at bd03_dec_X6_0_5 3 rfl rfl)
theorem dX6_look_33 : decode cX6_look 33 = .ok (.iaload, 1) := op46 (bA_at bd03_dec_X6_0_5 4 rfl rfl)
theorem dX6_look_34 : decode cX6_look 34 = .ok (.ireturn, 1) := op172 (bA_at bd03_dec_X6_0_5 5 rfl rfl)
theorem dX6_look_35 : decode cX6_look 35 = .ok (.aload_n 0, 1) := op42 (bA_at bd03_dec_X6_0_5 6 rfl rfl)
theorem dX6_look_36 : decode cX6_look 36 = .ok (.getfield 15, 3) := op180 (bA_at bd03_dec_X6_0_5 7 rfl rfl) rfl
theorem dX6_look_39 : decode cX6_look 39 = .ok (.iload_n 1, 1) := op27 (bA_at bd03_dec_X6_0_5 8 rfl rfl)
theorem dX6_look_40 : decode cX6_look 40 = .ok (.iaload, 1) := op46 (bA_at bd03_dec_X6_0_5 9 rfl rfl)
theorem dX6_look_41 : decode cX6_look 41 = .ok (.ireturn, 1) := op172 (bA_at bd03_dec_X6_0_5 10 rfl rfl)
theorem bd03_dec_X6_0_6 : ([(0, [42]), (1, [180, 0, 18]), (4, [27]), (5, [46]), (6, [172]), (7, [16, 254]), (9, [172])] : List (Nat × List UInt8)).all (fun x => prB x.2 ((cX6_look.data.toList.drop 42).drop x.1)) = true := by decide +kernel
theorem dX6_look_42 : decode cX6_look 42 = .ok (.aload_n 0, 1) := op42 (bA_at bd03_dec_X6_0_6 0 rfl rfl)
theorem dX6_look_43 : decode cX6_look 43 = .ok (.getfield 18, 3) := op180 (bA_at bd03_dec_X6_0_6 1 rfl rfl) rfl
theorem dX6_look_46 : decode cX6_look 46 = .ok (.iload_n 1, 1) := op27 (bA_at bd03_dec_X6_0_6 2 rfl rfl)
theorem dX6_look_47 : decode cX6_look 47 = .ok (.iaload, 1) := op46 (bA_at bd03_dec_X6_0_6 3 rfl rfl)
theorem dX6_look_48 : decode cX6_look 48 = .ok (.ireturn, 1) := op172 (bA_at bd03_dec_X6_0_6 4 rfl rfl)
theorem dX6_look_49 : decode cX6_look 49 = .ok (.bipush (-2), 2) := op16 (bA_at bd03_dec_X6_0_6 5 rfl rfl) (by decide +kernel)
theorem dX6_look_51 : decode cX6_look 51 = .ok (.ireturn, 1) := op172 (bA_at bd03_dec_X6_0_6 6 rfl rfl)
end
section
theorem bd03_dec_X7_0_0 : ([(0, [42]), (1, [180, 0, 9]), (4, [17, 3, 232]), (7, [184, 0, 36]), (10, [3]), (11, [61]), (12, [28]), (13, [43]), (14, [180, 0, 42]), (17, [162, 0, 74]), (20, [3]), (21, [62])] : List (Nat × List UInt8)).all (fun x => prB x.2 ((cX7_hear.data.toList.drop 0).drop x.1)) = true := by decide +kernel
theorem dX7_hear_0 : decode cX7_hear 0 = .ok (.aload_n 0, 1) := op42 (bA_at bd03_dec_X7_0_0 0 rfl rfl)
theorem dX7_hear_1 : decode cX7_hear 1 = .ok (.getfield 9, 3) := op180 (bA_at bd03_dec_X7_0_0 1 rfl rfl) rfl
theorem dX7_hear_4 : decode cX7_hear 4 = .ok (.sipush 1000, 3) := op17 (bA_at bd03_dec_X7_0_0 2 rfl rfl) (by decide +kernel)
theorem dX7_hear_7 : decode cX7_hear 7 = .ok (.invokestatic 36, 3) := op184 (bA_at bd03_dec_X7_0_0 3 rfl rfl) rfl
theorem dX7_hear_10 : decode cX7_hear 10 = .ok (.iconst 0, 1) := op3 (bA_at bd03_dec_X7_0_0 4 rfl rfl)
theorem dX7_hear_11 : decode cX7_hear 11 = .ok (.istore_n 2, 1) := op61 (bA_at bd03_dec_X7_0_0 5 rfl rfl)
theorem dX7_hear_12 : decode cX7_hear 12 = .ok (.iload_n 2, 1) := op28 (bA_at bd03_dec_X7_0_0 6 rfl rfl)
theorem dX7_hear_13 : decode cX7_hear 13 = .ok (.aload_n 1, 1) := op43 (bA_at bd03_dec_X7_0_0 7 rfl rfl)
theorem dX7_hear_14 : decode cX7_hear 14 = .ok (.getfield 42, 3) := op180 (bA_at bd03_dec_X7_0_0 8 rfl rfl) rfl
theorem dX7_hear_17 : decode cX7_hear 17 = .ok (.if_icmp .ge 74, 3) := op162 (bA_at bd03_dec_X7_0_0 9 rfl rfl) (by decide +kernel)
theorem dX7_hear_20 : decode cX7_hear 20 = .ok (.iconst 0, 1) := op3 (bA_at bd03_dec_X7_0_0 10 rfl rfl)
theorem dX7_hear_21 : decode cX7_hear 21 = .ok (.istore_n 3, 1) := op62 (bA_at bd03_dec_X7_0_0 11 rfl rfl)
theorem bd03_dec_X7_0_1 : ([(0, [29]), (1, [43]), (2, [180, 0, 42]), (5, [162, 0, 40]), (8, [43]), (9, [28]), (10, [29]), (11, [182, 0, 48]), (14, [153, 0, 25]), (17, [42]), (18, [180, 0, 9]), (21, [28])] : List (Nat × List UInt8)).all (fun x => prB x.2 ((cX7_hear.data.toList.drop 22).drop x.1)) = true := by decide +kernel
theorem dX7_hear_22 : decode cX7_hear 22 = .ok (.iload_n 3, 1) := op29 (bA_at bd03_dec_X7_0_1 0 rfl rfl)
theorem dX7_hear_23 : decode cX7_hear 23 = .ok (.aload_n 1, 1) := op43 (bA_at bd03_dec_X7_0_1 1 rfl rfl)
theorem dX7_hear_24 : decode cX7_hear 24 = .ok (.getfield 42, 3) := op180 (bA_at bd03_dec_X7_0_1 2 rfl rfl) rfl
theorem dX7_hear_27 : decode cX7_hear 27 = .ok (.if_icmp .ge 40, 3) := op162 (bA_at bd03_dec_X7_0_1 3 rfl rfl) (by decide +kernel)
theorem dX7_hear_30 : decode cX7_hear 30 = .ok (.aload_n 1, 1) := op43 (bA_at bd03_dec_X7_0_1 4 rfl rfl)
theorem dX7_hear_31 : decode cX7_hear 31 = .ok (.iload_n 2, 1) := op28 (bA_at bd03_dec_X7_0_1 5 rfl rfl)
theorem dX7_hear_32 : decode cX7_hear 32 = .ok (.iload_n 3, 1) := op29 (bA_at bd03_dec_X7_0_1 6 rfl rfl)
theorem dX7_hear_33 : decode cX7_hear 33 = .ok (.invokevirtual 48, 3) := op182 (bA_at bd03_dec_X7_0_1 7 rfl rfl) rfl
theorem dX7_hear_36 : decode cX7_hear 36 = .ok (.ifCond .eq 25, 3) := op153 (bA_at bd03_dec_X7_0_1 8 rfl rfl) (by decide +kernel)
theorem dX7_hear_39 : decode cX7_hear 39 = .ok (.aload_n 0, 1) := op42 (bA_at bd03_dec_X7_0_1 9 rfl rfl)
theorem dX7_hear_40 : decode cX7_hear 40 = .ok (.getfield 9, 3) := op180 (bA_at bd03_dec_X7_0_1 10 rfl rfl) rfl
theorem dX7_hear_43 : decode cX7_hear 43 = .ok (.iload_n 2, 1) := op28 (bA_at bd03_dec_X7_0_1 11 rfl rfl)
theorem bd03_dec_X7_0_2 : ([(0, [16, 9]), (2, [104]), (3, [29]), (4, [96]), (5, [43]), (6, [180, 0, 52]), (9, [28]), (10, [16, 9]), (12, [104]), (13, [29]), (14, [96]), (15, [46])] : List (Nat × List UInt8)).all (fun x => prB x.2 ((cX7_hear.data.toList.drop 44).drop x.1)) = true := by decide +kernel
theorem dX7_hear_44 : decode cX7_hear 44 = .ok (.bipush 9, 2) := op16 (bA_at bd03_dec_X7_0_2 0 rfl rfl) (by decide +kernel)
theorem dX7_hear_46 : decode cX7_hear 46 = .ok (.imul, 1) := op104 (bA_at bd03_dec_X7_0_2 1 rfl rfl)
theorem dX7_hear_47 : decode cX7_hear 47 = .ok (.iload_n 3, 1) := op29 (bA_at bd03_dec_X7_0_2 2 rfl rfl)
theorem dX7_hear_48 : decode cX7_hear 48 = .ok (.iadd, 1) := op96 (bA_at bd03_dec_X7_0_2 3 rfl rfl)
theorem dX7_hear_49 : decode cX7_hear 49 = .ok (.aload_n 1, 1) := op43 (bA_at bd03_dec_X7_0_2 4 rfl rfl)
theorem dX7_hear_50 : decode cX7_hear 50 = .ok (.getfield 52, 3) := op180 (bA_at bd03_dec_X7_0_2 5 rfl rfl) rfl
theorem dX7_hear_53 : decode cX7_hear 53 = .ok (.iload_n 2, 1) := op28 (bA_at bd03_dec_X7_0_2 6 rfl rfl)
theorem dX7_hear_54 : decode cX7_hear 54 = .ok (.bipush 9, 2) := op16 (bA_at bd03_dec_X7_0_2 7 rfl rfl) (by decide +kernel)
theorem dX7_hear_56 : decode cX7_hear 56 = .ok (.imul, 1) := op104 (bA_at bd03_dec_X7_0_2 8 rfl rfl)
theorem dX7_hear_57 : decode cX7_hear 57 = .ok (.iload_n 3, 1) := op29 (bA_at bd03_dec_X7_0_2 9 rfl rfl)
theorem dX7_hear_58 : decode cX7_hear 58 = .ok (.iadd, 1) := op96 (bA_at bd03_dec_X7_0_2 10 rfl rfl)
theorem dX7_hear_59 : decode cX7_hear 59 = .ok (.iaload, 1) := op46 (bA_at bd03_dec_X7_0_2 11 rfl rfl)
theorem bd03_dec_X7_0_3 : ([(0, [79]), (1, [132, 3, 1]), (4, [167, 255, 214]), (7, [43]), (8, [28]), (9, [182, 0, 55]), (12, [154, 0, 13]), (15, [42]), (16, [28]), (17, [43]), (18, [28]), (19, [182, 0, 59])] : List (Nat × List UInt8)).all (fun x => prB x.2 ((cX7_hear.data.toList.drop 60).drop x.1)) = true := by decide +kernel
theorem dX7_hear_60 : decode cX7_hear 60 = .ok (.iastore, 1) := op79 (bA_at bd03_dec_X7_0_3 0 rfl rfl)
theorem dX7_hear_61 : decode cX7_hear 61 = .ok (.iinc 3 1, 3) := op132 (bA_at bd03_dec_X7_0_3 1 rfl rfl) rfl (by decide +kernel)
theorem dX7_hear_64 : decode cX7_hear 64 = .ok (.goto (-42), 3) := op167 (bA_at bd03_dec_X7_0_3 2 rfl rfl) (by decide +kernel)
theorem dX7_hear_67 : decode cX7_hear 67 = .ok (.aload_n 1, 1) := op43 (bA_at bd03_dec_X7_0_3 3 rfl rfl)
theorem dX7_hear_68 : decode cX7_hear 68 = .ok (.iload_n 2, 1) := op28 (bA_at bd03_dec_X7_0_3 4 rfl rfl)
theorem dX7_hear_69 : decode cX7_hear 69 = .ok (.invokevirtual 55, 3) := op182 (bA_at bd03_dec_X7_0_3 5 rfl rfl) rfl
theorem dX7_hear_72 : decode cX7_hear 72 = .ok (.ifCond .ne 13, 3) := op154 (bA_at bd03_dec_X7_0_3 6 rfl rfl) (by decide +kernel)
theorem dX7_hear_75 : decode cX7_hear 75 = .ok (.aload_n 0, 1) := op42 (bA_at bd03_dec_X7_0_3 7 rfl rfl)
theorem dX7_hear_76 : decode cX7_hear 76 = .ok (.iload_n 2, 1) := op28 (bA_at bd03_dec_X7_0_3 8 rfl rfl)
theorem dX7_hear_77 : decode cX7_hear 77 = .ok (.aload_n 1, 1) := op43 (bA_at bd03_dec_X7_0_3 9 rfl rfl)
theorem dX7_hear_78 : decode cX7_hear 78 = .ok (.iload_n 2, 1) := op28 (bA_at bd03_dec_X7_0_3 10 rfl rfl)
theorem dX7_hear_79 : decode cX7_hear 79 = .ok (.invokevirtual 59, 3) := op182 (bA_at bd03_dec_X7_0_3 11 rfl rfl) rfl
theorem bd03_dec_X7_0_4 : ([(0, [182, 0, 63]), (3, [132, 2, 1]), (6, [167, 255, 180]), (9, [42]), (10, [180, 0, 9]), (13, [43]), (14, [180, 0, 42]), (17, [184, 0, 67]), (20, [177])] : List (Nat × List UInt8)).all (fun x => prB x.2 ((cX7_hear.data.toList.drop 82).drop x.1)) = true := by decide +kernel
theorem dX7_hear_82 : decode cX7_hear 82 = .ok (.invokevirtual 63, 3) := op182 (bA_at bd03_dec_X7_0_4 0 rfl rfl) rfl
theorem dX7_hear_85 : decode cX7_hear 85 = .ok (.iinc 2 1, 3) := op132 (bA_at bd03_dec_X7_0_4 1 rfl rfl) rfl (by decide +kernel)
theorem dX7_hear_88 : decode cX7_hear 88 = .ok (.goto (-76), 3) := op167 (bA_at bd03_dec_X7_0_4 2 rfl rfl) (by decide +kernel)
theorem dX7_hear_91 : decode cX7_hear 91 = .ok (.aload_n 0, 1) := op42 (bA_at bd03_dec_X7_0_4 3 rfl rfl)
theorem dX7_hear_92 : decode cX7_hear 92 = .ok (.getfield 9, 3) := op180 (bA_at bd03_dec_X7_0_4 4 rfl rfl) rfl
theorem dX7_hear_95 : decode cX7_hear 95 = .ok (.aload_n 1, 1) := op43 (bA_at bd03_dec_X7_0_4 5 rfl rfl)
theorem dX7_hear_96 : decode cX7_hear 96 = .ok (.getfield 42, 3) := op180 (bA_at bd03_dec_X7_0_4 6 rfl rfl) rfl
theorem dX7_hear_99 : decode cX7_hear 99 = .ok (.invokestatic 67, 3) := op184 (bA_at bd03_dec_X7_0_4 7 rfl rfl) rfl
theorem dX7_hear_102 : decode cX7_hear 102 = .ok (.return_, 1) := op177 (bA_at bd03_dec_X7_0_4 8 rfl rfl)
theorem bd03_dec_X7_0_5 : ([(0, [3]), (1, [62]), (2, [29]), (3, [16, 9]), (5, [162, 0, 29]), (8, [28]), (9, [29]), (10, [184, 0, 70]), (13, [153, 0, 15]), (16, [42]), (17, [180, 0, 9]), (20, [27])] : List (Nat × List UInt8)).all (fun x => prB x.2 ((cX7_markAtOnce.data.toList.drop 0).drop x.1)) = true := by decide +kernel
theorem dX7_markAtOnce_0 : decode cX7_markAtOnce 0 = .ok (.iconst 0, 1) := op3 (bA_at bd03_dec_X7_0_5 0 rfl rfl)
theorem dX7_markAtOnce_1 : decode cX7_markAtOnce 1 = .ok (.istore_n 3, 1) := op62 (bA_at bd03_dec_X7_0_5 1 rfl rfl)
theorem dX7_markAtOnce_2 : decode cX7_markAtOnce 2 = .ok (.iload_n 3, 1) := op29 (bA_at bd03_dec_X7_0_5 2 rfl rfl)
theorem dX7_markAtOnce_3 : decode cX7_markAtOnce 3 = .ok (.bipush 9, 2) := op16 (bA_at bd03_dec_X7_0_5 3 rfl rfl) (by decide +kernel)
theorem dX7_markAtOnce_5 : decode cX7_markAtOnce 5 = .ok (.if_icmp .ge 29, 3) := op162 (bA_at bd03_dec_X7_0_5 4 rfl rfl) (by decide +kernel)
theorem dX7_markAtOnce_8 : decode cX7_markAtOnce 8 = .ok (.iload_n 2, 1) := op28 (bA_at bd03_dec_X7_0_5 5 rfl rfl)
theorem dX7_markAtOnce_9 : decode cX7_markAtOnce 9 = .ok (.iload_n 3, 1) := op29 (bA_at bd03_dec_X7_0_5 6 rfl rfl)
theorem dX7_markAtOnce_10 : decode cX7_markAtOnce 10 = .ok (.invokestatic 70, 3) := op184 (bA_at bd03_dec_X7_0_5 7 rfl rfl) rfl
theorem dX7_markAtOnce_13 : decode cX7_markAtOnce 13 = .ok (.ifCond .eq 15, 3) := op153 (bA_at bd03_dec_X7_0_5 8 rfl rfl) (by decide +kernel)
theorem dX7_markAtOnce_16 : decode cX7_markAtOnce 16 = .ok (.aload_n 0, 1) := op42 (bA_at bd03_dec_X7_0_5 9 rfl rfl)
theorem dX7_markAtOnce_17 : decode cX7_markAtOnce 17 = .ok (.getfield 9, 3) := op180 (bA_at bd03_dec_X7_0_5 10 rfl rfl) rfl
theorem dX7_markAtOnce_20 : decode cX7_markAtOnce 20 = .ok (.iload_n 1, 1) := op27 (bA_at bd03_dec_X7_0_5 11 rfl rfl)
theorem bd03_dec_X7_0_6 : ([(0, [16, 9]), (2, [104]), (3, [29]), (4, [96]), (5, [3]), (6, [79]), (7, [132, 3, 1]), (10, [167, 255, 227]), (13, [177])] : List (Nat × List UInt8)).all (fun x => prB x.2 ((cX7_markAtOnce.data.toList.drop 21).drop x.1)) = true := by decide +kernel
theorem dX7_markAtOnce_21 : decode cX7_markAtOnce 21 = .ok (.bipush 9, 2) := op16 (bA_at bd03_dec_X7_0_6 0 rfl rfl) (by decide +kernel)
theorem dX7_markAtOnce_23 : decode cX7_markAtOnce 23 = .ok (.imul, 1) := op104 (bA_at bd03_dec_X7_0_6 1 rfl rfl)
theorem dX7_markAtOnce_24 : decode cX7_markAtOnce 24 = .ok (.iload_n 3, 1) := op29 (bA_at bd03_dec_X7_0_6 2 rfl rfl)
theorem dX7_markAtOnce_25 : decode cX7_markAtOnce 25 = .ok (.iadd, 1) := op96 (bA_at bd03_dec_X7_0_6 3 rfl rfl)
theorem dX7_markAtOnce_26 : decode cX7_markAtOnce 26 = .ok (.iconst 0, 1) := op3 (bA_at bd03_dec_X7_0_6 4 rfl rfl)
theorem dX7_markAtOnce_27 : decode cX7_markAtOnce 27 = .ok (.iastore, 1) := op79 (bA_at bd03_dec_X7_0_6 5 rfl rfl)
theorem dX7_markAtOnce_28 : decode cX7_markAtOnce 28 = .ok (.iinc 3 1, 3) := op132 (bA_at bd03_dec_X7_0_6 6 rfl rfl) rfl (by decide +kernel)
theorem dX7_markAtOnce_31 : decode cX7_markAtOnce 31 = .ok (.goto (-29), 3) := op167 (bA_at bd03_dec_X7_0_6 7 rfl rfl) (by decide +kernel)
theorem dX7_markAtOnce_34 : decode cX7_markAtOnce 34 = .ok (.return_, 1) := op177 (bA_at bd03_dec_X7_0_6 8 rfl rfl)
theorem bd03_dec_X7_0_7 : ([(0, [42]), (1, [180, 0, 15]), (4, [17, 3, 232]), (7, [184, 0, 36]), (10, [3]), (11, [61]), (12, [28]), (13, [43]), (14, [180, 0, 42]), (17, [162, 0, 68]), (20, [3]), (21, [62])] : List (Nat × List UInt8)).all (fun x => prB x.2 ((cX7_walk.data.toList.drop 0).drop x.1)) = true := by decide +kernel
theorem dX7_walk_0 : decode cX7_walk 0 = .ok (.aload_n 0, 1) := op42 (bA_at bd03_dec_X7_0_7 0 rfl rfl)
theorem dX7_walk_1 : decode cX7_walk 1 = .ok (.getfield 15, 3) := op180 (bA_at bd03_dec_X7_0_7 1 rfl rfl) rfl
theorem dX7_walk_4 : decode cX7_walk 4 = .ok (.sipush 1000, 3) := op17 (bA_at bd03_dec_X7_0_7 2 rfl rfl) (by decide +kernel)
theorem dX7_walk_7 : decode cX7_walk 7 = .ok (.invokestatic 36, 3) := op184 (bA_at bd03_dec_X7_0_7 3 rfl rfl) rfl
theorem dX7_walk_10 : decode cX7_walk 10 = .ok (.iconst 0, 1) := op3 (bA_at bd03_dec_X7_0_7 4 rfl rfl)
theorem dX7_walk_11 : decode cX7_walk 11 = .ok (.istore_n 2, 1) := op61 (bA_at bd03_dec_X7_0_7 5 rfl rfl)
theorem dX7_walk_12 : decode cX7_walk 12 = .ok (.iload_n 2, 1) := op28 (bA_at bd03_dec_X7_0_7 6 rfl rfl)
theorem dX7_walk_13 : decode cX7_walk 13 = .ok (.aload_n 1, 1) := op43 (bA_at bd03_dec_X7_0_7 7 rfl rfl)
theorem dX7_walk_14 : decode cX7_walk 14 = .ok (.getfield 42, 3) := op180 (bA_at bd03_dec_X7_0_7 8 rfl rfl) rfl
theorem dX7_walk_17 : decode cX7_walk 17 = .ok (.if_icmp .ge 68, 3) := op162 (bA_at bd03_dec_X7_0_7 9 rfl rfl) (by decide +kernel)
theorem dX7_walk_20 : decode cX7_walk 20 = .ok (.iconst 0, 1) := op3 (bA_at bd03_dec_X7_0_7 10 rfl rfl)
theorem dX7_walk_21 : decode cX7_walk 21 = .ok (.istore_n 3, 1) := op62 (bA_at bd03_dec_X7_0_7 11 rfl rfl)
theorem bd03_dec_X7_0_8 : ([(0, [29]), (1, [43]), (2, [180, 0, 42]), (5, [162, 0, 40]), (8, [43]), (9, [180, 0, 52]), (12, [28]), (13, [16, 9]), (15, [104]), (16, [29]), (17, [96]), (18, [46])] : List (Nat × List UInt8)).all (fun x => prB x.2 ((cX7_walk.data.toList.drop 22).drop x.1)) = true := by decide +kernel
theorem dX7_walk_22 : decode cX7_walk 22 = .ok (.iload_n 3, 1) := op29 (bA_at bd03_dec_X7_0_8 0 rfl rfl)
theorem dX7_walk_23 : decode cX7_walk 23 = .ok (.aload_n 1, 1) := op43 (bA_at bd03_dec_X7_0_8 1 rfl rfl)
theorem dX7_walk_24 : decode cX7_walk 24 = .ok (.getfield 42, 3) := op180 (bA_at bd03_dec_X7_0_8 2 rfl rfl) rfl
theorem dX7_walk_27 : decode cX7_walk 27 = .ok (.if_icmp .ge 40, 3) := op162 (bA_at bd03_dec_X7_0_8 3 rfl rfl) (by decide +kernel)
theorem dX7_walk_30 : decode cX7_walk 30 = .ok (.aload_n 1, 1) := op43 (bA_at bd03_dec_X7_0_8 4 rfl rfl)
theorem dX7_walk_31 : decode cX7_walk 31 = .ok (.getfield 52, 3) := op180 (bA_at bd03_dec_X7_0_8 5 rfl rfl) rfl
theorem dX7_walk_34 : decode cX7_walk 34 = .ok (.iload_n 2, 1) := op28 (bA_at bd03_dec_X7_0_8 6 rfl rfl)
theorem dX7_walk_35 : decode cX7_walk 35 = .ok (.bipush 9, 2) := op16 (bA_at bd03_dec_X7_0_8 7 rfl rfl) (by decide +kernel)
theorem dX7_walk_37 : decode cX7_walk 37 = .ok (.imul, 1) := op104 (bA_at bd03_dec_X7_0_8 8 rfl rfl)
theorem dX7_walk_38 : decode cX7_walk 38 = .ok (.iload_n 3, 1) := op29 (bA_at bd03_dec_X7_0_8 9 rfl rfl)
theorem dX7_walk_39 : decode cX7_walk 39 = .ok (.iadd, 1) := op96 (bA_at bd03_dec_X7_0_8 10 rfl rfl)
theorem dX7_walk_40 : decode cX7_walk 40 = .ok (.iaload, 1) := op46 (bA_at bd03_dec_X7_0_8 11 rfl rfl)
theorem bd03_dec_X7_0_9 : ([(0, [54, 4]), (2, [21, 4]), (4, [158, 0, 16]), (7, [42]), (8, [180, 0, 15]), (11, [28]), (12, [16, 9]), (14, [104]), (15, [29]), (16, [96]), (17, [21, 4]), (19, [79])] : List (Nat × List UInt8)).all (fun x => prB x.2 ((cX7_walk.data.toList.drop 41).drop x.1)) = true := by decide +kernel
theorem dX7_walk_41 : decode cX7_walk 41 = .ok (.istore 4, 2) := op54 (bA_at bd03_dec_X7_0_9 0 rfl rfl) rfl
theorem dX7_walk_43 : decode cX7_walk 43 = .ok (.iload 4, 2) := op21 (bA_at bd03_dec_X7_0_9 1 rfl rfl) rfl
theorem dX7_walk_45 : decode cX7_walk 45 = .ok (.ifCond .le 16, 3) := op158 (bA_at bd03_dec_X7_0_9 2 rfl rfl) (by decide +kernel)
theorem dX7_walk_48 : decode cX7_walk 48 = .ok (.aload_n 0, 1) := op42 (bA_at bd03_dec_X7_0_9 3 rfl rfl)
theorem dX7_walk_49 : decode cX7_walk 49 = .ok (.getfield 15, 3) := op180 (bA_at bd03_dec_X7_0_9 4 rfl rfl) rfl
theorem dX7_walk_52 : decode cX7_walk 52 = .ok (.iload_n 2, 1) := op28 (bA_at bd03_dec_X7_0_9 5 rfl rfl)
theorem dX7_walk_53 : decode cX7_walk 53 = .ok (.bipush 9, 2) := op16 (bA_at bd03_dec_X7_0_9 6 rfl rfl) (by decide +kernel)
theorem dX7_walk_55 : decode cX7_walk 55 = .ok (.imul, 1) := op104 (bA_at bd03_dec_X7_0_9 7 rfl rfl)
theorem dX7_walk_56 : decode cX7_walk 56 = .ok (.iload_n 3, 1) := op29 (bA_at bd03_dec_X7_0_9 8 rfl rfl)
theorem dX7_walk_57 : decode cX7_walk 57 = .ok (.iadd, 1) := op96 (bA_at bd03_dec_X7_0_9 9 rfl rfl)
theorem dX7_walk_58 : decode cX7_walk 58 = .ok (.iload 4, 2) := op21 (bA_at bd03_dec_X7_0_9 10 rfl rfl) rfl
theorem dX7_walk_60 : decode cX7_walk 60 = .ok (.iastore, 1) := op79 (bA_at bd03_dec_X7_0_9 11 rfl rfl)
theorem bd03_dec_X7_0_10 : ([(0, [132, 3, 1]), (3, [167, 255, 214]), (6, [42]), (7, [180, 0, 15]), (10, [28]), (11, [16, 9]), (13, [104]), (14, [28]), (15, [96]), (16, [3]), (17, [79]), (18, [132, 2, 1])] : List (Nat × List UInt8)).all (fun x => prB x.2 ((cX7_walk.data.toList.drop 61).drop x.1)) = true := by decide +kernel
theorem dX7_walk_61 : decode cX7_walk 61 = .ok (.iinc 3 1, 3) := op132 (bA_at bd03_dec_X7_0_10 0 rfl rfl) rfl (by decide +kernel)
theorem dX7_walk_64 : decode cX7_walk 64 = .ok (.goto (-42), 3) := op167 (bA_at bd03_dec_X7_0_10 1 rfl rfl) (by decide +kernel)
theorem dX7_walk_67 : decode cX7_walk 67 = .ok (.aload_n 0, 1) := op42 (bA_at bd03_dec_X7_0_10 2 rfl rfl)
theorem dX7_walk_68 : decode cX7_walk 68 = .ok (.getfield 15, 3) := op180 (bA_at bd03_dec_X7_0_10 3 rfl rfl) rfl
theorem dX7_walk_71 : decode cX7_walk 71 = .ok (.iload_n 2, 1) := op28 (bA_at bd03_dec_X7_0_10 4 rfl rfl)
theorem dX7_walk_72 : decode cX7_walk 72 = .ok (.bipush 9, 2) := op16 (bA_at bd03_dec_X7_0_10 5 rfl rfl) (by decide +kernel)
theorem dX7_walk_74 : decode cX7_walk 74 = .ok (.imul, 1) := op104 (bA_at bd03_dec_X7_0_10 6 rfl rfl)
theorem dX7_walk_75 : decode cX7_walk 75 = .ok (.iload_n 2, 1) := op28 (bA_at bd03_dec_X7_0_10 7 rfl rfl)
theorem dX7_walk_76 : decode cX7_walk 76 = .ok (.iadd, 1) := op96 (bA_at bd03_dec_X7_0_10 8 rfl rfl)
theorem dX7_walk_77 : decode cX7_walk 77 = .ok (.iconst 0, 1) := op3 (bA_at bd03_dec_X7_0_10 9 rfl rfl)
theorem dX7_walk_78 : decode cX7_walk 78 = .ok (.iastore, 1) := op79 (bA_at bd03_dec_X7_0_10 10 rfl rfl)
theorem dX7_walk_79 : decode cX7_walk 79 = .ok (.iinc 2 1, 3) := op132 (bA_at bd03_dec_X7_0_10 11 rfl rfl) rfl (by decide +kernel)
theorem bd03_dec_X7_0_11 : ([(0, [167, 255, 186]), (3, [42]), (4, [180, 0, 15]), (7, [43]), (8, [180, 0, 42]), (11, [184, 0, 67]), (14, [177])] : List (Nat × List UInt8)).all (fun x => prB x.2 ((cX7_walk.data.toList.drop 82).drop x.1)) = true := by decide +kernel
theorem dX7_walk_82 : decode cX7_walk 82 = .ok (.goto (-70), 3) := op167 (bA_at bd03_dec_X7_0_11 0 rfl rfl) (by decide +kernel)
theorem dX7_walk_85 : decode cX7_walk 85 = .ok (.aload_n 0, 1) := op42 (bA_at bd03_dec_X7_0_11 1 rfl rfl)
theorem dX7_walk_86 : decode cX7_walk 86 = .ok (.getfield 15, 3) := op180 (bA_at bd03_dec_X7_0_11 2 rfl rfl) rfl
theorem dX7_walk_89 : decode cX7_walk 89 = .ok (.aload_n 1, 1) := op43 (bA_at bd03_dec_X7_0_11 3 rfl rfl)
theorem dX7_walk_90 : decode cX7_walk 90 = .ok (.getfield 42, 3) := op180 (bA_at bd03_dec_X7_0_11 4 rfl rfl) rfl
theorem dX7_walk_93 : decode cX7_walk 93 = .ok (.invokestatic 67, 3) := op184 (bA_at bd03_dec_X7_0_11 5 rfl rfl) rfl
theorem dX7_walk_96 : decode cX7_walk 96 = .ok (.return_, 1) := op177 (bA_at bd03_dec_X7_0_11 6 rfl rfl)
theorem bd03_dec_X7_0_12 : ([(0, [3]), (1, [61]), (2, [28]), (3, [27]), (4, [162, 0, 94]), (7, [3]), (8, [62]), (9, [29]), (10, [27]), (11, [162, 0, 81]), (14, [42]), (15, [29])] : List (Nat × List UInt8)).all (fun x => prB x.2 ((cX7_shorten.data.toList.drop 0).drop x.1)) = true := by decide +kernel
theorem dX7_shorten_0 : decode cX7_shorten 0 = .ok (.iconst 0, 1) := op3 (bA_at bd03_dec_X7_0_12 0 rfl rfl)
theorem dX7_shorten_1 : decode cX7_shorten 1 = .ok (.istore_n 2, 1) := op61 (bA_at bd03_dec_X7_0_12 1 rfl rfl)
theorem dX7_shorten_2 : decode cX7_shorten 2 = .ok (.iload_n 2, 1) := op28 (bA_at bd03_dec_X7_0_12 2 rfl rfl)
theorem dX7_shorten_3 : decode cX7_shorten 3 = .ok (.iload_n 1, 1) := op27 (bA_at bd03_dec_X7_0_12 3 rfl rfl)
theorem dX7_shorten_4 : decode cX7_shorten 4 = .ok (.if_icmp .ge 94, 3) := op162 (bA_at bd03_dec_X7_0_12 4 rfl rfl) (by decide +kernel)
theorem dX7_shorten_7 : decode cX7_shorten 7 = .ok (.iconst 0, 1) := op3 (bA_at bd03_dec_X7_0_12 5 rfl rfl)
theorem dX7_shorten_8 : decode cX7_shorten 8 = .ok (.istore_n 3, 1) := op62 (bA_at bd03_dec_X7_0_12 6 rfl rfl)
theorem dX7_shorten_9 : decode cX7_shorten 9 = .ok (.iload_n 3, 1) := op29 (bA_at bd03_dec_X7_0_12 7 rfl rfl)
theorem dX7_shorten_10 : decode cX7_shorten 10 = .ok (.iload_n 1, 1) := op27 (bA_at bd03_dec_X7_0_12 8 rfl rfl)
theorem dX7_shorten_11 : decode cX7_shorten 11 = .ok (.if_icmp .ge 81, 3) := op162 (bA_at bd03_dec_X7_0_12 9 rfl rfl) (by decide +kernel)
theorem dX7_shorten_14 : decode cX7_shorten 14 = .ok (.aload_n 0, 1) := op42 (bA_at bd03_dec_X7_0_12 10 rfl rfl)
theorem dX7_shorten_15 : decode cX7_shorten 15 = .ok (.iload_n 3, 1) := op29 (bA_at bd03_dec_X7_0_12 11 rfl rfl)
theorem bd03_dec_X7_0_13 : ([(0, [16, 9]), (2, [104]), (3, [28]), (4, [96]), (5, [46]), (6, [54, 4]), (8, [3]), (9, [54, 5]), (11, [21, 5]), (13, [27]), (14, [162, 0, 56]), (17, [21, 4])] : List (Nat × List UInt8)).all (fun x => prB x.2 ((cX7_shorten.data.toList.drop 16).drop x.1)) = true := by decide +kernel
theorem dX7_shorten_16 : decode cX7_shorten 16 = .ok (.bipush 9, 2) := op16 (bA_at bd03_dec_X7_0_13 0 rfl rfl) (by decide +kernel)
theorem dX7_shorten_18 : decode cX7_shorten 18 = .ok (.imul, 1) := op104 (bA_at bd03_dec_X7_0_13 1 rfl rfl)
theorem dX7_shorten_19 : decode cX7_shorten 19 = .ok (.iload_n 2, 1) := op28 (bA_at bd03_dec_X7_0_13 2 rfl rfl)
theorem dX7_shorten_20 : decode cX7_shorten 20 = .ok (.iadd, 1) := op96 (bA_at bd03_dec_X7_0_13 3 rfl rfl)
theorem dX7_shorten_21 : decode cX7_shorten 21 = .ok (.iaload, 1) := op46 (bA_at bd03_dec_X7_0_13 4 rfl rfl)
theorem dX7_shorten_22 : decode cX7_shorten 22 = .ok (.istore 4, 2) := op54 (bA_at bd03_dec_X7_0_13 5 rfl rfl) rfl
theorem dX7_shorten_24 : decode cX7_shorten 24 = .ok (.iconst 0, 1) := op3 (bA_at bd03_dec_X7_0_13 6 rfl rfl)
theorem dX7_shorten_25 : decode cX7_shorten 25 = .ok (.istore 5, 2) := op54 (bA_at bd03_dec_X7_0_13 7 rfl rfl) rfl
theorem dX7_shorten_27 : decode cX7_shorten 27 = .ok (.iload 5, 2) := op21 (bA_at bd03_dec_X7_0_13 8 rfl rfl) rfl
theorem dX7_shorten_29 : decode cX7_shorten 29 = .ok (.iload_n 1, 1) := op27 (bA_at bd03_dec_X7_0_13 9 rfl rfl)
theorem dX7_shorten_30 : decode cX7_shorten 30 = .ok (.if_icmp .ge 56, 3) := op162 (bA_at bd03_dec_X7_0_13 10 rfl rfl) (by decide +kernel)
theorem dX7_shorten_33 : decode cX7_shorten 33 = .ok (.iload 4, 2) := op21 (bA_at bd03_dec_X7_0_13 11 rfl rfl) rfl
theorem bd03_dec_X7_0_14 : ([(0, [17, 3, 232]), (3, [162, 0, 48]), (6, [21, 4]), (8, [42]), (9, [28]), (10, [16, 9]), (12, [104]), (13, [21, 5]), (15, [96]), (16, [46]), (17, [96]), (18, [54, 6])] : List (Nat × List UInt8)).all (fun x => prB x.2 ((cX7_shorten.data.toList.drop 35).drop x.1)) = true := by decide +kernel
theorem dX7_shorten_35 : decode cX7_shorten 35 = .ok (.sipush 1000, 3) := op17 (bA_at bd03_dec_X7_0_14 0 rfl rfl) (by decide +kernel)
theorem dX7_shorten_38 : decode cX7_shorten 38 = .ok (.if_icmp .ge 48, 3) := op162 (bA_at bd03_dec_X7_0_14 1 rfl rfl) (by decide +kernel)
theorem dX7_shorten_41 : decode cX7_shorten 41 = .ok (.iload 4, 2) := op21 (bA_at bd03_dec_X7_0_14 2 rfl rfl) rfl
theorem dX7_shorten_43 : decode cX7_shorten 43 = .ok (.aload_n 0, 1) := op42 (bA_at bd03_dec_X7_0_14 3 rfl rfl)
theorem dX7_shorten_44 : decode cX7_shorten 44 = .ok (.iload_n 2, 1) := op28 (bA_at bd03_dec_X7_0_14 4 rfl rfl)
theorem dX7_shorten_45 : decode cX7_shorten 45 = .ok (.bipush 9, 2) := op16 (bA_at bd03_dec_X7_0_14 5 rfl rfl) (by decide +kernel)
theorem dX7_shorten_47 : decode cX7_shorten 47 = .ok (.imul, 1) := op104 (bA_at bd03_dec_X7_0_14 6 rfl rfl)
theorem dX7_shorten_48 : decode cX7_shorten 48 = .ok (.iload 5, 2) := op21 (bA_at bd03_dec_X7_0_14 7 rfl rfl) rfl
theorem dX7_shorten_50 : decode cX7_shorten 50 = .ok (.iadd, 1) := op96 (bA_at bd03_dec_X7_0_14 8 rfl rfl)
theorem dX7_shorten_51 : decode cX7_shorten 51 = .ok (.iaload, 1) := op46 (bA_at bd03_dec_X7_0_14 9 rfl rfl)
theorem dX7_shorten_52 : decode cX7_shorten 52 = .ok (.iadd, 1) := op96 (bA_at bd03_dec_X7_0_14 10 rfl rfl)
theorem dX7_shorten_53 : decode cX7_shorten 53 = .ok (.istore 6, 2) := op54 (bA_at bd03_dec_X7_0_14 11 rfl rfl) rfl
theorem bd03_dec_X7_0_15 : ([(0, [21, 6]), (2, [42]), (3, [29]), (4, [16, 9]), (6, [104]), (7, [21, 5]), (9, [96]), (10, [46]), (11, [162, 0, 14]), (14, [42]), (15, [29]), (16, [16, 9])] : List (Nat × List UInt8)).all (fun x => prB x.2 ((cX7_shorten.data.toList.drop 55).drop x.1)) = true := by decide +kernel
theorem dX7_shorten_55 : decode cX7_shorten 55 = .ok (.iload 6, 2) := op21 (bA_at bd03_dec_X7_0_15 0 rfl rfl) rfl
theorem dX7_shorten_57 : decode cX7_shorten 57 = .ok (.aload_n 0, 1) := op42 (bA_at bd03_dec_X7_0_15 1 rfl rfl)
theorem dX7_shorten_58 : decode cX7_shorten 58 = .ok (.iload_n 3, 1) := op29 (bA_at bd03_dec_X7_0_15 2 rfl rfl)
theorem dX7_shorten_59 : decode cX7_shorten 59 = .ok (.bipush 9, 2) := op16 (bA_at bd03_dec_X7_0_15 3 rfl rfl) (by decide +kernel)
theorem dX7_shorten_61 : decode cX7_shorten 61 = .ok (.imul, 1) := op104 (bA_at bd03_dec_X7_0_15 4 rfl rfl)
theorem dX7_shorten_62 : decode cX7_shorten 62 = .ok (.iload 5, 2) := op21 (bA_at bd03_dec_X7_0_15 5 rfl rfl) rfl
theorem dX7_shorten_64 : decode cX7_shorten 64 = .ok (.iadd, 1) := op96 (bA_at bd03_dec_X7_0_15 6 rfl rfl)
theorem dX7_shorten_65 : decode cX7_shorten 65 = .ok (.iaload, 1) := op46 (bA_at bd03_dec_X7_0_15 7 rfl rfl)
theorem dX7_shorten_66 : decode cX7_shorten 66 = .ok (.if_icmp .ge 14, 3) := op162 (bA_at bd03_dec_X7_0_15 8 rfl rfl) (by decide +kernel)
theorem dX7_shorten_69 : decode cX7_shorten 69 = .ok (.aload_n 0, 1) := op42 (bA_at bd03_dec_X7_0_15 9 rfl rfl)
theorem dX7_shorten_70 : decode cX7_shorten 70 = .ok (.iload_n 3, 1) := op29 (bA_at bd03_dec_X7_0_15 10 rfl rfl)
theorem dX7_shorten_71 : decode cX7_shorten 71 = .ok (.bipush 9, 2) := op16 (bA_at bd03_dec_X7_0_15 11 rfl rfl) (by decide +kernel)
theorem bd03_dec_X7_0_16 : ([(0, [104]), (1, [21, 5]), (3, [96]), (4, [21, 6]), (6, [79]), (7, [132, 5, 1]), (10, [167, 255, 200]), (13, [132, 3, 1]), (16, [167, 255, 176]), (19, [132, 2, 1]), (22, [167, 255, 163]), (25, [177])] : List (Nat × List UInt8)).all (fun x => prB x.2 ((cX7_shorten.data.toList.drop 73).drop x.1)) = true := by decide +kernel
theorem dX7_shorten_73 : decode cX7_shorten 73 = .ok (.imul, 1) := op104 (bA_at bd03_dec_X7_0_16 0 rfl rfl)
theorem dX7_shorten_74 : decode cX7_shorten 74 = .ok (.iload 5, 2) := op21 (bA_at bd03_dec_X7_0_16 1 rfl rfl) rfl
theorem dX7_shorten_76 : decode cX7_shorten 76 = .ok (.iadd, 1) := op96 (bA_at bd03_dec_X7_0_16 2 rfl rfl)
theorem dX7_shorten_77 : decode cX7_shorten 77 = .ok (.iload 6, 2) := op21 (bA_at bd03_dec_X7_0_16 3 rfl rfl) rfl
theorem dX7_shorten_79 : decode cX7_shorten 79 = .ok (.iastore, 1) := op79 (bA_at bd03_dec_X7_0_16 4 rfl rfl)
theorem dX7_shorten_80 : decode cX7_shorten 80 = .ok (.iinc 5 1, 3) := op132 (bA_at bd03_dec_X7_0_16 5 rfl rfl) rfl (by decide +kernel)
theorem dX7_shorten_83 : decode cX7_shorten 83 = .ok (.goto (-56), 3) := op167 (bA_at bd03_dec_X7_0_16 6 rfl rfl) (by decide +kernel)
theorem dX7_shorten_86 : decode cX7_shorten 86 = .ok (.iinc 3 1, 3) := op132 (bA_at bd03_dec_X7_0_16 7 rfl rfl) rfl (by decide +kernel)
theorem dX7_shorten_89 : decode cX7_shorten 89 = .ok (.goto (-80), 3) := op167 (bA_at bd03_dec_X7_0_16 8 rfl rfl) (by decide +kernel)
theorem dX7_shorten_92 : decode cX7_shorten 92 = .ok (.iinc 2 1, 3) := op132 (bA_at bd03_dec_X7_0_16 9 rfl rfl) rfl (by decide +kernel)
theorem dX7_shorten_95 : decode cX7_shorten 95 = .ok (.goto (-93), 3) := op167 (bA_at bd03_dec_X7_0_16 10 rfl rfl) (by decide +kernel)
theorem dX7_shorten_98 : decode cX7_shorten 98 = .ok (.return_, 1) := op177 (bA_at bd03_dec_X7_0_16 11 rfl rfl)
theorem bd03_dec_X7_0_17 : ([(0, [3]), (1, [61]), (2, [28]), (3, [43]), (4, [180, 0, 42]), (7, [162, 0, 69]), (10, [42]), (11, [180, 0, 24]), (14, [28]), (15, [43]), (16, [28]), (17, [182, 0, 55])] : List (Nat × List UInt8)).all (fun x => prB x.2 ((cX7_link.data.toList.drop 0).drop x.1)) = true := by decide +kernel
theorem dX7_link_0 : decode cX7_link 0 = .ok (.iconst 0, 1) := op3 (bA_at bd03_dec_X7_0_17 0 rfl rfl)
theorem dX7_link_1 : decode cX7_link 1 = .ok (.istore_n 2, 1) := op61 (bA_at bd03_dec_X7_0_17 1 rfl rfl)
theorem dX7_link_2 : decode cX7_link 2 = .ok (.iload_n 2, 1) := op28 (bA_at bd03_dec_X7_0_17 2 rfl rfl)
theorem dX7_link_3 : decode cX7_link 3 = .ok (.aload_n 1, 1) := op43 (bA_at bd03_dec_X7_0_17 3 rfl rfl)
theorem dX7_link_4 : decode cX7_link 4 = .ok (.getfield 42, 3) := op180 (bA_at bd03_dec_X7_0_17 4 rfl rfl) rfl
theorem dX7_link_7 : decode cX7_link 7 = .ok (.if_icmp .ge 69, 3) := op162 (bA_at bd03_dec_X7_0_17 5 rfl rfl) (by decide +kernel)
theorem dX7_link_10 : decode cX7_link 10 = .ok (.aload_n 0, 1) := op42 (bA_at bd03_dec_X7_0_17 6 rfl rfl)
theorem dX7_link_11 : decode cX7_link 11 = .ok (.getfield 24, 3) := op180 (bA_at bd03_dec_X7_0_17 7 rfl rfl) rfl
theorem dX7_link_14 : decode cX7_link 14 = .ok (.iload_n 2, 1) := op28 (bA_at bd03_dec_X7_0_17 8 rfl rfl)
theorem dX7_link_15 : decode cX7_link 15 = .ok (.aload_n 1, 1) := op43 (bA_at bd03_dec_X7_0_17 9 rfl rfl)
theorem dX7_link_16 : decode cX7_link 16 = .ok (.iload_n 2, 1) := op28 (bA_at bd03_dec_X7_0_17 10 rfl rfl)
theorem dX7_link_17 : decode cX7_link 17 = .ok (.invokevirtual 55, 3) := op182 (bA_at bd03_dec_X7_0_17 11 rfl rfl) rfl
theorem bd03_dec_X7_0_18 : ([(0, [153, 0, 7]), (3, [3]), (4, [167, 0, 8]), (7, [43]), (8, [28]), (9, [182, 0, 59]), (12, [79]), (13, [3]), (14, [62]), (15, [29]), (16, [43]), (17, [180, 0, 42])] : List (Nat × List UInt8)).all (fun x => prB x.2 ((cX7_link.data.toList.drop 20).drop x.1)) = true := by decide +kernel
theorem dX7_link_20 : decode cX7_link 20 = .ok (.ifCond .eq 7, 3) := op153 (bA_at bd03_dec_X7_0_18 0 rfl rfl) (by decide +kernel)
theorem dX7_link_23 : decode cX7_link 23 = .ok (.iconst 0, 1) := op3 (bA_at bd03_dec_X7_0_18 1 rfl rfl)
theorem dX7_link_24 : decode cX7_link 24 = .ok (.goto 8, 3) := op167 (bA_at bd03_dec_X7_0_18 2 rfl rfl) (by decide +kernel)
theorem dX7_link_27 : decode cX7_link 27 = .ok (.aload_n 1, 1) := op43 (bA_at bd03_dec_X7_0_18 3 rfl rfl)
theorem dX7_link_28 : decode cX7_link 28 = .ok (.iload_n 2, 1) := op28 (bA_at bd03_dec_X7_0_18 4 rfl rfl)
theorem dX7_link_29 : decode cX7_link 29 = .ok (.invokevirtual 59, 3) := op182 (bA_at bd03_dec_X7_0_18 5 rfl rfl) rfl
theorem dX7_link_32 : decode cX7_link 32 = .ok (.iastore, 1) := op79 (bA_at bd03_dec_X7_0_18 6 rfl rfl)
theorem dX7_link_33 : decode cX7_link 33 = .ok (.iconst 0, 1) := op3 (bA_at bd03_dec_X7_0_18 7 rfl rfl)
theorem dX7_link_34 : decode cX7_link 34 = .ok (.istore_n 3, 1) := op62 (bA_at bd03_dec_X7_0_18 8 rfl rfl)
theorem dX7_link_35 : decode cX7_link 35 = .ok (.iload_n 3, 1) := op29 (bA_at bd03_dec_X7_0_18 9 rfl rfl)
theorem dX7_link_36 : decode cX7_link 36 = .ok (.aload_n 1, 1) := op43 (bA_at bd03_dec_X7_0_18 10 rfl rfl)
theorem dX7_link_37 : decode cX7_link 37 = .ok (.getfield 42, 3) := op180 (bA_at bd03_dec_X7_0_18 11 rfl rfl) rfl
theorem bd03_dec_X7_0_19 : ([(0, [162, 0, 30]), (3, [43]), (4, [28]), (5, [29]), (6, [182, 0, 48]), (9, [153, 0, 15]), (12, [42]), (13, [180, 0, 24]), (16, [28]), (17, [92]), (18, [46]), (19, [4])] : List (Nat × List UInt8)).all (fun x => prB x.2 ((cX7_link.data.toList.drop 40).drop x.1)) = true := by decide +kernel
theorem dX7_link_40 : decode cX7_link 40 = .ok (.if_icmp .ge 30, 3) := op162 (bA_at bd03_dec_X7_0_19 0 rfl rfl) (by decide +kernel)
theorem dX7_link_43 : decode cX7_link 43 = .ok (.aload_n 1, 1) := op43 (bA_at bd03_dec_X7_0_19 1 rfl rfl)
theorem dX7_link_44 : decode cX7_link 44 = .ok (.iload_n 2, 1) := op28 (bA_at bd03_dec_X7_0_19 2 rfl rfl)
theorem dX7_link_45 : decode cX7_link 45 = .ok (.iload_n 3, 1) := op29 (bA_at bd03_dec_X7_0_19 3 rfl rfl)
theorem dX7_link_46 : decode cX7_link 46 = .ok (.invokevirtual 48, 3) := op182 (bA_at bd03_dec_X7_0_19 4 rfl rfl) rfl
theorem dX7_link_49 : decode cX7_link 49 = .ok (.ifCond .eq 15, 3) := op153 (bA_at bd03_dec_X7_0_19 5 rfl rfl) (by decide +kernel)
theorem dX7_link_52 : decode cX7_link 52 = .ok (.aload_n 0, 1) := op42 (bA_at bd03_dec_X7_0_19 6 rfl rfl)
theorem dX7_link_53 : decode cX7_link 53 = .ok (.getfield 24, 3) := op180 (bA_at bd03_dec_X7_0_19 7 rfl rfl) rfl
theorem dX7_link_56 : decode cX7_link 56 = .ok (.iload_n 2, 1) := op28 (bA_at bd03_dec_X7_0_19 8 rfl rfl)
theorem dX7_link_57 : decode cX7_link 57 = .ok (.dup2, 1) := op92 (bA_at bd03_dec_X7_0_19 9 rfl rfl)
theorem dX7_link_58 : decode cX7_link 58 = .ok (.iaload, 1) := op46 (bA_at bd03_dec_X7_0_19 10 rfl rfl)
theorem dX7_link_59 : decode cX7_link 59 = .ok (.iconst 1, 1) := op4 (bA_at bd03_dec_X7_0_19 11 rfl rfl)
theorem bd03_dec_X7_0_20 : ([(0, [29]), (1, [120]), (2, [128]), (3, [79]), (4, [132, 3, 1]), (7, [167, 255, 224]), (10, [132, 2, 1]), (13, [167, 255, 185]), (16, [177])] : List (Nat × List UInt8)).all (fun x => prB x.2 ((cX7_link.data.toList.drop 60).drop x.1)) = true := by decide +kernel
theorem dX7_link_60 : decode cX7_link 60 = .ok (.iload_n 3, 1) := op29 (bA_at bd03_dec_X7_0_20 0 rfl rfl)
theorem dX7_link_61 : decode cX7_link 61 = .ok (.ishl, 1) := op120 (bA_at bd03_dec_X7_0_20 1 rfl rfl)
theorem dX7_link_62 : decode cX7_link 62 = .ok (.ior, 1) := op128 (bA_at bd03_dec_X7_0_20 2 rfl rfl)
theorem dX7_link_63 : decode cX7_link 63 = .ok (.iastore, 1) := op79 (bA_at bd03_dec_X7_0_20 3 rfl rfl)
theorem dX7_link_64 : decode cX7_link 64 = .ok (.iinc 3 1, 3) := op132 (bA_at bd03_dec_X7_0_20 4 rfl rfl) rfl (by decide +kernel)
theorem dX7_link_67 : decode cX7_link 67 = .ok (.goto (-32), 3) := op167 (bA_at bd03_dec_X7_0_20 5 rfl rfl) (by decide +kernel)
theorem dX7_link_70 : decode cX7_link 70 = .ok (.iinc 2 1, 3) := op132 (bA_at bd03_dec_X7_0_20 6 rfl rfl) rfl (by decide +kernel)
theorem dX7_link_73 : decode cX7_link 73 = .ok (.goto (-71), 3) := op167 (bA_at bd03_dec_X7_0_20 7 rfl rfl) (by decide +kernel)
theorem dX7_link_76 : decode cX7_link 76 = .ok (.return_, 1) := op177 (bA_at bd03_dec_X7_0_20 8 rfl rfl)
theorem bd03_dec_X7_0_21 : ([(0, [4]), (1, [26]), (2, [120]), (3, [62]), (4, [3]), (5, [54, 4]), (7, [21, 4]), (9, [16, 9]), (11, [162, 0, 61]), (14, [29]), (15, [54, 5]), (17, [3])] : List (Nat × List UInt8)).all (fun x => prB x.2 ((cX7_reach.data.toList.drop 0).drop x.1)) = true := by decide +kernel
theorem dX7_reach_0 : decode cX7_reach 0 = .ok (.iconst 1, 1) := op4 (bA_at bd03_dec_X7_0_21 0 rfl rfl)
theorem dX7_reach_1 : decode cX7_reach 1 = .ok (.iload_n 0, 1) := op26 (bA_at bd03_dec_X7_0_21 1 rfl rfl)
theorem dX7_reach_2 : decode cX7_reach 2 = .ok (.ishl, 1) := op120 (bA_at bd03_dec_X7_0_21 2 rfl rfl)
theorem dX7_reach_3 : decode cX7_reach 3 = .ok (.istore_n 3, 1) := op62 (bA_at bd03_dec_X7_0_21 3 rfl rfl)
theorem dX7_reach_4 : decode cX7_reach 4 = .ok (.iconst 0, 1) := op3 (bA_at bd03_dec_X7_0_21 4 rfl rfl)
theorem dX7_reach_5 : decode cX7_reach 5 = .ok (.istore 4, 2) := op54 (bA_at bd03_dec_X7_0_21 5 rfl rfl) rfl
theorem dX7_reach_7 : decode cX7_reach 7 = .ok (.iload 4, 2) := op21 (bA_at bd03_dec_X7_0_21 6 rfl rfl) rfl
theorem dX7_reach_9 : decode cX7_reach 9 = .ok (.bipush 9, 2) := op16 (bA_at bd03_dec_X7_0_21 7 rfl rfl) (by decide +kernel)
theorem dX7_reach_11 : decode cX7_reach 11 = .ok (.if_icmp .ge 61, 3) := op162 (bA_at bd03_dec_X7_0_21 8 rfl rfl) (by decide +kernel)
theorem dX7_reach_14 : decode cX7_reach 14 = .ok (.iload_n 3, 1) := op29 (bA_at bd03_dec_X7_0_21 9 rfl rfl)
theorem dX7_reach_15 : decode cX7_reach 15 = .ok (.istore 5, 2) := op54 (bA_at bd03_dec_X7_0_21 10 rfl rfl) rfl
theorem dX7_reach_17 : decode cX7_reach 17 = .ok (.iconst 0, 1) := op3 (bA_at bd03_dec_X7_0_21 11 rfl rfl)
theorem bd03_dec_X7_0_22 : ([(0, [54, 6]), (2, [21, 6]), (4, [16, 9]), (6, [162, 0, 31]), (9, [29]), (10, [21, 6]), (12, [184, 0, 70]), (15, [153, 0, 16]), (18, [21, 5]), (20, [43]), (21, [21, 6]), (23, [46])] : List (Nat × List UInt8)).all (fun x => prB x.2 ((cX7_reach.data.toList.drop 18).drop x.1)) = true := by decide +kernel
theorem dX7_reach_18 : decode cX7_reach 18 = .ok (.istore 6, 2) := op54 (bA_at bd03_dec_X7_0_22 0 rfl rfl) rfl
theorem dX7_reach_20 : decode cX7_reach 20 = .ok (.iload 6, 2) := op21 (bA_at bd03_dec_X7_0_22 1 rfl rfl) rfl
theorem dX7_reach_22 : decode cX7_reach 22 = .ok (.bipush 9, 2) := op16 (bA_at bd03_dec_X7_0_22 2 rfl rfl) (by decide +kernel)
theorem dX7_reach_24 : decode cX7_reach 24 = .ok (.if_icmp .ge 31, 3) := op162 (bA_at bd03_dec_X7_0_22 3 rfl rfl) (by decide +kernel)
theorem dX7_reach_27 : decode cX7_reach 27 = .ok (.iload_n 3, 1) := op29 (bA_at bd03_dec_X7_0_22 4 rfl rfl)
theorem dX7_reach_28 : decode cX7_reach 28 = .ok (.iload 6, 2) := op21 (bA_at bd03_dec_X7_0_22 5 rfl rfl) rfl
theorem dX7_reach_30 : decode cX7_reach 30 = .ok (.invokestatic 70, 3) := op184 (bA_at bd03_dec_X7_0_22 6 rfl rfl) rfl
theorem dX7_reach_33 : decode cX7_reach 33 = .ok (.ifCond .eq 16, 3) := op153 (bA_at bd03_dec_X7_0_22 7 rfl rfl) (by decide +kernel)
theorem dX7_reach_36 : decode cX7_reach 36 = .ok (.iload 5, 2) := op21 (bA_at bd03_dec_X7_0_22 8 rfl rfl) rfl
theorem dX7_reach_38 : decode cX7_reach 38 = .ok (.aload_n 1, 1) := op43 (bA_at bd03_dec_X7_0_22 9 rfl rfl)
theorem dX7_reach_39 : decode cX7_reach 39 = .ok (.iload 6, 2) := op21 (bA_at bd03_dec_X7_0_22 10 rfl rfl) rfl
theorem dX7_reach_41 : decode cX7_reach 41 = .ok (.iaload, 1) := op46 (bA_at bd03_dec_X7_0_22 11 rfl rfl)
theorem bd03_dec_X7_0_23 : ([(0, [28]), (1, [2]), (2, [130]), (3, [126]), (4, [128]), (5, [54, 5]), (7, [132, 6, 1]), (10, [167, 255, 224]), (13, [21, 5]), (15, [29]), (16, [160, 0, 5]), (19, [29])] : List (Nat × List UInt8)).all (fun x => prB x.2 ((cX7_reach.data.toList.drop 42).drop x.1)) = true := by decide +kernel
theorem dX7_reach_42 : decode cX7_reach 42 = .ok (.iload_n 2, 1) := op28 (bA_at bd03_dec_X7_0_23 0 rfl rfl)
theorem dX7_reach_43 : decode cX7_reach 43 = .ok (.iconst (-1), 1) := op2 (bA_at bd03_dec_X7_0_23 1 rfl rfl)
theorem dX7_reach_44 : decode cX7_reach 44 = .ok (.ixor, 1) := op130 (bA_at bd03_dec_X7_0_23 2 rfl rfl)
theorem dX7_reach_45 : decode cX7_reach 45 = .ok (.iand, 1) := op126 (bA_at bd03_dec_X7_0_23 3 rfl rfl)
theorem dX7_reach_46 : decode cX7_reach 46 = .ok (.ior, 1) := op128 (bA_at bd03_dec_X7_0_23 4 rfl rfl)
theorem dX7_reach_47 : decode cX7_reach 47 = .ok (.istore 5, 2) := op54 (bA_at bd03_dec_X7_0_23 5 rfl rfl) rfl
theorem dX7_reach_49 : decode cX7_reach 49 = .ok (.iinc 6 1, 3) := op132 (bA_at bd03_dec_X7_0_23 6 rfl rfl) rfl (by decide +kernel)
theorem dX7_reach_52 : decode cX7_reach 52 = .ok (.goto (-32), 3) := op167 (bA_at bd03_dec_X7_0_23 7 rfl rfl) (by decide +kernel)
theorem dX7_reach_55 : decode cX7_reach 55 = .ok (.iload 5, 2) := op21 (bA_at bd03_dec_X7_0_23 8 rfl rfl) rfl
theorem dX7_reach_57 : decode cX7_reach 57 = .ok (.iload_n 3, 1) := op29 (bA_at bd03_dec_X7_0_23 9 rfl rfl)
theorem dX7_reach_58 : decode cX7_reach 58 = .ok (.if_icmp .ne 5, 3) := op160 (bA_at bd03_dec_X7_0_23 10 rfl rfl) (by decide +kernel)
theorem dX7_reach_61 : decode cX7_reach 61 = .ok (.iload_n 3, 1) := op29 (bA_at bd03_dec_X7_0_23 11 rfl rfl)
theorem bd03_dec_X7_0_24 : ([(0, [172]), (1, [21, 5]), (3, [62]), (4, [132, 4, 1]), (7, [167, 255, 194]), (10, [29]), (11, [172])] : List (Nat × List UInt8)).all (fun x => prB x.2 ((cX7_reach.data.toList.drop 62).drop x.1)) = true := by decide +kernel
theorem dX7_reach_62 : decode cX7_reach 62 = .ok (.ireturn, 1) := op172 (bA_at bd03_dec_X7_0_24 0 rfl rfl)
theorem dX7_reach_63 : decode cX7_reach 63 = .ok (.iload 5, 2) := op21 (bA_at bd03_dec_X7_0_24 1 rfl rfl) rfl
theorem dX7_reach_65 : decode cX7_reach 65 = .ok (.istore_n 3, 1) := op62 (bA_at bd03_dec_X7_0_24 2 rfl rfl)
theorem dX7_reach_66 : decode cX7_reach 66 = .ok (.iinc 4 1, 3) := op132 (bA_at bd03_dec_X7_0_24 3 rfl rfl) rfl (by decide +kernel)
theorem dX7_reach_69 : decode cX7_reach 69 = .ok (.goto (-62), 3) := op167 (bA_at bd03_dec_X7_0_24 4 rfl rfl) (by decide +kernel)
theorem dX7_reach_72 : decode cX7_reach 72 = .ok (.iload_n 3, 1) := op29 (bA_at bd03_dec_X7_0_24 5 rfl rfl)
theorem dX7_reach_73 : decode cX7_reach 73 = .ok (.ireturn, 1) := op172 (bA_at bd03_dec_X7_0_24 6 rfl rfl)
theorem bd03_dec_X7_0_25 : ([(0, [3]), (1, [62]), (2, [3]), (3, [54, 4]), (5, [21, 4]), (7, [43]), (8, [180, 0, 42]), (11, [162, 0, 47]), (14, [43]), (15, [180, 0, 73]), (18, [21, 4]), (20, [184, 0, 70])] : List (Nat × List UInt8)).all (fun x => prB x.2 ((cX7_lastVillage.data.toList.drop 0).drop x.1)) = true := by decide +kernel
theorem dX7_lastVillage_0 : decode cX7_lastVillage 0 = .ok (.iconst 0, 1) := op3 (bA_at bd03_dec_X7_0_25 0 rfl rfl)
theorem dX7_lastVillage_1 : decode cX7_lastVillage 1 = .ok (.istore_n 3, 1) := op62 (bA_at bd03_dec_X7_0_25 1 rfl rfl)
theorem dX7_lastVillage_2 : decode cX7_lastVillage 2 = .ok (.iconst 0, 1) := op3 (bA_at bd03_dec_X7_0_25 2 rfl rfl)
theorem dX7_lastVillage_3 : decode cX7_lastVillage 3 = .ok (.istore 4, 2) := op54 (bA_at bd03_dec_X7_0_25 3 rfl rfl) rfl
theorem dX7_lastVillage_5 : decode cX7_lastVillage 5 = .ok (.iload 4, 2) := op21 (bA_at bd03_dec_X7_0_25 4 rfl rfl) rfl
theorem dX7_lastVillage_7 : decode cX7_lastVillage 7 = .ok (.aload_n 1, 1) := op43 (bA_at bd03_dec_X7_0_25 5 rfl rfl)
theorem dX7_lastVillage_8 : decode cX7_lastVillage 8 = .ok (.getfield 42, 3) := op180 (bA_at bd03_dec_X7_0_25 6 rfl rfl) rfl
theorem dX7_lastVillage_11 : decode cX7_lastVillage 11 = .ok (.if_icmp .ge 47, 3) := op162 (bA_at bd03_dec_X7_0_25 7 rfl rfl) (by decide +kernel)
theorem dX7_lastVillage_14 : decode cX7_lastVillage 14 = .ok (.aload_n 1, 1) := op43 (bA_at bd03_dec_X7_0_25 8 rfl rfl)
theorem dX7_lastVillage_15 : decode cX7_lastVillage 15 = .ok (.getfield 73, 3) := op180 (bA_at bd03_dec_X7_0_25 9 rfl rfl) rfl
theorem dX7_lastVillage_18 : decode cX7_lastVillage 18 = .ok (.iload 4, 2) := op21 (bA_at bd03_dec_X7_0_25 10 rfl rfl) rfl
theorem dX7_lastVillage_20 : decode cX7_lastVillage 20 = .ok (.invokestatic 70, 3) := op184 (bA_at bd03_dec_X7_0_25 11 rfl rfl) rfl
theorem bd03_dec_X7_0_26 : ([(0, [153, 0, 29]), (3, [43]), (4, [21, 4]), (6, [182, 0, 55]), (9, [154, 0, 20]), (12, [29]), (13, [42]), (14, [180, 0, 9]), (17, [28]), (18, [16, 9]), (20, [104]), (21, [21, 4])] : List (Nat × List UInt8)).all (fun x => prB x.2 ((cX7_lastVillage.data.toList.drop 23).drop x.1)) = true := by decide +kernel
theorem dX7_lastVillage_23 : decode cX7_lastVillage 23 = .ok (.ifCond .eq 29, 3) := op153 (bA_at bd03_dec_X7_0_26 0 rfl rfl) (by decide +kernel)
theorem dX7_lastVillage_26 : decode cX7_lastVillage 26 = .ok (.aload_n 1, 1) := op43 (bA_at bd03_dec_X7_0_26 1 rfl rfl)
theorem dX7_lastVillage_27 : decode cX7_lastVillage 27 = .ok (.iload 4, 2) := op21 (bA_at bd03_dec_X7_0_26 2 rfl rfl) rfl
theorem dX7_lastVillage_29 : decode cX7_lastVillage 29 = .ok (.invokevirtual 55, 3) := op182 (bA_at bd03_dec_X7_0_26 3 rfl rfl) rfl
theorem dX7_lastVillage_32 : decode cX7_lastVillage 32 = .ok (.ifCond .ne 20, 3) := op154 (bA_at bd03_dec_X7_0_26 4 rfl rfl) (by decide +kernel)
theorem dX7_lastVillage_35 : decode cX7_lastVillage 35 = .ok (.iload_n 3, 1) := op29 (bA_at bd03_dec_X7_0_26 5 rfl rfl)
theorem dX7_lastVillage_36 : decode cX7_lastVillage 36 = .ok (.aload_n 0, 1) := op42 (bA_at bd03_dec_X7_0_26 6 rfl rfl)
theorem dX7_lastVillage_37 : decode cX7_lastVillage 37 = .ok (.getfield 9, 3) := op180 (bA_at bd03_dec_X7_0_26 7 rfl rfl) rfl
theorem dX7_lastVillage_40 : decode cX7_lastVillage 40 = .ok (.iload_n 2, 1) := op28 (bA_at bd03_dec_X7_0_26 8 rfl rfl)
theorem dX7_lastVillage_41 : decode cX7_lastVillage 41 = .ok (.bipush 9, 2) := op16 (bA_at bd03_dec_X7_0_26 9 rfl rfl) (by decide +kernel)
theorem dX7_lastVillage_43 : decode cX7_lastVillage 43 = .ok (.imul, 1) := op104 (bA_at bd03_dec_X7_0_26 10 rfl rfl)
theorem dX7_lastVillage_44 : decode cX7_lastVillage 44 = .ok (.iload 4, 2) := op21 (bA_at bd03_dec_X7_0_26 11 rfl rfl) rfl
theorem bd03_dec_X7_0_27 : ([(0, [96]), (1, [46]), (2, [184, 0, 76]), (5, [62]), (6, [132, 4, 1]), (9, [167, 255, 206]), (12, [29]), (13, [172])] : List (Nat × List UInt8)).all (fun x => prB x.2 ((cX7_lastVillage.data.toList.drop 46).drop x.1)) = true := by decide +kernel
theorem dX7_lastVillage_46 : decode cX7_lastVillage 46 = .ok (.iadd, 1) := op96 (bA_at bd03_dec_X7_0_27 0 rfl rfl)
theorem dX7_lastVillage_47 : decode cX7_lastVillage 47 = .ok (.iaload, 1) := op46 (bA_at bd03_dec_X7_0_27 1 rfl rfl)
theorem dX7_lastVillage_48 : decode cX7_lastVillage 48 = .ok (.invokestatic 76, 3) := op184 (bA_at bd03_dec_X7_0_27 2 rfl rfl) rfl
theorem dX7_lastVillage_51 : decode cX7_lastVillage 51 = .ok (.istore_n 3, 1) := op62 (bA_at bd03_dec_X7_0_27 3 rfl rfl)
theorem dX7_lastVillage_52 : decode cX7_lastVillage 52 = .ok (.iinc 4 1, 3) := op132 (bA_at bd03_dec_X7_0_27 4 rfl rfl) rfl (by decide +kernel)
theorem dX7_lastVillage_55 : decode cX7_lastVillage 55 = .ok (.goto (-50), 3) := op167 (bA_at bd03_dec_X7_0_27 5 rfl rfl) (by decide +kernel)
theorem dX7_lastVillage_58 : decode cX7_lastVillage 58 = .ok (.iload_n 3, 1) := op29 (bA_at bd03_dec_X7_0_27 6 rfl rfl)
theorem dX7_lastVillage_59 : decode cX7_lastVillage 59 = .ok (.ireturn, 1) := op172 (bA_at bd03_dec_X7_0_27 7 rfl rfl)
theorem bd03_dec_X7_0_28 : ([(0, [3]), (1, [62]), (2, [3]), (3, [54, 4]), (5, [21, 4]), (7, [43]), (8, [180, 0, 42]), (11, [162, 0, 36]), (14, [43]), (15, [21, 4]), (17, [182, 0, 55]), (20, [154, 0, 21])] : List (Nat × List UInt8)).all (fun x => prB x.2 ((cX7_allBy.data.toList.drop 0).drop x.1)) = true := by decide +kernel
theorem dX7_allBy_0 : decode cX7_allBy 0 = .ok (.iconst 0, 1) := op3 (bA_at bd03_dec_X7_0_28 0 rfl rfl)
theorem dX7_allBy_1 : decode cX7_allBy 1 = .ok (.istore_n 3, 1) := op62 (bA_at bd03_dec_X7_0_28 1 rfl rfl)
theorem dX7_allBy_2 : decode cX7_allBy 2 = .ok (.iconst 0, 1) := op3 (bA_at bd03_dec_X7_0_28 2 rfl rfl)
theorem dX7_allBy_3 : decode cX7_allBy 3 = .ok (.istore 4, 2) := op54 (bA_at bd03_dec_X7_0_28 3 rfl rfl) rfl
theorem dX7_allBy_5 : decode cX7_allBy 5 = .ok (.iload 4, 2) := op21 (bA_at bd03_dec_X7_0_28 4 rfl rfl) rfl
theorem dX7_allBy_7 : decode cX7_allBy 7 = .ok (.aload_n 1, 1) := op43 (bA_at bd03_dec_X7_0_28 5 rfl rfl)
theorem dX7_allBy_8 : decode cX7_allBy 8 = .ok (.getfield 42, 3) := op180 (bA_at bd03_dec_X7_0_28 6 rfl rfl) rfl
theorem dX7_allBy_11 : decode cX7_allBy 11 = .ok (.if_icmp .ge 36, 3) := op162 (bA_at bd03_dec_X7_0_28 7 rfl rfl) (by decide +kernel)
theorem dX7_allBy_14 : decode cX7_allBy 14 = .ok (.aload_n 1, 1) := op43 (bA_at bd03_dec_X7_0_28 8 rfl rfl)
theorem dX7_allBy_15 : decode cX7_allBy 15 = .ok (.iload 4, 2) := op21 (bA_at bd03_dec_X7_0_28 9 rfl rfl) rfl
theorem dX7_allBy_17 : decode cX7_allBy 17 = .ok (.invokevirtual 55, 3) := op182 (bA_at bd03_dec_X7_0_28 10 rfl rfl) rfl
theorem dX7_allBy_20 : decode cX7_allBy 20 = .ok (.ifCond .ne 21, 3) := op154 (bA_at bd03_dec_X7_0_28 11 rfl rfl) (by decide +kernel)
theorem bd03_dec_X7_0_29 : ([(0, [42]), (1, [43]), (2, [21, 4]), (4, [182, 0, 82]), (7, [28]), (8, [163, 0, 10]), (11, [29]), (12, [4]), (13, [21, 4]), (15, [120]), (16, [128]), (17, [62])] : List (Nat × List UInt8)).all (fun x => prB x.2 ((cX7_allBy.data.toList.drop 23).drop x.1)) = true := by decide +kernel
theorem dX7_allBy_23 : decode cX7_allBy 23 = .ok (.aload_n 0, 1) := op42 (bA_at bd03_dec_X7_0_29 0 rfl rfl)
theorem dX7_allBy_24 : decode cX7_allBy 24 = .ok (.aload_n 1, 1) := op43 (bA_at bd03_dec_X7_0_29 1 rfl rfl)
theorem dX7_allBy_25 : decode cX7_allBy 25 = .ok (.iload 4, 2) := op21 (bA_at bd03_dec_X7_0_29 2 rfl rfl) rfl
theorem dX7_allBy_27 : decode cX7_allBy 27 = .ok (.invokevirtual 82, 3) := op182 (bA_at bd03_dec_X7_0_29 3 rfl rfl) rfl
theorem dX7_allBy_30 : decode cX7_allBy 30 = .ok (.iload_n 2, 1) := op28 (bA_at bd03_dec_X7_0_29 4 rfl rfl)
theorem dX7_allBy_31 : decode cX7_allBy 31 = .ok (.if_icmp .gt 10, 3) := op163 (bA_at bd03_dec_X7_0_29 5 rfl rfl) (by decide +kernel)
theorem dX7_allBy_34 : decode cX7_allBy 34 = .ok (.iload_n 3, 1) := op29 (bA_at bd03_dec_X7_0_29 6 rfl rfl)
theorem dX7_allBy_35 : decode cX7_allBy 35 = .ok (.iconst 1, 1) := op4 (bA_at bd03_dec_X7_0_29 7 rfl rfl)
theorem dX7_allBy_36 : decode cX7_allBy 36 = .ok (.iload 4, 2) := op21 (bA_at bd03_dec_X7_0_29 8 rfl rfl) rfl
theorem dX7_allBy_38 : decode cX7_allBy 38 = .ok (.ishl, 1) := op120 (bA_at bd03_dec_X7_0_29 9 rfl rfl)
theorem dX7_allBy_39 : decode cX7_allBy 39 = .ok (.ior, 1) := op128 (bA_at bd03_dec_X7_0_29 10 rfl rfl)
theorem dX7_allBy_40 : decode cX7_allBy 40 = .ok (.istore_n 3, 1) := op62 (bA_at bd03_dec_X7_0_29 11 rfl rfl)
theorem bd03_dec_X7_0_30 : ([(0, [132, 4, 1]), (3, [167, 255, 217]), (6, [29]), (7, [172])] : List (Nat × List UInt8)).all (fun x => prB x.2 ((cX7_allBy.data.toList.drop 41).drop x.1)) = true := by decide +kernel
theorem dX7_allBy_41 : decode cX7_allBy 41 = .ok (.iinc 4 1, 3) := op132 (bA_at bd03_dec_X7_0_30 0 rfl rfl) rfl (by decide +kernel)
theorem dX7_allBy_44 : decode cX7_allBy 44 = .ok (.goto (-39), 3) := op167 (bA_at bd03_dec_X7_0_30 1 rfl rfl) (by decide +kernel)
theorem dX7_allBy_47 : decode cX7_allBy 47 = .ok (.iload_n 3, 1) := op29 (bA_at bd03_dec_X7_0_30 2 rfl rfl)
theorem dX7_allBy_48 : decode cX7_allBy 48 = .ok (.ireturn, 1) := op172 (bA_at bd03_dec_X7_0_30 3 rfl rfl)
theorem bd03_dec_X7_0_31 : ([(0, [2]), (1, [61]), (2, [17, 3, 232]), (5, [62]), (6, [3]), (7, [54, 4]), (9, [21, 4]), (11, [43]), (12, [180, 0, 42]), (15, [162, 0, 40]), (18, [43]), (19, [21, 4])] : List (Nat × List UInt8)).all (fun x => prB x.2 ((cX7_bestHut.data.toList.drop 0).drop x.1)) = true := by decide +kernel
theorem dX7_bestHut_0 : decode cX7_bestHut 0 = .ok (.iconst (-1), 1) := op2 (bA_at bd03_dec_X7_0_31 0 rfl rfl)
theorem dX7_bestHut_1 : decode cX7_bestHut 1 = .ok (.istore_n 2, 1) := op61 (bA_at bd03_dec_X7_0_31 1 rfl rfl)
theorem dX7_bestHut_2 : decode cX7_bestHut 2 = .ok (.sipush 1000, 3) := op17 (bA_at bd03_dec_X7_0_31 2 rfl rfl) (by decide +kernel)
theorem dX7_bestHut_5 : decode cX7_bestHut 5 = .ok (.istore_n 3, 1) := op62 (bA_at bd03_dec_X7_0_31 3 rfl rfl)
theorem dX7_bestHut_6 : decode cX7_bestHut 6 = .ok (.iconst 0, 1) := op3 (bA_at bd03_dec_X7_0_31 4 rfl rfl)
theorem dX7_bestHut_7 : decode cX7_bestHut 7 = .ok (.istore 4, 2) := op54 (bA_at bd03_dec_X7_0_31 5 rfl rfl) rfl
theorem dX7_bestHut_9 : decode cX7_bestHut 9 = .ok (.iload 4, 2) := op21 (bA_at bd03_dec_X7_0_31 6 rfl rfl) rfl
theorem dX7_bestHut_11 : decode cX7_bestHut 11 = .ok (.aload_n 1, 1) := op43 (bA_at bd03_dec_X7_0_31 7 rfl rfl)
theorem dX7_bestHut_12 : decode cX7_bestHut 12 = .ok (.getfield 42, 3) := op180 (bA_at bd03_dec_X7_0_31 8 rfl rfl) rfl
theorem dX7_bestHut_15 : decode cX7_bestHut 15 = .ok (.if_icmp .ge 40, 3) := op162 (bA_at bd03_dec_X7_0_31 9 rfl rfl) (by decide +kernel)
theorem dX7_bestHut_18 : decode cX7_bestHut 18 = .ok (.aload_n 1, 1) := op43 (bA_at bd03_dec_X7_0_31 10 rfl rfl)
theorem dX7_bestHut_19 : decode cX7_bestHut 19 = .ok (.iload 4, 2) := op21 (bA_at bd03_dec_X7_0_31 11 rfl rfl) rfl
theorem bd03_dec_X7_0_32 : ([(0, [182, 0, 55]), (3, [154, 0, 25]), (6, [42]), (7, [43]), (8, [21, 4]), (10, [182, 0, 82]), (13, [29]), (14, [162, 0, 14]), (17, [21, 4]), (19, [61]), (20, [42]), (21, [43])] : List (Nat × List UInt8)).all (fun x => prB x.2 ((cX7_bestHut.data.toList.drop 21).drop x.1)) = true := by decide +kernel
theorem dX7_bestHut_21 : decode cX7_bestHut 21 = .ok (.invokevirtual 55, 3) := op182 (bA_at bd03_dec_X7_0_32 0 rfl rfl) rfl
theorem dX7_bestHut_24 : decode cX7_bestHut 24 = .ok (.ifCond .ne 25, 3) := op154 (bA_at bd03_dec_X7_0_32 1 rfl rfl) (by decide +kernel)
theorem dX7_bestHut_27 : decode cX7_bestHut 27 = .ok (.aload_n 0, 1) := op42 (bA_at bd03_dec_X7_0_32 2 rfl rfl)
theorem dX7_bestHut_28 : decode cX7_bestHut 28 = .ok (.aload_n 1, 1) := op43 (bA_at bd03_dec_X7_0_32 3 rfl rfl)
theorem dX7_bestHut_29 : decode cX7_bestHut 29 = .ok (.iload 4, 2) := op21 (bA_at bd03_dec_X7_0_32 4 rfl rfl) rfl
theorem dX7_bestHut_31 : decode cX7_bestHut 31 = .ok (.invokevirtual 82, 3) := op182 (bA_at bd03_dec_X7_0_32 5 rfl rfl) rfl
theorem dX7_bestHut_34 : decode cX7_bestHut 34 = .ok (.iload_n 3, 1) := op29 (bA_at bd03_dec_X7_0_32 6 rfl rfl)
theorem dX7_bestHut_35 : decode cX7_bestHut 35 = .ok (.if_icmp .ge 14, 3) := op162 (bA_at bd03_dec_X7_0_32 7 rfl rfl) (by decide +kernel)
theorem dX7_bestHut_38 : decode cX7_bestHut 38 = .ok (.iload 4, 2) := op21 (bA_at bd03_dec_X7_0_32 8 rfl rfl) rfl
theorem dX7_bestHut_40 : decode cX7_bestHut 40 = .ok (.istore_n 2, 1) := op61 (bA_at bd03_dec_X7_0_32 9 rfl rfl)
theorem dX7_bestHut_41 : decode cX7_bestHut 41 = .ok (.aload_n 0, 1) := op42 (bA_at bd03_dec_X7_0_32 10 rfl rfl)
theorem dX7_bestHut_42 : decode cX7_bestHut 42 = .ok (.aload_n 1, 1) := op43 (bA_at bd03_dec_X7_0_32 11 rfl rfl)
theorem bd03_dec_X7_0_33 : ([(0, [21, 4]), (2, [182, 0, 82]), (5, [62]), (6, [132, 4, 1]), (9, [167, 255, 213]), (12, [28]), (13, [172])] : List (Nat × List UInt8)).all (fun x => prB x.2 ((cX7_bestHut.data.toList.drop 43).drop x.1)) = true := by decide +kernel
theorem dX7_bestHut_43 : decode cX7_bestHut 43 = .ok (.iload 4, 2) := op21 (bA_at bd03_dec_X7_0_33 0 rfl rfl) rfl
theorem dX7_bestHut_45 : decode cX7_bestHut 45 = .ok (.invokevirtual 82, 3) := op182 (bA_at bd03_dec_X7_0_33 1 rfl rfl) rfl
theorem dX7_bestHut_48 : decode cX7_bestHut 48 = .ok (.istore_n 3, 1) := op62 (bA_at bd03_dec_X7_0_33 2 rfl rfl)
theorem dX7_bestHut_49 : decode cX7_bestHut 49 = .ok (.iinc 4 1, 3) := op132 (bA_at bd03_dec_X7_0_33 3 rfl rfl) rfl (by decide +kernel)
theorem dX7_bestHut_52 : decode cX7_bestHut 52 = .ok (.goto (-43), 3) := op167 (bA_at bd03_dec_X7_0_33 4 rfl rfl) (by decide +kernel)
theorem dX7_bestHut_55 : decode cX7_bestHut 55 = .ok (.iload_n 2, 1) := op28 (bA_at bd03_dec_X7_0_33 5 rfl rfl)
theorem dX7_bestHut_56 : decode cX7_bestHut 56 = .ok (.ireturn, 1) := op172 (bA_at bd03_dec_X7_0_33 6 rfl rfl)
theorem bd03_dec_X7_0_34 : ([(0, [42]), (1, [42]), (2, [180, 0, 9]), (5, [43]), (6, [180, 0, 42]), (9, [28]), (10, [182, 0, 86]), (13, [42]), (14, [43]), (15, [180, 0, 73]), (18, [43]), (19, [180, 0, 42])] : List (Nat × List UInt8)).all (fun x => prB x.2 ((cX7_crewBy.data.toList.drop 0).drop x.1)) = true := by decide +kernel
theorem dX7_crewBy_0 : decode cX7_crewBy 0 = .ok (.aload_n 0, 1) := op42 (bA_at bd03_dec_X7_0_34 0 rfl rfl)
theorem dX7_crewBy_1 : decode cX7_crewBy 1 = .ok (.aload_n 0, 1) := op42 (bA_at bd03_dec_X7_0_34 1 rfl rfl)
theorem dX7_crewBy_2 : decode cX7_crewBy 2 = .ok (.getfield 9, 3) := op180 (bA_at bd03_dec_X7_0_34 2 rfl rfl) rfl
theorem dX7_crewBy_5 : decode cX7_crewBy 5 = .ok (.aload_n 1, 1) := op43 (bA_at bd03_dec_X7_0_34 3 rfl rfl)
theorem dX7_crewBy_6 : decode cX7_crewBy 6 = .ok (.getfield 42, 3) := op180 (bA_at bd03_dec_X7_0_34 4 rfl rfl) rfl
theorem dX7_crewBy_9 : decode cX7_crewBy 9 = .ok (.iload_n 2, 1) := op28 (bA_at bd03_dec_X7_0_34 5 rfl rfl)
theorem dX7_crewBy_10 : decode cX7_crewBy 10 = .ok (.invokevirtual 86, 3) := op182 (bA_at bd03_dec_X7_0_34 6 rfl rfl) rfl
theorem dX7_crewBy_13 : decode cX7_crewBy 13 = .ok (.aload_n 0, 1) := op42 (bA_at bd03_dec_X7_0_34 7 rfl rfl)
theorem dX7_crewBy_14 : decode cX7_crewBy 14 = .ok (.aload_n 1, 1) := op43 (bA_at bd03_dec_X7_0_34 8 rfl rfl)
theorem dX7_crewBy_15 : decode cX7_crewBy 15 = .ok (.getfield 73, 3) := op180 (bA_at bd03_dec_X7_0_34 9 rfl rfl) rfl
theorem dX7_crewBy_18 : decode cX7_crewBy 18 = .ok (.aload_n 1, 1) := op43 (bA_at bd03_dec_X7_0_34 10 rfl rfl)
theorem dX7_crewBy_19 : decode cX7_crewBy 19 = .ok (.getfield 42, 3) := op180 (bA_at bd03_dec_X7_0_34 11 rfl rfl) rfl
theorem bd03_dec_X7_0_35 : ([(0, [182, 0, 90]), (3, [172])] : List (Nat × List UInt8)).all (fun x => prB x.2 ((cX7_crewBy.data.toList.drop 22).drop x.1)) = true := by decide +kernel
theorem dX7_crewBy_22 : decode cX7_crewBy 22 = .ok (.invokevirtual 90, 3) := op182 (bA_at bd03_dec_X7_0_35 0 rfl rfl) rfl
theorem dX7_crewBy_25 : decode cX7_crewBy 25 = .ok (.ireturn, 1) := op172 (bA_at bd03_dec_X7_0_35 1 rfl rfl)
theorem bd03_dec_X7_0_36 : ([(0, [42]), (1, [43]), (2, [182, 0, 93]), (5, [42]), (6, [42]), (7, [180, 0, 15]), (10, [43]), (11, [180, 0, 42]), (14, [28]), (15, [182, 0, 86]), (18, [42]), (19, [43])] : List (Nat × List UInt8)).all (fun x => prB x.2 ((cX7_massesWithin.data.toList.drop 0).drop x.1)) = true := by decide +kernel
theorem dX7_massesWithin_0 : decode cX7_massesWithin 0 = .ok (.aload_n 0, 1) := op42 (bA_at bd03_dec_X7_0_36 0 rfl rfl)
theorem dX7_massesWithin_1 : decode cX7_massesWithin 1 = .ok (.aload_n 1, 1) := op43 (bA_at bd03_dec_X7_0_36 1 rfl rfl)
theorem dX7_massesWithin_2 : decode cX7_massesWithin 2 = .ok (.invokevirtual 93, 3) := op182 (bA_at bd03_dec_X7_0_36 2 rfl rfl) rfl
theorem dX7_massesWithin_5 : decode cX7_massesWithin 5 = .ok (.aload_n 0, 1) := op42 (bA_at bd03_dec_X7_0_36 3 rfl rfl)
theorem dX7_massesWithin_6 : decode cX7_massesWithin 6 = .ok (.aload_n 0, 1) := op42 (bA_at bd03_dec_X7_0_36 4 rfl rfl)
theorem dX7_massesWithin_7 : decode cX7_massesWithin 7 = .ok (.getfield 15, 3) := op180 (bA_at bd03_dec_X7_0_36 5 rfl rfl) rfl
theorem dX7_massesWithin_10 : decode cX7_massesWithin 10 = .ok (.aload_n 1, 1) := op43 (bA_at bd03_dec_X7_0_36 6 rfl rfl)
theorem dX7_massesWithin_11 : decode cX7_massesWithin 11 = .ok (.getfield 42, 3) := op180 (bA_at bd03_dec_X7_0_36 7 rfl rfl) rfl
theorem dX7_massesWithin_14 : decode cX7_massesWithin 14 = .ok (.iload_n 2, 1) := op28 (bA_at bd03_dec_X7_0_36 8 rfl rfl)
theorem dX7_massesWithin_15 : decode cX7_massesWithin 15 = .ok (.invokevirtual 86, 3) := op182 (bA_at bd03_dec_X7_0_36 9 rfl rfl) rfl
theorem dX7_massesWithin_18 : decode cX7_massesWithin 18 = .ok (.aload_n 0, 1) := op42 (bA_at bd03_dec_X7_0_36 10 rfl rfl)
theorem dX7_massesWithin_19 : decode cX7_massesWithin 19 = .ok (.aload_n 1, 1) := op43 (bA_at bd03_dec_X7_0_36 11 rfl rfl)
theorem bd03_dec_X7_0_37 : ([(0, [180, 0, 73]), (3, [43]), (4, [180, 0, 42]), (7, [182, 0, 90]), (10, [172])] : List (Nat × List UInt8)).all (fun x => prB x.2 ((cX7_massesWithin.data.toList.drop 20).drop x.1)) = true := by decide +kernel
theorem dX7_massesWithin_20 : decode cX7_massesWithin 20 = .ok (.getfield 73, 3) := op180 (bA_at bd03_dec_X7_0_37 0 rfl rfl) rfl
theorem dX7_massesWithin_23 : decode cX7_massesWithin 23 = .ok (.aload_n 1, 1) := op43 (bA_at bd03_dec_X7_0_37 1 rfl rfl)
theorem dX7_massesWithin_24 : decode cX7_massesWithin 24 = .ok (.getfield 42, 3) := op180 (bA_at bd03_dec_X7_0_37 2 rfl rfl) rfl
theorem dX7_massesWithin_27 : decode cX7_massesWithin 27 = .ok (.invokevirtual 90, 3) := op182 (bA_at bd03_dec_X7_0_37 3 rfl rfl) rfl
theorem dX7_massesWithin_30 : decode cX7_massesWithin 30 = .ok (.ireturn, 1) := op172 (bA_at bd03_dec_X7_0_37 4 rfl rfl)
theorem bd03_dec_X7_0_38 : ([(0, [3]), (1, [54, 4]), (3, [21, 4]), (5, [28]), (6, [162, 0, 60]), (9, [42]), (10, [180, 0, 27]), (13, [21, 4]), (15, [3]), (16, [79]), (17, [3]), (18, [54, 5])] : List (Nat × List UInt8)).all (fun x => prB x.2 ((cX7_coverBy.data.toList.drop 0).drop x.1)) = true := by decide +kernel
theorem dX7_coverBy_0 : decode cX7_coverBy 0 = .ok (.iconst 0, 1) := op3 (bA_at bd03_dec_X7_0_38 0 rfl rfl)
theorem dX7_coverBy_1 : decode cX7_coverBy 1 = .ok (.istore 4, 2) := op54 (bA_at bd03_dec_X7_0_38 1 rfl rfl) rfl
theorem dX7_coverBy_3 : decode cX7_coverBy 3 = .ok (.iload 4, 2) := op21 (bA_at bd03_dec_X7_0_38 2 rfl rfl) rfl
theorem dX7_coverBy_5 : decode cX7_coverBy 5 = .ok (.iload_n 2, 1) := op28 (bA_at bd03_dec_X7_0_38 3 rfl rfl)
theorem dX7_coverBy_6 : decode cX7_coverBy 6 = .ok (.if_icmp .ge 60, 3) := op162 (bA_at bd03_dec_X7_0_38 4 rfl rfl) (by decide +kernel)
theorem dX7_coverBy_9 : decode cX7_coverBy 9 = .ok (.aload_n 0, 1) := op42 (bA_at bd03_dec_X7_0_38 5 rfl rfl)
theorem dX7_coverBy_10 : decode cX7_coverBy 10 = .ok (.getfield 27, 3) := op180 (bA_at bd03_dec_X7_0_38 6 rfl rfl) rfl
theorem dX7_coverBy_13 : decode cX7_coverBy 13 = .ok (.iload 4, 2) := op21 (bA_at bd03_dec_X7_0_38 7 rfl rfl) rfl
theorem dX7_coverBy_15 : decode cX7_coverBy 15 = .ok (.iconst 0, 1) := op3 (bA_at bd03_dec_X7_0_38 8 rfl rfl)
theorem dX7_coverBy_16 : decode cX7_coverBy 16 = .ok (.iastore, 1) := op79 (bA_at bd03_dec_X7_0_38 9 rfl rfl)
theorem dX7_coverBy_17 : decode cX7_coverBy 17 = .ok (.iconst 0, 1) := op3 (bA_at bd03_dec_X7_0_38 10 rfl rfl)
theorem dX7_coverBy_18 : decode cX7_coverBy 18 = .ok (.istore 5, 2) := op54 (bA_at bd03_dec_X7_0_38 11 rfl rfl) rfl
theorem bd03_dec_X7_0_39 : ([(0, [21, 5]), (2, [28]), (3, [162, 0, 37]), (6, [43]), (7, [21, 4]), (9, [16, 9]), (11, [104]), (12, [21, 5]), (14, [96]), (15, [46]), (16, [29]), (17, [163, 0, 17])] : List (Nat × List UInt8)).all (fun x => prB x.2 ((cX7_coverBy.data.toList.drop 20).drop x.1)) = true := by decide +kernel
theorem dX7_coverBy_20 : decode cX7_coverBy 20 = .ok (.iload 5, 2) := op21 (bA_at bd03_dec_X7_0_39 0 rfl rfl) rfl
theorem dX7_coverBy_22 : decode cX7_coverBy 22 = .ok (.iload_n 2, 1) := op28 (bA_at bd03_dec_X7_0_39 1 rfl rfl)
theorem dX7_coverBy_23 : decode cX7_coverBy 23 = .ok (.if_icmp .ge 37, 3) := op162 (bA_at bd03_dec_X7_0_39 2 rfl rfl) (by decide +kernel)
theorem dX7_coverBy_26 : decode cX7_coverBy 26 = .ok (.aload_n 1, 1) := op43 (bA_at bd03_dec_X7_0_39 3 rfl rfl)
theorem dX7_coverBy_27 : decode cX7_coverBy 27 = .ok (.iload 4, 2) := op21 (bA_at bd03_dec_X7_0_39 4 rfl rfl) rfl
theorem dX7_coverBy_29 : decode cX7_coverBy 29 = .ok (.bipush 9, 2) := op16 (bA_at bd03_dec_X7_0_39 5 rfl rfl) (by decide +kernel)
theorem dX7_coverBy_31 : decode cX7_coverBy 31 = .ok (.imul, 1) := op104 (bA_at bd03_dec_X7_0_39 6 rfl rfl)
theorem dX7_coverBy_32 : decode cX7_coverBy 32 = .ok (.iload 5, 2) := op21 (bA_at bd03_dec_X7_0_39 7 rfl rfl) rfl
theorem dX7_coverBy_34 : decode cX7_coverBy 34 = .ok (.iadd, 1) := op96 (bA_at bd03_dec_X7_0_39 8 rfl rfl)
theorem dX7_coverBy_35 : decode cX7_coverBy 35 = .ok (.iaload, 1) := op46 (bA_at bd03_dec_X7_0_39 9 rfl rfl)
theorem dX7_coverBy_36 : decode cX7_coverBy 36 = .ok (.iload_n 3, 1) := op29 (bA_at bd03_dec_X7_0_39 10 rfl rfl)
theorem dX7_coverBy_37 : decode cX7_coverBy 37 = .ok (.if_icmp .gt 17, 3) := op163 (bA_at bd03_dec_X7_0_39 11 rfl rfl) (by decide +kernel)
theorem bd03_dec_X7_0_40 : ([(0, [42]), (1, [180, 0, 27]), (4, [21, 4]), (6, [92]), (7, [46]), (8, [4]), (9, [21, 5]), (11, [120]), (12, [128]), (13, [79]), (14, [132, 5, 1]), (17, [167, 255, 219])] : List (Nat × List UInt8)).all (fun x => prB x.2 ((cX7_coverBy.data.toList.drop 40).drop x.1)) = true := by decide +kernel
theorem dX7_coverBy_40 : decode cX7_coverBy 40 = .ok (.aload_n 0, 1) := op42 (bA_at bd03_dec_X7_0_40 0 rfl rfl)
theorem dX7_coverBy_41 : decode cX7_coverBy 41 = .ok (.getfield 27, 3) := op180 (bA_at bd03_dec_X7_0_40 1 rfl rfl) rfl
theorem dX7_coverBy_44 : decode cX7_coverBy 44 = .ok (.iload 4, 2) := op21 (bA_at bd03_dec_X7_0_40 2 rfl rfl) rfl
theorem dX7_coverBy_46 : decode cX7_coverBy 46 = .ok (.dup2, 1) := op92 (bA_at bd03_dec_X7_0_40 3 rfl rfl)
theorem dX7_coverBy_47 : decode cX7_coverBy 47 = .ok (.iaload, 1) := op46 (bA_at bd03_dec_X7_0_40 4 rfl rfl)
theorem dX7_coverBy_48 : decode cX7_coverBy 48 = .ok (.iconst 1, 1) := op4 (bA_at bd03_dec_X7_0_40 5 rfl rfl)
theorem dX7_coverBy_49 : decode cX7_coverBy 49 = .ok (.iload 5, 2) := op21 (bA_at bd03_dec_X7_0_40 6 rfl rfl) rfl
theorem dX7_coverBy_51 : decode cX7_coverBy 51 = .ok (.ishl, 1) := op120 (bA_at bd03_dec_X7_0_40 7 rfl rfl)
theorem dX7_coverBy_52 : decode cX7_coverBy 52 = .ok (.ior, 1) := op128 (bA_at bd03_dec_X7_0_40 8 rfl rfl)
theorem dX7_coverBy_53 : decode cX7_coverBy 53 = .ok (.iastore, 1) := op79 (bA_at bd03_dec_X7_0_40 9 rfl rfl)
theorem dX7_coverBy_54 : decode cX7_coverBy 54 = .ok (.iinc 5 1, 3) := op132 (bA_at bd03_dec_X7_0_40 10 rfl rfl) rfl (by decide +kernel)
theorem dX7_coverBy_57 : decode cX7_coverBy 57 = .ok (.goto (-37), 3) := op167 (bA_at bd03_dec_X7_0_40 11 rfl rfl) (by decide +kernel)
theorem bd03_dec_X7_0_41 : ([(0, [132, 4, 1]), (3, [167, 255, 196]), (6, [177])] : List (Nat × List UInt8)).all (fun x => prB x.2 ((cX7_coverBy.data.toList.drop 60).drop x.1)) = true := by decide +kernel
theorem dX7_coverBy_60 : decode cX7_coverBy 60 = .ok (.iinc 4 1, 3) := op132 (bA_at bd03_dec_X7_0_41 0 rfl rfl) rfl (by decide +kernel)
theorem dX7_coverBy_63 : decode cX7_coverBy 63 = .ok (.goto (-60), 3) := op167 (bA_at bd03_dec_X7_0_41 1 rfl rfl) (by decide +kernel)
theorem dX7_coverBy_66 : decode cX7_coverBy 66 = .ok (.return_, 1) := op177 (bA_at bd03_dec_X7_0_41 2 rfl rfl)
theorem bd03_dec_X7_0_42 : ([(0, [2]), (1, [62]), (2, [28]), (3, [4]), (4, [96]), (5, [54, 4]), (7, [3]), (8, [54, 5]), (10, [21, 5]), (12, [4]), (13, [28]), (14, [120])] : List (Nat × List UInt8)).all (fun x => prB x.2 ((cX7_fewestCovering.data.toList.drop 0).drop x.1)) = true := by decide +kernel
theorem dX7_fewestCovering_0 : decode cX7_fewestCovering 0 = .ok (.iconst (-1), 1) := op2 (bA_at bd03_dec_X7_0_42 0 rfl rfl)
theorem dX7_fewestCovering_1 : decode cX7_fewestCovering 1 = .ok (.istore_n 3, 1) := op62 (bA_at bd03_dec_X7_0_42 1 rfl rfl)
theorem dX7_fewestCovering_2 : decode cX7_fewestCovering 2 = .ok (.iload_n 2, 1) := op28 (bA_at bd03_dec_X7_0_42 2 rfl rfl)
theorem dX7_fewestCovering_3 : decode cX7_fewestCovering 3 = .ok (.iconst 1, 1) := op4 (bA_at bd03_dec_X7_0_42 3 rfl rfl)
theorem dX7_fewestCovering_4 : decode cX7_fewestCovering 4 = .ok (.iadd, 1) := op96 (bA_at bd03_dec_X7_0_42 4 rfl rfl)
theorem dX7_fewestCovering_5 : decode cX7_fewestCovering 5 = .ok (.istore 4, 2) := op54 (bA_at bd03_dec_X7_0_42 5 rfl rfl) rfl
theorem dX7_fewestCovering_7 : decode cX7_fewestCovering 7 = .ok (.iconst 0, 1) := op3 (bA_at bd03_dec_X7_0_42 6 rfl rfl)
theorem dX7_fewestCovering_8 : decode cX7_fewestCovering 8 = .ok (.istore 5, 2) := op54 (bA_at bd03_dec_X7_0_42 7 rfl rfl) rfl
theorem dX7_fewestCovering_10 : decode cX7_fewestCovering 10 = .ok (.iload 5, 2) := op21 (bA_at bd03_dec_X7_0_42 8 rfl rfl) rfl
theorem dX7_fewestCovering_12 : decode cX7_fewestCovering 12 = .ok (.iconst 1, 1) := op4 (bA_at bd03_dec_X7_0_42 9 rfl rfl)
theorem dX7_fewestCovering_13 : decode cX7_fewestCovering 13 = .ok (.iload_n 2, 1) := op28 (bA_at bd03_dec_X7_0_42 10 rfl rfl)
theorem dX7_fewestCovering_14 : decode cX7_fewestCovering 14 = .ok (.ishl, 1) := op120 (bA_at bd03_dec_X7_0_42 11 rfl rfl)
theorem bd03_dec_X7_0_43 : ([(0, [162, 0, 43]), (3, [21, 5]), (5, [184, 0, 97]), (8, [21, 4]), (10, [162, 0, 27]), (13, [27]), (14, [42]), (15, [21, 5]), (17, [28]), (18, [182, 0, 102]), (21, [2]), (22, [130])] : List (Nat × List UInt8)).all (fun x => prB x.2 ((cX7_fewestCovering.data.toList.drop 15).drop x.1)) = true := by decide +kernel
theorem dX7_fewestCovering_15 : decode cX7_fewestCovering 15 = .ok (.if_icmp .ge 43, 3) := op162 (bA_at bd03_dec_X7_0_43 0 rfl rfl) (by decide +kernel)
theorem dX7_fewestCovering_18 : decode cX7_fewestCovering 18 = .ok (.iload 5, 2) := op21 (bA_at bd03_dec_X7_0_43 1 rfl rfl) rfl
theorem dX7_fewestCovering_20 : decode cX7_fewestCovering 20 = .ok (.invokestatic 97, 3) := op184 (bA_at bd03_dec_X7_0_43 2 rfl rfl) rfl
theorem dX7_fewestCovering_23 : decode cX7_fewestCovering 23 = .ok (.iload 4, 2) := op21 (bA_at bd03_dec_X7_0_43 3 rfl rfl) rfl
theorem dX7_fewestCovering_25 : decode cX7_fewestCovering 25 = .ok (.if_icmp .ge 27, 3) := op162 (bA_at bd03_dec_X7_0_43 4 rfl rfl) (by decide +kernel)
theorem dX7_fewestCovering_28 : decode cX7_fewestCovering 28 = .ok (.iload_n 1, 1) := op27 (bA_at bd03_dec_X7_0_43 5 rfl rfl)
theorem dX7_fewestCovering_29 : decode cX7_fewestCovering 29 = .ok (.aload_n 0, 1) := op42 (bA_at bd03_dec_X7_0_43 6 rfl rfl)
theorem dX7_fewestCovering_30 : decode cX7_fewestCovering 30 = .ok (.iload 5, 2) := op21 (bA_at bd03_dec_X7_0_43 7 rfl rfl) rfl
theorem dX7_fewestCovering_32 : decode cX7_fewestCovering 32 = .ok (.iload_n 2, 1) := op28 (bA_at bd03_dec_X7_0_43 8 rfl rfl)
theorem dX7_fewestCovering_33 : decode cX7_fewestCovering 33 = .ok (.invokevirtual 102, 3) := op182 (bA_at bd03_dec_X7_0_43 9 rfl rfl) rfl
theorem dX7_fewestCovering_36 : decode cX7_fewestCovering 36 = .ok (.iconst (-1), 1) := op2 (bA_at bd03_dec_X7_0_43 10 rfl rfl)
theorem dX7_fewestCovering_37 : decode cX7_fewestCovering 37 = .ok (.ixor, 1) := op130 (bA_at bd03_dec_X7_0_43 11 rfl rfl)
theorem bd03_dec_X7_0_44 : ([(0, [126]), (1, [154, 0, 13]), (4, [21, 5]), (6, [62]), (7, [21, 5]), (9, [184, 0, 97]), (12, [54, 4]), (14, [132, 5, 1]), (17, [167, 255, 211]), (20, [29]), (21, [172])] : List (Nat × List UInt8)).all (fun x => prB x.2 ((cX7_fewestCovering.data.toList.drop 38).drop x.1)) = true := by decide +kernel
theorem dX7_fewestCovering_38 : decode cX7_fewestCovering 38 = .ok (.iand, 1) := op126 (bA_at bd03_dec_X7_0_44 0 rfl rfl)
theorem dX7_fewestCovering_39 : decode cX7_fewestCovering 39 = .ok (.ifCond .ne 13, 3) := op154 (bA_at bd03_dec_X7_0_44 1 rfl rfl) (by decide +kernel)
theorem dX7_fewestCovering_42 : decode cX7_fewestCovering 42 = .ok (.iload 5, 2) := op21 (bA_at bd03_dec_X7_0_44 2 rfl rfl) rfl
theorem dX7_fewestCovering_44 : decode cX7_fewestCovering 44 = .ok (.istore_n 3, 1) := op62 (bA_at bd03_dec_X7_0_44 3 rfl rfl)
theorem dX7_fewestCovering_45 : decode cX7_fewestCovering 45 = .ok (.iload 5, 2) := op21 (bA_at bd03_dec_X7_0_44 4 rfl rfl) rfl
theorem dX7_fewestCovering_47 : decode cX7_fewestCovering 47 = .ok (.invokestatic 97, 3) := op184 (bA_at bd03_dec_X7_0_44 5 rfl rfl) rfl
theorem dX7_fewestCovering_50 : decode cX7_fewestCovering 50 = .ok (.istore 4, 2) := op54 (bA_at bd03_dec_X7_0_44 6 rfl rfl) rfl
theorem dX7_fewestCovering_52 : decode cX7_fewestCovering 52 = .ok (.iinc 5 1, 3) := op132 (bA_at bd03_dec_X7_0_44 7 rfl rfl) rfl (by decide +kernel)
theorem dX7_fewestCovering_55 : decode cX7_fewestCovering 55 = .ok (.goto (-45), 3) := op167 (bA_at bd03_dec_X7_0_44 8 rfl rfl) (by decide +kernel)
theorem dX7_fewestCovering_58 : decode cX7_fewestCovering 58 = .ok (.iload_n 3, 1) := op29 (bA_at bd03_dec_X7_0_44 9 rfl rfl)
theorem dX7_fewestCovering_59 : decode cX7_fewestCovering 59 = .ok (.ireturn, 1) := op172 (bA_at bd03_dec_X7_0_44 10 rfl rfl)
theorem bd03_dec_X7_0_45 : ([(0, [3]), (1, [62]), (2, [3]), (3, [54, 4]), (5, [21, 4]), (7, [28]), (8, [162, 0, 28]), (11, [27]), (12, [21, 4]), (14, [184, 0, 70]), (17, [153, 0, 13]), (20, [29])] : List (Nat × List UInt8)).all (fun x => prB x.2 ((cX7_covered.data.toList.drop 0).drop x.1)) = true := by decide +kernel
theorem dX7_covered_0 : decode cX7_covered 0 = .ok (.iconst 0, 1) := op3 (bA_at bd03_dec_X7_0_45 0 rfl rfl)
theorem dX7_covered_1 : decode cX7_covered 1 = .ok (.istore_n 3, 1) := op62 (bA_at bd03_dec_X7_0_45 1 rfl rfl)
theorem dX7_covered_2 : decode cX7_covered 2 = .ok (.iconst 0, 1) := op3 (bA_at bd03_dec_X7_0_45 2 rfl rfl)
theorem dX7_covered_3 : decode cX7_covered 3 = .ok (.istore 4, 2) := op54 (bA_at bd03_dec_X7_0_45 3 rfl rfl) rfl
theorem dX7_covered_5 : decode cX7_covered 5 = .ok (.iload 4, 2) := op21 (bA_at bd03_dec_X7_0_45 4 rfl rfl) rfl
theorem dX7_covered_7 : decode cX7_covered 7 = .ok (.iload_n 2, 1) := op28 (bA_at bd03_dec_X7_0_45 5 rfl rfl)
theorem dX7_covered_8 : decode cX7_covered 8 = .ok (.if_icmp .ge 28, 3) := op162 (bA_at bd03_dec_X7_0_45 6 rfl rfl) (by decide +kernel)
theorem dX7_covered_11 : decode cX7_covered 11 = .ok (.iload_n 1, 1) := op27 (bA_at bd03_dec_X7_0_45 7 rfl rfl)
theorem dX7_covered_12 : decode cX7_covered 12 = .ok (.iload 4, 2) := op21 (bA_at bd03_dec_X7_0_45 8 rfl rfl) rfl
theorem dX7_covered_14 : decode cX7_covered 14 = .ok (.invokestatic 70, 3) := op184 (bA_at bd03_dec_X7_0_45 9 rfl rfl) rfl
theorem dX7_covered_17 : decode cX7_covered 17 = .ok (.ifCond .eq 13, 3) := op153 (bA_at bd03_dec_X7_0_45 10 rfl rfl) (by decide +kernel)
theorem dX7_covered_20 : decode cX7_covered 20 = .ok (.iload_n 3, 1) := op29 (bA_at bd03_dec_X7_0_45 11 rfl rfl)
theorem bd03_dec_X7_0_46 : ([(0, [42]), (1, [180, 0, 27]), (4, [21, 4]), (6, [46]), (7, [128]), (8, [62]), (9, [132, 4, 1]), (12, [167, 255, 228]), (15, [29]), (16, [172])] : List (Nat × List UInt8)).all (fun x => prB x.2 ((cX7_covered.data.toList.drop 21).drop x.1)) = true := by decide +kernel
theorem dX7_covered_21 : decode cX7_covered 21 = .ok (.aload_n 0, 1) := op42 (bA_at bd03_dec_X7_0_46 0 rfl rfl)
theorem dX7_covered_22 : decode cX7_covered 22 = .ok (.getfield 27, 3) := op180 (bA_at bd03_dec_X7_0_46 1 rfl rfl) rfl
theorem dX7_covered_25 : decode cX7_covered 25 = .ok (.iload 4, 2) := op21 (bA_at bd03_dec_X7_0_46 2 rfl rfl) rfl
theorem dX7_covered_27 : decode cX7_covered 27 = .ok (.iaload, 1) := op46 (bA_at bd03_dec_X7_0_46 3 rfl rfl)
theorem dX7_covered_28 : decode cX7_covered 28 = .ok (.ior, 1) := op128 (bA_at bd03_dec_X7_0_46 4 rfl rfl)
theorem dX7_covered_29 : decode cX7_covered 29 = .ok (.istore_n 3, 1) := op62 (bA_at bd03_dec_X7_0_46 5 rfl rfl)
theorem dX7_covered_30 : decode cX7_covered 30 = .ok (.iinc 4 1, 3) := op132 (bA_at bd03_dec_X7_0_46 6 rfl rfl) rfl (by decide +kernel)
theorem dX7_covered_33 : decode cX7_covered 33 = .ok (.goto (-28), 3) := op167 (bA_at bd03_dec_X7_0_46 7 rfl rfl) (by decide +kernel)
theorem dX7_covered_36 : decode cX7_covered 36 = .ok (.iload_n 3, 1) := op29 (bA_at bd03_dec_X7_0_46 8 rfl rfl)
theorem dX7_covered_37 : decode cX7_covered 37 = .ok (.ireturn, 1) := op172 (bA_at bd03_dec_X7_0_46 9 rfl rfl)
theorem bd03_dec_X7_0_47 : ([(0, [42]), (1, [180, 0, 18]), (4, [3]), (5, [184, 0, 36]), (8, [42]), (9, [180, 0, 21]), (12, [3]), (13, [184, 0, 36]), (16, [42]), (17, [180, 0, 30]), (20, [3]), (21, [184, 0, 36])] : List (Nat × List UInt8)).all (fun x => prB x.2 ((cX7_trace.data.toList.drop 0).drop x.1)) = true := by decide +kernel
theorem dX7_trace_0 : decode cX7_trace 0 = .ok (.aload_n 0, 1) := op42 (bA_at bd03_dec_X7_0_47 0 rfl rfl)
theorem dX7_trace_1 : decode cX7_trace 1 = .ok (.getfield 18, 3) := op180 (bA_at bd03_dec_X7_0_47 1 rfl rfl) rfl
theorem dX7_trace_4 : decode cX7_trace 4 = .ok (.iconst 0, 1) := op3 (bA_at bd03_dec_X7_0_47 2 rfl rfl)
theorem dX7_trace_5 : decode cX7_trace 5 = .ok (.invokestatic 36, 3) := op184 (bA_at bd03_dec_X7_0_47 3 rfl rfl) rfl
theorem dX7_trace_8 : decode cX7_trace 8 = .ok (.aload_n 0, 1) := op42 (bA_at bd03_dec_X7_0_47 4 rfl rfl)
theorem dX7_trace_9 : decode cX7_trace 9 = .ok (.getfield 21, 3) := op180 (bA_at bd03_dec_X7_0_47 5 rfl rfl) rfl
theorem dX7_trace_12 : decode cX7_trace 12 = .ok (.iconst 0, 1) := op3 (bA_at bd03_dec_X7_0_47 6 rfl rfl)
theorem dX7_trace_13 : decode cX7_trace 13 = .ok (.invokestatic 36, 3) := op184 (bA_at bd03_dec_X7_0_47 7 rfl rfl) rfl
theorem dX7_trace_16 : decode cX7_trace 16 = .ok (.aload_n 0, 1) := op42 (bA_at bd03_dec_X7_0_47 8 rfl rfl)
theorem dX7_trace_17 : decode cX7_trace 17 = .ok (.getfield 30, 3) := op180 (bA_at bd03_dec_X7_0_47 9 rfl rfl) rfl
theorem dX7_trace_20 : decode cX7_trace 20 = .ok (.iconst 0, 1) := op3 (bA_at bd03_dec_X7_0_47 10 rfl rfl)
theorem dX7_trace_21 : decode cX7_trace 21 = .ok (.invokestatic 36, 3) := op184 (bA_at bd03_dec_X7_0_47 11 rfl rfl) rfl
theorem bd03_dec_X7_0_48 : ([(0, [42]), (1, [180, 0, 30]), (4, [28]), (5, [4]), (6, [79]), (7, [4]), (8, [62]), (9, [29]), (10, [43]), (11, [180, 0, 42]), (14, [162, 0, 91]), (17, [3])] : List (Nat × List UInt8)).all (fun x => prB x.2 ((cX7_trace.data.toList.drop 24).drop x.1)) = true := by decide +kernel
theorem dX7_trace_24 : decode cX7_trace 24 = .ok (.aload_n 0, 1) := op42 (bA_at bd03_dec_X7_0_48 0 rfl rfl)
theorem dX7_trace_25 : decode cX7_trace 25 = .ok (.getfield 30, 3) := op180 (bA_at bd03_dec_X7_0_48 1 rfl rfl) rfl
theorem dX7_trace_28 : decode cX7_trace 28 = .ok (.iload_n 2, 1) := op28 (bA_at bd03_dec_X7_0_48 2 rfl rfl)
theorem dX7_trace_29 : decode cX7_trace 29 = .ok (.iconst 1, 1) := op4 (bA_at bd03_dec_X7_0_48 3 rfl rfl)
theorem dX7_trace_30 : decode cX7_trace 30 = .ok (.iastore, 1) := op79 (bA_at bd03_dec_X7_0_48 4 rfl rfl)
theorem dX7_trace_31 : decode cX7_trace 31 = .ok (.iconst 1, 1) := op4 (bA_at bd03_dec_X7_0_48 5 rfl rfl)
theorem dX7_trace_32 : decode cX7_trace 32 = .ok (.istore_n 3, 1) := op62 (bA_at bd03_dec_X7_0_48 6 rfl rfl)
theorem dX7_trace_33 : decode cX7_trace 33 = .ok (.iload_n 3, 1) := op29 (bA_at bd03_dec_X7_0_48 7 rfl rfl)
theorem dX7_trace_34 : decode cX7_trace 34 = .ok (.aload_n 1, 1) := op43 (bA_at bd03_dec_X7_0_48 8 rfl rfl)
theorem dX7_trace_35 : decode cX7_trace 35 = .ok (.getfield 42, 3) := op180 (bA_at bd03_dec_X7_0_48 9 rfl rfl) rfl
theorem dX7_trace_38 : decode cX7_trace 38 = .ok (.if_icmp .ge 91, 3) := op162 (bA_at bd03_dec_X7_0_48 10 rfl rfl) (by decide +kernel)
theorem dX7_trace_41 : decode cX7_trace 41 = .ok (.iconst 0, 1) := op3 (bA_at bd03_dec_X7_0_48 11 rfl rfl)
theorem bd03_dec_X7_0_49 : ([(0, [54, 4]), (2, [21, 4]), (4, [43]), (5, [180, 0, 42]), (8, [162, 0, 58]), (11, [42]), (12, [180, 0, 33]), (15, [21, 4]), (17, [42]), (18, [43]), (19, [21, 4]), (21, [182, 0, 105])] : List (Nat × List UInt8)).all (fun x => prB x.2 ((cX7_trace.data.toList.drop 42).drop x.1)) = true := by decide +kernel
theorem dX7_trace_42 : decode cX7_trace 42 = .ok (.istore 4, 2) := op54 (bA_at bd03_dec_X7_0_49 0 rfl rfl) rfl
theorem dX7_trace_44 : decode cX7_trace 44 = .ok (.iload 4, 2) := op21 (bA_at bd03_dec_X7_0_49 1 rfl rfl) rfl
theorem dX7_trace_46 : decode cX7_trace 46 = .ok (.aload_n 1, 1) := op43 (bA_at bd03_dec_X7_0_49 2 rfl rfl)
theorem dX7_trace_47 : decode cX7_trace 47 = .ok (.getfield 42, 3) := op180 (bA_at bd03_dec_X7_0_49 3 rfl rfl) rfl
theorem dX7_trace_50 : decode cX7_trace 50 = .ok (.if_icmp .ge 58, 3) := op162 (bA_at bd03_dec_X7_0_49 4 rfl rfl) (by decide +kernel)
theorem dX7_trace_53 : decode cX7_trace 53 = .ok (.aload_n 0, 1) := op42 (bA_at bd03_dec_X7_0_49 5 rfl rfl)
theorem dX7_trace_54 : decode cX7_trace 54 = .ok (.getfield 33, 3) := op180 (bA_at bd03_dec_X7_0_49 6 rfl rfl) rfl
theorem dX7_trace_57 : decode cX7_trace 57 = .ok (.iload 4, 2) := op21 (bA_at bd03_dec_X7_0_49 7 rfl rfl) rfl
theorem dX7_trace_59 : decode cX7_trace 59 = .ok (.aload_n 0, 1) := op42 (bA_at bd03_dec_X7_0_49 8 rfl rfl)
theorem dX7_trace_60 : decode cX7_trace 60 = .ok (.aload_n 1, 1) := op43 (bA_at bd03_dec_X7_0_49 9 rfl rfl)
theorem dX7_trace_61 : decode cX7_trace 61 = .ok (.iload 4, 2) := op21 (bA_at bd03_dec_X7_0_49 10 rfl rfl) rfl
theorem dX7_trace_63 : decode cX7_trace 63 = .ok (.invokevirtual 105, 3) := op182 (bA_at bd03_dec_X7_0_49 11 rfl rfl) rfl
theorem bd03_dec_X7_0_50 : ([(0, [79]), (1, [42]), (2, [180, 0, 33]), (5, [21, 4]), (7, [46]), (8, [158, 0, 28]), (11, [42]), (12, [180, 0, 18]), (15, [21, 4]), (17, [92]), (18, [46]), (19, [42])] : List (Nat × List UInt8)).all (fun x => prB x.2 ((cX7_trace.data.toList.drop 66).drop x.1)) = true := by decide +kernel
theorem dX7_trace_66 : decode cX7_trace 66 = .ok (.iastore, 1) := op79 (bA_at bd03_dec_X7_0_50 0 rfl rfl)
theorem dX7_trace_67 : decode cX7_trace 67 = .ok (.aload_n 0, 1) := op42 (bA_at bd03_dec_X7_0_50 1 rfl rfl)
theorem dX7_trace_68 : decode cX7_trace 68 = .ok (.getfield 33, 3) := op180 (bA_at bd03_dec_X7_0_50 2 rfl rfl) rfl
theorem dX7_trace_71 : decode cX7_trace 71 = .ok (.iload 4, 2) := op21 (bA_at bd03_dec_X7_0_50 3 rfl rfl) rfl
theorem dX7_trace_73 : decode cX7_trace 73 = .ok (.iaload, 1) := op46 (bA_at bd03_dec_X7_0_50 4 rfl rfl)
theorem dX7_trace_74 : decode cX7_trace 74 = .ok (.ifCond .le 28, 3) := op158 (bA_at bd03_dec_X7_0_50 5 rfl rfl) (by decide +kernel)
theorem dX7_trace_77 : decode cX7_trace 77 = .ok (.aload_n 0, 1) := op42 (bA_at bd03_dec_X7_0_50 6 rfl rfl)
theorem dX7_trace_78 : decode cX7_trace 78 = .ok (.getfield 18, 3) := op180 (bA_at bd03_dec_X7_0_50 7 rfl rfl) rfl
theorem dX7_trace_81 : decode cX7_trace 81 = .ok (.iload 4, 2) := op21 (bA_at bd03_dec_X7_0_50 8 rfl rfl) rfl
theorem dX7_trace_83 : decode cX7_trace 83 = .ok (.dup2, 1) := op92 (bA_at bd03_dec_X7_0_50 9 rfl rfl)
theorem dX7_trace_84 : decode cX7_trace 84 = .ok (.iaload, 1) := op46 (bA_at bd03_dec_X7_0_50 10 rfl rfl)
theorem dX7_trace_85 : decode cX7_trace 85 = .ok (.aload_n 0, 1) := op42 (bA_at bd03_dec_X7_0_50 11 rfl rfl)
theorem bd03_dec_X7_0_51 : ([(0, [180, 0, 33]), (3, [21, 4]), (5, [46]), (6, [96]), (7, [79]), (8, [42]), (9, [180, 0, 21]), (12, [21, 4]), (14, [29]), (15, [79]), (16, [132, 4, 1]), (19, [167, 255, 195])] : List (Nat × List UInt8)).all (fun x => prB x.2 ((cX7_trace.data.toList.drop 86).drop x.1)) = true := by decide +kernel
theorem dX7_trace_86 : decode cX7_trace 86 = .ok (.getfield 33, 3) := op180 (bA_at bd03_dec_X7_0_51 0 rfl rfl) rfl
theorem dX7_trace_89 : decode cX7_trace 89 = .ok (.iload 4, 2) := op21 (bA_at bd03_dec_X7_0_51 1 rfl rfl) rfl
theorem dX7_trace_91 : decode cX7_trace 91 = .ok (.iaload, 1) := op46 (bA_at bd03_dec_X7_0_51 2 rfl rfl)
theorem dX7_trace_92 : decode cX7_trace 92 = .ok (.iadd, 1) := op96 (bA_at bd03_dec_X7_0_51 3 rfl rfl)
theorem dX7_trace_93 : decode cX7_trace 93 = .ok (.iastore, 1) := op79 (bA_at bd03_dec_X7_0_51 4 rfl rfl)
theorem dX7_trace_94 : decode cX7_trace 94 = .ok (.aload_n 0, 1) := op42 (bA_at bd03_dec_X7_0_51 5 rfl rfl)
theorem dX7_trace_95 : decode cX7_trace 95 = .ok (.getfield 21, 3) := op180 (bA_at bd03_dec_X7_0_51 6 rfl rfl) rfl
theorem dX7_trace_98 : decode cX7_trace 98 = .ok (.iload 4, 2) := op21 (bA_at bd03_dec_X7_0_51 7 rfl rfl) rfl
theorem dX7_trace_100 : decode cX7_trace 100 = .ok (.iload_n 3, 1) := op29 (bA_at bd03_dec_X7_0_51 8 rfl rfl)
theorem dX7_trace_101 : decode cX7_trace 101 = .ok (.iastore, 1) := op79 (bA_at bd03_dec_X7_0_51 9 rfl rfl)
theorem dX7_trace_102 : decode cX7_trace 102 = .ok (.iinc 4 1, 3) := op132 (bA_at bd03_dec_X7_0_51 10 rfl rfl) rfl (by decide +kernel)
theorem dX7_trace_105 : decode cX7_trace 105 = .ok (.goto (-61), 3) := op167 (bA_at bd03_dec_X7_0_51 11 rfl rfl) (by decide +kernel)
theorem bd03_dec_X7_0_52 : ([(0, [42]), (1, [180, 0, 33]), (4, [3]), (5, [42]), (6, [180, 0, 30]), (9, [3]), (10, [16, 9]), (12, [184, 0, 108]), (15, [132, 3, 1]), (18, [167, 255, 163]), (21, [177])] : List (Nat × List UInt8)).all (fun x => prB x.2 ((cX7_trace.data.toList.drop 108).drop x.1)) = true := by decide +kernel
theorem dX7_trace_108 : decode cX7_trace 108 = .ok (.aload_n 0, 1) := op42 (bA_at bd03_dec_X7_0_52 0 rfl rfl)
theorem dX7_trace_109 : decode cX7_trace 109 = .ok (.getfield 33, 3) := op180 (bA_at bd03_dec_X7_0_52 1 rfl rfl) rfl
theorem dX7_trace_112 : decode cX7_trace 112 = .ok (.iconst 0, 1) := op3 (bA_at bd03_dec_X7_0_52 2 rfl rfl)
theorem dX7_trace_113 : decode cX7_trace 113 = .ok (.aload_n 0, 1) := op42 (bA_at bd03_dec_X7_0_52 3 rfl rfl)
theorem dX7_trace_114 : decode cX7_trace 114 = .ok (.getfield 30, 3) := op180 (bA_at bd03_dec_X7_0_52 4 rfl rfl) rfl
theorem dX7_trace_117 : decode cX7_trace 117 = .ok (.iconst 0, 1) := op3 (bA_at bd03_dec_X7_0_52 5 rfl rfl)
theorem dX7_trace_118 : decode cX7_trace 118 = .ok (.bipush 9, 2) := op16 (bA_at bd03_dec_X7_0_52 6 rfl rfl) (by decide +kernel)
theorem dX7_trace_120 : decode cX7_trace 120 = .ok (.invokestatic 108, 3) := op184 (bA_at bd03_dec_X7_0_52 7 rfl rfl) rfl
theorem dX7_trace_123 : decode cX7_trace 123 = .ok (.iinc 3 1, 3) := op132 (bA_at bd03_dec_X7_0_52 8 rfl rfl) rfl (by decide +kernel)
theorem dX7_trace_126 : decode cX7_trace 126 = .ok (.goto (-93), 3) := op167 (bA_at bd03_dec_X7_0_52 9 rfl rfl) (by decide +kernel)
theorem dX7_trace_129 : decode cX7_trace 129 = .ok (.return_, 1) := op177 (bA_at bd03_dec_X7_0_52 10 rfl rfl)
theorem bd03_dec_X7_0_53 : ([(0, [3]), (1, [62]), (2, [3]), (3, [54, 4]), (5, [21, 4]), (7, [43]), (8, [180, 0, 42]), (11, [162, 0, 29]), (14, [43]), (15, [21, 4]), (17, [28]), (18, [182, 0, 48])] : List (Nat × List UInt8)).all (fun x => prB x.2 ((cX7_routesOn.data.toList.drop 0).drop x.1)) = true := by decide +kernel
theorem dX7_routesOn_0 : decode cX7_routesOn 0 = .ok (.iconst 0, 1) := op3 (bA_at bd03_dec_X7_0_53 0 rfl rfl)
theorem dX7_routesOn_1 : decode cX7_routesOn 1 = .ok (.istore_n 3, 1) := op62 (bA_at bd03_dec_X7_0_53 1 rfl rfl)
theorem dX7_routesOn_2 : decode cX7_routesOn 2 = .ok (.iconst 0, 1) := op3 (bA_at bd03_dec_X7_0_53 2 rfl rfl)
theorem dX7_routesOn_3 : decode cX7_routesOn 3 = .ok (.istore 4, 2) := op54 (bA_at bd03_dec_X7_0_53 3 rfl rfl) rfl
theorem dX7_routesOn_5 : decode cX7_routesOn 5 = .ok (.iload 4, 2) := op21 (bA_at bd03_dec_X7_0_53 4 rfl rfl) rfl
theorem dX7_routesOn_7 : decode cX7_routesOn 7 = .ok (.aload_n 1, 1) := op43 (bA_at bd03_dec_X7_0_53 5 rfl rfl)
theorem dX7_routesOn_8 : decode cX7_routesOn 8 = .ok (.getfield 42, 3) := op180 (bA_at bd03_dec_X7_0_53 6 rfl rfl) rfl
theorem dX7_routesOn_11 : decode cX7_routesOn 11 = .ok (.if_icmp .ge 29, 3) := op162 (bA_at bd03_dec_X7_0_53 7 rfl rfl) (by decide +kernel)
theorem dX7_routesOn_14 : decode cX7_routesOn 14 = .ok (.aload_n 1, 1) := op43 (bA_at bd03_dec_X7_0_53 8 rfl rfl)
theorem dX7_routesOn_15 : decode cX7_routesOn 15 = .ok (.iload 4, 2) := op21 (bA_at bd03_dec_X7_0_53 9 rfl rfl) rfl
theorem dX7_routesOn_17 : decode cX7_routesOn 17 = .ok (.iload_n 2, 1) := op28 (bA_at bd03_dec_X7_0_53 10 rfl rfl)
theorem dX7_routesOn_18 : decode cX7_routesOn 18 = .ok (.invokevirtual 48, 3) := op182 (bA_at bd03_dec_X7_0_53 11 rfl rfl) rfl
theorem bd03_dec_X7_0_54 : ([(0, [153, 0, 13]), (3, [29]), (4, [42]), (5, [180, 0, 30]), (8, [21, 4]), (10, [46]), (11, [96]), (12, [62]), (13, [132, 4, 1]), (16, [167, 255, 224]), (19, [29]), (20, [172])] : List (Nat × List UInt8)).all (fun x => prB x.2 ((cX7_routesOn.data.toList.drop 21).drop x.1)) = true := by decide +kernel
theorem dX7_routesOn_21 : decode cX7_routesOn 21 = .ok (.ifCond .eq 13, 3) := op153 (bA_at bd03_dec_X7_0_54 0 rfl rfl) (by decide +kernel)
theorem dX7_routesOn_24 : decode cX7_routesOn 24 = .ok (.iload_n 3, 1) := op29 (bA_at bd03_dec_X7_0_54 1 rfl rfl)
theorem dX7_routesOn_25 : decode cX7_routesOn 25 = .ok (.aload_n 0, 1) := op42 (bA_at bd03_dec_X7_0_54 2 rfl rfl)
theorem dX7_routesOn_26 : decode cX7_routesOn 26 = .ok (.getfield 30, 3) := op180 (bA_at bd03_dec_X7_0_54 3 rfl rfl) rfl
theorem dX7_routesOn_29 : decode cX7_routesOn 29 = .ok (.iload 4, 2) := op21 (bA_at bd03_dec_X7_0_54 4 rfl rfl) rfl
theorem dX7_routesOn_31 : decode cX7_routesOn 31 = .ok (.iaload, 1) := op46 (bA_at bd03_dec_X7_0_54 5 rfl rfl)
theorem dX7_routesOn_32 : decode cX7_routesOn 32 = .ok (.iadd, 1) := op96 (bA_at bd03_dec_X7_0_54 6 rfl rfl)
theorem dX7_routesOn_33 : decode cX7_routesOn 33 = .ok (.istore_n 3, 1) := op62 (bA_at bd03_dec_X7_0_54 7 rfl rfl)
theorem dX7_routesOn_34 : decode cX7_routesOn 34 = .ok (.iinc 4 1, 3) := op132 (bA_at bd03_dec_X7_0_54 8 rfl rfl) rfl (by decide +kernel)
theorem dX7_routesOn_37 : decode cX7_routesOn 37 = .ok (.goto (-32), 3) := op167 (bA_at bd03_dec_X7_0_54 9 rfl rfl) (by decide +kernel)
theorem dX7_routesOn_40 : decode cX7_routesOn 40 = .ok (.iload_n 3, 1) := op29 (bA_at bd03_dec_X7_0_54 10 rfl rfl)
theorem dX7_routesOn_41 : decode cX7_routesOn 41 = .ok (.ireturn, 1) := op172 (bA_at bd03_dec_X7_0_54 11 rfl rfl)
theorem bd03_dec_X7_0_55 : ([(0, [42]), (1, [180, 0, 30]), (4, [17, 3, 232]), (7, [184, 0, 36]), (10, [42]), (11, [180, 0, 30]), (14, [28]), (15, [3]), (16, [79]), (17, [4]), (18, [54, 4]), (20, [21, 4])] : List (Nat × List UInt8)).all (fun x => prB x.2 ((cX7_steepest.data.toList.drop 0).drop x.1)) = true := by decide +kernel
theorem dX7_steepest_0 : decode cX7_steepest 0 = .ok (.aload_n 0, 1) := op42 (bA_at bd03_dec_X7_0_55 0 rfl rfl)
theorem dX7_steepest_1 : decode cX7_steepest 1 = .ok (.getfield 30, 3) := op180 (bA_at bd03_dec_X7_0_55 1 rfl rfl) rfl
theorem dX7_steepest_4 : decode cX7_steepest 4 = .ok (.sipush 1000, 3) := op17 (bA_at bd03_dec_X7_0_55 2 rfl rfl) (by decide +kernel)
theorem dX7_steepest_7 : decode cX7_steepest 7 = .ok (.invokestatic 36, 3) := op184 (bA_at bd03_dec_X7_0_55 3 rfl rfl) rfl
theorem dX7_steepest_10 : decode cX7_steepest 10 = .ok (.aload_n 0, 1) := op42 (bA_at bd03_dec_X7_0_55 4 rfl rfl)
theorem dX7_steepest_11 : decode cX7_steepest 11 = .ok (.getfield 30, 3) := op180 (bA_at bd03_dec_X7_0_55 5 rfl rfl) rfl
theorem dX7_steepest_14 : decode cX7_steepest 14 = .ok (.iload_n 2, 1) := op28 (bA_at bd03_dec_X7_0_55 6 rfl rfl)
theorem dX7_steepest_15 : decode cX7_steepest 15 = .ok (.iconst 0, 1) := op3 (bA_at bd03_dec_X7_0_55 7 rfl rfl)
theorem dX7_steepest_16 : decode cX7_steepest 16 = .ok (.iastore, 1) := op79 (bA_at bd03_dec_X7_0_55 8 rfl rfl)
theorem dX7_steepest_17 : decode cX7_steepest 17 = .ok (.iconst 1, 1) := op4 (bA_at bd03_dec_X7_0_55 9 rfl rfl)
theorem dX7_steepest_18 : decode cX7_steepest 18 = .ok (.istore 4, 2) := op54 (bA_at bd03_dec_X7_0_55 10 rfl rfl) rfl
theorem dX7_steepest_20 : decode cX7_steepest 20 = .ok (.iload 4, 2) := op21 (bA_at bd03_dec_X7_0_55 11 rfl rfl) rfl
theorem bd03_dec_X7_0_56 : ([(0, [43]), (1, [180, 0, 42]), (4, [162, 0, 51]), (7, [3]), (8, [54, 5]), (10, [21, 5]), (12, [43]), (13, [180, 0, 42]), (16, [162, 0, 33]), (19, [42]), (20, [180, 0, 30]), (23, [21, 5])] : List (Nat × List UInt8)).all (fun x => prB x.2 ((cX7_steepest.data.toList.drop 22).drop x.1)) = true := by decide +kernel
theorem dX7_steepest_22 : decode cX7_steepest 22 = .ok (.aload_n 1, 1) := op43 (bA_at bd03_dec_X7_0_56 0 rfl rfl)
theorem dX7_steepest_23 : decode cX7_steepest 23 = .ok (.getfield 42, 3) := op180 (bA_at bd03_dec_X7_0_56 1 rfl rfl) rfl
theorem dX7_steepest_26 : decode cX7_steepest 26 = .ok (.if_icmp .ge 51, 3) := op162 (bA_at bd03_dec_X7_0_56 2 rfl rfl) (by decide +kernel)
theorem dX7_steepest_29 : decode cX7_steepest 29 = .ok (.iconst 0, 1) := op3 (bA_at bd03_dec_X7_0_56 3 rfl rfl)
theorem dX7_steepest_30 : decode cX7_steepest 30 = .ok (.istore 5, 2) := op54 (bA_at bd03_dec_X7_0_56 4 rfl rfl) rfl
theorem dX7_steepest_32 : decode cX7_steepest 32 = .ok (.iload 5, 2) := op21 (bA_at bd03_dec_X7_0_56 5 rfl rfl) rfl
theorem dX7_steepest_34 : decode cX7_steepest 34 = .ok (.aload_n 1, 1) := op43 (bA_at bd03_dec_X7_0_56 6 rfl rfl)
theorem dX7_steepest_35 : decode cX7_steepest 35 = .ok (.getfield 42, 3) := op180 (bA_at bd03_dec_X7_0_56 7 rfl rfl) rfl
theorem dX7_steepest_38 : decode cX7_steepest 38 = .ok (.if_icmp .ge 33, 3) := op162 (bA_at bd03_dec_X7_0_56 8 rfl rfl) (by decide +kernel)
theorem dX7_steepest_41 : decode cX7_steepest 41 = .ok (.aload_n 0, 1) := op42 (bA_at bd03_dec_X7_0_56 9 rfl rfl)
theorem dX7_steepest_42 : decode cX7_steepest 42 = .ok (.getfield 30, 3) := op180 (bA_at bd03_dec_X7_0_56 10 rfl rfl) rfl
theorem dX7_steepest_45 : decode cX7_steepest 45 = .ok (.iload 5, 2) := op21 (bA_at bd03_dec_X7_0_56 11 rfl rfl) rfl
theorem bd03_dec_X7_0_57 : ([(0, [42]), (1, [180, 0, 30]), (4, [21, 5]), (6, [46]), (7, [42]), (8, [43]), (9, [21, 5]), (11, [182, 0, 114]), (14, [184, 0, 117]), (17, [79]), (18, [132, 5, 1]), (21, [167, 255, 220])] : List (Nat × List UInt8)).all (fun x => prB x.2 ((cX7_steepest.data.toList.drop 47).drop x.1)) = true := by decide +kernel
theorem dX7_steepest_47 : decode cX7_steepest 47 = .ok (.aload_n 0, 1) := op42 (bA_at bd03_dec_X7_0_57 0 rfl rfl)
theorem dX7_steepest_48 : decode cX7_steepest 48 = .ok (.getfield 30, 3) := op180 (bA_at bd03_dec_X7_0_57 1 rfl rfl) rfl
theorem dX7_steepest_51 : decode cX7_steepest 51 = .ok (.iload 5, 2) := op21 (bA_at bd03_dec_X7_0_57 2 rfl rfl) rfl
theorem dX7_steepest_53 : decode cX7_steepest 53 = .ok (.iaload, 1) := op46 (bA_at bd03_dec_X7_0_57 3 rfl rfl)
theorem dX7_steepest_54 : decode cX7_steepest 54 = .ok (.aload_n 0, 1) := op42 (bA_at bd03_dec_X7_0_57 4 rfl rfl)
theorem dX7_steepest_55 : decode cX7_steepest 55 = .ok (.aload_n 1, 1) := op43 (bA_at bd03_dec_X7_0_57 5 rfl rfl)
theorem dX7_steepest_56 : decode cX7_steepest 56 = .ok (.iload 5, 2) := op21 (bA_at bd03_dec_X7_0_57 6 rfl rfl) rfl
theorem dX7_steepest_58 : decode cX7_steepest 58 = .ok (.invokevirtual 114, 3) := op182 (bA_at bd03_dec_X7_0_57 7 rfl rfl) rfl
theorem dX7_steepest_61 : decode cX7_steepest 61 = .ok (.invokestatic 117, 3) := op184 (bA_at bd03_dec_X7_0_57 8 rfl rfl) rfl
theorem dX7_steepest_64 : decode cX7_steepest 64 = .ok (.iastore, 1) := op79 (bA_at bd03_dec_X7_0_57 9 rfl rfl)
theorem dX7_steepest_65 : decode cX7_steepest 65 = .ok (.iinc 5 1, 3) := op132 (bA_at bd03_dec_X7_0_57 10 rfl rfl) rfl (by decide +kernel)
theorem dX7_steepest_68 : decode cX7_steepest 68 = .ok (.goto (-36), 3) := op167 (bA_at bd03_dec_X7_0_57 11 rfl rfl) (by decide +kernel)
theorem bd03_dec_X7_0_58 : ([(0, [132, 4, 1]), (3, [167, 255, 202]), (6, [42]), (7, [180, 0, 30]), (10, [29]), (11, [46]), (12, [172])] : List (Nat × List UInt8)).all (fun x => prB x.2 ((cX7_steepest.data.toList.drop 71).drop x.1)) = true := by decide +kernel
theorem dX7_steepest_71 : decode cX7_steepest 71 = .ok (.iinc 4 1, 3) := op132 (bA_at bd03_dec_X7_0_58 0 rfl rfl) rfl (by decide +kernel)
theorem dX7_steepest_74 : decode cX7_steepest 74 = .ok (.goto (-54), 3) := op167 (bA_at bd03_dec_X7_0_58 1 rfl rfl) (by decide +kernel)
theorem dX7_steepest_77 : decode cX7_steepest 77 = .ok (.aload_n 0, 1) := op42 (bA_at bd03_dec_X7_0_58 2 rfl rfl)
theorem dX7_steepest_78 : decode cX7_steepest 78 = .ok (.getfield 30, 3) := op180 (bA_at bd03_dec_X7_0_58 3 rfl rfl) rfl
theorem dX7_steepest_81 : decode cX7_steepest 81 = .ok (.iload_n 3, 1) := op29 (bA_at bd03_dec_X7_0_58 4 rfl rfl)
theorem dX7_steepest_82 : decode cX7_steepest 82 = .ok (.iaload, 1) := op46 (bA_at bd03_dec_X7_0_58 5 rfl rfl)
theorem dX7_steepest_83 : decode cX7_steepest 83 = .ok (.ireturn, 1) := op172 (bA_at bd03_dec_X7_0_58 6 rfl rfl)
theorem bd03_dec_X7_0_59 : ([(0, [17, 3, 232]), (3, [62]), (4, [3]), (5, [54, 4]), (7, [21, 4]), (9, [43]), (10, [180, 0, 42]), (13, [162, 0, 48]), (16, [43]), (17, [21, 4]), (19, [28]), (20, [182, 0, 48])] : List (Nat × List UInt8)).all (fun x => prB x.2 ((cX7_leastFall.data.toList.drop 0).drop x.1)) = true := by decide +kernel
theorem dX7_leastFall_0 : decode cX7_leastFall 0 = .ok (.sipush 1000, 3) := op17 (bA_at bd03_dec_X7_0_59 0 rfl rfl) (by decide +kernel)
theorem dX7_leastFall_3 : decode cX7_leastFall 3 = .ok (.istore_n 3, 1) := op62 (bA_at bd03_dec_X7_0_59 1 rfl rfl)
theorem dX7_leastFall_4 : decode cX7_leastFall 4 = .ok (.iconst 0, 1) := op3 (bA_at bd03_dec_X7_0_59 2 rfl rfl)
theorem dX7_leastFall_5 : decode cX7_leastFall 5 = .ok (.istore 4, 2) := op54 (bA_at bd03_dec_X7_0_59 3 rfl rfl) rfl
theorem dX7_leastFall_7 : decode cX7_leastFall 7 = .ok (.iload 4, 2) := op21 (bA_at bd03_dec_X7_0_59 4 rfl rfl) rfl
theorem dX7_leastFall_9 : decode cX7_leastFall 9 = .ok (.aload_n 1, 1) := op43 (bA_at bd03_dec_X7_0_59 5 rfl rfl)
theorem dX7_leastFall_10 : decode cX7_leastFall 10 = .ok (.getfield 42, 3) := op180 (bA_at bd03_dec_X7_0_59 6 rfl rfl) rfl
theorem dX7_leastFall_13 : decode cX7_leastFall 13 = .ok (.if_icmp .ge 48, 3) := op162 (bA_at bd03_dec_X7_0_59 7 rfl rfl) (by decide +kernel)
theorem dX7_leastFall_16 : decode cX7_leastFall 16 = .ok (.aload_n 1, 1) := op43 (bA_at bd03_dec_X7_0_59 8 rfl rfl)
theorem dX7_leastFall_17 : decode cX7_leastFall 17 = .ok (.iload 4, 2) := op21 (bA_at bd03_dec_X7_0_59 9 rfl rfl) rfl
theorem dX7_leastFall_19 : decode cX7_leastFall 19 = .ok (.iload_n 2, 1) := op28 (bA_at bd03_dec_X7_0_59 10 rfl rfl)
theorem dX7_leastFall_20 : decode cX7_leastFall 20 = .ok (.invokevirtual 48, 3) := op182 (bA_at bd03_dec_X7_0_59 11 rfl rfl) rfl
theorem bd03_dec_X7_0_60 : ([(0, [153, 0, 32]), (3, [29]), (4, [42]), (5, [180, 0, 30]), (8, [21, 4]), (10, [46]), (11, [43]), (12, [180, 0, 120]), (15, [21, 4]), (17, [46]), (18, [43]), (19, [180, 0, 120])] : List (Nat × List UInt8)).all (fun x => prB x.2 ((cX7_leastFall.data.toList.drop 23).drop x.1)) = true := by decide +kernel
theorem dX7_leastFall_23 : decode cX7_leastFall 23 = .ok (.ifCond .eq 32, 3) := op153 (bA_at bd03_dec_X7_0_60 0 rfl rfl) (by decide +kernel)
theorem dX7_leastFall_26 : decode cX7_leastFall 26 = .ok (.iload_n 3, 1) := op29 (bA_at bd03_dec_X7_0_60 1 rfl rfl)
theorem dX7_leastFall_27 : decode cX7_leastFall 27 = .ok (.aload_n 0, 1) := op42 (bA_at bd03_dec_X7_0_60 2 rfl rfl)
theorem dX7_leastFall_28 : decode cX7_leastFall 28 = .ok (.getfield 30, 3) := op180 (bA_at bd03_dec_X7_0_60 3 rfl rfl) rfl
theorem dX7_leastFall_31 : decode cX7_leastFall 31 = .ok (.iload 4, 2) := op21 (bA_at bd03_dec_X7_0_60 4 rfl rfl) rfl
theorem dX7_leastFall_33 : decode cX7_leastFall 33 = .ok (.iaload, 1) := op46 (bA_at bd03_dec_X7_0_60 5 rfl rfl)
theorem dX7_leastFall_34 : decode cX7_leastFall 34 = .ok (.aload_n 1, 1) := op43 (bA_at bd03_dec_X7_0_60 6 rfl rfl)
theorem dX7_leastFall_35 : decode cX7_leastFall 35 = .ok (.getfield 120, 3) := op180 (bA_at bd03_dec_X7_0_60 7 rfl rfl) rfl
theorem dX7_leastFall_38 : decode cX7_leastFall 38 = .ok (.iload 4, 2) := op21 (bA_at bd03_dec_X7_0_60 8 rfl rfl) rfl
theorem dX7_leastFall_40 : decode cX7_leastFall 40 = .ok (.iaload, 1) := op46 (bA_at bd03_dec_X7_0_60 9 rfl rfl)
theorem dX7_leastFall_41 : decode cX7_leastFall 41 = .ok (.aload_n 1, 1) := op43 (bA_at bd03_dec_X7_0_60 10 rfl rfl)
theorem dX7_leastFall_42 : decode cX7_leastFall 42 = .ok (.getfield 120, 3) := op180 (bA_at bd03_dec_X7_0_60 11 rfl rfl) rfl
theorem bd03_dec_X7_0_61 : ([(0, [28]), (1, [46]), (2, [100]), (3, [184, 0, 76]), (6, [184, 0, 117]), (9, [62]), (10, [132, 4, 1]), (13, [167, 255, 205]), (16, [29]), (17, [172])] : List (Nat × List UInt8)).all (fun x => prB x.2 ((cX7_leastFall.data.toList.drop 45).drop x.1)) = true := by decide +kernel
theorem dX7_leastFall_45 : decode cX7_leastFall 45 = .ok (.iload_n 2, 1) := op28 (bA_at bd03_dec_X7_0_61 0 rfl rfl)
theorem dX7_leastFall_46 : decode cX7_leastFall 46 = .ok (.iaload, 1) := op46 (bA_at bd03_dec_X7_0_61 1 rfl rfl)
theorem dX7_leastFall_47 : decode cX7_leastFall 47 = .ok (.isub, 1) := op100 (bA_at bd03_dec_X7_0_61 2 rfl rfl)
theorem dX7_leastFall_48 : decode cX7_leastFall 48 = .ok (.invokestatic 76, 3) := op184 (bA_at bd03_dec_X7_0_61 3 rfl rfl) rfl
theorem dX7_leastFall_51 : decode cX7_leastFall 51 = .ok (.invokestatic 117, 3) := op184 (bA_at bd03_dec_X7_0_61 4 rfl rfl) rfl
theorem dX7_leastFall_54 : decode cX7_leastFall 54 = .ok (.istore_n 3, 1) := op62 (bA_at bd03_dec_X7_0_61 5 rfl rfl)
theorem dX7_leastFall_55 : decode cX7_leastFall 55 = .ok (.iinc 4 1, 3) := op132 (bA_at bd03_dec_X7_0_61 6 rfl rfl) rfl (by decide +kernel)
theorem dX7_leastFall_58 : decode cX7_leastFall 58 = .ok (.goto (-51), 3) := op167 (bA_at bd03_dec_X7_0_61 7 rfl rfl) (by decide +kernel)
theorem dX7_leastFall_61 : decode cX7_leastFall 61 = .ok (.iload_n 3, 1) := op29 (bA_at bd03_dec_X7_0_61 8 rfl rfl)
theorem dX7_leastFall_62 : decode cX7_leastFall 62 = .ok (.ireturn, 1) := op172 (bA_at bd03_dec_X7_0_61 9 rfl rfl)
theorem bd03_dec_X7_0_62 : ([(0, [3]), (1, [61]), (2, [3]), (3, [62]), (4, [29]), (5, [43]), (6, [180, 0, 42]), (9, [162, 0, 45]), (12, [42]), (13, [43]), (14, [29]), (15, [182, 0, 123])] : List (Nat × List UInt8)).all (fun x => prB x.2 ((cX7_depth.data.toList.drop 0).drop x.1)) = true := by decide +kernel
theorem dX7_depth_0 : decode cX7_depth 0 = .ok (.iconst 0, 1) := op3 (bA_at bd03_dec_X7_0_62 0 rfl rfl)
theorem dX7_depth_1 : decode cX7_depth 1 = .ok (.istore_n 2, 1) := op61 (bA_at bd03_dec_X7_0_62 1 rfl rfl)
theorem dX7_depth_2 : decode cX7_depth 2 = .ok (.iconst 0, 1) := op3 (bA_at bd03_dec_X7_0_62 2 rfl rfl)
theorem dX7_depth_3 : decode cX7_depth 3 = .ok (.istore_n 3, 1) := op62 (bA_at bd03_dec_X7_0_62 3 rfl rfl)
theorem dX7_depth_4 : decode cX7_depth 4 = .ok (.iload_n 3, 1) := op29 (bA_at bd03_dec_X7_0_62 4 rfl rfl)
theorem dX7_depth_5 : decode cX7_depth 5 = .ok (.aload_n 1, 1) := op43 (bA_at bd03_dec_X7_0_62 5 rfl rfl)
theorem dX7_depth_6 : decode cX7_depth 6 = .ok (.getfield 42, 3) := op180 (bA_at bd03_dec_X7_0_62 6 rfl rfl) rfl
theorem dX7_depth_9 : decode cX7_depth 9 = .ok (.if_icmp .ge 45, 3) := op162 (bA_at bd03_dec_X7_0_62 7 rfl rfl) (by decide +kernel)
theorem dX7_depth_12 : decode cX7_depth 12 = .ok (.aload_n 0, 1) := op42 (bA_at bd03_dec_X7_0_62 8 rfl rfl)
theorem dX7_depth_13 : decode cX7_depth 13 = .ok (.aload_n 1, 1) := op43 (bA_at bd03_dec_X7_0_62 9 rfl rfl)
theorem dX7_depth_14 : decode cX7_depth 14 = .ok (.iload_n 3, 1) := op29 (bA_at bd03_dec_X7_0_62 10 rfl rfl)
theorem dX7_depth_15 : decode cX7_depth 15 = .ok (.invokevirtual 123, 3) := op182 (bA_at bd03_dec_X7_0_62 11 rfl rfl) rfl
theorem bd03_dec_X7_0_63 : ([(0, [3]), (1, [54, 4]), (3, [21, 4]), (5, [43]), (6, [180, 0, 42]), (9, [162, 0, 21]), (12, [28]), (13, [42]), (14, [180, 0, 21]), (17, [21, 4]), (19, [46]), (20, [184, 0, 76])] : List (Nat × List UInt8)).all (fun x => prB x.2 ((cX7_depth.data.toList.drop 18).drop x.1)) = true := by decide +kernel
theorem dX7_depth_18 : decode cX7_depth 18 = .ok (.iconst 0, 1) := op3 (bA_at bd03_dec_X7_0_63 0 rfl rfl)
theorem dX7_depth_19 : decode cX7_depth 19 = .ok (.istore 4, 2) := op54 (bA_at bd03_dec_X7_0_63 1 rfl rfl) rfl
theorem dX7_depth_21 : decode cX7_depth 21 = .ok (.iload 4, 2) := op21 (bA_at bd03_dec_X7_0_63 2 rfl rfl) rfl
theorem dX7_depth_23 : decode cX7_depth 23 = .ok (.aload_n 1, 1) := op43 (bA_at bd03_dec_X7_0_63 3 rfl rfl)
theorem dX7_depth_24 : decode cX7_depth 24 = .ok (.getfield 42, 3) := op180 (bA_at bd03_dec_X7_0_63 4 rfl rfl) rfl
theorem dX7_depth_27 : decode cX7_depth 27 = .ok (.if_icmp .ge 21, 3) := op162 (bA_at bd03_dec_X7_0_63 5 rfl rfl) (by decide +kernel)
theorem dX7_depth_30 : decode cX7_depth 30 = .ok (.iload_n 2, 1) := op28 (bA_at bd03_dec_X7_0_63 6 rfl rfl)
theorem dX7_depth_31 : decode cX7_depth 31 = .ok (.aload_n 0, 1) := op42 (bA_at bd03_dec_X7_0_63 7 rfl rfl)
theorem dX7_depth_32 : decode cX7_depth 32 = .ok (.getfield 21, 3) := op180 (bA_at bd03_dec_X7_0_63 8 rfl rfl) rfl
theorem dX7_depth_35 : decode cX7_depth 35 = .ok (.iload 4, 2) := op21 (bA_at bd03_dec_X7_0_63 9 rfl rfl) rfl
theorem dX7_depth_37 : decode cX7_depth 37 = .ok (.iaload, 1) := op46 (bA_at bd03_dec_X7_0_63 10 rfl rfl)
theorem dX7_depth_38 : decode cX7_depth 38 = .ok (.invokestatic 76, 3) := op184 (bA_at bd03_dec_X7_0_63 11 rfl rfl) rfl
theorem bd03_dec_X7_0_64 : ([(0, [61]), (1, [132, 4, 1]), (4, [167, 255, 232]), (7, [132, 3, 1]), (10, [167, 255, 209]), (13, [28]), (14, [172])] : List (Nat × List UInt8)).all (fun x => prB x.2 ((cX7_depth.data.toList.drop 41).drop x.1)) = true := by decide +kernel
theorem dX7_depth_41 : decode cX7_depth 41 = .ok (.istore_n 2, 1) := op61 (bA_at bd03_dec_X7_0_64 0 rfl rfl)
theorem dX7_depth_42 : decode cX7_depth 42 = .ok (.iinc 4 1, 3) := op132 (bA_at bd03_dec_X7_0_64 1 rfl rfl) rfl (by decide +kernel)
theorem dX7_depth_45 : decode cX7_depth 45 = .ok (.goto (-24), 3) := op167 (bA_at bd03_dec_X7_0_64 2 rfl rfl) (by decide +kernel)
theorem dX7_depth_48 : decode cX7_depth 48 = .ok (.iinc 3 1, 3) := op132 (bA_at bd03_dec_X7_0_64 3 rfl rfl) rfl (by decide +kernel)
theorem dX7_depth_51 : decode cX7_depth 51 = .ok (.goto (-47), 3) := op167 (bA_at bd03_dec_X7_0_64 4 rfl rfl) (by decide +kernel)
theorem dX7_depth_54 : decode cX7_depth 54 = .ok (.iload_n 2, 1) := op28 (bA_at bd03_dec_X7_0_64 5 rfl rfl)
theorem dX7_depth_55 : decode cX7_depth 55 = .ok (.ireturn, 1) := op172 (bA_at bd03_dec_X7_0_64 6 rfl rfl)
theorem bd03_dec_X7_0_65 : ([(0, [27]), (1, [42]), (2, [180, 0, 24]), (5, [3]), (6, [184, 0, 127]), (9, [62]), (10, [27]), (11, [42]), (12, [180, 0, 24]), (15, [4]), (16, [28]), (17, [120])] : List (Nat × List UInt8)).all (fun x => prB x.2 ((cX7_muted.data.toList.drop 0).drop x.1)) = true := by decide +kernel
theorem dX7_muted_0 : decode cX7_muted 0 = .ok (.iload_n 1, 1) := op27 (bA_at bd03_dec_X7_0_65 0 rfl rfl)
theorem dX7_muted_1 : decode cX7_muted 1 = .ok (.aload_n 0, 1) := op42 (bA_at bd03_dec_X7_0_65 1 rfl rfl)
theorem dX7_muted_2 : decode cX7_muted 2 = .ok (.getfield 24, 3) := op180 (bA_at bd03_dec_X7_0_65 2 rfl rfl) rfl
theorem dX7_muted_5 : decode cX7_muted 5 = .ok (.iconst 0, 1) := op3 (bA_at bd03_dec_X7_0_65 3 rfl rfl)
theorem dX7_muted_6 : decode cX7_muted 6 = .ok (.invokestatic 127, 3) := op184 (bA_at bd03_dec_X7_0_65 4 rfl rfl) rfl
theorem dX7_muted_9 : decode cX7_muted 9 = .ok (.istore_n 3, 1) := op62 (bA_at bd03_dec_X7_0_65 5 rfl rfl)
theorem dX7_muted_10 : decode cX7_muted 10 = .ok (.iload_n 1, 1) := op27 (bA_at bd03_dec_X7_0_65 6 rfl rfl)
theorem dX7_muted_11 : decode cX7_muted 11 = .ok (.aload_n 0, 1) := op42 (bA_at bd03_dec_X7_0_65 7 rfl rfl)
theorem dX7_muted_12 : decode cX7_muted 12 = .ok (.getfield 24, 3) := op180 (bA_at bd03_dec_X7_0_65 8 rfl rfl) rfl
theorem dX7_muted_15 : decode cX7_muted 15 = .ok (.iconst 1, 1) := op4 (bA_at bd03_dec_X7_0_65 9 rfl rfl)
theorem dX7_muted_16 : decode cX7_muted 16 = .ok (.iload_n 2, 1) := op28 (bA_at bd03_dec_X7_0_65 10 rfl rfl)
theorem dX7_muted_17 : decode cX7_muted 17 = .ok (.ishl, 1) := op120 (bA_at bd03_dec_X7_0_65 11 rfl rfl)
theorem bd03_dec_X7_0_66 : ([(0, [184, 0, 127]), (3, [54, 4]), (5, [29]), (6, [21, 4]), (8, [2]), (9, [130]), (10, [126]), (11, [4]), (12, [28]), (13, [120]), (14, [2]), (15, [130])] : List (Nat × List UInt8)).all (fun x => prB x.2 ((cX7_muted.data.toList.drop 18).drop x.1)) = true := by decide +kernel
theorem dX7_muted_18 : decode cX7_muted 18 = .ok (.invokestatic 127, 3) := op184 (bA_at bd03_dec_X7_0_66 0 rfl rfl) rfl
theorem dX7_muted_21 : decode cX7_muted 21 = .ok (.istore 4, 2) := op54 (bA_at bd03_dec_X7_0_66 1 rfl rfl) rfl
theorem dX7_muted_23 : decode cX7_muted 23 = .ok (.iload_n 3, 1) := op29 (bA_at bd03_dec_X7_0_66 2 rfl rfl)
theorem dX7_muted_24 : decode cX7_muted 24 = .ok (.iload 4, 2) := op21 (bA_at bd03_dec_X7_0_66 3 rfl rfl) rfl
theorem dX7_muted_26 : decode cX7_muted 26 = .ok (.iconst (-1), 1) := op2 (bA_at bd03_dec_X7_0_66 4 rfl rfl)
theorem dX7_muted_27 : decode cX7_muted 27 = .ok (.ixor, 1) := op130 (bA_at bd03_dec_X7_0_66 5 rfl rfl)
theorem dX7_muted_28 : decode cX7_muted 28 = .ok (.iand, 1) := op126 (bA_at bd03_dec_X7_0_66 6 rfl rfl)
theorem dX7_muted_29 : decode cX7_muted 29 = .ok (.iconst 1, 1) := op4 (bA_at bd03_dec_X7_0_66 7 rfl rfl)
theorem dX7_muted_30 : decode cX7_muted 30 = .ok (.iload_n 2, 1) := op28 (bA_at bd03_dec_X7_0_66 8 rfl rfl)
theorem dX7_muted_31 : decode cX7_muted 31 = .ok (.ishl, 1) := op120 (bA_at bd03_dec_X7_0_66 9 rfl rfl)
theorem dX7_muted_32 : decode cX7_muted 32 = .ok (.iconst (-1), 1) := op2 (bA_at bd03_dec_X7_0_66 10 rfl rfl)
theorem dX7_muted_33 : decode cX7_muted 33 = .ok (.ixor, 1) := op130 (bA_at bd03_dec_X7_0_66 11 rfl rfl)
theorem bd03_dec_X7_0_67 : ([(0, [126]), (1, [184, 0, 97]), (4, [172])] : List (Nat × List UInt8)).all (fun x => prB x.2 ((cX7_muted.data.toList.drop 34).drop x.1)) = true := by decide +kernel
theorem dX7_muted_34 : decode cX7_muted 34 = .ok (.iand, 1) := op126 (bA_at bd03_dec_X7_0_67 0 rfl rfl)
theorem dX7_muted_35 : decode cX7_muted 35 = .ok (.invokestatic 97, 3) := op184 (bA_at bd03_dec_X7_0_67 1 rfl rfl) rfl
theorem dX7_muted_38 : decode cX7_muted 38 = .ok (.ireturn, 1) := op172 (bA_at bd03_dec_X7_0_67 2 rfl rfl)
theorem bd03_dec_X7_0_68 : ([(0, [2]), (1, [62]), (2, [2]), (3, [54, 4]), (5, [3]), (6, [54, 5]), (8, [21, 5]), (10, [43]), (11, [180, 0, 42]), (14, [162, 0, 48]), (17, [21, 5]), (19, [28])] : List (Nat × List UInt8)).all (fun x => prB x.2 ((cX7_worst.data.toList.drop 0).drop x.1)) = true := by decide +kernel
theorem dX7_worst_0 : decode cX7_worst 0 = .ok (.iconst (-1), 1) := op2 (bA_at bd03_dec_X7_0_68 0 rfl rfl)
theorem dX7_worst_1 : decode cX7_worst 1 = .ok (.istore_n 3, 1) := op62 (bA_at bd03_dec_X7_0_68 1 rfl rfl)
theorem dX7_worst_2 : decode cX7_worst 2 = .ok (.iconst (-1), 1) := op2 (bA_at bd03_dec_X7_0_68 2 rfl rfl)
theorem dX7_worst_3 : decode cX7_worst 3 = .ok (.istore 4, 2) := op54 (bA_at bd03_dec_X7_0_68 3 rfl rfl) rfl
theorem dX7_worst_5 : decode cX7_worst 5 = .ok (.iconst 0, 1) := op3 (bA_at bd03_dec_X7_0_68 4 rfl rfl)
theorem dX7_worst_6 : decode cX7_worst 6 = .ok (.istore 5, 2) := op54 (bA_at bd03_dec_X7_0_68 5 rfl rfl) rfl
theorem dX7_worst_8 : decode cX7_worst 8 = .ok (.iload 5, 2) := op21 (bA_at bd03_dec_X7_0_68 6 rfl rfl) rfl
theorem dX7_worst_10 : decode cX7_worst 10 = .ok (.aload_n 1, 1) := op43 (bA_at bd03_dec_X7_0_68 7 rfl rfl)
theorem dX7_worst_11 : decode cX7_worst 11 = .ok (.getfield 42, 3) := op180 (bA_at bd03_dec_X7_0_68 8 rfl rfl) rfl
theorem dX7_worst_14 : decode cX7_worst 14 = .ok (.if_icmp .ge 48, 3) := op162 (bA_at bd03_dec_X7_0_68 9 rfl rfl) (by decide +kernel)
theorem dX7_worst_17 : decode cX7_worst 17 = .ok (.iload 5, 2) := op21 (bA_at bd03_dec_X7_0_68 10 rfl rfl) rfl
theorem dX7_worst_19 : decode cX7_worst 19 = .ok (.iload_n 2, 1) := op28 (bA_at bd03_dec_X7_0_68 11 rfl rfl)
theorem bd03_dec_X7_0_69 : ([(0, [159, 0, 36]), (3, [43]), (4, [21, 5]), (6, [182, 0, 55]), (9, [154, 0, 27]), (12, [42]), (13, [28]), (14, [21, 5]), (16, [182, 0, 131]), (19, [21, 4]), (21, [164, 0, 15]), (24, [21, 5])] : List (Nat × List UInt8)).all (fun x => prB x.2 ((cX7_worst.data.toList.drop 20).drop x.1)) = true := by decide +kernel
theorem dX7_worst_20 : decode cX7_worst 20 = .ok (.if_icmp .eq 36, 3) := op159 (bA_at bd03_dec_X7_0_69 0 rfl rfl) (by decide +kernel)
theorem dX7_worst_23 : decode cX7_worst 23 = .ok (.aload_n 1, 1) := op43 (bA_at bd03_dec_X7_0_69 1 rfl rfl)
theorem dX7_worst_24 : decode cX7_worst 24 = .ok (.iload 5, 2) := op21 (bA_at bd03_dec_X7_0_69 2 rfl rfl) rfl
theorem dX7_worst_26 : decode cX7_worst 26 = .ok (.invokevirtual 55, 3) := op182 (bA_at bd03_dec_X7_0_69 3 rfl rfl) rfl
theorem dX7_worst_29 : decode cX7_worst 29 = .ok (.ifCond .ne 27, 3) := op154 (bA_at bd03_dec_X7_0_69 4 rfl rfl) (by decide +kernel)
theorem dX7_worst_32 : decode cX7_worst 32 = .ok (.aload_n 0, 1) := op42 (bA_at bd03_dec_X7_0_69 5 rfl rfl)
theorem dX7_worst_33 : decode cX7_worst 33 = .ok (.iload_n 2, 1) := op28 (bA_at bd03_dec_X7_0_69 6 rfl rfl)
theorem dX7_worst_34 : decode cX7_worst 34 = .ok (.iload 5, 2) := op21 (bA_at bd03_dec_X7_0_69 7 rfl rfl) rfl
theorem dX7_worst_36 : decode cX7_worst 36 = .ok (.invokevirtual 131, 3) := op182 (bA_at bd03_dec_X7_0_69 8 rfl rfl) rfl
theorem dX7_worst_39 : decode cX7_worst 39 = .ok (.iload 4, 2) := op21 (bA_at bd03_dec_X7_0_69 9 rfl rfl) rfl
theorem dX7_worst_41 : decode cX7_worst 41 = .ok (.if_icmp .le 15, 3) := op164 (bA_at bd03_dec_X7_0_69 10 rfl rfl) (by decide +kernel)
theorem dX7_worst_44 : decode cX7_worst 44 = .ok (.iload 5, 2) := op21 (bA_at bd03_dec_X7_0_69 11 rfl rfl) rfl
theorem bd03_dec_X7_0_70 : ([(0, [62]), (1, [42]), (2, [28]), (3, [21, 5]), (5, [182, 0, 131]), (8, [54, 4]), (10, [132, 5, 1]), (13, [167, 255, 205]), (16, [29]), (17, [172])] : List (Nat × List UInt8)).all (fun x => prB x.2 ((cX7_worst.data.toList.drop 46).drop x.1)) = true := by decide +kernel
theorem dX7_worst_46 : decode cX7_worst 46 = .ok (.istore_n 3, 1) := op62 (bA_at bd03_dec_X7_0_70 0 rfl rfl)
theorem dX7_worst_47 : decode cX7_worst 47 = .ok (.aload_n 0, 1) := op42 (bA_at bd03_dec_X7_0_70 1 rfl rfl)
theorem dX7_worst_48 : decode cX7_worst 48 = .ok (.iload_n 2, 1) := op28 (bA_at bd03_dec_X7_0_70 2 rfl rfl)
theorem dX7_worst_49 : decode cX7_worst 49 = .ok (.iload 5, 2) := op21 (bA_at bd03_dec_X7_0_70 3 rfl rfl) rfl
theorem dX7_worst_51 : decode cX7_worst 51 = .ok (.invokevirtual 131, 3) := op182 (bA_at bd03_dec_X7_0_70 4 rfl rfl) rfl
theorem dX7_worst_54 : decode cX7_worst 54 = .ok (.istore 4, 2) := op54 (bA_at bd03_dec_X7_0_70 5 rfl rfl) rfl
theorem dX7_worst_56 : decode cX7_worst 56 = .ok (.iinc 5 1, 3) := op132 (bA_at bd03_dec_X7_0_70 6 rfl rfl) rfl (by decide +kernel)
theorem dX7_worst_59 : decode cX7_worst 59 = .ok (.goto (-51), 3) := op167 (bA_at bd03_dec_X7_0_70 7 rfl rfl) (by decide +kernel)
theorem dX7_worst_62 : decode cX7_worst 62 = .ok (.iload_n 3, 1) := op29 (bA_at bd03_dec_X7_0_70 8 rfl rfl)
theorem dX7_worst_63 : decode cX7_worst 63 = .ok (.ireturn, 1) := op172 (bA_at bd03_dec_X7_0_70 9 rfl rfl)
theorem bd03_dec_X7_0_71 : ([(0, [3]), (1, [62]), (2, [3]), (3, [54, 4]), (5, [21, 4]), (7, [43]), (8, [180, 0, 42]), (11, [162, 0, 35]), (14, [43]), (15, [21, 4]), (17, [182, 0, 55]), (20, [154, 0, 20])] : List (Nat × List UInt8)).all (fun x => prB x.2 ((cX7_fitting.data.toList.drop 0).drop x.1)) = true := by decide +kernel
theorem dX7_fitting_0 : decode cX7_fitting 0 = .ok (.iconst 0, 1) := op3 (bA_at bd03_dec_X7_0_71 0 rfl rfl)
theorem dX7_fitting_1 : decode cX7_fitting 1 = .ok (.istore_n 3, 1) := op62 (bA_at bd03_dec_X7_0_71 1 rfl rfl)
theorem dX7_fitting_2 : decode cX7_fitting 2 = .ok (.iconst 0, 1) := op3 (bA_at bd03_dec_X7_0_71 2 rfl rfl)
theorem dX7_fitting_3 : decode cX7_fitting 3 = .ok (.istore 4, 2) := op54 (bA_at bd03_dec_X7_0_71 3 rfl rfl) rfl
theorem dX7_fitting_5 : decode cX7_fitting 5 = .ok (.iload 4, 2) := op21 (bA_at bd03_dec_X7_0_71 4 rfl rfl) rfl
theorem dX7_fitting_7 : decode cX7_fitting 7 = .ok (.aload_n 1, 1) := op43 (bA_at bd03_dec_X7_0_71 5 rfl rfl)
theorem dX7_fitting_8 : decode cX7_fitting 8 = .ok (.getfield 42, 3) := op180 (bA_at bd03_dec_X7_0_71 6 rfl rfl) rfl
theorem dX7_fitting_11 : decode cX7_fitting 11 = .ok (.if_icmp .ge 35, 3) := op162 (bA_at bd03_dec_X7_0_71 7 rfl rfl) (by decide +kernel)
theorem dX7_fitting_14 : decode cX7_fitting 14 = .ok (.aload_n 1, 1) := op43 (bA_at bd03_dec_X7_0_71 8 rfl rfl)
theorem dX7_fitting_15 : decode cX7_fitting 15 = .ok (.iload 4, 2) := op21 (bA_at bd03_dec_X7_0_71 9 rfl rfl) rfl
theorem dX7_fitting_17 : decode cX7_fitting 17 = .ok (.invokevirtual 55, 3) := op182 (bA_at bd03_dec_X7_0_71 10 rfl rfl) rfl
theorem dX7_fitting_20 : decode cX7_fitting 20 = .ok (.ifCond .ne 20, 3) := op154 (bA_at bd03_dec_X7_0_71 11 rfl rfl) (by decide +kernel)
theorem bd03_dec_X7_0_72 : ([(0, [42]), (1, [44]), (2, [21, 4]), (4, [182, 0, 134]), (7, [153, 0, 10]), (10, [29]), (11, [4]), (12, [21, 4]), (14, [120]), (15, [128]), (16, [62]), (17, [132, 4, 1])] : List (Nat × List UInt8)).all (fun x => prB x.2 ((cX7_fitting.data.toList.drop 23).drop x.1)) = true := by decide +kernel
theorem dX7_fitting_23 : decode cX7_fitting 23 = .ok (.aload_n 0, 1) := op42 (bA_at bd03_dec_X7_0_72 0 rfl rfl)
theorem dX7_fitting_24 : decode cX7_fitting 24 = .ok (.aload_n 2, 1) := op44 (bA_at bd03_dec_X7_0_72 1 rfl rfl)
theorem dX7_fitting_25 : decode cX7_fitting 25 = .ok (.iload 4, 2) := op21 (bA_at bd03_dec_X7_0_72 2 rfl rfl) rfl
theorem dX7_fitting_27 : decode cX7_fitting 27 = .ok (.invokevirtual 134, 3) := op182 (bA_at bd03_dec_X7_0_72 3 rfl rfl) rfl
theorem dX7_fitting_30 : decode cX7_fitting 30 = .ok (.ifCond .eq 10, 3) := op153 (bA_at bd03_dec_X7_0_72 4 rfl rfl) (by decide +kernel)
theorem dX7_fitting_33 : decode cX7_fitting 33 = .ok (.iload_n 3, 1) := op29 (bA_at bd03_dec_X7_0_72 5 rfl rfl)
theorem dX7_fitting_34 : decode cX7_fitting 34 = .ok (.iconst 1, 1) := op4 (bA_at bd03_dec_X7_0_72 6 rfl rfl)
theorem dX7_fitting_35 : decode cX7_fitting 35 = .ok (.iload 4, 2) := op21 (bA_at bd03_dec_X7_0_72 7 rfl rfl) rfl
theorem dX7_fitting_37 : decode cX7_fitting 37 = .ok (.ishl, 1) := op120 (bA_at bd03_dec_X7_0_72 8 rfl rfl)
theorem dX7_fitting_38 : decode cX7_fitting 38 = .ok (.ior, 1) := op128 (bA_at bd03_dec_X7_0_72 9 rfl rfl)
theorem dX7_fitting_39 : decode cX7_fitting 39 = .ok (.istore_n 3, 1) := op62 (bA_at bd03_dec_X7_0_72 10 rfl rfl)
theorem dX7_fitting_40 : decode cX7_fitting 40 = .ok (.iinc 4 1, 3) := op132 (bA_at bd03_dec_X7_0_72 11 rfl rfl) rfl (by decide +kernel)
theorem bd03_dec_X7_0_73 : ([(0, [167, 255, 218]), (3, [29]), (4, [172])] : List (Nat × List UInt8)).all (fun x => prB x.2 ((cX7_fitting.data.toList.drop 43).drop x.1)) = true := by decide +kernel
theorem dX7_fitting_43 : decode cX7_fitting 43 = .ok (.goto (-38), 3) := op167 (bA_at bd03_dec_X7_0_73 0 rfl rfl) (by decide +kernel)
theorem dX7_fitting_46 : decode cX7_fitting 46 = .ok (.iload_n 3, 1) := op29 (bA_at bd03_dec_X7_0_73 1 rfl rfl)
theorem dX7_fitting_47 : decode cX7_fitting 47 = .ok (.ireturn, 1) := op172 (bA_at bd03_dec_X7_0_73 2 rfl rfl)
theorem bd03_dec_X7_0_74 : ([(0, [3]), (1, [62]), (2, [29]), (3, [43]), (4, [180, 0, 138]), (7, [162, 0, 63]), (10, [42]), (11, [180, 0, 9]), (14, [28]), (15, [16, 9]), (17, [104]), (18, [43])] : List (Nat × List UInt8)).all (fun x => prB x.2 ((cX7_agrees.data.toList.drop 0).drop x.1)) = true := by decide +kernel
theorem dX7_agrees_0 : decode cX7_agrees 0 = .ok (.iconst 0, 1) := op3 (bA_at bd03_dec_X7_0_74 0 rfl rfl)
theorem dX7_agrees_1 : decode cX7_agrees 1 = .ok (.istore_n 3, 1) := op62 (bA_at bd03_dec_X7_0_74 1 rfl rfl)
theorem dX7_agrees_2 : decode cX7_agrees 2 = .ok (.iload_n 3, 1) := op29 (bA_at bd03_dec_X7_0_74 2 rfl rfl)
theorem dX7_agrees_3 : decode cX7_agrees 3 = .ok (.aload_n 1, 1) := op43 (bA_at bd03_dec_X7_0_74 3 rfl rfl)
theorem dX7_agrees_4 : decode cX7_agrees 4 = .ok (.getfield 138, 3) := op180 (bA_at bd03_dec_X7_0_74 4 rfl rfl) rfl
theorem dX7_agrees_7 : decode cX7_agrees 7 = .ok (.if_icmp .ge 63, 3) := op162 (bA_at bd03_dec_X7_0_74 5 rfl rfl) (by decide +kernel)
theorem dX7_agrees_10 : decode cX7_agrees 10 = .ok (.aload_n 0, 1) := op42 (bA_at bd03_dec_X7_0_74 6 rfl rfl)
theorem dX7_agrees_11 : decode cX7_agrees 11 = .ok (.getfield 9, 3) := op180 (bA_at bd03_dec_X7_0_74 7 rfl rfl) rfl
theorem dX7_agrees_14 : decode cX7_agrees 14 = .ok (.iload_n 2, 1) := op28 (bA_at bd03_dec_X7_0_74 8 rfl rfl)
theorem dX7_agrees_15 : decode cX7_agrees 15 = .ok (.bipush 9, 2) := op16 (bA_at bd03_dec_X7_0_74 9 rfl rfl) (by decide +kernel)
theorem dX7_agrees_17 : decode cX7_agrees 17 = .ok (.imul, 1) := op104 (bA_at bd03_dec_X7_0_74 10 rfl rfl)
theorem dX7_agrees_18 : decode cX7_agrees 18 = .ok (.aload_n 1, 1) := op43 (bA_at bd03_dec_X7_0_74 11 rfl rfl)
theorem bd03_dec_X7_0_75 : ([(0, [180, 0, 143]), (3, [29]), (4, [46]), (5, [96]), (6, [46]), (7, [43]), (8, [180, 0, 145]), (11, [29]), (12, [46]), (13, [163, 0, 7]), (16, [4]), (17, [167, 0, 4])] : List (Nat × List UInt8)).all (fun x => prB x.2 ((cX7_agrees.data.toList.drop 19).drop x.1)) = true := by decide +kernel
theorem dX7_agrees_19 : decode cX7_agrees 19 = .ok (.getfield 143, 3) := op180 (bA_at bd03_dec_X7_0_75 0 rfl rfl) rfl
theorem dX7_agrees_22 : decode cX7_agrees 22 = .ok (.iload_n 3, 1) := op29 (bA_at bd03_dec_X7_0_75 1 rfl rfl)
theorem dX7_agrees_23 : decode cX7_agrees 23 = .ok (.iaload, 1) := op46 (bA_at bd03_dec_X7_0_75 2 rfl rfl)
theorem dX7_agrees_24 : decode cX7_agrees 24 = .ok (.iadd, 1) := op96 (bA_at bd03_dec_X7_0_75 3 rfl rfl)
theorem dX7_agrees_25 : decode cX7_agrees 25 = .ok (.iaload, 1) := op46 (bA_at bd03_dec_X7_0_75 4 rfl rfl)
theorem dX7_agrees_26 : decode cX7_agrees 26 = .ok (.aload_n 1, 1) := op43 (bA_at bd03_dec_X7_0_75 5 rfl rfl)
theorem dX7_agrees_27 : decode cX7_agrees 27 = .ok (.getfield 145, 3) := op180 (bA_at bd03_dec_X7_0_75 6 rfl rfl) rfl
theorem dX7_agrees_30 : decode cX7_agrees 30 = .ok (.iload_n 3, 1) := op29 (bA_at bd03_dec_X7_0_75 7 rfl rfl)
theorem dX7_agrees_31 : decode cX7_agrees 31 = .ok (.iaload, 1) := op46 (bA_at bd03_dec_X7_0_75 8 rfl rfl)
theorem dX7_agrees_32 : decode cX7_agrees 32 = .ok (.if_icmp .gt 7, 3) := op163 (bA_at bd03_dec_X7_0_75 9 rfl rfl) (by decide +kernel)
theorem dX7_agrees_35 : decode cX7_agrees 35 = .ok (.iconst 1, 1) := op4 (bA_at bd03_dec_X7_0_75 10 rfl rfl)
theorem dX7_agrees_36 : decode cX7_agrees 36 = .ok (.goto 4, 3) := op167 (bA_at bd03_dec_X7_0_75 11 rfl rfl) (by decide +kernel)
theorem bd03_dec_X7_0_76 : ([(0, [3]), (1, [54, 4]), (3, [21, 4]), (5, [43]), (6, [180, 0, 146]), (9, [29]), (10, [46]), (11, [4]), (12, [160, 0, 7]), (15, [4]), (16, [167, 0, 4]), (19, [3])] : List (Nat × List UInt8)).all (fun x => prB x.2 ((cX7_agrees.data.toList.drop 39).drop x.1)) = true := by decide +kernel
theorem dX7_agrees_39 : decode cX7_agrees 39 = .ok (.iconst 0, 1) := op3 (bA_at bd03_dec_X7_0_76 0 rfl rfl)
theorem dX7_agrees_40 : decode cX7_agrees 40 = .ok (.istore 4, 2) := op54 (bA_at bd03_dec_X7_0_76 1 rfl rfl) rfl
theorem dX7_agrees_42 : decode cX7_agrees 42 = .ok (.iload 4, 2) := op21 (bA_at bd03_dec_X7_0_76 2 rfl rfl) rfl
theorem dX7_agrees_44 : decode cX7_agrees 44 = .ok (.aload_n 1, 1) := op43 (bA_at bd03_dec_X7_0_76 3 rfl rfl)
theorem dX7_agrees_45 : decode cX7_agrees 45 = .ok (.getfield 146, 3) := op180 (bA_at bd03_dec_X7_0_76 4 rfl rfl) rfl
theorem dX7_agrees_48 : decode cX7_agrees 48 = .ok (.iload_n 3, 1) := op29 (bA_at bd03_dec_X7_0_76 5 rfl rfl)
theorem dX7_agrees_49 : decode cX7_agrees 49 = .ok (.iaload, 1) := op46 (bA_at bd03_dec_X7_0_76 6 rfl rfl)
theorem dX7_agrees_50 : decode cX7_agrees 50 = .ok (.iconst 1, 1) := op4 (bA_at bd03_dec_X7_0_76 7 rfl rfl)
theorem dX7_agrees_51 : decode cX7_agrees 51 = .ok (.if_icmp .ne 7, 3) := op160 (bA_at bd03_dec_X7_0_76 8 rfl rfl) (by decide +kernel)
theorem dX7_agrees_54 : decode cX7_agrees 54 = .ok (.iconst 1, 1) := op4 (bA_at bd03_dec_X7_0_76 9 rfl rfl)
theorem dX7_agrees_55 : decode cX7_agrees 55 = .ok (.goto 4, 3) := op167 (bA_at bd03_dec_X7_0_76 10 rfl rfl) (by decide +kernel)
theorem dX7_agrees_58 : decode cX7_agrees 58 = .ok (.iconst 0, 1) := op3 (bA_at bd03_dec_X7_0_76 11 rfl rfl)
theorem bd03_dec_X7_0_77 : ([(0, [159, 0, 5]), (3, [3]), (4, [172]), (5, [132, 3, 1]), (8, [167, 255, 191]), (11, [4]), (12, [172])] : List (Nat × List UInt8)).all (fun x => prB x.2 ((cX7_agrees.data.toList.drop 59).drop x.1)) = true := by decide +kernel
theorem dX7_agrees_59 : decode cX7_agrees 59 = .ok (.if_icmp .eq 5, 3) := op159 (bA_at bd03_dec_X7_0_77 0 rfl rfl) (by decide +kernel)
theorem dX7_agrees_62 : decode cX7_agrees 62 = .ok (.iconst 0, 1) := op3 (bA_at bd03_dec_X7_0_77 1 rfl rfl)
theorem dX7_agrees_63 : decode cX7_agrees 63 = .ok (.ireturn, 1) := op172 (bA_at bd03_dec_X7_0_77 2 rfl rfl)
theorem dX7_agrees_64 : decode cX7_agrees 64 = .ok (.iinc 3 1, 3) := op132 (bA_at bd03_dec_X7_0_77 3 rfl rfl) rfl (by decide +kernel)
theorem dX7_agrees_67 : decode cX7_agrees 67 = .ok (.goto (-65), 3) := op167 (bA_at bd03_dec_X7_0_77 4 rfl rfl) (by decide +kernel)
theorem dX7_agrees_70 : decode cX7_agrees 70 = .ok (.iconst 1, 1) := op4 (bA_at bd03_dec_X7_0_77 5 rfl rfl)
theorem dX7_agrees_71 : decode cX7_agrees 71 = .ok (.ireturn, 1) := op172 (bA_at bd03_dec_X7_0_77 6 rfl rfl)
theorem bd03_dec_X7_0_78 : ([(0, [28]), (1, [154, 0, 5]), (4, [2]), (5, [172]), (6, [2]), (7, [62]), (8, [17, 3, 232]), (11, [54, 4]), (13, [3]), (14, [54, 5]), (16, [21, 5]), (18, [16, 60])] : List (Nat × List UInt8)).all (fun x => prB x.2 ((cX7_question.data.toList.drop 0).drop x.1)) = true := by decide +kernel
theorem dX7_question_0 : decode cX7_question 0 = .ok (.iload_n 2, 1) := op28 (bA_at bd03_dec_X7_0_78 0 rfl rfl)
theorem dX7_question_1 : decode cX7_question 1 = .ok (.ifCond .ne 5, 3) := op154 (bA_at bd03_dec_X7_0_78 1 rfl rfl) (by decide +kernel)
theorem dX7_question_4 : decode cX7_question 4 = .ok (.iconst (-1), 1) := op2 (bA_at bd03_dec_X7_0_78 2 rfl rfl)
theorem dX7_question_5 : decode cX7_question 5 = .ok (.ireturn, 1) := op172 (bA_at bd03_dec_X7_0_78 3 rfl rfl)
theorem dX7_question_6 : decode cX7_question 6 = .ok (.iconst (-1), 1) := op2 (bA_at bd03_dec_X7_0_78 4 rfl rfl)
theorem dX7_question_7 : decode cX7_question 7 = .ok (.istore_n 3, 1) := op62 (bA_at bd03_dec_X7_0_78 5 rfl rfl)
theorem dX7_question_8 : decode cX7_question 8 = .ok (.sipush 1000, 3) := op17 (bA_at bd03_dec_X7_0_78 6 rfl rfl) (by decide +kernel)
theorem dX7_question_11 : decode cX7_question 11 = .ok (.istore 4, 2) := op54 (bA_at bd03_dec_X7_0_78 7 rfl rfl) rfl
theorem dX7_question_13 : decode cX7_question 13 = .ok (.iconst 0, 1) := op3 (bA_at bd03_dec_X7_0_78 8 rfl rfl)
theorem dX7_question_14 : decode cX7_question 14 = .ok (.istore 5, 2) := op54 (bA_at bd03_dec_X7_0_78 9 rfl rfl) rfl
theorem dX7_question_16 : decode cX7_question 16 = .ok (.iload 5, 2) := op21 (bA_at bd03_dec_X7_0_78 10 rfl rfl) rfl
theorem dX7_question_18 : decode cX7_question 18 = .ok (.bipush 60, 2) := op16 (bA_at bd03_dec_X7_0_78 11 rfl rfl) (by decide +kernel)
theorem bd03_dec_X7_0_79 : ([(0, [163, 0, 59]), (3, [3]), (4, [54, 6]), (6, [21, 6]), (8, [43]), (9, [180, 0, 42]), (12, [162, 0, 41]), (15, [42]), (16, [43]), (17, [28]), (18, [21, 6]), (20, [21, 5])] : List (Nat × List UInt8)).all (fun x => prB x.2 ((cX7_question.data.toList.drop 20).drop x.1)) = true := by decide +kernel
theorem dX7_question_20 : decode cX7_question 20 = .ok (.if_icmp .gt 59, 3) := op163 (bA_at bd03_dec_X7_0_79 0 rfl rfl) (by decide +kernel)
theorem dX7_question_23 : decode cX7_question 23 = .ok (.iconst 0, 1) := op3 (bA_at bd03_dec_X7_0_79 1 rfl rfl)
theorem dX7_question_24 : decode cX7_question 24 = .ok (.istore 6, 2) := op54 (bA_at bd03_dec_X7_0_79 2 rfl rfl) rfl
theorem dX7_question_26 : decode cX7_question 26 = .ok (.iload 6, 2) := op21 (bA_at bd03_dec_X7_0_79 3 rfl rfl) rfl
theorem dX7_question_28 : decode cX7_question 28 = .ok (.aload_n 1, 1) := op43 (bA_at bd03_dec_X7_0_79 4 rfl rfl)
theorem dX7_question_29 : decode cX7_question 29 = .ok (.getfield 42, 3) := op180 (bA_at bd03_dec_X7_0_79 5 rfl rfl) rfl
theorem dX7_question_32 : decode cX7_question 32 = .ok (.if_icmp .ge 41, 3) := op162 (bA_at bd03_dec_X7_0_79 6 rfl rfl) (by decide +kernel)
theorem dX7_question_35 : decode cX7_question 35 = .ok (.aload_n 0, 1) := op42 (bA_at bd03_dec_X7_0_79 7 rfl rfl)
theorem dX7_question_36 : decode cX7_question 36 = .ok (.aload_n 1, 1) := op43 (bA_at bd03_dec_X7_0_79 8 rfl rfl)
theorem dX7_question_37 : decode cX7_question 37 = .ok (.iload_n 2, 1) := op28 (bA_at bd03_dec_X7_0_79 9 rfl rfl)
theorem dX7_question_38 : decode cX7_question 38 = .ok (.iload 6, 2) := op21 (bA_at bd03_dec_X7_0_79 10 rfl rfl) rfl
theorem dX7_question_40 : decode cX7_question 40 = .ok (.iload 5, 2) := op21 (bA_at bd03_dec_X7_0_79 11 rfl rfl) rfl
theorem bd03_dec_X7_0_80 : ([(0, [182, 0, 147]), (3, [54, 7]), (5, [21, 7]), (7, [21, 4]), (9, [162, 0, 16]), (12, [16, 10]), (14, [21, 5]), (16, [104]), (17, [21, 6]), (19, [96]), (20, [62]), (21, [21, 7])] : List (Nat × List UInt8)).all (fun x => prB x.2 ((cX7_question.data.toList.drop 42).drop x.1)) = true := by decide +kernel
theorem dX7_question_42 : decode cX7_question 42 = .ok (.invokevirtual 147, 3) := op182 (bA_at bd03_dec_X7_0_80 0 rfl rfl) rfl
theorem dX7_question_45 : decode cX7_question 45 = .ok (.istore 7, 2) := op54 (bA_at bd03_dec_X7_0_80 1 rfl rfl) rfl
theorem dX7_question_47 : decode cX7_question 47 = .ok (.iload 7, 2) := op21 (bA_at bd03_dec_X7_0_80 2 rfl rfl) rfl
theorem dX7_question_49 : decode cX7_question 49 = .ok (.iload 4, 2) := op21 (bA_at bd03_dec_X7_0_80 3 rfl rfl) rfl
theorem dX7_question_51 : decode cX7_question 51 = .ok (.if_icmp .ge 16, 3) := op162 (bA_at bd03_dec_X7_0_80 4 rfl rfl) (by decide +kernel)
theorem dX7_question_54 : decode cX7_question 54 = .ok (.bipush 10, 2) := op16 (bA_at bd03_dec_X7_0_80 5 rfl rfl) (by decide +kernel)
theorem dX7_question_56 : decode cX7_question 56 = .ok (.iload 5, 2) := op21 (bA_at bd03_dec_X7_0_80 6 rfl rfl) rfl
theorem dX7_question_58 : decode cX7_question 58 = .ok (.imul, 1) := op104 (bA_at bd03_dec_X7_0_80 7 rfl rfl)
theorem dX7_question_59 : decode cX7_question 59 = .ok (.iload 6, 2) := op21 (bA_at bd03_dec_X7_0_80 8 rfl rfl) rfl
theorem dX7_question_61 : decode cX7_question 61 = .ok (.iadd, 1) := op96 (bA_at bd03_dec_X7_0_80 9 rfl rfl)
theorem dX7_question_62 : decode cX7_question 62 = .ok (.istore_n 3, 1) := op62 (bA_at bd03_dec_X7_0_80 10 rfl rfl)
theorem dX7_question_63 : decode cX7_question 63 = .ok (.iload 7, 2) := op21 (bA_at bd03_dec_X7_0_80 11 rfl rfl) rfl
theorem bd03_dec_X7_0_81 : ([(0, [54, 4]), (2, [132, 6, 1]), (5, [167, 255, 212]), (8, [132, 5, 1]), (11, [167, 255, 196]), (14, [29]), (15, [172])] : List (Nat × List UInt8)).all (fun x => prB x.2 ((cX7_question.data.toList.drop 65).drop x.1)) = true := by decide +kernel
theorem dX7_question_65 : decode cX7_question 65 = .ok (.istore 4, 2) := op54 (bA_at bd03_dec_X7_0_81 0 rfl rfl) rfl
theorem dX7_question_67 : decode cX7_question 67 = .ok (.iinc 6 1, 3) := op132 (bA_at bd03_dec_X7_0_81 1 rfl rfl) rfl (by decide +kernel)
theorem dX7_question_70 : decode cX7_question 70 = .ok (.goto (-44), 3) := op167 (bA_at bd03_dec_X7_0_81 2 rfl rfl) (by decide +kernel)
theorem dX7_question_73 : decode cX7_question 73 = .ok (.iinc 5 1, 3) := op132 (bA_at bd03_dec_X7_0_81 3 rfl rfl) rfl (by decide +kernel)
theorem dX7_question_76 : decode cX7_question 76 = .ok (.goto (-60), 3) := op167 (bA_at bd03_dec_X7_0_81 4 rfl rfl) (by decide +kernel)
theorem dX7_question_79 : decode cX7_question 79 = .ok (.iload_n 3, 1) := op29 (bA_at bd03_dec_X7_0_81 5 rfl rfl)
theorem dX7_question_80 : decode cX7_question 80 = .ok (.ireturn, 1) := op172 (bA_at bd03_dec_X7_0_81 6 rfl rfl)
theorem bd03_dec_X7_0_82 : ([(0, [28]), (1, [42]), (2, [43]), (3, [29]), (4, [21, 4]), (6, [182, 0, 151]), (9, [126]), (10, [184, 0, 97]), (13, [54, 5]), (15, [21, 5]), (17, [28]), (18, [184, 0, 97])] : List (Nat × List UInt8)).all (fun x => prB x.2 ((cX7_greaterPart.data.toList.drop 0).drop x.1)) = true := by decide +kernel
theorem dX7_greaterPart_0 : decode cX7_greaterPart 0 = .ok (.iload_n 2, 1) := op28 (bA_at bd03_dec_X7_0_82 0 rfl rfl)
theorem dX7_greaterPart_1 : decode cX7_greaterPart 1 = .ok (.aload_n 0, 1) := op42 (bA_at bd03_dec_X7_0_82 1 rfl rfl)
theorem dX7_greaterPart_2 : decode cX7_greaterPart 2 = .ok (.aload_n 1, 1) := op43 (bA_at bd03_dec_X7_0_82 2 rfl rfl)
theorem dX7_greaterPart_3 : decode cX7_greaterPart 3 = .ok (.iload_n 3, 1) := op29 (bA_at bd03_dec_X7_0_82 3 rfl rfl)
theorem dX7_greaterPart_4 : decode cX7_greaterPart 4 = .ok (.iload 4, 2) := op21 (bA_at bd03_dec_X7_0_82 4 rfl rfl) rfl
theorem dX7_greaterPart_6 : decode cX7_greaterPart 6 = .ok (.invokevirtual 151, 3) := op182 (bA_at bd03_dec_X7_0_82 5 rfl rfl) rfl
theorem dX7_greaterPart_9 : decode cX7_greaterPart 9 = .ok (.iand, 1) := op126 (bA_at bd03_dec_X7_0_82 6 rfl rfl)
theorem dX7_greaterPart_10 : decode cX7_greaterPart 10 = .ok (.invokestatic 97, 3) := op184 (bA_at bd03_dec_X7_0_82 7 rfl rfl) rfl
theorem dX7_greaterPart_13 : decode cX7_greaterPart 13 = .ok (.istore 5, 2) := op54 (bA_at bd03_dec_X7_0_82 8 rfl rfl) rfl
theorem dX7_greaterPart_15 : decode cX7_greaterPart 15 = .ok (.iload 5, 2) := op21 (bA_at bd03_dec_X7_0_82 9 rfl rfl) rfl
theorem dX7_greaterPart_17 : decode cX7_greaterPart 17 = .ok (.iload_n 2, 1) := op28 (bA_at bd03_dec_X7_0_82 10 rfl rfl)
theorem dX7_greaterPart_18 : decode cX7_greaterPart 18 = .ok (.invokestatic 97, 3) := op184 (bA_at bd03_dec_X7_0_82 11 rfl rfl) rfl
theorem bd03_dec_X7_0_83 : ([(0, [21, 5]), (2, [100]), (3, [184, 0, 76]), (6, [172])] : List (Nat × List UInt8)).all (fun x => prB x.2 ((cX7_greaterPart.data.toList.drop 21).drop x.1)) = true := by decide +kernel
theorem dX7_greaterPart_21 : decode cX7_greaterPart 21 = .ok (.iload 5, 2) := op21 (bA_at bd03_dec_X7_0_83 0 rfl rfl) rfl
theorem dX7_greaterPart_23 : decode cX7_greaterPart 23 = .ok (.isub, 1) := op100 (bA_at bd03_dec_X7_0_83 1 rfl rfl)
theorem dX7_greaterPart_24 : decode cX7_greaterPart 24 = .ok (.invokestatic 76, 3) := op184 (bA_at bd03_dec_X7_0_83 2 rfl rfl) rfl
theorem dX7_greaterPart_27 : decode cX7_greaterPart 27 = .ok (.ireturn, 1) := op172 (bA_at bd03_dec_X7_0_83 3 rfl rfl)
theorem bd03_dec_X7_0_84 : ([(0, [3]), (1, [54, 4]), (3, [3]), (4, [54, 5]), (6, [21, 5]), (8, [43]), (9, [180, 0, 42]), (12, [162, 0, 34]), (15, [42]), (16, [180, 0, 9]), (19, [21, 5]), (21, [16, 9])] : List (Nat × List UInt8)).all (fun x => prB x.2 ((cX7_fromBy.data.toList.drop 0).drop x.1)) = true := by decide +kernel
theorem dX7_fromBy_0 : decode cX7_fromBy 0 = .ok (.iconst 0, 1) := op3 (bA_at bd03_dec_X7_0_84 0 rfl rfl)
theorem dX7_fromBy_1 : decode cX7_fromBy 1 = .ok (.istore 4, 2) := op54 (bA_at bd03_dec_X7_0_84 1 rfl rfl) rfl
theorem dX7_fromBy_3 : decode cX7_fromBy 3 = .ok (.iconst 0, 1) := op3 (bA_at bd03_dec_X7_0_84 2 rfl rfl)
theorem dX7_fromBy_4 : decode cX7_fromBy 4 = .ok (.istore 5, 2) := op54 (bA_at bd03_dec_X7_0_84 3 rfl rfl) rfl
theorem dX7_fromBy_6 : decode cX7_fromBy 6 = .ok (.iload 5, 2) := op21 (bA_at bd03_dec_X7_0_84 4 rfl rfl) rfl
theorem dX7_fromBy_8 : decode cX7_fromBy 8 = .ok (.aload_n 1, 1) := op43 (bA_at bd03_dec_X7_0_84 5 rfl rfl)
theorem dX7_fromBy_9 : decode cX7_fromBy 9 = .ok (.getfield 42, 3) := op180 (bA_at bd03_dec_X7_0_84 6 rfl rfl) rfl
theorem dX7_fromBy_12 : decode cX7_fromBy 12 = .ok (.if_icmp .ge 34, 3) := op162 (bA_at bd03_dec_X7_0_84 7 rfl rfl) (by decide +kernel)
theorem dX7_fromBy_15 : decode cX7_fromBy 15 = .ok (.aload_n 0, 1) := op42 (bA_at bd03_dec_X7_0_84 8 rfl rfl)
theorem dX7_fromBy_16 : decode cX7_fromBy 16 = .ok (.getfield 9, 3) := op180 (bA_at bd03_dec_X7_0_84 9 rfl rfl) rfl
theorem dX7_fromBy_19 : decode cX7_fromBy 19 = .ok (.iload 5, 2) := op21 (bA_at bd03_dec_X7_0_84 10 rfl rfl) rfl
theorem dX7_fromBy_21 : decode cX7_fromBy 21 = .ok (.bipush 9, 2) := op16 (bA_at bd03_dec_X7_0_84 11 rfl rfl) (by decide +kernel)
theorem bd03_dec_X7_0_85 : ([(0, [104]), (1, [28]), (2, [96]), (3, [46]), (4, [29]), (5, [163, 0, 12]), (8, [21, 4]), (10, [4]), (11, [21, 5]), (13, [120]), (14, [128]), (15, [54, 4])] : List (Nat × List UInt8)).all (fun x => prB x.2 ((cX7_fromBy.data.toList.drop 23).drop x.1)) = true := by decide +kernel
theorem dX7_fromBy_23 : decode cX7_fromBy 23 = .ok (.imul, 1) := op104 (bA_at bd03_dec_X7_0_85 0 rfl rfl)
theorem dX7_fromBy_24 : decode cX7_fromBy 24 = .ok (.iload_n 2, 1) := op28 (bA_at bd03_dec_X7_0_85 1 rfl rfl)
theorem dX7_fromBy_25 : decode cX7_fromBy 25 = .ok (.iadd, 1) := op96 (bA_at bd03_dec_X7_0_85 2 rfl rfl)
theorem dX7_fromBy_26 : decode cX7_fromBy 26 = .ok (.iaload, 1) := op46 (bA_at bd03_dec_X7_0_85 3 rfl rfl)
theorem dX7_fromBy_27 : decode cX7_fromBy 27 = .ok (.iload_n 3, 1) := op29 (bA_at bd03_dec_X7_0_85 4 rfl rfl)
theorem dX7_fromBy_28 : decode cX7_fromBy 28 = .ok (.if_icmp .gt 12, 3) := op163 (bA_at bd03_dec_X7_0_85 5 rfl rfl) (by decide +kernel)
theorem dX7_fromBy_31 : decode cX7_fromBy 31 = .ok (.iload 4, 2) := op21 (bA_at bd03_dec_X7_0_85 6 rfl rfl) rfl
theorem dX7_fromBy_33 : decode cX7_fromBy 33 = .ok (.iconst 1, 1) := op4 (bA_at bd03_dec_X7_0_85 7 rfl rfl)
theorem dX7_fromBy_34 : decode cX7_fromBy 34 = .ok (.iload 5, 2) := op21 (bA_at bd03_dec_X7_0_85 8 rfl rfl) rfl
theorem dX7_fromBy_36 : decode cX7_fromBy 36 = .ok (.ishl, 1) := op120 (bA_at bd03_dec_X7_0_85 9 rfl rfl)
theorem dX7_fromBy_37 : decode cX7_fromBy 37 = .ok (.ior, 1) := op128 (bA_at bd03_dec_X7_0_85 10 rfl rfl)
theorem dX7_fromBy_38 : decode cX7_fromBy 38 = .ok (.istore 4, 2) := op54 (bA_at bd03_dec_X7_0_85 11 rfl rfl) rfl
theorem bd03_dec_X7_0_86 : ([(0, [132, 5, 1]), (3, [167, 255, 219]), (6, [21, 4]), (8, [172])] : List (Nat × List UInt8)).all (fun x => prB x.2 ((cX7_fromBy.data.toList.drop 40).drop x.1)) = true := by decide +kernel
theorem dX7_fromBy_40 : decode cX7_fromBy 40 = .ok (.iinc 5 1, 3) := op132 (bA_at bd03_dec_X7_0_86 0 rfl rfl) rfl (by decide +kernel)
theorem dX7_fromBy_43 : decode cX7_fromBy 43 = .ok (.goto (-37), 3) := op167 (bA_at bd03_dec_X7_0_86 1 rfl rfl) (by decide +kernel)
theorem dX7_fromBy_46 : decode cX7_fromBy 46 = .ok (.iload 4, 2) := op21 (bA_at bd03_dec_X7_0_86 2 rfl rfl) rfl
theorem dX7_fromBy_48 : decode cX7_fromBy 48 = .ok (.ireturn, 1) := op172 (bA_at bd03_dec_X7_0_86 3 rfl rfl)
theorem bd03_dec_X7_0_87 : ([(0, [17, 3, 232]), (3, [62]), (4, [3]), (5, [54, 4]), (7, [21, 4]), (9, [43]), (10, [180, 0, 42]), (13, [162, 0, 26]), (16, [29]), (17, [42]), (18, [180, 0, 9]), (21, [21, 4])] : List (Nat × List UInt8)).all (fun x => prB x.2 ((cX7_soonest.data.toList.drop 0).drop x.1)) = true := by decide +kernel
theorem dX7_soonest_0 : decode cX7_soonest 0 = .ok (.sipush 1000, 3) := op17 (bA_at bd03_dec_X7_0_87 0 rfl rfl) (by decide +kernel)
theorem dX7_soonest_3 : decode cX7_soonest 3 = .ok (.istore_n 3, 1) := op62 (bA_at bd03_dec_X7_0_87 1 rfl rfl)
theorem dX7_soonest_4 : decode cX7_soonest 4 = .ok (.iconst 0, 1) := op3 (bA_at bd03_dec_X7_0_87 2 rfl rfl)
theorem dX7_soonest_5 : decode cX7_soonest 5 = .ok (.istore 4, 2) := op54 (bA_at bd03_dec_X7_0_87 3 rfl rfl) rfl
theorem dX7_soonest_7 : decode cX7_soonest 7 = .ok (.iload 4, 2) := op21 (bA_at bd03_dec_X7_0_87 4 rfl rfl) rfl
theorem dX7_soonest_9 : decode cX7_soonest 9 = .ok (.aload_n 1, 1) := op43 (bA_at bd03_dec_X7_0_87 5 rfl rfl)
theorem dX7_soonest_10 : decode cX7_soonest 10 = .ok (.getfield 42, 3) := op180 (bA_at bd03_dec_X7_0_87 6 rfl rfl) rfl
theorem dX7_soonest_13 : decode cX7_soonest 13 = .ok (.if_icmp .ge 26, 3) := op162 (bA_at bd03_dec_X7_0_87 7 rfl rfl) (by decide +kernel)
theorem dX7_soonest_16 : decode cX7_soonest 16 = .ok (.iload_n 3, 1) := op29 (bA_at bd03_dec_X7_0_87 8 rfl rfl)
theorem dX7_soonest_17 : decode cX7_soonest 17 = .ok (.aload_n 0, 1) := op42 (bA_at bd03_dec_X7_0_87 9 rfl rfl)
theorem dX7_soonest_18 : decode cX7_soonest 18 = .ok (.getfield 9, 3) := op180 (bA_at bd03_dec_X7_0_87 10 rfl rfl) rfl
theorem dX7_soonest_21 : decode cX7_soonest 21 = .ok (.iload 4, 2) := op21 (bA_at bd03_dec_X7_0_87 11 rfl rfl) rfl
theorem bd03_dec_X7_0_88 : ([(0, [16, 9]), (2, [104]), (3, [28]), (4, [96]), (5, [46]), (6, [184, 0, 117]), (9, [62]), (10, [132, 4, 1]), (13, [167, 255, 227]), (16, [29]), (17, [172])] : List (Nat × List UInt8)).all (fun x => prB x.2 ((cX7_soonest.data.toList.drop 23).drop x.1)) = true := by decide +kernel
theorem dX7_soonest_23 : decode cX7_soonest 23 = .ok (.bipush 9, 2) := op16 (bA_at bd03_dec_X7_0_88 0 rfl rfl) (by decide +kernel)
theorem dX7_soonest_25 : decode cX7_soonest 25 = .ok (.imul, 1) := op104 (bA_at bd03_dec_X7_0_88 1 rfl rfl)
theorem dX7_soonest_26 : decode cX7_soonest 26 = .ok (.iload_n 2, 1) := op28 (bA_at bd03_dec_X7_0_88 2 rfl rfl)
theorem dX7_soonest_27 : decode cX7_soonest 27 = .ok (.iadd, 1) := op96 (bA_at bd03_dec_X7_0_88 3 rfl rfl)
theorem dX7_soonest_28 : decode cX7_soonest 28 = .ok (.iaload, 1) := op46 (bA_at bd03_dec_X7_0_88 4 rfl rfl)
theorem dX7_soonest_29 : decode cX7_soonest 29 = .ok (.invokestatic 117, 3) := op184 (bA_at bd03_dec_X7_0_88 5 rfl rfl) rfl
theorem dX7_soonest_32 : decode cX7_soonest 32 = .ok (.istore_n 3, 1) := op62 (bA_at bd03_dec_X7_0_88 6 rfl rfl)
theorem dX7_soonest_33 : decode cX7_soonest 33 = .ok (.iinc 4 1, 3) := op132 (bA_at bd03_dec_X7_0_88 7 rfl rfl) rfl (by decide +kernel)
theorem dX7_soonest_36 : decode cX7_soonest 36 = .ok (.goto (-29), 3) := op167 (bA_at bd03_dec_X7_0_88 8 rfl rfl) (by decide +kernel)
theorem dX7_soonest_39 : decode cX7_soonest 39 = .ok (.iload_n 3, 1) := op29 (bA_at bd03_dec_X7_0_88 9 rfl rfl)
theorem dX7_soonest_40 : decode cX7_soonest 40 = .ok (.ireturn, 1) := op172 (bA_at bd03_dec_X7_0_88 10 rfl rfl)
theorem bd03_dec_X7_0_89 : ([(0, [2]), (1, [54, 4]), (3, [17, 3, 232]), (6, [54, 5]), (8, [3]), (9, [54, 6]), (11, [21, 6]), (13, [43]), (14, [180, 0, 42]), (17, [162, 0, 55]), (20, [42]), (21, [180, 0, 15])] : List (Nat × List UInt8)).all (fun x => prB x.2 ((cX7_carried.data.toList.drop 0).drop x.1)) = true := by decide +kernel
theorem dX7_carried_0 : decode cX7_carried 0 = .ok (.iconst (-1), 1) := op2 (bA_at bd03_dec_X7_0_89 0 rfl rfl)
theorem dX7_carried_1 : decode cX7_carried 1 = .ok (.istore 4, 2) := op54 (bA_at bd03_dec_X7_0_89 1 rfl rfl) rfl
theorem dX7_carried_3 : decode cX7_carried 3 = .ok (.sipush 1000, 3) := op17 (bA_at bd03_dec_X7_0_89 2 rfl rfl) (by decide +kernel)
theorem dX7_carried_6 : decode cX7_carried 6 = .ok (.istore 5, 2) := op54 (bA_at bd03_dec_X7_0_89 3 rfl rfl) rfl
theorem dX7_carried_8 : decode cX7_carried 8 = .ok (.iconst 0, 1) := op3 (bA_at bd03_dec_X7_0_89 4 rfl rfl)
theorem dX7_carried_9 : decode cX7_carried 9 = .ok (.istore 6, 2) := op54 (bA_at bd03_dec_X7_0_89 5 rfl rfl) rfl
theorem dX7_carried_11 : decode cX7_carried 11 = .ok (.iload 6, 2) := op21 (bA_at bd03_dec_X7_0_89 6 rfl rfl) rfl
theorem dX7_carried_13 : decode cX7_carried 13 = .ok (.aload_n 1, 1) := op43 (bA_at bd03_dec_X7_0_89 7 rfl rfl)
theorem dX7_carried_14 : decode cX7_carried 14 = .ok (.getfield 42, 3) := op180 (bA_at bd03_dec_X7_0_89 8 rfl rfl) rfl
theorem dX7_carried_17 : decode cX7_carried 17 = .ok (.if_icmp .ge 55, 3) := op162 (bA_at bd03_dec_X7_0_89 9 rfl rfl) (by decide +kernel)
theorem dX7_carried_20 : decode cX7_carried 20 = .ok (.aload_n 0, 1) := op42 (bA_at bd03_dec_X7_0_89 10 rfl rfl)
theorem dX7_carried_21 : decode cX7_carried 21 = .ok (.getfield 15, 3) := op180 (bA_at bd03_dec_X7_0_89 11 rfl rfl) rfl
theorem bd03_dec_X7_0_90 : ([(0, [28]), (1, [16, 9]), (3, [104]), (4, [21, 6]), (6, [96]), (7, [46]), (8, [42]), (9, [43]), (10, [21, 6]), (12, [182, 0, 82]), (15, [96]), (16, [54, 7])] : List (Nat × List UInt8)).all (fun x => prB x.2 ((cX7_carried.data.toList.drop 24).drop x.1)) = true := by decide +kernel
theorem dX7_carried_24 : decode cX7_carried 24 = .ok (.iload_n 2, 1) := op28 (bA_at bd03_dec_X7_0_90 0 rfl rfl)
theorem dX7_carried_25 : decode cX7_carried 25 = .ok (.bipush 9, 2) := op16 (bA_at bd03_dec_X7_0_90 1 rfl rfl) (by decide +kernel)
theorem dX7_carried_27 : decode cX7_carried 27 = .ok (.imul, 1) := op104 (bA_at bd03_dec_X7_0_90 2 rfl rfl)
theorem dX7_carried_28 : decode cX7_carried 28 = .ok (.iload 6, 2) := op21 (bA_at bd03_dec_X7_0_90 3 rfl rfl) rfl
theorem dX7_carried_30 : decode cX7_carried 30 = .ok (.iadd, 1) := op96 (bA_at bd03_dec_X7_0_90 4 rfl rfl)
theorem dX7_carried_31 : decode cX7_carried 31 = .ok (.iaload, 1) := op46 (bA_at bd03_dec_X7_0_90 5 rfl rfl)
theorem dX7_carried_32 : decode cX7_carried 32 = .ok (.aload_n 0, 1) := op42 (bA_at bd03_dec_X7_0_90 6 rfl rfl)
theorem dX7_carried_33 : decode cX7_carried 33 = .ok (.aload_n 1, 1) := op43 (bA_at bd03_dec_X7_0_90 7 rfl rfl)
theorem dX7_carried_34 : decode cX7_carried 34 = .ok (.iload 6, 2) := op21 (bA_at bd03_dec_X7_0_90 8 rfl rfl) rfl
theorem dX7_carried_36 : decode cX7_carried 36 = .ok (.invokevirtual 82, 3) := op182 (bA_at bd03_dec_X7_0_90 9 rfl rfl) rfl
theorem dX7_carried_39 : decode cX7_carried 39 = .ok (.iadd, 1) := op96 (bA_at bd03_dec_X7_0_90 10 rfl rfl)
theorem dX7_carried_40 : decode cX7_carried 40 = .ok (.istore 7, 2) := op54 (bA_at bd03_dec_X7_0_90 11 rfl rfl) rfl
theorem bd03_dec_X7_0_91 : ([(0, [43]), (1, [21, 6]), (3, [182, 0, 55]), (6, [154, 0, 18]), (9, [21, 7]), (11, [21, 5]), (13, [162, 0, 11]), (16, [21, 6]), (18, [54, 4]), (20, [21, 7]), (22, [54, 5]), (24, [132, 6, 1])] : List (Nat × List UInt8)).all (fun x => prB x.2 ((cX7_carried.data.toList.drop 42).drop x.1)) = true := by decide +kernel
theorem dX7_carried_42 : decode cX7_carried 42 = .ok (.aload_n 1, 1) := op43 (bA_at bd03_dec_X7_0_91 0 rfl rfl)
theorem dX7_carried_43 : decode cX7_carried 43 = .ok (.iload 6, 2) := op21 (bA_at bd03_dec_X7_0_91 1 rfl rfl) rfl
theorem dX7_carried_45 : decode cX7_carried 45 = .ok (.invokevirtual 55, 3) := op182 (bA_at bd03_dec_X7_0_91 2 rfl rfl) rfl
theorem dX7_carried_48 : decode cX7_carried 48 = .ok (.ifCond .ne 18, 3) := op154 (bA_at bd03_dec_X7_0_91 3 rfl rfl) (by decide +kernel)
theorem dX7_carried_51 : decode cX7_carried 51 = .ok (.iload 7, 2) := op21 (bA_at bd03_dec_X7_0_91 4 rfl rfl) rfl
theorem dX7_carried_53 : decode cX7_carried 53 = .ok (.iload 5, 2) := op21 (bA_at bd03_dec_X7_0_91 5 rfl rfl) rfl
theorem dX7_carried_55 : decode cX7_carried 55 = .ok (.if_icmp .ge 11, 3) := op162 (bA_at bd03_dec_X7_0_91 6 rfl rfl) (by decide +kernel)
theorem dX7_carried_58 : decode cX7_carried 58 = .ok (.iload 6, 2) := op21 (bA_at bd03_dec_X7_0_91 7 rfl rfl) rfl
theorem dX7_carried_60 : decode cX7_carried 60 = .ok (.istore 4, 2) := op54 (bA_at bd03_dec_X7_0_91 8 rfl rfl) rfl
theorem dX7_carried_62 : decode cX7_carried 62 = .ok (.iload 7, 2) := op21 (bA_at bd03_dec_X7_0_91 9 rfl rfl) rfl
theorem dX7_carried_64 : decode cX7_carried 64 = .ok (.istore 5, 2) := op54 (bA_at bd03_dec_X7_0_91 10 rfl rfl) rfl
theorem dX7_carried_66 : decode cX7_carried 66 = .ok (.iinc 6 1, 3) := op132 (bA_at bd03_dec_X7_0_91 11 rfl rfl) rfl (by decide +kernel)
theorem bd03_dec_X7_0_92 : ([(0, [167, 255, 198]), (3, [21, 4]), (5, [2]), (6, [159, 0, 12]), (9, [29]), (10, [153, 0, 8]), (13, [21, 5]), (15, [167, 0, 5]), (18, [21, 4]), (20, [172])] : List (Nat × List UInt8)).all (fun x => prB x.2 ((cX7_carried.data.toList.drop 69).drop x.1)) = true := by decide +kernel
theorem dX7_carried_69 : decode cX7_carried 69 = .ok (.goto (-58), 3) := op167 (bA_at bd03_dec_X7_0_92 0 rfl rfl) (by decide +kernel)
theorem dX7_carried_72 : decode cX7_carried 72 = .ok (.iload 4, 2) := op21 (bA_at bd03_dec_X7_0_92 1 rfl rfl) rfl
theorem dX7_carried_74 : decode cX7_carried 74 = .ok (.iconst (-1), 1) := op2 (bA_at bd03_dec_X7_0_92 2 rfl rfl)
theorem dX7_carried_75 : decode cX7_carried 75 = .ok (.if_icmp .eq 12, 3) := op159 (bA_at bd03_dec_X7_0_92 3 rfl rfl) (by decide +kernel)
theorem dX7_carried_78 : decode cX7_carried 78 = .ok (.iload_n 3, 1) := op29 (bA_at bd03_dec_X7_0_92 4 rfl rfl)
theorem dX7_carried_79 : decode cX7_carried 79 = .ok (.ifCond .eq 8, 3) := op153 (bA_at bd03_dec_X7_0_92 5 rfl rfl) (by decide +kernel)
theorem dX7_carried_82 : decode cX7_carried 82 = .ok (.iload 5, 2) := op21 (bA_at bd03_dec_X7_0_92 6 rfl rfl) rfl
theorem dX7_carried_84 : decode cX7_carried 84 = .ok (.goto 5, 3) := op167 (bA_at bd03_dec_X7_0_92 7 rfl rfl) (by decide +kernel)
theorem dX7_carried_87 : decode cX7_carried 87 = .ok (.iload 4, 2) := op21 (bA_at bd03_dec_X7_0_92 8 rfl rfl) rfl
theorem dX7_carried_89 : decode cX7_carried 89 = .ok (.ireturn, 1) := op172 (bA_at bd03_dec_X7_0_92 9 rfl rfl)
theorem bd03_dec_X7_0_93 : ([(0, [3]), (1, [61]), (2, [3]), (3, [62]), (4, [29]), (5, [43]), (6, [180, 0, 42]), (9, [162, 0, 30]), (12, [42]), (13, [43]), (14, [29]), (15, [17, 3, 231])] : List (Nat × List UInt8)).all (fun x => prB x.2 ((cX7_tops.data.toList.drop 0).drop x.1)) = true := by decide +kernel
theorem dX7_tops_0 : decode cX7_tops 0 = .ok (.iconst 0, 1) := op3 (bA_at bd03_dec_X7_0_93 0 rfl rfl)
theorem dX7_tops_1 : decode cX7_tops 1 = .ok (.istore_n 2, 1) := op61 (bA_at bd03_dec_X7_0_93 1 rfl rfl)
theorem dX7_tops_2 : decode cX7_tops 2 = .ok (.iconst 0, 1) := op3 (bA_at bd03_dec_X7_0_93 2 rfl rfl)
theorem dX7_tops_3 : decode cX7_tops 3 = .ok (.istore_n 3, 1) := op62 (bA_at bd03_dec_X7_0_93 3 rfl rfl)
theorem dX7_tops_4 : decode cX7_tops 4 = .ok (.iload_n 3, 1) := op29 (bA_at bd03_dec_X7_0_93 4 rfl rfl)
theorem dX7_tops_5 : decode cX7_tops 5 = .ok (.aload_n 1, 1) := op43 (bA_at bd03_dec_X7_0_93 5 rfl rfl)
theorem dX7_tops_6 : decode cX7_tops 6 = .ok (.getfield 42, 3) := op180 (bA_at bd03_dec_X7_0_93 6 rfl rfl) rfl
theorem dX7_tops_9 : decode cX7_tops 9 = .ok (.if_icmp .ge 30, 3) := op162 (bA_at bd03_dec_X7_0_93 7 rfl rfl) (by decide +kernel)
theorem dX7_tops_12 : decode cX7_tops 12 = .ok (.aload_n 0, 1) := op42 (bA_at bd03_dec_X7_0_93 8 rfl rfl)
theorem dX7_tops_13 : decode cX7_tops 13 = .ok (.aload_n 1, 1) := op43 (bA_at bd03_dec_X7_0_93 9 rfl rfl)
theorem dX7_tops_14 : decode cX7_tops 14 = .ok (.iload_n 3, 1) := op29 (bA_at bd03_dec_X7_0_93 10 rfl rfl)
theorem dX7_tops_15 : decode cX7_tops 15 = .ok (.sipush 999, 3) := op17 (bA_at bd03_dec_X7_0_93 11 rfl rfl) (by decide +kernel)
theorem bd03_dec_X7_0_94 : ([(0, [182, 0, 151]), (3, [4]), (4, [29]), (5, [120]), (6, [160, 0, 9]), (9, [28]), (10, [4]), (11, [29]), (12, [120]), (13, [128]), (14, [61]), (15, [132, 3, 1])] : List (Nat × List UInt8)).all (fun x => prB x.2 ((cX7_tops.data.toList.drop 18).drop x.1)) = true := by decide +kernel
theorem dX7_tops_18 : decode cX7_tops 18 = .ok (.invokevirtual 151, 3) := op182 (bA_at bd03_dec_X7_0_94 0 rfl rfl) rfl
theorem dX7_tops_21 : decode cX7_tops 21 = .ok (.iconst 1, 1) := op4 (bA_at bd03_dec_X7_0_94 1 rfl rfl)
theorem dX7_tops_22 : decode cX7_tops 22 = .ok (.iload_n 3, 1) := op29 (bA_at bd03_dec_X7_0_94 2 rfl rfl)
theorem dX7_tops_23 : decode cX7_tops 23 = .ok (.ishl, 1) := op120 (bA_at bd03_dec_X7_0_94 3 rfl rfl)
theorem dX7_tops_24 : decode cX7_tops 24 = .ok (.if_icmp .ne 9, 3) := op160 (bA_at bd03_dec_X7_0_94 4 rfl rfl) (by decide +kernel)
theorem dX7_tops_27 : decode cX7_tops 27 = .ok (.iload_n 2, 1) := op28 (bA_at bd03_dec_X7_0_94 5 rfl rfl)
theorem dX7_tops_28 : decode cX7_tops 28 = .ok (.iconst 1, 1) := op4 (bA_at bd03_dec_X7_0_94 6 rfl rfl)
theorem dX7_tops_29 : decode cX7_tops 29 = .ok (.iload_n 3, 1) := op29 (bA_at bd03_dec_X7_0_94 7 rfl rfl)
theorem dX7_tops_30 : decode cX7_tops 30 = .ok (.ishl, 1) := op120 (bA_at bd03_dec_X7_0_94 8 rfl rfl)
theorem dX7_tops_31 : decode cX7_tops 31 = .ok (.ior, 1) := op128 (bA_at bd03_dec_X7_0_94 9 rfl rfl)
theorem dX7_tops_32 : decode cX7_tops 32 = .ok (.istore_n 2, 1) := op61 (bA_at bd03_dec_X7_0_94 10 rfl rfl)
theorem dX7_tops_33 : decode cX7_tops 33 = .ok (.iinc 3 1, 3) := op132 (bA_at bd03_dec_X7_0_94 11 rfl rfl) rfl (by decide +kernel)
theorem bd03_dec_X7_0_95 : ([(0, [167, 255, 224]), (3, [28]), (4, [172])] : List (Nat × List UInt8)).all (fun x => prB x.2 ((cX7_tops.data.toList.drop 36).drop x.1)) = true := by decide +kernel
theorem dX7_tops_36 : decode cX7_tops 36 = .ok (.goto (-32), 3) := op167 (bA_at bd03_dec_X7_0_95 0 rfl rfl) (by decide +kernel)
theorem dX7_tops_39 : decode cX7_tops 39 = .ok (.iload_n 2, 1) := op28 (bA_at bd03_dec_X7_0_95 1 rfl rfl)
theorem dX7_tops_40 : decode cX7_tops 40 = .ok (.ireturn, 1) := op172 (bA_at bd03_dec_X7_0_95 2 rfl rfl)
theorem bd03_dec_X7_0_96 : ([(0, [3]), (1, [61]), (2, [3]), (3, [62]), (4, [29]), (5, [43]), (6, [180, 0, 42]), (9, [162, 0, 32]), (12, [43]), (13, [29]), (14, [182, 0, 55]), (17, [154, 0, 18])] : List (Nat × List UInt8)).all (fun x => prB x.2 ((cX7_ends.data.toList.drop 0).drop x.1)) = true := by decide +kernel
theorem dX7_ends_0 : decode cX7_ends 0 = .ok (.iconst 0, 1) := op3 (bA_at bd03_dec_X7_0_96 0 rfl rfl)
theorem dX7_ends_1 : decode cX7_ends 1 = .ok (.istore_n 2, 1) := op61 (bA_at bd03_dec_X7_0_96 1 rfl rfl)
theorem dX7_ends_2 : decode cX7_ends 2 = .ok (.iconst 0, 1) := op3 (bA_at bd03_dec_X7_0_96 2 rfl rfl)
theorem dX7_ends_3 : decode cX7_ends 3 = .ok (.istore_n 3, 1) := op62 (bA_at bd03_dec_X7_0_96 3 rfl rfl)
theorem dX7_ends_4 : decode cX7_ends 4 = .ok (.iload_n 3, 1) := op29 (bA_at bd03_dec_X7_0_96 4 rfl rfl)
theorem dX7_ends_5 : decode cX7_ends 5 = .ok (.aload_n 1, 1) := op43 (bA_at bd03_dec_X7_0_96 5 rfl rfl)
theorem dX7_ends_6 : decode cX7_ends 6 = .ok (.getfield 42, 3) := op180 (bA_at bd03_dec_X7_0_96 6 rfl rfl) rfl
theorem dX7_ends_9 : decode cX7_ends 9 = .ok (.if_icmp .ge 32, 3) := op162 (bA_at bd03_dec_X7_0_96 7 rfl rfl) (by decide +kernel)
theorem dX7_ends_12 : decode cX7_ends 12 = .ok (.aload_n 1, 1) := op43 (bA_at bd03_dec_X7_0_96 8 rfl rfl)
theorem dX7_ends_13 : decode cX7_ends 13 = .ok (.iload_n 3, 1) := op29 (bA_at bd03_dec_X7_0_96 9 rfl rfl)
theorem dX7_ends_14 : decode cX7_ends 14 = .ok (.invokevirtual 55, 3) := op182 (bA_at bd03_dec_X7_0_96 10 rfl rfl) rfl
theorem dX7_ends_17 : decode cX7_ends 17 = .ok (.ifCond .ne 18, 3) := op154 (bA_at bd03_dec_X7_0_96 11 rfl rfl) (by decide +kernel)
theorem bd03_dec_X7_0_97 : ([(0, [42]), (1, [43]), (2, [29]), (3, [182, 0, 155]), (6, [154, 0, 9]), (9, [28]), (10, [4]), (11, [29]), (12, [120]), (13, [128]), (14, [61]), (15, [132, 3, 1])] : List (Nat × List UInt8)).all (fun x => prB x.2 ((cX7_ends.data.toList.drop 20).drop x.1)) = true := by decide +kernel
theorem dX7_ends_20 : decode cX7_ends 20 = .ok (.aload_n 0, 1) := op42 (bA_at bd03_dec_X7_0_97 0 rfl rfl)
theorem dX7_ends_21 : decode cX7_ends 21 = .ok (.aload_n 1, 1) := op43 (bA_at bd03_dec_X7_0_97 1 rfl rfl)
theorem dX7_ends_22 : decode cX7_ends 22 = .ok (.iload_n 3, 1) := op29 (bA_at bd03_dec_X7_0_97 2 rfl rfl)
theorem dX7_ends_23 : decode cX7_ends 23 = .ok (.invokevirtual 155, 3) := op182 (bA_at bd03_dec_X7_0_97 3 rfl rfl) rfl
theorem dX7_ends_26 : decode cX7_ends 26 = .ok (.ifCond .ne 9, 3) := op154 (bA_at bd03_dec_X7_0_97 4 rfl rfl) (by decide +kernel)
theorem dX7_ends_29 : decode cX7_ends 29 = .ok (.iload_n 2, 1) := op28 (bA_at bd03_dec_X7_0_97 5 rfl rfl)
theorem dX7_ends_30 : decode cX7_ends 30 = .ok (.iconst 1, 1) := op4 (bA_at bd03_dec_X7_0_97 6 rfl rfl)
theorem dX7_ends_31 : decode cX7_ends 31 = .ok (.iload_n 3, 1) := op29 (bA_at bd03_dec_X7_0_97 7 rfl rfl)
theorem dX7_ends_32 : decode cX7_ends 32 = .ok (.ishl, 1) := op120 (bA_at bd03_dec_X7_0_97 8 rfl rfl)
theorem dX7_ends_33 : decode cX7_ends 33 = .ok (.ior, 1) := op128 (bA_at bd03_dec_X7_0_97 9 rfl rfl)
theorem dX7_ends_34 : decode cX7_ends 34 = .ok (.istore_n 2, 1) := op61 (bA_at bd03_dec_X7_0_97 10 rfl rfl)
theorem dX7_ends_35 : decode cX7_ends 35 = .ok (.iinc 3 1, 3) := op132 (bA_at bd03_dec_X7_0_97 11 rfl rfl) rfl (by decide +kernel)
theorem bd03_dec_X7_0_98 : ([(0, [167, 255, 222]), (3, [28]), (4, [172])] : List (Nat × List UInt8)).all (fun x => prB x.2 ((cX7_ends.data.toList.drop 38).drop x.1)) = true := by decide +kernel
theorem dX7_ends_38 : decode cX7_ends 38 = .ok (.goto (-34), 3) := op167 (bA_at bd03_dec_X7_0_98 0 rfl rfl) (by decide +kernel)
theorem dX7_ends_41 : decode cX7_ends 41 = .ok (.iload_n 2, 1) := op28 (bA_at bd03_dec_X7_0_98 1 rfl rfl)
theorem dX7_ends_42 : decode cX7_ends 42 = .ok (.ireturn, 1) := op172 (bA_at bd03_dec_X7_0_98 2 rfl rfl)
theorem bd03_dec_X7_0_99 : ([(0, [3]), (1, [61]), (2, [3]), (3, [62]), (4, [29]), (5, [43]), (6, [180, 0, 42]), (9, [162, 0, 18]), (12, [28]), (13, [42]), (14, [43]), (15, [29])] : List (Nat × List UInt8)).all (fun x => prB x.2 ((cX7_couples.data.toList.drop 0).drop x.1)) = true := by decide +kernel
theorem dX7_couples_0 : decode cX7_couples 0 = .ok (.iconst 0, 1) := op3 (bA_at bd03_dec_X7_0_99 0 rfl rfl)
theorem dX7_couples_1 : decode cX7_couples 1 = .ok (.istore_n 2, 1) := op61 (bA_at bd03_dec_X7_0_99 1 rfl rfl)
theorem dX7_couples_2 : decode cX7_couples 2 = .ok (.iconst 0, 1) := op3 (bA_at bd03_dec_X7_0_99 2 rfl rfl)
theorem dX7_couples_3 : decode cX7_couples 3 = .ok (.istore_n 3, 1) := op62 (bA_at bd03_dec_X7_0_99 3 rfl rfl)
theorem dX7_couples_4 : decode cX7_couples 4 = .ok (.iload_n 3, 1) := op29 (bA_at bd03_dec_X7_0_99 4 rfl rfl)
theorem dX7_couples_5 : decode cX7_couples 5 = .ok (.aload_n 1, 1) := op43 (bA_at bd03_dec_X7_0_99 5 rfl rfl)
theorem dX7_couples_6 : decode cX7_couples 6 = .ok (.getfield 42, 3) := op180 (bA_at bd03_dec_X7_0_99 6 rfl rfl) rfl
theorem dX7_couples_9 : decode cX7_couples 9 = .ok (.if_icmp .ge 18, 3) := op162 (bA_at bd03_dec_X7_0_99 7 rfl rfl) (by decide +kernel)
theorem dX7_couples_12 : decode cX7_couples 12 = .ok (.iload_n 2, 1) := op28 (bA_at bd03_dec_X7_0_99 8 rfl rfl)
theorem dX7_couples_13 : decode cX7_couples 13 = .ok (.aload_n 0, 1) := op42 (bA_at bd03_dec_X7_0_99 9 rfl rfl)
theorem dX7_couples_14 : decode cX7_couples 14 = .ok (.aload_n 1, 1) := op43 (bA_at bd03_dec_X7_0_99 10 rfl rfl)
theorem dX7_couples_15 : decode cX7_couples 15 = .ok (.iload_n 3, 1) := op29 (bA_at bd03_dec_X7_0_99 11 rfl rfl)
theorem bd03_dec_X7_0_100 : ([(0, [182, 0, 155]), (3, [96]), (4, [61]), (5, [132, 3, 1]), (8, [167, 255, 236]), (11, [28]), (12, [172])] : List (Nat × List UInt8)).all (fun x => prB x.2 ((cX7_couples.data.toList.drop 16).drop x.1)) = true := by decide +kernel
theorem dX7_couples_16 : decode cX7_couples 16 = .ok (.invokevirtual 155, 3) := op182 (bA_at bd03_dec_X7_0_100 0 rfl rfl) rfl
theorem dX7_couples_19 : decode cX7_couples 19 = .ok (.iadd, 1) := op96 (bA_at bd03_dec_X7_0_100 1 rfl rfl)
theorem dX7_couples_20 : decode cX7_couples 20 = .ok (.istore_n 2, 1) := op61 (bA_at bd03_dec_X7_0_100 2 rfl rfl)
theorem dX7_couples_21 : decode cX7_couples 21 = .ok (.iinc 3 1, 3) := op132 (bA_at bd03_dec_X7_0_100 3 rfl rfl) rfl (by decide +kernel)
theorem dX7_couples_24 : decode cX7_couples 24 = .ok (.goto (-20), 3) := op167 (bA_at bd03_dec_X7_0_100 4 rfl rfl) (by decide +kernel)
theorem dX7_couples_27 : decode cX7_couples 27 = .ok (.iload_n 2, 1) := op28 (bA_at bd03_dec_X7_0_100 5 rfl rfl)
theorem dX7_couples_28 : decode cX7_couples 28 = .ok (.ireturn, 1) := op172 (bA_at bd03_dec_X7_0_100 6 rfl rfl)
theorem bd03_dec_X7_0_101 : ([(0, [3]), (1, [62]), (2, [3]), (3, [54, 4]), (5, [21, 4]), (7, [43]), (8, [180, 0, 42]), (11, [162, 0, 36]), (14, [21, 4]), (16, [28]), (17, [159, 0, 24]), (20, [42])] : List (Nat × List UInt8)).all (fun x => prB x.2 ((cX7_heardElsewhere.data.toList.drop 0).drop x.1)) = true := by decide +kernel
theorem dX7_heardElsewhere_0 : decode cX7_heardElsewhere 0 = .ok (.iconst 0, 1) := op3 (bA_at bd03_dec_X7_0_101 0 rfl rfl)
theorem dX7_heardElsewhere_1 : decode cX7_heardElsewhere 1 = .ok (.istore_n 3, 1) := op62 (bA_at bd03_dec_X7_0_101 1 rfl rfl)
theorem dX7_heardElsewhere_2 : decode cX7_heardElsewhere 2 = .ok (.iconst 0, 1) := op3 (bA_at bd03_dec_X7_0_101 2 rfl rfl)
theorem dX7_heardElsewhere_3 : decode cX7_heardElsewhere 3 = .ok (.istore 4, 2) := op54 (bA_at bd03_dec_X7_0_101 3 rfl rfl) rfl
theorem dX7_heardElsewhere_5 : decode cX7_heardElsewhere 5 = .ok (.iload 4, 2) := op21 (bA_at bd03_dec_X7_0_101 4 rfl rfl) rfl
theorem dX7_heardElsewhere_7 : decode cX7_heardElsewhere 7 = .ok (.aload_n 1, 1) := op43 (bA_at bd03_dec_X7_0_101 5 rfl rfl)
theorem dX7_heardElsewhere_8 : decode cX7_heardElsewhere 8 = .ok (.getfield 42, 3) := op180 (bA_at bd03_dec_X7_0_101 6 rfl rfl) rfl
theorem dX7_heardElsewhere_11 : decode cX7_heardElsewhere 11 = .ok (.if_icmp .ge 36, 3) := op162 (bA_at bd03_dec_X7_0_101 7 rfl rfl) (by decide +kernel)
theorem dX7_heardElsewhere_14 : decode cX7_heardElsewhere 14 = .ok (.iload 4, 2) := op21 (bA_at bd03_dec_X7_0_101 8 rfl rfl) rfl
theorem dX7_heardElsewhere_16 : decode cX7_heardElsewhere 16 = .ok (.iload_n 2, 1) := op28 (bA_at bd03_dec_X7_0_101 9 rfl rfl)
theorem dX7_heardElsewhere_17 : decode cX7_heardElsewhere 17 = .ok (.if_icmp .eq 24, 3) := op159 (bA_at bd03_dec_X7_0_101 10 rfl rfl) (by decide +kernel)
theorem dX7_heardElsewhere_20 : decode cX7_heardElsewhere 20 = .ok (.aload_n 0, 1) := op42 (bA_at bd03_dec_X7_0_101 11 rfl rfl)
theorem bd03_dec_X7_0_102 : ([(0, [180, 0, 9]), (3, [28]), (4, [16, 9]), (6, [104]), (7, [21, 4]), (9, [96]), (10, [46]), (11, [17, 3, 232]), (14, [162, 0, 6]), (17, [132, 3, 1]), (20, [132, 4, 1]), (23, [167, 255, 217])] : List (Nat × List UInt8)).all (fun x => prB x.2 ((cX7_heardElsewhere.data.toList.drop 21).drop x.1)) = true := by decide +kernel
theorem dX7_heardElsewhere_21 : decode cX7_heardElsewhere 21 = .ok (.getfield 9, 3) := op180 (bA_at bd03_dec_X7_0_102 0 rfl rfl) rfl
theorem dX7_heardElsewhere_24 : decode cX7_heardElsewhere 24 = .ok (.iload_n 2, 1) := op28 (bA_at bd03_dec_X7_0_102 1 rfl rfl)
theorem dX7_heardElsewhere_25 : decode cX7_heardElsewhere 25 = .ok (.bipush 9, 2) := op16 (bA_at bd03_dec_X7_0_102 2 rfl rfl) (by decide +kernel)
theorem dX7_heardElsewhere_27 : decode cX7_heardElsewhere 27 = .ok (.imul, 1) := op104 (bA_at bd03_dec_X7_0_102 3 rfl rfl)
theorem dX7_heardElsewhere_28 : decode cX7_heardElsewhere 28 = .ok (.iload 4, 2) := op21 (bA_at bd03_dec_X7_0_102 4 rfl rfl) rfl
theorem dX7_heardElsewhere_30 : decode cX7_heardElsewhere 30 = .ok (.iadd, 1) := op96 (bA_at bd03_dec_X7_0_102 5 rfl rfl)
theorem dX7_heardElsewhere_31 : decode cX7_heardElsewhere 31 = .ok (.iaload, 1) := op46 (bA_at bd03_dec_X7_0_102 6 rfl rfl)
theorem dX7_heardElsewhere_32 : decode cX7_heardElsewhere 32 = .ok (.sipush 1000, 3) := op17 (bA_at bd03_dec_X7_0_102 7 rfl rfl) (by decide +kernel)
theorem dX7_heardElsewhere_35 : decode cX7_heardElsewhere 35 = .ok (.if_icmp .ge 6, 3) := op162 (bA_at bd03_dec_X7_0_102 8 rfl rfl) (by decide +kernel)
theorem dX7_heardElsewhere_38 : decode cX7_heardElsewhere 38 = .ok (.iinc 3 1, 3) := op132 (bA_at bd03_dec_X7_0_102 9 rfl rfl) rfl (by decide +kernel)
theorem dX7_heardElsewhere_41 : decode cX7_heardElsewhere 41 = .ok (.iinc 4 1, 3) := op132 (bA_at bd03_dec_X7_0_102 10 rfl rfl) rfl (by decide +kernel)
theorem dX7_heardElsewhere_44 : decode cX7_heardElsewhere 44 = .ok (.goto (-39), 3) := op167 (bA_at bd03_dec_X7_0_102 11 rfl rfl) (by decide +kernel)
theorem bd03_dec_X7_0_103 : ([(0, [29]), (1, [172])] : List (Nat × List UInt8)).all (fun x => prB x.2 ((cX7_heardElsewhere.data.toList.drop 47).drop x.1)) = true := by decide +kernel
theorem dX7_heardElsewhere_47 : decode cX7_heardElsewhere 47 = .ok (.iload_n 3, 1) := op29 (bA_at bd03_dec_X7_0_103 0 rfl rfl)
theorem dX7_heardElsewhere_48 : decode cX7_heardElsewhere 48 = .ok (.ireturn, 1) := op172 (bA_at bd03_dec_X7_0_103 1 rfl rfl)
theorem bd03_dec_X7_0_104 : ([(0, [43]), (1, [180, 0, 158]), (4, [4]), (5, [28]), (6, [120]), (7, [128]), (8, [4]), (9, [29]), (10, [120]), (11, [128]), (12, [54, 4]), (14, [2])] : List (Nat × List UInt8)).all (fun x => prB x.2 ((cX7_fewestDams.data.toList.drop 0).drop x.1)) = true := by decide +kernel
theorem dX7_fewestDams_0 : decode cX7_fewestDams 0 = .ok (.aload_n 1, 1) := op43 (bA_at bd03_dec_X7_0_104 0 rfl rfl)
theorem dX7_fewestDams_1 : decode cX7_fewestDams 1 = .ok (.getfield 158, 3) := op180 (bA_at bd03_dec_X7_0_104 1 rfl rfl) rfl
theorem dX7_fewestDams_4 : decode cX7_fewestDams 4 = .ok (.iconst 1, 1) := op4 (bA_at bd03_dec_X7_0_104 2 rfl rfl)
theorem dX7_fewestDams_5 : decode cX7_fewestDams 5 = .ok (.iload_n 2, 1) := op28 (bA_at bd03_dec_X7_0_104 3 rfl rfl)
theorem dX7_fewestDams_6 : decode cX7_fewestDams 6 = .ok (.ishl, 1) := op120 (bA_at bd03_dec_X7_0_104 4 rfl rfl)
theorem dX7_fewestDams_7 : decode cX7_fewestDams 7 = .ok (.ior, 1) := op128 (bA_at bd03_dec_X7_0_104 5 rfl rfl)
theorem dX7_fewestDams_8 : decode cX7_fewestDams 8 = .ok (.iconst 1, 1) := op4 (bA_at bd03_dec_X7_0_104 6 rfl rfl)
theorem dX7_fewestDams_9 : decode cX7_fewestDams 9 = .ok (.iload_n 3, 1) := op29 (bA_at bd03_dec_X7_0_104 7 rfl rfl)
theorem dX7_fewestDams_10 : decode cX7_fewestDams 10 = .ok (.ishl, 1) := op120 (bA_at bd03_dec_X7_0_104 8 rfl rfl)
theorem dX7_fewestDams_11 : decode cX7_fewestDams 11 = .ok (.ior, 1) := op128 (bA_at bd03_dec_X7_0_104 9 rfl rfl)
theorem dX7_fewestDams_12 : decode cX7_fewestDams 12 = .ok (.istore 4, 2) := op54 (bA_at bd03_dec_X7_0_104 10 rfl rfl) rfl
theorem dX7_fewestDams_14 : decode cX7_fewestDams 14 = .ok (.iconst (-1), 1) := op2 (bA_at bd03_dec_X7_0_104 11 rfl rfl)
theorem bd03_dec_X7_0_105 : ([(0, [54, 5]), (2, [43]), (3, [180, 0, 42]), (6, [4]), (7, [96]), (8, [54, 6]), (10, [3]), (11, [54, 7]), (13, [21, 7]), (15, [4]), (16, [43]), (17, [180, 0, 42])] : List (Nat × List UInt8)).all (fun x => prB x.2 ((cX7_fewestDams.data.toList.drop 15).drop x.1)) = true := by decide +kernel
theorem dX7_fewestDams_15 : decode cX7_fewestDams 15 = .ok (.istore 5, 2) := op54 (bA_at bd03_dec_X7_0_105 0 rfl rfl) rfl
theorem dX7_fewestDams_17 : decode cX7_fewestDams 17 = .ok (.aload_n 1, 1) := op43 (bA_at bd03_dec_X7_0_105 1 rfl rfl)
theorem dX7_fewestDams_18 : decode cX7_fewestDams 18 = .ok (.getfield 42, 3) := op180 (bA_at bd03_dec_X7_0_105 2 rfl rfl) rfl
theorem dX7_fewestDams_21 : decode cX7_fewestDams 21 = .ok (.iconst 1, 1) := op4 (bA_at bd03_dec_X7_0_105 3 rfl rfl)
theorem dX7_fewestDams_22 : decode cX7_fewestDams 22 = .ok (.iadd, 1) := op96 (bA_at bd03_dec_X7_0_105 4 rfl rfl)
theorem dX7_fewestDams_23 : decode cX7_fewestDams 23 = .ok (.istore 6, 2) := op54 (bA_at bd03_dec_X7_0_105 5 rfl rfl) rfl
theorem dX7_fewestDams_25 : decode cX7_fewestDams 25 = .ok (.iconst 0, 1) := op3 (bA_at bd03_dec_X7_0_105 6 rfl rfl)
theorem dX7_fewestDams_26 : decode cX7_fewestDams 26 = .ok (.istore 7, 2) := op54 (bA_at bd03_dec_X7_0_105 7 rfl rfl) rfl
theorem dX7_fewestDams_28 : decode cX7_fewestDams 28 = .ok (.iload 7, 2) := op21 (bA_at bd03_dec_X7_0_105 8 rfl rfl) rfl
theorem dX7_fewestDams_30 : decode cX7_fewestDams 30 = .ok (.iconst 1, 1) := op4 (bA_at bd03_dec_X7_0_105 9 rfl rfl)
theorem dX7_fewestDams_31 : decode cX7_fewestDams 31 = .ok (.aload_n 1, 1) := op43 (bA_at bd03_dec_X7_0_105 10 rfl rfl)
theorem dX7_fewestDams_32 : decode cX7_fewestDams 32 = .ok (.getfield 42, 3) := op180 (bA_at bd03_dec_X7_0_105 11 rfl rfl) rfl
theorem bd03_dec_X7_0_106 : ([(0, [120]), (1, [162, 0, 55]), (4, [21, 7]), (6, [21, 4]), (8, [126]), (9, [154, 0, 41]), (12, [21, 7]), (14, [184, 0, 97]), (17, [21, 6]), (19, [162, 0, 31]), (22, [28]), (23, [42])] : List (Nat × List UInt8)).all (fun x => prB x.2 ((cX7_fewestDams.data.toList.drop 35).drop x.1)) = true := by decide +kernel
theorem dX7_fewestDams_35 : decode cX7_fewestDams 35 = .ok (.ishl, 1) := op120 (bA_at bd03_dec_X7_0_106 0 rfl rfl)
theorem dX7_fewestDams_36 : decode cX7_fewestDams 36 = .ok (.if_icmp .ge 55, 3) := op162 (bA_at bd03_dec_X7_0_106 1 rfl rfl) (by decide +kernel)
theorem dX7_fewestDams_39 : decode cX7_fewestDams 39 = .ok (.iload 7, 2) := op21 (bA_at bd03_dec_X7_0_106 2 rfl rfl) rfl
theorem dX7_fewestDams_41 : decode cX7_fewestDams 41 = .ok (.iload 4, 2) := op21 (bA_at bd03_dec_X7_0_106 3 rfl rfl) rfl
theorem dX7_fewestDams_43 : decode cX7_fewestDams 43 = .ok (.iand, 1) := op126 (bA_at bd03_dec_X7_0_106 4 rfl rfl)
theorem dX7_fewestDams_44 : decode cX7_fewestDams 44 = .ok (.ifCond .ne 41, 3) := op154 (bA_at bd03_dec_X7_0_106 5 rfl rfl) (by decide +kernel)
theorem dX7_fewestDams_47 : decode cX7_fewestDams 47 = .ok (.iload 7, 2) := op21 (bA_at bd03_dec_X7_0_106 6 rfl rfl) rfl
theorem dX7_fewestDams_49 : decode cX7_fewestDams 49 = .ok (.invokestatic 97, 3) := op184 (bA_at bd03_dec_X7_0_106 7 rfl rfl) rfl
theorem dX7_fewestDams_52 : decode cX7_fewestDams 52 = .ok (.iload 6, 2) := op21 (bA_at bd03_dec_X7_0_106 8 rfl rfl) rfl
theorem dX7_fewestDams_54 : decode cX7_fewestDams 54 = .ok (.if_icmp .ge 31, 3) := op162 (bA_at bd03_dec_X7_0_106 9 rfl rfl) (by decide +kernel)
theorem dX7_fewestDams_57 : decode cX7_fewestDams 57 = .ok (.iload_n 2, 1) := op28 (bA_at bd03_dec_X7_0_106 10 rfl rfl)
theorem dX7_fewestDams_58 : decode cX7_fewestDams 58 = .ok (.aload_n 0, 1) := op42 (bA_at bd03_dec_X7_0_106 11 rfl rfl)
theorem bd03_dec_X7_0_107 : ([(0, [180, 0, 24]), (3, [21, 7]), (5, [184, 0, 127]), (8, [29]), (9, [184, 0, 70]), (12, [154, 0, 14]), (15, [21, 7]), (17, [54, 5]), (19, [21, 7]), (21, [184, 0, 97]), (24, [54, 6]), (26, [132, 7, 1])] : List (Nat × List UInt8)).all (fun x => prB x.2 ((cX7_fewestDams.data.toList.drop 59).drop x.1)) = true := by decide +kernel
theorem dX7_fewestDams_59 : decode cX7_fewestDams 59 = .ok (.getfield 24, 3) := op180 (bA_at bd03_dec_X7_0_107 0 rfl rfl) rfl
theorem dX7_fewestDams_62 : decode cX7_fewestDams 62 = .ok (.iload 7, 2) := op21 (bA_at bd03_dec_X7_0_107 1 rfl rfl) rfl
theorem dX7_fewestDams_64 : decode cX7_fewestDams 64 = .ok (.invokestatic 127, 3) := op184 (bA_at bd03_dec_X7_0_107 2 rfl rfl) rfl
theorem dX7_fewestDams_67 : decode cX7_fewestDams 67 = .ok (.iload_n 3, 1) := op29 (bA_at bd03_dec_X7_0_107 3 rfl rfl)
theorem dX7_fewestDams_68 : decode cX7_fewestDams 68 = .ok (.invokestatic 70, 3) := op184 (bA_at bd03_dec_X7_0_107 4 rfl rfl) rfl
theorem dX7_fewestDams_71 : decode cX7_fewestDams 71 = .ok (.ifCond .ne 14, 3) := op154 (bA_at bd03_dec_X7_0_107 5 rfl rfl) (by decide +kernel)
theorem dX7_fewestDams_74 : decode cX7_fewestDams 74 = .ok (.iload 7, 2) := op21 (bA_at bd03_dec_X7_0_107 6 rfl rfl) rfl
theorem dX7_fewestDams_76 : decode cX7_fewestDams 76 = .ok (.istore 5, 2) := op54 (bA_at bd03_dec_X7_0_107 7 rfl rfl) rfl
theorem dX7_fewestDams_78 : decode cX7_fewestDams 78 = .ok (.iload 7, 2) := op21 (bA_at bd03_dec_X7_0_107 8 rfl rfl) rfl
theorem dX7_fewestDams_80 : decode cX7_fewestDams 80 = .ok (.invokestatic 97, 3) := op184 (bA_at bd03_dec_X7_0_107 9 rfl rfl) rfl
theorem dX7_fewestDams_83 : decode cX7_fewestDams 83 = .ok (.istore 6, 2) := op54 (bA_at bd03_dec_X7_0_107 10 rfl rfl) rfl
theorem dX7_fewestDams_85 : decode cX7_fewestDams 85 = .ok (.iinc 7 1, 3) := op132 (bA_at bd03_dec_X7_0_107 11 rfl rfl) rfl (by decide +kernel)
theorem bd03_dec_X7_0_108 : ([(0, [167, 255, 196]), (3, [21, 5]), (5, [172])] : List (Nat × List UInt8)).all (fun x => prB x.2 ((cX7_fewestDams.data.toList.drop 88).drop x.1)) = true := by decide +kernel
theorem dX7_fewestDams_88 : decode cX7_fewestDams 88 = .ok (.goto (-60), 3) := op167 (bA_at bd03_dec_X7_0_108 0 rfl rfl) (by decide +kernel)
theorem dX7_fewestDams_91 : decode cX7_fewestDams 91 = .ok (.iload 5, 2) := op21 (bA_at bd03_dec_X7_0_108 1 rfl rfl) rfl
theorem dX7_fewestDams_93 : decode cX7_fewestDams 93 = .ok (.ireturn, 1) := op172 (bA_at bd03_dec_X7_0_108 2 rfl rfl)
end
section
theorem bd03_dec_X8_0_0 : ([(0, [3]), (1, [54, 4]), (3, [21, 4]), (5, [27]), (6, [163, 0, 56]), (9, [42]), (10, [180, 0, 15]), (13, [3]), (14, [42]), (15, [180, 0, 9]), (18, [3]), (19, [28])] : List (Nat × List UInt8)).all (fun x => prB x.2 ((cX8_lay.data.toList.drop 0).drop x.1)) = true := by decide +kernel
theorem dX8_lay_0 : decode cX8_lay 0 = .ok (.iconst 0, 1) := op3 (bA_at bd03_dec_X8_0_0 0 rfl rfl)
theorem dX8_lay_1 : decode cX8_lay 1 = .ok (.istore 4, 2) := op54 (bA_at bd03_dec_X8_0_0 1 rfl rfl) rfl
theorem dX8_lay_3 : decode cX8_lay 3 = .ok (.iload 4, 2) := op21 (bA_at bd03_dec_X8_0_0 2 rfl rfl) rfl
theorem dX8_lay_5 : decode cX8_lay 5 = .ok (.iload_n 1, 1) := op27 (bA_at bd03_dec_X8_0_0 3 rfl rfl)
theorem dX8_lay_6 : decode cX8_lay 6 = .ok (.if_icmp .gt 56, 3) := op163 (bA_at bd03_dec_X8_0_0 4 rfl rfl) (by decide +kernel)
theorem dX8_lay_9 : decode cX8_lay 9 = .ok (.aload_n 0, 1) := op42 (bA_at bd03_dec_X8_0_0 5 rfl rfl)
theorem dX8_lay_10 : decode cX8_lay 10 = .ok (.getfield 15, 3) := op180 (bA_at bd03_dec_X8_0_0 6 rfl rfl) rfl
theorem dX8_lay_13 : decode cX8_lay 13 = .ok (.iconst 0, 1) := op3 (bA_at bd03_dec_X8_0_0 7 rfl rfl)
theorem dX8_lay_14 : decode cX8_lay 14 = .ok (.aload_n 0, 1) := op42 (bA_at bd03_dec_X8_0_0 8 rfl rfl)
theorem dX8_lay_15 : decode cX8_lay 15 = .ok (.getfield 9, 3) := op180 (bA_at bd03_dec_X8_0_0 9 rfl rfl) rfl
theorem dX8_lay_18 : decode cX8_lay 18 = .ok (.iconst 0, 1) := op3 (bA_at bd03_dec_X8_0_0 10 rfl rfl)
theorem dX8_lay_19 : decode cX8_lay 19 = .ok (.iload_n 2, 1) := op28 (bA_at bd03_dec_X8_0_0 11 rfl rfl)
theorem bd03_dec_X8_0_1 : ([(0, [4]), (1, [96]), (2, [184, 0, 18]), (5, [3]), (6, [54, 5]), (8, [21, 5]), (10, [28]), (11, [163, 0, 25]), (14, [42]), (15, [180, 0, 15]), (18, [21, 5]), (20, [42])] : List (Nat × List UInt8)).all (fun x => prB x.2 ((cX8_lay.data.toList.drop 20).drop x.1)) = true := by decide +kernel
theorem dX8_lay_20 : decode cX8_lay 20 = .ok (.iconst 1, 1) := op4 (bA_at bd03_dec_X8_0_1 0 rfl rfl)
theorem dX8_lay_21 : decode cX8_lay 21 = .ok (.iadd, 1) := op96 (bA_at bd03_dec_X8_0_1 1 rfl rfl)
theorem dX8_lay_22 : decode cX8_lay 22 = .ok (.invokestatic 18, 3) := op184 (bA_at bd03_dec_X8_0_1 2 rfl rfl) rfl
theorem dX8_lay_25 : decode cX8_lay 25 = .ok (.iconst 0, 1) := op3 (bA_at bd03_dec_X8_0_1 3 rfl rfl)
theorem dX8_lay_26 : decode cX8_lay 26 = .ok (.istore 5, 2) := op54 (bA_at bd03_dec_X8_0_1 4 rfl rfl) rfl
theorem dX8_lay_28 : decode cX8_lay 28 = .ok (.iload 5, 2) := op21 (bA_at bd03_dec_X8_0_1 5 rfl rfl) rfl
theorem dX8_lay_30 : decode cX8_lay 30 = .ok (.iload_n 2, 1) := op28 (bA_at bd03_dec_X8_0_1 6 rfl rfl)
theorem dX8_lay_31 : decode cX8_lay 31 = .ok (.if_icmp .gt 25, 3) := op163 (bA_at bd03_dec_X8_0_1 7 rfl rfl) (by decide +kernel)
theorem dX8_lay_34 : decode cX8_lay 34 = .ok (.aload_n 0, 1) := op42 (bA_at bd03_dec_X8_0_1 8 rfl rfl)
theorem dX8_lay_35 : decode cX8_lay 35 = .ok (.getfield 15, 3) := op180 (bA_at bd03_dec_X8_0_1 9 rfl rfl) rfl
theorem dX8_lay_38 : decode cX8_lay 38 = .ok (.iload 5, 2) := op21 (bA_at bd03_dec_X8_0_1 10 rfl rfl) rfl
theorem dX8_lay_40 : decode cX8_lay 40 = .ok (.aload_n 0, 1) := op42 (bA_at bd03_dec_X8_0_1 11 rfl rfl)
theorem bd03_dec_X8_0_2 : ([(0, [21, 4]), (2, [21, 5]), (4, [29]), (5, [182, 0, 24]), (8, [79]), (9, [132, 5, 1]), (12, [167, 255, 231]), (15, [132, 4, 1]), (18, [167, 255, 200]), (21, [177])] : List (Nat × List UInt8)).all (fun x => prB x.2 ((cX8_lay.data.toList.drop 41).drop x.1)) = true := by decide +kernel
theorem dX8_lay_41 : decode cX8_lay 41 = .ok (.iload 4, 2) := op21 (bA_at bd03_dec_X8_0_2 0 rfl rfl) rfl
theorem dX8_lay_43 : decode cX8_lay 43 = .ok (.iload 5, 2) := op21 (bA_at bd03_dec_X8_0_2 1 rfl rfl) rfl
theorem dX8_lay_45 : decode cX8_lay 45 = .ok (.iload_n 3, 1) := op29 (bA_at bd03_dec_X8_0_2 2 rfl rfl)
theorem dX8_lay_46 : decode cX8_lay 46 = .ok (.invokevirtual 24, 3) := op182 (bA_at bd03_dec_X8_0_2 3 rfl rfl) rfl
theorem dX8_lay_49 : decode cX8_lay 49 = .ok (.iastore, 1) := op79 (bA_at bd03_dec_X8_0_2 4 rfl rfl)
theorem dX8_lay_50 : decode cX8_lay 50 = .ok (.iinc 5 1, 3) := op132 (bA_at bd03_dec_X8_0_2 5 rfl rfl) rfl (by decide +kernel)
theorem dX8_lay_53 : decode cX8_lay 53 = .ok (.goto (-25), 3) := op167 (bA_at bd03_dec_X8_0_2 6 rfl rfl) (by decide +kernel)
theorem dX8_lay_56 : decode cX8_lay 56 = .ok (.iinc 4 1, 3) := op132 (bA_at bd03_dec_X8_0_2 7 rfl rfl) rfl (by decide +kernel)
theorem dX8_lay_59 : decode cX8_lay 59 = .ok (.goto (-56), 3) := op167 (bA_at bd03_dec_X8_0_2 8 rfl rfl) (by decide +kernel)
theorem dX8_lay_62 : decode cX8_lay 62 = .ok (.return_, 1) := op177 (bA_at bd03_dec_X8_0_2 9 rfl rfl)
theorem bd03_dec_X8_0_3 : ([(0, [28]), (1, [5]), (2, [161, 0, 17]), (5, [42]), (6, [180, 0, 15]), (9, [28]), (10, [5]), (11, [100]), (12, [46]), (13, [2]), (14, [160, 0, 5]), (17, [5])] : List (Nat × List UInt8)).all (fun x => prB x.2 ((cX8_firstTake.data.toList.drop 0).drop x.1)) = true := by decide +kernel
theorem dX8_firstTake_0 : decode cX8_firstTake 0 = .ok (.iload_n 2, 1) := op28 (bA_at bd03_dec_X8_0_3 0 rfl rfl)
theorem dX8_firstTake_1 : decode cX8_firstTake 1 = .ok (.iconst 2, 1) := op5 (bA_at bd03_dec_X8_0_3 1 rfl rfl)
theorem dX8_firstTake_2 : decode cX8_firstTake 2 = .ok (.if_icmp .lt 17, 3) := op161 (bA_at bd03_dec_X8_0_3 2 rfl rfl) (by decide +kernel)
theorem dX8_firstTake_5 : decode cX8_firstTake 5 = .ok (.aload_n 0, 1) := op42 (bA_at bd03_dec_X8_0_3 3 rfl rfl)
theorem dX8_firstTake_6 : decode cX8_firstTake 6 = .ok (.getfield 15, 3) := op180 (bA_at bd03_dec_X8_0_3 4 rfl rfl) rfl
theorem dX8_firstTake_9 : decode cX8_firstTake 9 = .ok (.iload_n 2, 1) := op28 (bA_at bd03_dec_X8_0_3 5 rfl rfl)
theorem dX8_firstTake_10 : decode cX8_firstTake 10 = .ok (.iconst 2, 1) := op5 (bA_at bd03_dec_X8_0_3 6 rfl rfl)
theorem dX8_firstTake_11 : decode cX8_firstTake 11 = .ok (.isub, 1) := op100 (bA_at bd03_dec_X8_0_3 7 rfl rfl)
theorem dX8_firstTake_12 : decode cX8_firstTake 12 = .ok (.iaload, 1) := op46 (bA_at bd03_dec_X8_0_3 8 rfl rfl)
theorem dX8_firstTake_13 : decode cX8_firstTake 13 = .ok (.iconst (-1), 1) := op2 (bA_at bd03_dec_X8_0_3 9 rfl rfl)
theorem dX8_firstTake_14 : decode cX8_firstTake 14 = .ok (.if_icmp .ne 5, 3) := op160 (bA_at bd03_dec_X8_0_3 10 rfl rfl) (by decide +kernel)
theorem dX8_firstTake_17 : decode cX8_firstTake 17 = .ok (.iconst 2, 1) := op5 (bA_at bd03_dec_X8_0_3 11 rfl rfl)
theorem bd03_dec_X8_0_4 : ([(0, [172]), (1, [4]), (2, [54, 4]), (4, [27]), (5, [158, 0, 40]), (8, [21, 4]), (10, [29]), (11, [163, 0, 34]), (14, [21, 4]), (16, [28]), (17, [163, 0, 28]), (20, [42])] : List (Nat × List UInt8)).all (fun x => prB x.2 ((cX8_firstTake.data.toList.drop 18).drop x.1)) = true := by decide +kernel
theorem dX8_firstTake_18 : decode cX8_firstTake 18 = .ok (.ireturn, 1) := op172 (bA_at bd03_dec_X8_0_4 0 rfl rfl)
theorem dX8_firstTake_19 : decode cX8_firstTake 19 = .ok (.iconst 1, 1) := op4 (bA_at bd03_dec_X8_0_4 1 rfl rfl)
theorem dX8_firstTake_20 : decode cX8_firstTake 20 = .ok (.istore 4, 2) := op54 (bA_at bd03_dec_X8_0_4 2 rfl rfl) rfl
theorem dX8_firstTake_22 : decode cX8_firstTake 22 = .ok (.iload_n 1, 1) := op27 (bA_at bd03_dec_X8_0_4 3 rfl rfl)
theorem dX8_firstTake_23 : decode cX8_firstTake 23 = .ok (.ifCond .le 40, 3) := op158 (bA_at bd03_dec_X8_0_4 4 rfl rfl) (by decide +kernel)
theorem dX8_firstTake_26 : decode cX8_firstTake 26 = .ok (.iload 4, 2) := op21 (bA_at bd03_dec_X8_0_4 5 rfl rfl) rfl
theorem dX8_firstTake_28 : decode cX8_firstTake 28 = .ok (.iload_n 3, 1) := op29 (bA_at bd03_dec_X8_0_4 6 rfl rfl)
theorem dX8_firstTake_29 : decode cX8_firstTake 29 = .ok (.if_icmp .gt 34, 3) := op163 (bA_at bd03_dec_X8_0_4 7 rfl rfl) (by decide +kernel)
theorem dX8_firstTake_32 : decode cX8_firstTake 32 = .ok (.iload 4, 2) := op21 (bA_at bd03_dec_X8_0_4 8 rfl rfl) rfl
theorem dX8_firstTake_34 : decode cX8_firstTake 34 = .ok (.iload_n 2, 1) := op28 (bA_at bd03_dec_X8_0_4 9 rfl rfl)
theorem dX8_firstTake_35 : decode cX8_firstTake 35 = .ok (.if_icmp .gt 28, 3) := op163 (bA_at bd03_dec_X8_0_4 10 rfl rfl) (by decide +kernel)
theorem dX8_firstTake_38 : decode cX8_firstTake 38 = .ok (.aload_n 0, 1) := op42 (bA_at bd03_dec_X8_0_4 11 rfl rfl)
theorem bd03_dec_X8_0_5 : ([(0, [180, 0, 9]), (3, [28]), (4, [21, 4]), (6, [100]), (7, [46]), (8, [2]), (9, [160, 0, 9]), (12, [16, 10]), (14, [21, 4]), (16, [96]), (17, [172]), (18, [132, 4, 1])] : List (Nat × List UInt8)).all (fun x => prB x.2 ((cX8_firstTake.data.toList.drop 39).drop x.1)) = true := by decide +kernel
theorem dX8_firstTake_39 : decode cX8_firstTake 39 = .ok (.getfield 9, 3) := op180 (bA_at bd03_dec_X8_0_5 0 rfl rfl) rfl
theorem dX8_firstTake_42 : decode cX8_firstTake 42 = .ok (.iload_n 2, 1) := op28 (bA_at bd03_dec_X8_0_5 1 rfl rfl)
theorem dX8_firstTake_43 : decode cX8_firstTake 43 = .ok (.iload 4, 2) := op21 (bA_at bd03_dec_X8_0_5 2 rfl rfl) rfl
theorem dX8_firstTake_45 : decode cX8_firstTake 45 = .ok (.isub, 1) := op100 (bA_at bd03_dec_X8_0_5 3 rfl rfl)
theorem dX8_firstTake_46 : decode cX8_firstTake 46 = .ok (.iaload, 1) := op46 (bA_at bd03_dec_X8_0_5 4 rfl rfl)
theorem dX8_firstTake_47 : decode cX8_firstTake 47 = .ok (.iconst (-1), 1) := op2 (bA_at bd03_dec_X8_0_5 5 rfl rfl)
theorem dX8_firstTake_48 : decode cX8_firstTake 48 = .ok (.if_icmp .ne 9, 3) := op160 (bA_at bd03_dec_X8_0_5 6 rfl rfl) (by decide +kernel)
theorem dX8_firstTake_51 : decode cX8_firstTake 51 = .ok (.bipush 10, 2) := op16 (bA_at bd03_dec_X8_0_5 7 rfl rfl) (by decide +kernel)
theorem dX8_firstTake_53 : decode cX8_firstTake 53 = .ok (.iload 4, 2) := op21 (bA_at bd03_dec_X8_0_5 8 rfl rfl) rfl
theorem dX8_firstTake_55 : decode cX8_firstTake 55 = .ok (.iadd, 1) := op96 (bA_at bd03_dec_X8_0_5 9 rfl rfl)
theorem dX8_firstTake_56 : decode cX8_firstTake 56 = .ok (.ireturn, 1) := op172 (bA_at bd03_dec_X8_0_5 10 rfl rfl)
theorem dX8_firstTake_57 : decode cX8_firstTake 57 = .ok (.iinc 4 1, 3) := op132 (bA_at bd03_dec_X8_0_5 11 rfl rfl) rfl (by decide +kernel)
theorem bd03_dec_X8_0_6 : ([(0, [167, 255, 218]), (3, [2]), (4, [172])] : List (Nat × List UInt8)).all (fun x => prB x.2 ((cX8_firstTake.data.toList.drop 60).drop x.1)) = true := by decide +kernel
theorem dX8_firstTake_60 : decode cX8_firstTake 60 = .ok (.goto (-38), 3) := op167 (bA_at bd03_dec_X8_0_6 0 rfl rfl) (by decide +kernel)
theorem dX8_firstTake_63 : decode cX8_firstTake 63 = .ok (.iconst (-1), 1) := op2 (bA_at bd03_dec_X8_0_6 1 rfl rfl)
theorem dX8_firstTake_64 : decode cX8_firstTake 64 = .ok (.ireturn, 1) := op172 (bA_at bd03_dec_X8_0_6 2 rfl rfl)
end
