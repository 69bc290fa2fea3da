theorem bd03_dec_X2_0_0 : ([(0, [42]), (1, [43]), (2, [180, 0, 43]), (5, [181, 0, 43]), (8, [42]), (9, [43]), (10, [180, 0, 46]), (13, [181, 0, 46]), (16, [42]), (17, [43]), (18, [180, 0, 49]), (21, [181, 0, 49]), (24, [42]), (25, [43]), (26, [180, 0, 52]), (29, [181, 0, 52]), (32, [42]), (33, [43]), (34, [180, 0, 55]), (37, [181, 0, 55]), (40, [42]), (41, [43]), (42, [180, 0, 9]), (45, [181, 0, 9]), (48, [42]), (49, [43]), (50, [180, 0, 15]), (53, [181, 0, 15]), (56, [43]), (57, [180, 0, 18]), (60, [3]), (61, [42]), (62, [180, 0, 18]), (65, [3]), (66, [16, 9]), (68, [184, 0, 64]), (71, [43]), (72, [180, 0, 22]), (75, [3]), (76, [42]), (77, [180, 0, 22]), (80, [3]), (81, [16, 9]), (83, [184, 0, 64]), (86, [43]), (87, [180, 0, 25]), (90, [3]), (91, [42]), (92, [180, 0, 25]), (95, [3])] : List (Nat × List UInt8)).all (fun x => prB x.2 ((cX2_copyFrom.data.toList.drop 0).drop x.1)) = true := by decide +kernel
theorem dX2_copyFrom_0 : decode cX2_copyFrom 0 = .ok (.aload_n 0, 1) := op42 (bA_at bd03_dec_X2_0_0 0 rfl rfl)
theorem dX2_copyFrom_1 : decode cX2_copyFrom 1 = .ok (.aload_n 1, 1) := op43 (bA_at bd03_dec_X2_0_0 1 rfl rfl)
theorem dX2_copyFrom_2 : decode cX2_copyFrom 2 = .ok (.getfield 43, 3) := op180 (bA_at bd03_dec_X2_0_0 2 rfl rfl) rfl
theorem dX2_copyFrom_5 : decode cX2_copyFrom 5 = .ok (.putfield 43, 3) := op181 (bA_at bd03_dec_X2_0_0 3 rfl rfl) rfl
theorem dX2_copyFrom_8 : decode cX2_copyFrom 8 = .ok (.aload_n 0, 1) := op42 (bA_at bd03_dec_X2_0_0 4 rfl rfl)
theorem dX2_copyFrom_9 : decode cX2_copyFrom 9 = .ok (.aload_n 1, 1) := op43 (bA_at bd03_dec_X2_0_0 5 rfl rfl)
theorem dX2_copyFrom_10 : decode cX2_copyFrom 10 = .ok (.getfield 46, 3) := op180 (bA_at bd03_dec_X2_0_0 6 rfl rfl) rfl
theorem dX2_copyFrom_13 : decode cX2_copyFrom 13 = .ok (.putfield 46, 3) := op181 (bA_at bd03_dec_X2_0_0 7 rfl rfl) rfl
theorem dX2_copyFrom_16 : decode cX2_copyFrom 16 = .ok (.aload_n 0, 1) := op42 (bA_at bd03_dec_X2_0_0 8 rfl rfl)
theorem dX2_copyFrom_17 : decode cX2_copyFrom 17 = .ok (.aload_n 1, 1) := op43 (bA_at bd03_dec_X2_0_0 9 rfl rfl)
theorem dX2_copyFrom_18 : decode cX2_copyFrom 18 = .ok (.getfield 49, 3) := op180 (bA_at bd03_dec_X2_0_0 10 rfl rfl) rfl
theorem dX2_copyFrom_21 : decode cX2_copyFrom 21 = .ok (.putfield 49, 3) := op181 (bA_at bd03_dec_X2_0_0 11 rfl rfl) rfl
theorem dX2_copyFrom_24 : decode cX2_copyFrom 24 = .ok (.aload_n 0, 1) := op42 (bA_at bd03_dec_X2_0_0 12 rfl rfl)
theorem dX2_copyFrom_25 : decode cX2_copyFrom 25 = .ok (.aload_n 1, 1) := op43 (bA_at bd03_dec_X2_0_0 13 rfl rfl)
theorem dX2_copyFrom_26 : decode cX2_copyFrom 26 = .ok (.getfield 52, 3) := op180 (bA_at bd03_dec_X2_0_0 14 rfl rfl) rfl
theorem dX2_copyFrom_29 : decode cX2_copyFrom 29 = .ok (.putfield 52, 3) := op181 (bA_at bd03_dec_X2_0_0 15 rfl rfl) rfl
theorem dX2_copyFrom_32 : decode cX2_copyFrom 32 = .ok (.aload_n 0, 1) := op42 (bA_at bd03_dec_X2_0_0 16 rfl rfl)
theorem dX2_copyFrom_33 : decode cX2_copyFrom 33 = .ok (.aload_n 1, 1) := op43 (bA_at bd03_dec_X2_0_0 17 rfl rfl)
theorem dX2_copyFrom_34 : decode cX2_copyFrom 34 = .ok (.getfield 55, 3) := op180 (bA_at bd03_dec_X2_0_0 18 rfl rfl) rfl
theorem dX2_copyFrom_37 : decode cX2_copyFrom 37 = .ok (.putfield 55, 3) := op181 (bA_at bd03_dec_X2_0_0 19 rfl rfl) rfl
theorem dX2_copyFrom_40 : decode cX2_copyFrom 40 = .ok (.aload_n 0, 1) := op42 (bA_at bd03_dec_X2_0_0 20 rfl rfl)
theorem dX2_copyFrom_41 : decode cX2_copyFrom 41 = .ok (.aload_n 1, 1) := op43 (bA_at bd03_dec_X2_0_0 21 rfl rfl)
theorem dX2_copyFrom_42 : decode cX2_copyFrom 42 = .ok (.getfield 9, 3) := op180 (bA_at bd03_dec_X2_0_0 22 rfl rfl) rfl
theorem dX2_copyFrom_45 : decode cX2_copyFrom 45 = .ok (.putfield 9, 3) := op181 (bA_at bd03_dec_X2_0_0 23 rfl rfl) rfl
theorem dX2_copyFrom_48 : decode cX2_copyFrom 48 = .ok (.aload_n 0, 1) := op42 (bA_at bd03_dec_X2_0_0 24 rfl rfl)
theorem dX2_copyFrom_49 : decode cX2_copyFrom 49 = .ok (.aload_n 1, 1) := op43 (bA_at bd03_dec_X2_0_0 25 rfl rfl)
theorem dX2_copyFrom_50 : decode cX2_copyFrom 50 = .ok (.getfield 15, 3) := op180 (bA_at bd03_dec_X2_0_0 26 rfl rfl) rfl
theorem dX2_copyFrom_53 : decode cX2_copyFrom 53 = .ok (.putfield 15, 3) := op181 (bA_at bd03_dec_X2_0_0 27 rfl rfl) rfl
theorem dX2_copyFrom_56 : decode cX2_copyFrom 56 = .ok (.aload_n 1, 1) := op43 (bA_at bd03_dec_X2_0_0 28 rfl rfl)
theorem dX2_copyFrom_57 : decode cX2_copyFrom 57 = .ok (.getfield 18, 3) := op180 (bA_at bd03_dec_X2_0_0 29 rfl rfl) rfl
theorem dX2_copyFrom_60 : decode cX2_copyFrom 60 = .ok (.iconst 0, 1) := op3 (bA_at bd03_dec_X2_0_0 30 rfl rfl)
theorem dX2_copyFrom_61 : decode cX2_copyFrom 61 = .ok (.aload_n 0, 1) := op42 (bA_at bd03_dec_X2_0_0 31 rfl rfl)
theorem dX2_copyFrom_62 : decode cX2_copyFrom 62 = .ok (.getfield 18, 3) := op180 (bA_at bd03_dec_X2_0_0 32 rfl rfl) rfl
theorem dX2_copyFrom_65 : decode cX2_copyFrom 65 = .ok (.iconst 0, 1) := op3 (bA_at bd03_dec_X2_0_0 33 rfl rfl)
theorem dX2_copyFrom_66 : decode cX2_copyFrom 66 = .ok (.bipush 9, 2) := op16 (bA_at bd03_dec_X2_0_0 34 rfl rfl) (by decide +kernel)
theorem dX2_copyFrom_68 : decode cX2_copyFrom 68 = .ok (.invokestatic 64, 3) := op184 (bA_at bd03_dec_X2_0_0 35 rfl rfl) rfl
theorem dX2_copyFrom_71 : decode cX2_copyFrom 71 = .ok (.aload_n 1, 1) := op43 (bA_at bd03_dec_X2_0_0 36 rfl rfl)
theorem dX2_copyFrom_72 : decode cX2_copyFrom 72 = .ok (.getfield 22, 3) := op180 (bA_at bd03_dec_X2_0_0 37 rfl rfl) rfl
theorem dX2_copyFrom_75 : decode cX2_copyFrom 75 = .ok (.iconst 0, 1) := op3 (bA_at bd03_dec_X2_0_0 38 rfl rfl)
theorem dX2_copyFrom_76 : decode cX2_copyFrom 76 = .ok (.aload_n 0, 1) := op42 (bA_at bd03_dec_X2_0_0 39 rfl rfl)
theorem dX2_copyFrom_77 : decode cX2_copyFrom 77 = .ok (.getfield 22, 3) := op180 (bA_at bd03_dec_X2_0_0 40 rfl rfl) rfl
theorem dX2_copyFrom_80 : decode cX2_copyFrom 80 = .ok (.iconst 0, 1) := op3 (bA_at bd03_dec_X2_0_0 41 rfl rfl)
theorem dX2_copyFrom_81 : decode cX2_copyFrom 81 = .ok (.bipush 9, 2) := op16 (bA_at bd03_dec_X2_0_0 42 rfl rfl) (by decide +kernel)
theorem dX2_copyFrom_83 : decode cX2_copyFrom 83 = .ok (.invokestatic 64, 3) := op184 (bA_at bd03_dec_X2_0_0 43 rfl rfl) rfl
theorem dX2_copyFrom_86 : decode cX2_copyFrom 86 = .ok (.aload_n 1, 1) := op43 (bA_at bd03_dec_X2_0_0 44 rfl rfl)
theorem dX2_copyFrom_87 : decode cX2_copyFrom 87 = .ok (.getfield 25, 3) := op180 (bA_at bd03_dec_X2_0_0 45 rfl rfl) rfl
theorem dX2_copyFrom_90 : decode cX2_copyFrom 90 = .ok (.iconst 0, 1) := op3 (bA_at bd03_dec_X2_0_0 46 rfl rfl)
theorem dX2_copyFrom_91 : decode cX2_copyFrom 91 = .ok (.aload_n 0, 1) := op42 (bA_at bd03_dec_X2_0_0 47 rfl rfl)
theorem dX2_copyFrom_92 : decode cX2_copyFrom 92 = .ok (.getfield 25, 3) := op180 (bA_at bd03_dec_X2_0_0 48 rfl rfl) rfl
theorem dX2_copyFrom_95 : decode cX2_copyFrom 95 = .ok (.iconst 0, 1) := op3 (bA_at bd03_dec_X2_0_0 49 rfl rfl)
theorem bd03_dec_X2_0_1 : ([(0, [16, 81]), (2, [184, 0, 64]), (5, [43]), (6, [180, 0, 28]), (9, [3]), (10, [42]), (11, [180, 0, 28]), (14, [3]), (15, [7]), (16, [184, 0, 64]), (19, [43]), (20, [180, 0, 31]), (23, [3]), (24, [42]), (25, [180, 0, 31]), (28, [3]), (29, [7]), (30, [184, 0, 64]), (33, [43]), (34, [180, 0, 34]), (37, [3]), (38, [42]), (39, [180, 0, 34]), (42, [3]), (43, [16, 6]), (45, [184, 0, 64]), (48, [43]), (49, [180, 0, 37]), (52, [3]), (53, [42]), (54, [180, 0, 37]), (57, [3]), (58, [16, 6]), (60, [184, 0, 64]), (63, [43]), (64, [180, 0, 40]), (67, [3]), (68, [42]), (69, [180, 0, 40]), (72, [3]), (73, [16, 6]), (75, [184, 0, 64]), (78, [177])] : List (Nat × List UInt8)).all (fun x => prB x.2 ((cX2_copyFrom.data.toList.drop 96).drop x.1)) = true := by decide +kernel
theorem dX2_copyFrom_96 : decode cX2_copyFrom 96 = .ok (.bipush 81, 2) := op16 (bA_at bd03_dec_X2_0_1 0 rfl rfl) (by decide +kernel)
theorem dX2_copyFrom_98 : decode cX2_copyFrom 98 = .ok (.invokestatic 64, 3) := op184 (bA_at bd03_dec_X2_0_1 1 rfl rfl) rfl
theorem dX2_copyFrom_101 : decode cX2_copyFrom 101 = .ok (.aload_n 1, 1) := op43 (bA_at bd03_dec_X2_0_1 2 rfl rfl)
theorem dX2_copyFrom_102 : decode cX2_copyFrom 102 = .ok (.getfield 28, 3) := op180 (bA_at bd03_dec_X2_0_1 3 rfl rfl) rfl
theorem dX2_copyFrom_105 : decode cX2_copyFrom 105 = .ok (.iconst 0, 1) := op3 (bA_at bd03_dec_X2_0_1 4 rfl rfl)
theorem dX2_copyFrom_106 : decode cX2_copyFrom 106 = .ok (.aload_n 0, 1) := op42 (bA_at bd03_dec_X2_0_1 5 rfl rfl)
theorem dX2_copyFrom_107 : decode cX2_copyFrom 107 = .ok (.getfield 28, 3) := op180 (bA_at bd03_dec_X2_0_1 6 rfl rfl) rfl
theorem dX2_copyFrom_110 : decode cX2_copyFrom 110 = .ok (.iconst 0, 1) := op3 (bA_at bd03_dec_X2_0_1 7 rfl rfl)
theorem dX2_copyFrom_111 : decode cX2_copyFrom 111 = .ok (.iconst 4, 1) := op7 (bA_at bd03_dec_X2_0_1 8 rfl rfl)
theorem dX2_copyFrom_112 : decode cX2_copyFrom 112 = .ok (.invokestatic 64, 3) := op184 (bA_at bd03_dec_X2_0_1 9 rfl rfl) rfl
theorem dX2_copyFrom_115 : decode cX2_copyFrom 115 = .ok (.aload_n 1, 1) := op43 (bA_at bd03_dec_X2_0_1 10 rfl rfl)
theorem dX2_copyFrom_116 : decode cX2_copyFrom 116 = .ok (.getfield 31, 3) := op180 (bA_at bd03_dec_X2_0_1 11 rfl rfl) rfl
theorem dX2_copyFrom_119 : decode cX2_copyFrom 119 = .ok (.iconst 0, 1) := op3 (bA_at bd03_dec_X2_0_1 12 rfl rfl)
theorem dX2_copyFrom_120 : decode cX2_copyFrom 120 = .ok (.aload_n 0, 1) := op42 (bA_at bd03_dec_X2_0_1 13 rfl rfl)
theorem dX2_copyFrom_121 : decode cX2_copyFrom 121 = .ok (.getfield 31, 3) := op180 (bA_at bd03_dec_X2_0_1 14 rfl rfl) rfl
theorem dX2_copyFrom_124 : decode cX2_copyFrom 124 = .ok (.iconst 0, 1) := op3 (bA_at bd03_dec_X2_0_1 15 rfl rfl)
theorem dX2_copyFrom_125 : decode cX2_copyFrom 125 = .ok (.iconst 4, 1) := op7 (bA_at bd03_dec_X2_0_1 16 rfl rfl)
theorem dX2_copyFrom_126 : decode cX2_copyFrom 126 = .ok (.invokestatic 64, 3) := op184 (bA_at bd03_dec_X2_0_1 17 rfl rfl) rfl
theorem dX2_copyFrom_129 : decode cX2_copyFrom 129 = .ok (.aload_n 1, 1) := op43 (bA_at bd03_dec_X2_0_1 18 rfl rfl)
theorem dX2_copyFrom_130 : decode cX2_copyFrom 130 = .ok (.getfield 34, 3) := op180 (bA_at bd03_dec_X2_0_1 19 rfl rfl) rfl
theorem dX2_copyFrom_133 : decode cX2_copyFrom 133 = .ok (.iconst 0, 1) := op3 (bA_at bd03_dec_X2_0_1 20 rfl rfl)
theorem dX2_copyFrom_134 : decode cX2_copyFrom 134 = .ok (.aload_n 0, 1) := op42 (bA_at bd03_dec_X2_0_1 21 rfl rfl)
theorem dX2_copyFrom_135 : decode cX2_copyFrom 135 = .ok (.getfield 34, 3) := op180 (bA_at bd03_dec_X2_0_1 22 rfl rfl) rfl
theorem dX2_copyFrom_138 : decode cX2_copyFrom 138 = .ok (.iconst 0, 1) := op3 (bA_at bd03_dec_X2_0_1 23 rfl rfl)
theorem dX2_copyFrom_139 : decode cX2_copyFrom 139 = .ok (.bipush 6, 2) := op16 (bA_at bd03_dec_X2_0_1 24 rfl rfl) (by decide +kernel)
theorem dX2_copyFrom_141 : decode cX2_copyFrom 141 = .ok (.invokestatic 64, 3) := op184 (bA_at bd03_dec_X2_0_1 25 rfl rfl) rfl
theorem dX2_copyFrom_144 : decode cX2_copyFrom 144 = .ok (.aload_n 1, 1) := op43 (bA_at bd03_dec_X2_0_1 26 rfl rfl)
theorem dX2_copyFrom_145 : decode cX2_copyFrom 145 = .ok (.getfield 37, 3) := op180 (bA_at bd03_dec_X2_0_1 27 rfl rfl) rfl
theorem dX2_copyFrom_148 : decode cX2_copyFrom 148 = .ok (.iconst 0, 1) := op3 (bA_at bd03_dec_X2_0_1 28 rfl rfl)
theorem dX2_copyFrom_149 : decode cX2_copyFrom 149 = .ok (.aload_n 0, 1) := op42 (bA_at bd03_dec_X2_0_1 29 rfl rfl)
theorem dX2_copyFrom_150 : decode cX2_copyFrom 150 = .ok (.getfield 37, 3) := op180 (bA_at bd03_dec_X2_0_1 30 rfl rfl) rfl
theorem dX2_copyFrom_153 : decode cX2_copyFrom 153 = .ok (.iconst 0, 1) := op3 (bA_at bd03_dec_X2_0_1 31 rfl rfl)
theorem dX2_copyFrom_154 : decode cX2_copyFrom 154 = .ok (.bipush 6, 2) := op16 (bA_at bd03_dec_X2_0_1 32 rfl rfl) (by decide +kernel)
theorem dX2_copyFrom_156 : decode cX2_copyFrom 156 = .ok (.invokestatic 64, 3) := op184 (bA_at bd03_dec_X2_0_1 33 rfl rfl) rfl
theorem dX2_copyFrom_159 : decode cX2_copyFrom 159 = .ok (.aload_n 1, 1) := op43 (bA_at bd03_dec_X2_0_1 34 rfl rfl)
theorem dX2_copyFrom_160 : decode cX2_copyFrom 160 = .ok (.getfield 40, 3) := op180 (bA_at bd03_dec_X2_0_1 35 rfl rfl) rfl
theorem dX2_copyFrom_163 : decode cX2_copyFrom 163 = .ok (.iconst 0, 1) := op3 (bA_at bd03_dec_X2_0_1 36 rfl rfl)
theorem dX2_copyFrom_164 : decode cX2_copyFrom 164 = .ok (.aload_n 0, 1) := op42 (bA_at bd03_dec_X2_0_1 37 rfl rfl)
theorem dX2_copyFrom_165 : decode cX2_copyFrom 165 = .ok (.getfield 40, 3) := op180 (bA_at bd03_dec_X2_0_1 38 rfl rfl) rfl
theorem dX2_copyFrom_168 : decode cX2_copyFrom 168 = .ok (.iconst 0, 1) := op3 (bA_at bd03_dec_X2_0_1 39 rfl rfl)
theorem dX2_copyFrom_169 : decode cX2_copyFrom 169 = .ok (.bipush 6, 2) := op16 (bA_at bd03_dec_X2_0_1 40 rfl rfl) (by decide +kernel)
theorem dX2_copyFrom_171 : decode cX2_copyFrom 171 = .ok (.invokestatic 64, 3) := op184 (bA_at bd03_dec_X2_0_1 41 rfl rfl) rfl
theorem dX2_copyFrom_174 : decode cX2_copyFrom 174 = .ok (.return_, 1) := op177 (bA_at bd03_dec_X2_0_1 42 rfl rfl)
theorem bd03_dec_X2_0_2 : ([(0, [27]), (1, [155, 0, 15]), (4, [27]), (5, [42]), (6, [180, 0, 43]), (9, [162, 0, 7]), (12, [4]), (13, [167, 0, 4]), (16, [3]), (17, [172])] : List (Nat × List UInt8)).all (fun x => prB x.2 ((cX2_hasHut.data.toList.drop 0).drop x.1)) = true := by decide +kernel
theorem dX2_hasHut_0 : decode cX2_hasHut 0 = .ok (.iload_n 1, 1) := op27 (bA_at bd03_dec_X2_0_2 0 rfl rfl)
theorem dX2_hasHut_1 : decode cX2_hasHut 1 = .ok (.ifCond .lt 15, 3) := op155 (bA_at bd03_dec_X2_0_2 1 rfl rfl) (by decide +kernel)
theorem dX2_hasHut_4 : decode cX2_hasHut 4 = .ok (.iload_n 1, 1) := op27 (bA_at bd03_dec_X2_0_2 2 rfl rfl)
theorem dX2_hasHut_5 : decode cX2_hasHut 5 = .ok (.aload_n 0, 1) := op42 (bA_at bd03_dec_X2_0_2 3 rfl rfl)
theorem dX2_hasHut_6 : decode cX2_hasHut 6 = .ok (.getfield 43, 3) := op180 (bA_at bd03_dec_X2_0_2 4 rfl rfl) rfl
theorem dX2_hasHut_9 : decode cX2_hasHut 9 = .ok (.if_icmp .ge 7, 3) := op162 (bA_at bd03_dec_X2_0_2 5 rfl rfl) (by decide +kernel)
theorem dX2_hasHut_12 : decode cX2_hasHut 12 = .ok (.iconst 1, 1) := op4 (bA_at bd03_dec_X2_0_2 6 rfl rfl)
theorem dX2_hasHut_13 : decode cX2_hasHut 13 = .ok (.goto 4, 3) := op167 (bA_at bd03_dec_X2_0_2 7 rfl rfl) (by decide +kernel)
theorem dX2_hasHut_16 : decode cX2_hasHut 16 = .ok (.iconst 0, 1) := op3 (bA_at bd03_dec_X2_0_2 8 rfl rfl)
theorem dX2_hasHut_17 : decode cX2_hasHut 17 = .ok (.ireturn, 1) := op172 (bA_at bd03_dec_X2_0_2 9 rfl rfl)
theorem bd03_dec_X2_0_3 : ([(0, [27]), (1, [155, 0, 15]), (4, [27]), (5, [42]), (6, [180, 0, 46]), (9, [162, 0, 7]), (12, [4]), (13, [167, 0, 4]), (16, [3]), (17, [172])] : List (Nat × List UInt8)).all (fun x => prB x.2 ((cX2_hasSinger.data.toList.drop 0).drop x.1)) = true := by decide +kernel
theorem dX2_hasSinger_0 : decode cX2_hasSinger 0 = .ok (.iload_n 1, 1) := op27 (bA_at bd03_dec_X2_0_3 0 rfl rfl)
theorem dX2_hasSinger_1 : decode cX2_hasSinger 1 = .ok (.ifCond .lt 15, 3) := op155 (bA_at bd03_dec_X2_0_3 1 rfl rfl) (by decide +kernel)
theorem dX2_hasSinger_4 : decode cX2_hasSinger 4 = .ok (.iload_n 1, 1) := op27 (bA_at bd03_dec_X2_0_3 2 rfl rfl)
theorem dX2_hasSinger_5 : decode cX2_hasSinger 5 = .ok (.aload_n 0, 1) := op42 (bA_at bd03_dec_X2_0_3 3 rfl rfl)
theorem dX2_hasSinger_6 : decode cX2_hasSinger 6 = .ok (.getfield 46, 3) := op180 (bA_at bd03_dec_X2_0_3 4 rfl rfl) rfl
theorem dX2_hasSinger_9 : decode cX2_hasSinger 9 = .ok (.if_icmp .ge 7, 3) := op162 (bA_at bd03_dec_X2_0_3 5 rfl rfl) (by decide +kernel)
theorem dX2_hasSinger_12 : decode cX2_hasSinger 12 = .ok (.iconst 1, 1) := op4 (bA_at bd03_dec_X2_0_3 6 rfl rfl)
theorem dX2_hasSinger_13 : decode cX2_hasSinger 13 = .ok (.goto 4, 3) := op167 (bA_at bd03_dec_X2_0_3 7 rfl rfl) (by decide +kernel)
theorem dX2_hasSinger_16 : decode cX2_hasSinger 16 = .ok (.iconst 0, 1) := op3 (bA_at bd03_dec_X2_0_3 8 rfl rfl)
theorem dX2_hasSinger_17 : decode cX2_hasSinger 17 = .ok (.ireturn, 1) := op172 (bA_at bd03_dec_X2_0_3 9 rfl rfl)
theorem bd03_dec_X2_0_4 : ([(0, [42]), (1, [180, 0, 52]), (4, [27]), (5, [122]), (6, [4]), (7, [126]), (8, [153, 0, 7]), (11, [4]), (12, [167, 0, 4]), (15, [3]), (16, [172])] : List (Nat × List UInt8)).all (fun x => prB x.2 ((cX2_isDam.data.toList.drop 0).drop x.1)) = true := by decide +kernel
theorem dX2_isDam_0 : decode cX2_isDam 0 = .ok (.aload_n 0, 1) := op42 (bA_at bd03_dec_X2_0_4 0 rfl rfl)
theorem dX2_isDam_1 : decode cX2_isDam 1 = .ok (.getfield 52, 3) := op180 (bA_at bd03_dec_X2_0_4 1 rfl rfl) rfl
theorem dX2_isDam_4 : decode cX2_isDam 4 = .ok (.iload_n 1, 1) := op27 (bA_at bd03_dec_X2_0_4 2 rfl rfl)
theorem dX2_isDam_5 : decode cX2_isDam 5 = .ok (.ishr, 1) := op122 (bA_at bd03_dec_X2_0_4 3 rfl rfl)
theorem dX2_isDam_6 : decode cX2_isDam 6 = .ok (.iconst 1, 1) := op4 (bA_at bd03_dec_X2_0_4 4 rfl rfl)
theorem dX2_isDam_7 : decode cX2_isDam 7 = .ok (.iand, 1) := op126 (bA_at bd03_dec_X2_0_4 5 rfl rfl)
theorem dX2_isDam_8 : decode cX2_isDam 8 = .ok (.ifCond .eq 7, 3) := op153 (bA_at bd03_dec_X2_0_4 6 rfl rfl) (by decide +kernel)
theorem dX2_isDam_11 : decode cX2_isDam 11 = .ok (.iconst 1, 1) := op4 (bA_at bd03_dec_X2_0_4 7 rfl rfl)
theorem dX2_isDam_12 : decode cX2_isDam 12 = .ok (.goto 4, 3) := op167 (bA_at bd03_dec_X2_0_4 8 rfl rfl) (by decide +kernel)
theorem dX2_isDam_15 : decode cX2_isDam 15 = .ok (.iconst 0, 1) := op3 (bA_at bd03_dec_X2_0_4 9 rfl rfl)
theorem dX2_isDam_16 : decode cX2_isDam 16 = .ok (.ireturn, 1) := op172 (bA_at bd03_dec_X2_0_4 10 rfl rfl)
theorem bd03_dec_X2_0_5 : ([(0, [42]), (1, [27]), (2, [182, 0, 70]), (5, [153, 0, 15]), (8, [42]), (9, [27]), (10, [182, 0, 74]), (13, [154, 0, 7]), (16, [4]), (17, [167, 0, 4]), (20, [3]), (21, [172])] : List (Nat × List UInt8)).all (fun x => prB x.2 ((cX2_isOpen.data.toList.drop 0).drop x.1)) = true := by decide +kernel
theorem dX2_isOpen_0 : decode cX2_isOpen 0 = .ok (.aload_n 0, 1) := op42 (bA_at bd03_dec_X2_0_5 0 rfl rfl)
theorem dX2_isOpen_1 : decode cX2_isOpen 1 = .ok (.iload_n 1, 1) := op27 (bA_at bd03_dec_X2_0_5 1 rfl rfl)
theorem dX2_isOpen_2 : decode cX2_isOpen 2 = .ok (.invokevirtual 70, 3) := op182 (bA_at bd03_dec_X2_0_5 2 rfl rfl) rfl
theorem dX2_isOpen_5 : decode cX2_isOpen 5 = .ok (.ifCond .eq 15, 3) := op153 (bA_at bd03_dec_X2_0_5 3 rfl rfl) (by decide +kernel)
theorem dX2_isOpen_8 : decode cX2_isOpen 8 = .ok (.aload_n 0, 1) := op42 (bA_at bd03_dec_X2_0_5 4 rfl rfl)
theorem dX2_isOpen_9 : decode cX2_isOpen 9 = .ok (.iload_n 1, 1) := op27 (bA_at bd03_dec_X2_0_5 5 rfl rfl)
theorem dX2_isOpen_10 : decode cX2_isOpen 10 = .ok (.invokevirtual 74, 3) := op182 (bA_at bd03_dec_X2_0_5 6 rfl rfl) rfl
theorem dX2_isOpen_13 : decode cX2_isOpen 13 = .ok (.ifCond .ne 7, 3) := op154 (bA_at bd03_dec_X2_0_5 7 rfl rfl) (by decide +kernel)
theorem dX2_isOpen_16 : decode cX2_isOpen 16 = .ok (.iconst 1, 1) := op4 (bA_at bd03_dec_X2_0_5 8 rfl rfl)
theorem dX2_isOpen_17 : decode cX2_isOpen 17 = .ok (.goto 4, 3) := op167 (bA_at bd03_dec_X2_0_5 9 rfl rfl) (by decide +kernel)
theorem dX2_isOpen_20 : decode cX2_isOpen 20 = .ok (.iconst 0, 1) := op3 (bA_at bd03_dec_X2_0_5 10 rfl rfl)
theorem dX2_isOpen_21 : decode cX2_isOpen 21 = .ok (.ireturn, 1) := op172 (bA_at bd03_dec_X2_0_5 11 rfl rfl)
theorem bd03_dec_X2_0_6 : ([(0, [42]), (1, [180, 0, 25]), (4, [27]), (5, [16, 9]), (7, [104]), (8, [28]), (9, [96]), (10, [46]), (11, [158, 0, 38]), (14, [42]), (15, [180, 0, 18]), (18, [28]), (19, [46]), (20, [42]), (21, [180, 0, 18]), (24, [27]), (25, [46]), (26, [162, 0, 23]), (29, [42]), (30, [27]), (31, [182, 0, 74]), (34, [154, 0, 15]), (37, [42]), (38, [28]), (39, [182, 0, 74]), (42, [154, 0, 7]), (45, [4]), (46, [167, 0, 4]), (49, [3]), (50, [172])] : List (Nat × List UInt8)).all (fun x => prB x.2 ((cX2_leads.data.toList.drop 0).drop x.1)) = true := by decide +kernel
theorem dX2_leads_0 : decode cX2_leads 0 = .ok (.aload_n 0, 1) := op42 (bA_at bd03_dec_X2_0_6 0 rfl rfl)
theorem dX2_leads_1 : decode cX2_leads 1 = .ok (.getfield 25, 3) := op180 (bA_at bd03_dec_X2_0_6 1 rfl rfl) rfl
theorem dX2_leads_4 : decode cX2_leads 4 = .ok (.iload_n 1, 1) := op27 (bA_at bd03_dec_X2_0_6 2 rfl rfl)
theorem dX2_leads_5 : decode cX2_leads 5 = .ok (.bipush 9, 2) := op16 (bA_at bd03_dec_X2_0_6 3 rfl rfl) (by decide +kernel)
theorem dX2_leads_7 : decode cX2_leads 7 = .ok (.imul, 1) := op104 (bA_at bd03_dec_X2_0_6 4 rfl rfl)
theorem dX2_leads_8 : decode cX2_leads 8 = .ok (.iload_n 2, 1) := op28 (bA_at bd03_dec_X2_0_6 5 rfl rfl)
theorem dX2_leads_9 : decode cX2_leads 9 = .ok (.iadd, 1) := op96 (bA_at bd03_dec_X2_0_6 6 rfl rfl)
theorem dX2_leads_10 : decode cX2_leads 10 = .ok (.iaload, 1) := op46 (bA_at bd03_dec_X2_0_6 7 rfl rfl)
theorem dX2_leads_11 : decode cX2_leads 11 = .ok (.ifCond .le 38, 3) := op158 (bA_at bd03_dec_X2_0_6 8 rfl rfl) (by decide +kernel)
theorem dX2_leads_14 : decode cX2_leads 14 = .ok (.aload_n 0, 1) := op42 (bA_at bd03_dec_X2_0_6 9 rfl rfl)
theorem dX2_leads_15 : decode cX2_leads 15 = .ok (.getfield 18, 3) := op180 (bA_at bd03_dec_X2_0_6 10 rfl rfl) rfl
theorem dX2_leads_18 : decode cX2_leads 18 = .ok (.iload_n 2, 1) := op28 (bA_at bd03_dec_X2_0_6 11 rfl rfl)
theorem dX2_leads_19 : decode cX2_leads 19 = .ok (.iaload, 1) := op46 (bA_at bd03_dec_X2_0_6 12 rfl rfl)
theorem dX2_leads_20 : decode cX2_leads 20 = .ok (.aload_n 0, 1) := op42 (bA_at bd03_dec_X2_0_6 13 rfl rfl)
theorem dX2_leads_21 : decode cX2_leads 21 = .ok (.getfield 18, 3) := op180 (bA_at bd03_dec_X2_0_6 14 rfl rfl) rfl
theorem dX2_leads_24 : decode cX2_leads 24 = .ok (.iload_n 1, 1) := op27 (bA_at bd03_dec_X2_0_6 15 rfl rfl)
theorem dX2_leads_25 : decode cX2_leads 25 = .ok (.iaload, 1) := op46 (bA_at bd03_dec_X2_0_6 16 rfl rfl)
theorem dX2_leads_26 : decode cX2_leads 26 = .ok (.if_icmp .ge 23, 3) := op162 (bA_at bd03_dec_X2_0_6 17 rfl rfl) (by decide +kernel)
theorem dX2_leads_29 : decode cX2_leads 29 = .ok (.aload_n 0, 1) := op42 (bA_at bd03_dec_X2_0_6 18 rfl rfl)
theorem dX2_leads_30 : decode cX2_leads 30 = .ok (.iload_n 1, 1) := op27 (bA_at bd03_dec_X2_0_6 19 rfl rfl)
theorem dX2_leads_31 : decode cX2_leads 31 = .ok (.invokevirtual 74, 3) := op182 (bA_at bd03_dec_X2_0_6 20 rfl rfl) rfl
theorem dX2_leads_34 : decode cX2_leads 34 = .ok (.ifCond .ne 15, 3) := op154 (bA_at bd03_dec_X2_0_6 21 rfl rfl) (by decide +kernel)
theorem dX2_leads_37 : decode cX2_leads 37 = .ok (.aload_n 0, 1) := op42 (bA_at bd03_dec_X2_0_6 22 rfl rfl)
theorem dX2_leads_38 : decode cX2_leads 38 = .ok (.iload_n 2, 1) := op28 (bA_at bd03_dec_X2_0_6 23 rfl rfl)
theorem dX2_leads_39 : decode cX2_leads 39 = .ok (.invokevirtual 74, 3) := op182 (bA_at bd03_dec_X2_0_6 24 rfl rfl) rfl
theorem dX2_leads_42 : decode cX2_leads 42 = .ok (.ifCond .ne 7, 3) := op154 (bA_at bd03_dec_X2_0_6 25 rfl rfl) (by decide +kernel)
theorem dX2_leads_45 : decode cX2_leads 45 = .ok (.iconst 1, 1) := op4 (bA_at bd03_dec_X2_0_6 26 rfl rfl)
theorem dX2_leads_46 : decode cX2_leads 46 = .ok (.goto 4, 3) := op167 (bA_at bd03_dec_X2_0_6 27 rfl rfl) (by decide +kernel)
theorem dX2_leads_49 : decode cX2_leads 49 = .ok (.iconst 0, 1) := op3 (bA_at bd03_dec_X2_0_6 28 rfl rfl)
theorem dX2_leads_50 : decode cX2_leads 50 = .ok (.ireturn, 1) := op172 (bA_at bd03_dec_X2_0_6 29 rfl rfl)
theorem bd03_dec_X2_0_7 : ([(0, [42]), (1, [27]), (2, [182, 0, 74]), (5, [153, 0, 7]), (8, [3]), (9, [167, 0, 6]), (12, [4]), (13, [27]), (14, [120]), (15, [61]), (16, [3]), (17, [62]), (18, [29]), (19, [42]), (20, [180, 0, 55]), (23, [162, 0, 43]), (26, [42]), (27, [180, 0, 28]), (30, [29]), (31, [46]), (32, [27]), (33, [160, 0, 27]), (36, [42]), (37, [42]), (38, [180, 0, 31]), (41, [29]), (42, [46]), (43, [182, 0, 74]), (46, [154, 0, 14]), (49, [28]), (50, [4]), (51, [42]), (52, [180, 0, 31]), (55, [29]), (56, [46]), (57, [120]), (58, [128]), (59, [61]), (60, [132, 3, 1]), (63, [167, 255, 211]), (66, [28]), (67, [172])] : List (Nat × List UInt8)).all (fun x => prB x.2 ((cX2_earshot.data.toList.drop 0).drop x.1)) = true := by decide +kernel
theorem dX2_earshot_0 : decode cX2_earshot 0 = .ok (.aload_n 0, 1) := op42 (bA_at bd03_dec_X2_0_7 0 rfl rfl)
theorem dX2_earshot_1 : decode cX2_earshot 1 = .ok (.iload_n 1, 1) := op27 (bA_at bd03_dec_X2_0_7 1 rfl rfl)
theorem dX2_earshot_2 : decode cX2_earshot 2 = .ok (.invokevirtual 74, 3) := op182 (bA_at bd03_dec_X2_0_7 2 rfl rfl) rfl
theorem dX2_earshot_5 : decode cX2_earshot 5 = .ok (.ifCond .eq 7, 3) := op153 (bA_at bd03_dec_X2_0_7 3 rfl rfl) (by decide +kernel)
theorem dX2_earshot_8 : decode cX2_earshot 8 = .ok (.iconst 0, 1) := op3 (bA_at bd03_dec_X2_0_7 4 rfl rfl)
theorem dX2_earshot_9 : decode cX2_earshot 9 = .ok (.goto 6, 3) := op167 (bA_at bd03_dec_X2_0_7 5 rfl rfl) (by decide +kernel)
theorem dX2_earshot_12 : decode cX2_earshot 12 = .ok (.iconst 1, 1) := op4 (bA_at bd03_dec_X2_0_7 6 rfl rfl)
theorem dX2_earshot_13 : decode cX2_earshot 13 = .ok (.iload_n 1, 1) := op27 (bA_at bd03_dec_X2_0_7 7 rfl rfl)
theorem dX2_earshot_14 : decode cX2_earshot 14 = .ok (.ishl, 1) := op120 (bA_at bd03_dec_X2_0_7 8 rfl rfl)
theorem dX2_earshot_15 : decode cX2_earshot 15 = .ok (.istore_n 2, 1) := op61 (bA_at bd03_dec_X2_0_7 9 rfl rfl)
theorem dX2_earshot_16 : decode cX2_earshot 16 = .ok (.iconst 0, 1) := op3 (bA_at bd03_dec_X2_0_7 10 rfl rfl)
theorem dX2_earshot_17 : decode cX2_earshot 17 = .ok (.istore_n 3, 1) := op62 (bA_at bd03_dec_X2_0_7 11 rfl rfl)
theorem dX2_earshot_18 : decode cX2_earshot 18 = .ok (.iload_n 3, 1) := op29 (bA_at bd03_dec_X2_0_7 12 rfl rfl)
theorem dX2_earshot_19 : decode cX2_earshot 19 = .ok (.aload_n 0, 1) := op42 (bA_at bd03_dec_X2_0_7 13 rfl rfl)
theorem dX2_earshot_20 : decode cX2_earshot 20 = .ok (.getfield 55, 3) := op180 (bA_at bd03_dec_X2_0_7 14 rfl rfl) rfl
theorem dX2_earshot_23 : decode cX2_earshot 23 = .ok (.if_icmp .ge 43, 3) := op162 (bA_at bd03_dec_X2_0_7 15 rfl rfl) (by decide +kernel)
theorem dX2_earshot_26 : decode cX2_earshot 26 = .ok (.aload_n 0, 1) := op42 (bA_at bd03_dec_X2_0_7 16 rfl rfl)
theorem dX2_earshot_27 : decode cX2_earshot 27 = .ok (.getfield 28, 3) := op180 (bA_at bd03_dec_X2_0_7 17 rfl rfl) rfl
theorem dX2_earshot_30 : decode cX2_earshot 30 = .ok (.iload_n 3, 1) := op29 (bA_at bd03_dec_X2_0_7 18 rfl rfl)
theorem dX2_earshot_31 : decode cX2_earshot 31 = .ok (.iaload, 1) := op46 (bA_at bd03_dec_X2_0_7 19 rfl rfl)
theorem dX2_earshot_32 : decode cX2_earshot 32 = .ok (.iload_n 1, 1) := op27 (bA_at bd03_dec_X2_0_7 20 rfl rfl)
theorem dX2_earshot_33 : decode cX2_earshot 33 = .ok (.if_icmp .ne 27, 3) := op160 (bA_at bd03_dec_X2_0_7 21 rfl rfl) (by decide +kernel)
theorem dX2_earshot_36 : decode cX2_earshot 36 = .ok (.aload_n 0, 1) := op42 (bA_at bd03_dec_X2_0_7 22 rfl rfl)
theorem dX2_earshot_37 : decode cX2_earshot 37 = .ok (.aload_n 0, 1) := op42 (bA_at bd03_dec_X2_0_7 23 rfl rfl)
theorem dX2_earshot_38 : decode cX2_earshot 38 = .ok (.getfield 31, 3) := op180 (bA_at bd03_dec_X2_0_7 24 rfl rfl) rfl
theorem dX2_earshot_41 : decode cX2_earshot 41 = .ok (.iload_n 3, 1) := op29 (bA_at bd03_dec_X2_0_7 25 rfl rfl)
theorem dX2_earshot_42 : decode cX2_earshot 42 = .ok (.iaload, 1) := op46 (bA_at bd03_dec_X2_0_7 26 rfl rfl)
theorem dX2_earshot_43 : decode cX2_earshot 43 = .ok (.invokevirtual 74, 3) := op182 (bA_at bd03_dec_X2_0_7 27 rfl rfl) rfl
theorem dX2_earshot_46 : decode cX2_earshot 46 = .ok (.ifCond .ne 14, 3) := op154 (bA_at bd03_dec_X2_0_7 28 rfl rfl) (by decide +kernel)
theorem dX2_earshot_49 : decode cX2_earshot 49 = .ok (.iload_n 2, 1) := op28 (bA_at bd03_dec_X2_0_7 29 rfl rfl)
theorem dX2_earshot_50 : decode cX2_earshot 50 = .ok (.iconst 1, 1) := op4 (bA_at bd03_dec_X2_0_7 30 rfl rfl)
theorem dX2_earshot_51 : decode cX2_earshot 51 = .ok (.aload_n 0, 1) := op42 (bA_at bd03_dec_X2_0_7 31 rfl rfl)
theorem dX2_earshot_52 : decode cX2_earshot 52 = .ok (.getfield 31, 3) := op180 (bA_at bd03_dec_X2_0_7 32 rfl rfl) rfl
theorem dX2_earshot_55 : decode cX2_earshot 55 = .ok (.iload_n 3, 1) := op29 (bA_at bd03_dec_X2_0_7 33 rfl rfl)
theorem dX2_earshot_56 : decode cX2_earshot 56 = .ok (.iaload, 1) := op46 (bA_at bd03_dec_X2_0_7 34 rfl rfl)
theorem dX2_earshot_57 : decode cX2_earshot 57 = .ok (.ishl, 1) := op120 (bA_at bd03_dec_X2_0_7 35 rfl rfl)
theorem dX2_earshot_58 : decode cX2_earshot 58 = .ok (.ior, 1) := op128 (bA_at bd03_dec_X2_0_7 36 rfl rfl)
theorem dX2_earshot_59 : decode cX2_earshot 59 = .ok (.istore_n 2, 1) := op61 (bA_at bd03_dec_X2_0_7 37 rfl rfl)
theorem dX2_earshot_60 : decode cX2_earshot 60 = .ok (.iinc 3 1, 3) := op132 (bA_at bd03_dec_X2_0_7 38 rfl rfl) rfl (by decide +kernel)
theorem dX2_earshot_63 : decode cX2_earshot 63 = .ok (.goto (-45), 3) := op167 (bA_at bd03_dec_X2_0_7 39 rfl rfl) (by decide +kernel)
theorem dX2_earshot_66 : decode cX2_earshot 66 = .ok (.iload_n 2, 1) := op28 (bA_at bd03_dec_X2_0_7 40 rfl rfl)
theorem dX2_earshot_67 : decode cX2_earshot 67 = .ok (.ireturn, 1) := op172 (bA_at bd03_dec_X2_0_7 41 rfl rfl)
theorem bd03_dec_X2_0_8 : ([(0, [2]), (1, [61]), (2, [3]), (3, [62]), (4, [29]), (5, [42]), (6, [180, 0, 43]), (9, [162, 0, 39]), (12, [27]), (13, [29]), (14, [184, 0, 77]), (17, [153, 0, 25]), (20, [28]), (21, [2]), (22, [159, 0, 18]), (25, [42]), (26, [180, 0, 18]), (29, [29]), (30, [46]), (31, [42]), (32, [180, 0, 18]), (35, [28]), (36, [46]), (37, [164, 0, 5]), (40, [29]), (41, [61]), (42, [132, 3, 1]), (45, [167, 255, 215]), (48, [28]), (49, [172])] : List (Nat × List UInt8)).all (fun x => prB x.2 ((cX2_highest.data.toList.drop 0).drop x.1)) = true := by decide +kernel
theorem dX2_highest_0 : decode cX2_highest 0 = .ok (.iconst (-1), 1) := op2 (bA_at bd03_dec_X2_0_8 0 rfl rfl)
theorem dX2_highest_1 : decode cX2_highest 1 = .ok (.istore_n 2, 1) := op61 (bA_at bd03_dec_X2_0_8 1 rfl rfl)
theorem dX2_highest_2 : decode cX2_highest 2 = .ok (.iconst 0, 1) := op3 (bA_at bd03_dec_X2_0_8 2 rfl rfl)
theorem dX2_highest_3 : decode cX2_highest 3 = .ok (.istore_n 3, 1) := op62 (bA_at bd03_dec_X2_0_8 3 rfl rfl)
theorem dX2_highest_4 : decode cX2_highest 4 = .ok (.iload_n 3, 1) := op29 (bA_at bd03_dec_X2_0_8 4 rfl rfl)
theorem dX2_highest_5 : decode cX2_highest 5 = .ok (.aload_n 0, 1) := op42 (bA_at bd03_dec_X2_0_8 5 rfl rfl)
theorem dX2_highest_6 : decode cX2_highest 6 = .ok (.getfield 43, 3) := op180 (bA_at bd03_dec_X2_0_8 6 rfl rfl) rfl
theorem dX2_highest_9 : decode cX2_highest 9 = .ok (.if_icmp .ge 39, 3) := op162 (bA_at bd03_dec_X2_0_8 7 rfl rfl) (by decide +kernel)
theorem dX2_highest_12 : decode cX2_highest 12 = .ok (.iload_n 1, 1) := op27 (bA_at bd03_dec_X2_0_8 8 rfl rfl)
theorem dX2_highest_13 : decode cX2_highest 13 = .ok (.iload_n 3, 1) := op29 (bA_at bd03_dec_X2_0_8 9 rfl rfl)
theorem dX2_highest_14 : decode cX2_highest 14 = .ok (.invokestatic 77, 3) := op184 (bA_at bd03_dec_X2_0_8 10 rfl rfl) rfl
theorem dX2_highest_17 : decode cX2_highest 17 = .ok (.ifCond .eq 25, 3) := op153 (bA_at bd03_dec_X2_0_8 11 rfl rfl) (by decide +kernel)
theorem dX2_highest_20 : decode cX2_highest 20 = .ok (.iload_n 2, 1) := op28 (bA_at bd03_dec_X2_0_8 12 rfl rfl)
theorem dX2_highest_21 : decode cX2_highest 21 = .ok (.iconst (-1), 1) := op2 (bA_at bd03_dec_X2_0_8 13 rfl rfl)
theorem dX2_highest_22 : decode cX2_highest 22 = .ok (.if_icmp .eq 18, 3) := op159 (bA_at bd03_dec_X2_0_8 14 rfl rfl) (by decide +kernel)
theorem dX2_highest_25 : decode cX2_highest 25 = .ok (.aload_n 0, 1) := op42 (bA_at bd03_dec_X2_0_8 15 rfl rfl)
theorem dX2_highest_26 : decode cX2_highest 26 = .ok (.getfield 18, 3) := op180 (bA_at bd03_dec_X2_0_8 16 rfl rfl) rfl
theorem dX2_highest_29 : decode cX2_highest 29 = .ok (.iload_n 3, 1) := op29 (bA_at bd03_dec_X2_0_8 17 rfl rfl)
theorem dX2_highest_30 : decode cX2_highest 30 = .ok (.iaload, 1) := op46 (bA_at bd03_dec_X2_0_8 18 rfl rfl)
theorem dX2_highest_31 : decode cX2_highest 31 = .ok (.aload_n 0, 1) := op42 (bA_at bd03_dec_X2_0_8 19 rfl rfl)
theorem dX2_highest_32 : decode cX2_highest 32 = .ok (.getfield 18, 3) := op180 (bA_at bd03_dec_X2_0_8 20 rfl rfl) rfl
theorem dX2_highest_35 : decode cX2_highest 35 = .ok (.iload_n 2, 1) := op28 (bA_at bd03_dec_X2_0_8 21 rfl rfl)
theorem dX2_highest_36 : decode cX2_highest 36 = .ok (.iaload, 1) := op46 (bA_at bd03_dec_X2_0_8 22 rfl rfl)
theorem dX2_highest_37 : decode cX2_highest 37 = .ok (.if_icmp .le 5, 3) := op164 (bA_at bd03_dec_X2_0_8 23 rfl rfl) (by decide +kernel)
theorem dX2_highest_40 : decode cX2_highest 40 = .ok (.iload_n 3, 1) := op29 (bA_at bd03_dec_X2_0_8 24 rfl rfl)
theorem dX2_highest_41 : decode cX2_highest 41 = .ok (.istore_n 2, 1) := op61 (bA_at bd03_dec_X2_0_8 25 rfl rfl)
theorem dX2_highest_42 : decode cX2_highest 42 = .ok (.iinc 3 1, 3) := op132 (bA_at bd03_dec_X2_0_8 26 rfl rfl) rfl (by decide +kernel)
theorem dX2_highest_45 : decode cX2_highest 45 = .ok (.goto (-41), 3) := op167 (bA_at bd03_dec_X2_0_8 27 rfl rfl) (by decide +kernel)
theorem dX2_highest_48 : decode cX2_highest 48 = .ok (.iload_n 2, 1) := op28 (bA_at bd03_dec_X2_0_8 28 rfl rfl)
theorem dX2_highest_49 : decode cX2_highest 49 = .ok (.ireturn, 1) := op172 (bA_at bd03_dec_X2_0_8 29 rfl rfl)
theorem bd03_dec_X2_0_9 : ([(0, [27]), (1, [155, 0, 10]), (4, [27]), (5, [17, 0, 141]), (8, [161, 0, 5]), (11, [2]), (12, [172]), (13, [27]), (14, [16, 60]), (16, [161, 0, 51]), (19, [27]), (20, [16, 60]), (22, [100]), (23, [16, 9]), (25, [108]), (26, [61]), (27, [27]), (28, [16, 60]), (30, [100]), (31, [16, 9]), (33, [112]), (34, [62]), (35, [42]), (36, [28]), (37, [182, 0, 70]), (40, [153, 0, 25]), (43, [42]), (44, [29]), (45, [182, 0, 70]), (48, [153, 0, 17]), (51, [42]), (52, [180, 0, 25]), (55, [28]), (56, [16, 9]), (58, [104]), (59, [29]), (60, [96]), (61, [46]), (62, [167, 0, 4]), (65, [2]), (66, [172]), (67, [27]), (68, [16, 10]), (70, [162, 0, 9]), (73, [42]), (74, [27]), (75, [182, 0, 81]), (78, [172]), (79, [27]), (80, [16, 10])] : List (Nat × List UInt8)).all (fun x => prB x.2 ((cX2_look.data.toList.drop 0).drop x.1)) = true := by decide +kernel
theorem dX2_look_0 : decode cX2_look 0 = .ok (.iload_n 1, 1) := op27 (bA_at bd03_dec_X2_0_9 0 rfl rfl)
theorem dX2_look_1 : decode cX2_look 1 = .ok (.ifCond .lt 10, 3) := op155 (bA_at bd03_dec_X2_0_9 1 rfl rfl) (by decide +kernel)
theorem dX2_look_4 : decode cX2_look 4 = .ok (.iload_n 1, 1) := op27 (bA_at bd03_dec_X2_0_9 2 rfl rfl)
theorem dX2_look_5 : decode cX2_look 5 = .ok (.sipush 141, 3) := op17 (bA_at bd03_dec_X2_0_9 3 rfl rfl) (by decide +kernel)
theorem dX2_look_8 : decode cX2_look 8 = .ok (.if_icmp .lt 5, 3) := op161 (bA_at bd03_dec_X2_0_9 4 rfl rfl) (by decide +kernel)
theorem dX2_look_11 : decode cX2_look 11 = .ok (.iconst (-1), 1) := op2 (bA_at bd03_dec_X2_0_9 5 rfl rfl)
theorem dX2_look_12 : decode cX2_look 12 = .ok (.ireturn, 1) := op172 (bA_at bd03_dec_X2_0_9 6 rfl rfl)
theorem dX2_look_13 : decode cX2_look 13 = .ok (.iload_n 1, 1) := op27 (bA_at bd03_dec_X2_0_9 7 rfl rfl)
theorem dX2_look_14 : decode cX2_look 14 = .ok (.bipush 60, 2) := op16 (bA_at bd03_dec_X2_0_9 8 rfl rfl) (by decide +kernel)
theorem dX2_look_16 : decode cX2_look 16 = .ok (.if_icmp .lt 51, 3) := op161 (bA_at bd03_dec_X2_0_9 9 rfl rfl) (by decide +kernel)
theorem dX2_look_19 : decode cX2_look 19 = .ok (.iload_n 1, 1) := op27 (bA_at bd03_dec_X2_0_9 10 rfl rfl)
theorem dX2_look_20 : decode cX2_look 20 = .ok (.bipush 60, 2) := op16 (bA_at bd03_dec_X2_0_9 11 rfl rfl) (by decide +kernel)
theorem dX2_look_22 : decode cX2_look 22 = .ok (.isub, 1) := op100 (bA_at bd03_dec_X2_0_9 12 rfl rfl)
theorem dX2_look_23 : decode cX2_look 23 = .ok (.bipush 9, 2) := op16 (bA_at bd03_dec_X2_0_9 13 rfl rfl) (by decide +kernel)
theorem dX2_look_25 : decode cX2_look 25 = .ok (.idiv, 1) := op108 (bA_at bd03_dec_X2_0_9 14 rfl rfl)
theorem dX2_look_26 : decode cX2_look 26 = .ok (.istore_n 2, 1) := op61 (bA_at bd03_dec_X2_0_9 15 rfl rfl)
theorem dX2_look_27 : decode cX2_look 27 = .ok (.iload_n 1, 1) := op27 (bA_at bd03_dec_X2_0_9 16 rfl rfl)
theorem dX2_look_28 : decode cX2_look 28 = .ok (.bipush 60, 2) := op16 (bA_at bd03_dec_X2_0_9 17 rfl rfl) (by decide +kernel)
theorem dX2_look_30 : decode cX2_look 30 = .ok (.isub, 1) := op100 (bA_at bd03_dec_X2_0_9 18 rfl rfl)
theorem dX2_look_31 : decode cX2_look 31 = .ok (.bipush 9, 2) := op16 (bA_at bd03_dec_X2_0_9 19 rfl rfl) (by decide +kernel)
theorem dX2_look_33 : decode cX2_look 33 = .ok (.irem, 1) := op112 (bA_at bd03_dec_X2_0_9 20 rfl rfl)
theorem dX2_look_34 : decode cX2_look 34 = .ok (.istore_n 3, 1) := op62 (bA_at bd03_dec_X2_0_9 21 rfl rfl)
theorem dX2_look_35 : decode cX2_look 35 = .ok (.aload_n 0, 1) := op42 (bA_at bd03_dec_X2_0_9 22 rfl rfl)
theorem dX2_look_36 : decode cX2_look 36 = .ok (.iload_n 2, 1) := op28 (bA_at bd03_dec_X2_0_9 23 rfl rfl)
theorem dX2_look_37 : decode cX2_look 37 = .ok (.invokevirtual 70, 3) := op182 (bA_at bd03_dec_X2_0_9 24 rfl rfl) rfl
theorem dX2_look_40 : decode cX2_look 40 = .ok (.ifCond .eq 25, 3) := op153 (bA_at bd03_dec_X2_0_9 25 rfl rfl) (by decide +kernel)
theorem dX2_look_43 : decode cX2_look 43 = .ok (.aload_n 0, 1) := op42 (bA_at bd03_dec_X2_0_9 26 rfl rfl)
theorem dX2_look_44 : decode cX2_look 44 = .ok (.iload_n 3, 1) := op29 (bA_at bd03_dec_X2_0_9 27 rfl rfl)
theorem dX2_look_45 : decode cX2_look 45 = .ok (.invokevirtual 70, 3) := op182 (bA_at bd03_dec_X2_0_9 28 rfl rfl) rfl
theorem dX2_look_48 : decode cX2_look 48 = .ok (.ifCond .eq 17, 3) := op153 (bA_at bd03_dec_X2_0_9 29 rfl rfl) (by decide +kernel)
theorem dX2_look_51 : decode cX2_look 51 = .ok (.aload_n 0, 1) := op42 (bA_at bd03_dec_X2_0_9 30 rfl rfl)
theorem dX2_look_52 : decode cX2_look 52 = .ok (.getfield 25, 3) := op180 (bA_at bd03_dec_X2_0_9 31 rfl rfl) rfl
theorem dX2_look_55 : decode cX2_look 55 = .ok (.iload_n 2, 1) := op28 (bA_at bd03_dec_X2_0_9 32 rfl rfl)
theorem dX2_look_56 : decode cX2_look 56 = .ok (.bipush 9, 2) := op16 (bA_at bd03_dec_X2_0_9 33 rfl rfl) (by decide +kernel)
theorem dX2_look_58 : decode cX2_look 58 = .ok (.imul, 1) := op104 (bA_at bd03_dec_X2_0_9 34 rfl rfl)
theorem dX2_look_59 : decode cX2_look 59 = .ok (.iload_n 3, 1) := op29 (bA_at bd03_dec_X2_0_9 35 rfl rfl)
theorem dX2_look_60 : decode cX2_look 60 = .ok (.iadd, 1) := op96 (bA_at bd03_dec_X2_0_9 36 rfl rfl)
theorem dX2_look_61 : decode cX2_look 61 = .ok (.iaload, 1) := op46 (bA_at bd03_dec_X2_0_9 37 rfl rfl)
theorem dX2_look_62 : decode cX2_look 62 = .ok (.goto 4, 3) := op167 (bA_at bd03_dec_X2_0_9 38 rfl rfl) (by decide +kernel)
theorem dX2_look_65 : decode cX2_look 65 = .ok (.iconst (-1), 1) := op2 (bA_at bd03_dec_X2_0_9 39 rfl rfl)
theorem dX2_look_66 : decode cX2_look 66 = .ok (.ireturn, 1) := op172 (bA_at bd03_dec_X2_0_9 40 rfl rfl)
theorem dX2_look_67 : decode cX2_look 67 = .ok (.iload_n 1, 1) := op27 (bA_at bd03_dec_X2_0_9 41 rfl rfl)
theorem dX2_look_68 : decode cX2_look 68 = .ok (.bipush 10, 2) := op16 (bA_at bd03_dec_X2_0_9 42 rfl rfl) (by decide +kernel)
theorem dX2_look_70 : decode cX2_look 70 = .ok (.if_icmp .ge 9, 3) := op162 (bA_at bd03_dec_X2_0_9 43 rfl rfl) (by decide +kernel)
theorem dX2_look_73 : decode cX2_look 73 = .ok (.aload_n 0, 1) := op42 (bA_at bd03_dec_X2_0_9 44 rfl rfl)
theorem dX2_look_74 : decode cX2_look 74 = .ok (.iload_n 1, 1) := op27 (bA_at bd03_dec_X2_0_9 45 rfl rfl)
theorem dX2_look_75 : decode cX2_look 75 = .ok (.invokevirtual 81, 3) := op182 (bA_at bd03_dec_X2_0_9 46 rfl rfl) rfl
theorem dX2_look_78 : decode cX2_look 78 = .ok (.ireturn, 1) := op172 (bA_at bd03_dec_X2_0_9 47 rfl rfl)
theorem dX2_look_79 : decode cX2_look 79 = .ok (.iload_n 1, 1) := op27 (bA_at bd03_dec_X2_0_9 48 rfl rfl)
theorem dX2_look_80 : decode cX2_look 80 = .ok (.bipush 10, 2) := op16 (bA_at bd03_dec_X2_0_9 49 rfl rfl) (by decide +kernel)
theorem bd03_dec_X2_0_10 : ([(0, [112]), (1, [61]), (2, [27]), (3, [16, 30]), (5, [162, 0, 15]), (8, [42]), (9, [27]), (10, [16, 10]), (12, [108]), (13, [28]), (14, [182, 0, 85]), (17, [167, 0, 12]), (20, [42]), (21, [27]), (22, [16, 10]), (24, [108]), (25, [28]), (26, [182, 0, 89]), (29, [172])] : List (Nat × List UInt8)).all (fun x => prB x.2 ((cX2_look.data.toList.drop 82).drop x.1)) = true := by decide +kernel
theorem dX2_look_82 : decode cX2_look 82 = .ok (.irem, 1) := op112 (bA_at bd03_dec_X2_0_10 0 rfl rfl)
theorem dX2_look_83 : decode cX2_look 83 = .ok (.istore_n 2, 1) := op61 (bA_at bd03_dec_X2_0_10 1 rfl rfl)
theorem dX2_look_84 : decode cX2_look 84 = .ok (.iload_n 1, 1) := op27 (bA_at bd03_dec_X2_0_10 2 rfl rfl)
theorem dX2_look_85 : decode cX2_look 85 = .ok (.bipush 30, 2) := op16 (bA_at bd03_dec_X2_0_10 3 rfl rfl) (by decide +kernel)
theorem dX2_look_87 : decode cX2_look 87 = .ok (.if_icmp .ge 15, 3) := op162 (bA_at bd03_dec_X2_0_10 4 rfl rfl) (by decide +kernel)
theorem dX2_look_90 : decode cX2_look 90 = .ok (.aload_n 0, 1) := op42 (bA_at bd03_dec_X2_0_10 5 rfl rfl)
theorem dX2_look_91 : decode cX2_look 91 = .ok (.iload_n 1, 1) := op27 (bA_at bd03_dec_X2_0_10 6 rfl rfl)
theorem dX2_look_92 : decode cX2_look 92 = .ok (.bipush 10, 2) := op16 (bA_at bd03_dec_X2_0_10 7 rfl rfl) (by decide +kernel)
theorem dX2_look_94 : decode cX2_look 94 = .ok (.idiv, 1) := op108 (bA_at bd03_dec_X2_0_10 8 rfl rfl)
theorem dX2_look_95 : decode cX2_look 95 = .ok (.iload_n 2, 1) := op28 (bA_at bd03_dec_X2_0_10 9 rfl rfl)
theorem dX2_look_96 : decode cX2_look 96 = .ok (.invokevirtual 85, 3) := op182 (bA_at bd03_dec_X2_0_10 10 rfl rfl) rfl
theorem dX2_look_99 : decode cX2_look 99 = .ok (.goto 12, 3) := op167 (bA_at bd03_dec_X2_0_10 11 rfl rfl) (by decide +kernel)
theorem dX2_look_102 : decode cX2_look 102 = .ok (.aload_n 0, 1) := op42 (bA_at bd03_dec_X2_0_10 12 rfl rfl)
theorem dX2_look_103 : decode cX2_look 103 = .ok (.iload_n 1, 1) := op27 (bA_at bd03_dec_X2_0_10 13 rfl rfl)
theorem dX2_look_104 : decode cX2_look 104 = .ok (.bipush 10, 2) := op16 (bA_at bd03_dec_X2_0_10 14 rfl rfl) (by decide +kernel)
theorem dX2_look_106 : decode cX2_look 106 = .ok (.idiv, 1) := op108 (bA_at bd03_dec_X2_0_10 15 rfl rfl)
theorem dX2_look_107 : decode cX2_look 107 = .ok (.iload_n 2, 1) := op28 (bA_at bd03_dec_X2_0_10 16 rfl rfl)
theorem dX2_look_108 : decode cX2_look 108 = .ok (.invokevirtual 89, 3) := op182 (bA_at bd03_dec_X2_0_10 17 rfl rfl) rfl
theorem dX2_look_111 : decode cX2_look 111 = .ok (.ireturn, 1) := op172 (bA_at bd03_dec_X2_0_10 18 rfl rfl)
theorem dX2_lookWhole_1 : decode cX2_lookWhole 1 = .ok (.tableswitch 78 0 6 #[43, 48, 53, 58, 63, 68, 73], 43) := by decide +kernel
theorem bd03_dec_X2_0_11 : ([(0, [27]), (44, [42]), (45, [180, 0, 43]), (48, [172]), (49, [42]), (50, [180, 0, 46]), (53, [172]), (54, [42]), (55, [180, 0, 49]), (58, [172]), (59, [42]), (60, [180, 0, 52]), (63, [172]), (64, [42]), (65, [180, 0, 55]), (68, [172]), (69, [42]), (70, [180, 0, 9]), (73, [172]), (74, [42]), (75, [180, 0, 15]), (78, [172]), (79, [2]), (80, [172])] : List (Nat × List UInt8)).all (fun x => prB x.2 ((cX2_lookWhole.data.toList.drop 0).drop x.1)) = true := by decide +kernel
theorem dX2_lookWhole_0 : decode cX2_lookWhole 0 = .ok (.iload_n 1, 1) := op27 (bA_at bd03_dec_X2_0_11 0 rfl rfl)
theorem dX2_lookWhole_44 : decode cX2_lookWhole 44 = .ok (.aload_n 0, 1) := op42 (bA_at bd03_dec_X2_0_11 1 rfl rfl)
theorem dX2_lookWhole_45 : decode cX2_lookWhole 45 = .ok (.getfield 43, 3) := op180 (bA_at bd03_dec_X2_0_11 2 rfl rfl) rfl
theorem dX2_lookWhole_48 : decode cX2_lookWhole 48 = .ok (.ireturn, 1) := op172 (bA_at bd03_dec_X2_0_11 3 rfl rfl)
theorem dX2_lookWhole_49 : decode cX2_lookWhole 49 = .ok (.aload_n 0, 1) := op42 (bA_at bd03_dec_X2_0_11 4 rfl rfl)
theorem dX2_lookWhole_50 : decode cX2_lookWhole 50 = .ok (.getfield 46, 3) := op180 (bA_at bd03_dec_X2_0_11 5 rfl rfl) rfl
theorem dX2_lookWhole_53 : decode cX2_lookWhole 53 = .ok (.ireturn, 1) := op172 (bA_at bd03_dec_X2_0_11 6 rfl rfl)
theorem dX2_lookWhole_54 : decode cX2_lookWhole 54 = .ok (.aload_n 0, 1) := op42 (bA_at bd03_dec_X2_0_11 7 rfl rfl)
theorem dX2_lookWhole_55 : decode cX2_lookWhole 55 = .ok (.getfield 49, 3) := op180 (bA_at bd03_dec_X2_0_11 8 rfl rfl) rfl
theorem dX2_lookWhole_58 : decode cX2_lookWhole 58 = .ok (.ireturn, 1) := op172 (bA_at bd03_dec_X2_0_11 9 rfl rfl)
theorem dX2_lookWhole_59 : decode cX2_lookWhole 59 = .ok (.aload_n 0, 1) := op42 (bA_at bd03_dec_X2_0_11 10 rfl rfl)
theorem dX2_lookWhole_60 : decode cX2_lookWhole 60 = .ok (.getfield 52, 3) := op180 (bA_at bd03_dec_X2_0_11 11 rfl rfl) rfl
theorem dX2_lookWhole_63 : decode cX2_lookWhole 63 = .ok (.ireturn, 1) := op172 (bA_at bd03_dec_X2_0_11 12 rfl rfl)
theorem dX2_lookWhole_64 : decode cX2_lookWhole 64 = .ok (.aload_n 0, 1) := op42 (bA_at bd03_dec_X2_0_11 13 rfl rfl)
theorem dX2_lookWhole_65 : decode cX2_lookWhole 65 = .ok (.getfield 55, 3) := op180 (bA_at bd03_dec_X2_0_11 14 rfl rfl) rfl
theorem dX2_lookWhole_68 : decode cX2_lookWhole 68 = .ok (.ireturn, 1) := op172 (bA_at bd03_dec_X2_0_11 15 rfl rfl)
theorem dX2_lookWhole_69 : decode cX2_lookWhole 69 = .ok (.aload_n 0, 1) := op42 (bA_at bd03_dec_X2_0_11 16 rfl rfl)
theorem dX2_lookWhole_70 : decode cX2_lookWhole 70 = .ok (.getfield 9, 3) := op180 (bA_at bd03_dec_X2_0_11 17 rfl rfl) rfl
theorem dX2_lookWhole_73 : decode cX2_lookWhole 73 = .ok (.ireturn, 1) := op172 (bA_at bd03_dec_X2_0_11 18 rfl rfl)
theorem dX2_lookWhole_74 : decode cX2_lookWhole 74 = .ok (.aload_n 0, 1) := op42 (bA_at bd03_dec_X2_0_11 19 rfl rfl)
theorem dX2_lookWhole_75 : decode cX2_lookWhole 75 = .ok (.getfield 15, 3) := op180 (bA_at bd03_dec_X2_0_11 20 rfl rfl) rfl
theorem dX2_lookWhole_78 : decode cX2_lookWhole 78 = .ok (.ireturn, 1) := op172 (bA_at bd03_dec_X2_0_11 21 rfl rfl)
theorem dX2_lookWhole_79 : decode cX2_lookWhole 79 = .ok (.iconst (-1), 1) := op2 (bA_at bd03_dec_X2_0_11 22 rfl rfl)
theorem dX2_lookWhole_80 : decode cX2_lookWhole 80 = .ok (.ireturn, 1) := op172 (bA_at bd03_dec_X2_0_11 23 rfl rfl)
theorem bd03_dec_X2_0_12 : ([(0, [42]), (1, [28]), (2, [182, 0, 70]), (5, [154, 0, 5]), (8, [2]), (9, [172]), (10, [27]), (11, [4]), (12, [160, 0, 12]), (15, [42]), (16, [180, 0, 18]), (19, [28]), (20, [46]), (21, [167, 0, 9]), (24, [42]), (25, [180, 0, 22]), (28, [28]), (29, [46]), (30, [172])] : List (Nat × List UInt8)).all (fun x => prB x.2 ((cX2_lookHut.data.toList.drop 0).drop x.1)) = true := by decide +kernel
theorem dX2_lookHut_0 : decode cX2_lookHut 0 = .ok (.aload_n 0, 1) := op42 (bA_at bd03_dec_X2_0_12 0 rfl rfl)
theorem dX2_lookHut_1 : decode cX2_lookHut 1 = .ok (.iload_n 2, 1) := op28 (bA_at bd03_dec_X2_0_12 1 rfl rfl)
theorem dX2_lookHut_2 : decode cX2_lookHut 2 = .ok (.invokevirtual 70, 3) := op182 (bA_at bd03_dec_X2_0_12 2 rfl rfl) rfl
theorem dX2_lookHut_5 : decode cX2_lookHut 5 = .ok (.ifCond .ne 5, 3) := op154 (bA_at bd03_dec_X2_0_12 3 rfl rfl) (by decide +kernel)
theorem dX2_lookHut_8 : decode cX2_lookHut 8 = .ok (.iconst (-1), 1) := op2 (bA_at bd03_dec_X2_0_12 4 rfl rfl)
theorem dX2_lookHut_9 : decode cX2_lookHut 9 = .ok (.ireturn, 1) := op172 (bA_at bd03_dec_X2_0_12 5 rfl rfl)
theorem dX2_lookHut_10 : decode cX2_lookHut 10 = .ok (.iload_n 1, 1) := op27 (bA_at bd03_dec_X2_0_12 6 rfl rfl)
theorem dX2_lookHut_11 : decode cX2_lookHut 11 = .ok (.iconst 1, 1) := op4 (bA_at bd03_dec_X2_0_12 7 rfl rfl)
theorem dX2_lookHut_12 : decode cX2_lookHut 12 = .ok (.if_icmp .ne 12, 3) := op160 (bA_at bd03_dec_X2_0_12 8 rfl rfl) (by decide +kernel)
theorem dX2_lookHut_15 : decode cX2_lookHut 15 = .ok (.aload_n 0, 1) := op42 (bA_at bd03_dec_X2_0_12 9 rfl rfl)
theorem dX2_lookHut_16 : decode cX2_lookHut 16 = .ok (.getfield 18, 3) := op180 (bA_at bd03_dec_X2_0_12 10 rfl rfl) rfl
theorem dX2_lookHut_19 : decode cX2_lookHut 19 = .ok (.iload_n 2, 1) := op28 (bA_at bd03_dec_X2_0_12 11 rfl rfl)
theorem dX2_lookHut_20 : decode cX2_lookHut 20 = .ok (.iaload, 1) := op46 (bA_at bd03_dec_X2_0_12 12 rfl rfl)
theorem dX2_lookHut_21 : decode cX2_lookHut 21 = .ok (.goto 9, 3) := op167 (bA_at bd03_dec_X2_0_12 13 rfl rfl) (by decide +kernel)
theorem dX2_lookHut_24 : decode cX2_lookHut 24 = .ok (.aload_n 0, 1) := op42 (bA_at bd03_dec_X2_0_12 14 rfl rfl)
theorem dX2_lookHut_25 : decode cX2_lookHut 25 = .ok (.getfield 22, 3) := op180 (bA_at bd03_dec_X2_0_12 15 rfl rfl) rfl
theorem dX2_lookHut_28 : decode cX2_lookHut 28 = .ok (.iload_n 2, 1) := op28 (bA_at bd03_dec_X2_0_12 16 rfl rfl)
theorem dX2_lookHut_29 : decode cX2_lookHut 29 = .ok (.iaload, 1) := op46 (bA_at bd03_dec_X2_0_12 17 rfl rfl)
theorem dX2_lookHut_30 : decode cX2_lookHut 30 = .ok (.ireturn, 1) := op172 (bA_at bd03_dec_X2_0_12 18 rfl rfl)
theorem bd03_dec_X2_0_13 : ([(0, [42]), (1, [28]), (2, [182, 0, 92]), (5, [154, 0, 5]), (8, [2]), (9, [172]), (10, [27]), (11, [6]), (12, [160, 0, 10]), (15, [42]), (16, [180, 0, 34]), (19, [28]), (20, [46]), (21, [172]), (22, [27]), (23, [7]), (24, [160, 0, 12]), (27, [42]), (28, [180, 0, 37]), (31, [28]), (32, [46]), (33, [167, 0, 9]), (36, [42]), (37, [180, 0, 40]), (40, [28]), (41, [46]), (42, [172])] : List (Nat × List UInt8)).all (fun x => prB x.2 ((cX2_lookSinger.data.toList.drop 0).drop x.1)) = true := by decide +kernel
theorem dX2_lookSinger_0 : decode cX2_lookSinger 0 = .ok (.aload_n 0, 1) := op42 (bA_at bd03_dec_X2_0_13 0 rfl rfl)
theorem dX2_lookSinger_1 : decode cX2_lookSinger 1 = .ok (.iload_n 2, 1) := op28 (bA_at bd03_dec_X2_0_13 1 rfl rfl)
theorem dX2_lookSinger_2 : decode cX2_lookSinger 2 = .ok (.invokevirtual 92, 3) := op182 (bA_at bd03_dec_X2_0_13 2 rfl rfl) rfl
theorem dX2_lookSinger_5 : decode cX2_lookSinger 5 = .ok (.ifCond .ne 5, 3) := op154 (bA_at bd03_dec_X2_0_13 3 rfl rfl) (by decide +kernel)
theorem dX2_lookSinger_8 : decode cX2_lookSinger 8 = .ok (.iconst (-1), 1) := op2 (bA_at bd03_dec_X2_0_13 4 rfl rfl)
theorem dX2_lookSinger_9 : decode cX2_lookSinger 9 = .ok (.ireturn, 1) := op172 (bA_at bd03_dec_X2_0_13 5 rfl rfl)
theorem dX2_lookSinger_10 : decode cX2_lookSinger 10 = .ok (.iload_n 1, 1) := op27 (bA_at bd03_dec_X2_0_13 6 rfl rfl)
theorem dX2_lookSinger_11 : decode cX2_lookSinger 11 = .ok (.iconst 3, 1) := op6 (bA_at bd03_dec_X2_0_13 7 rfl rfl)
theorem dX2_lookSinger_12 : decode cX2_lookSinger 12 = .ok (.if_icmp .ne 10, 3) := op160 (bA_at bd03_dec_X2_0_13 8 rfl rfl) (by decide +kernel)
theorem dX2_lookSinger_15 : decode cX2_lookSinger 15 = .ok (.aload_n 0, 1) := op42 (bA_at bd03_dec_X2_0_13 9 rfl rfl)
theorem dX2_lookSinger_16 : decode cX2_lookSinger 16 = .ok (.getfield 34, 3) := op180 (bA_at bd03_dec_X2_0_13 10 rfl rfl) rfl
theorem dX2_lookSinger_19 : decode cX2_lookSinger 19 = .ok (.iload_n 2, 1) := op28 (bA_at bd03_dec_X2_0_13 11 rfl rfl)
theorem dX2_lookSinger_20 : decode cX2_lookSinger 20 = .ok (.iaload, 1) := op46 (bA_at bd03_dec_X2_0_13 12 rfl rfl)
theorem dX2_lookSinger_21 : decode cX2_lookSinger 21 = .ok (.ireturn, 1) := op172 (bA_at bd03_dec_X2_0_13 13 rfl rfl)
theorem dX2_lookSinger_22 : decode cX2_lookSinger 22 = .ok (.iload_n 1, 1) := op27 (bA_at bd03_dec_X2_0_13 14 rfl rfl)
theorem dX2_lookSinger_23 : decode cX2_lookSinger 23 = .ok (.iconst 4, 1) := op7 (bA_at bd03_dec_X2_0_13 15 rfl rfl)
theorem dX2_lookSinger_24 : decode cX2_lookSinger 24 = .ok (.if_icmp .ne 12, 3) := op160 (bA_at bd03_dec_X2_0_13 16 rfl rfl) (by decide +kernel)
theorem dX2_lookSinger_27 : decode cX2_lookSinger 27 = .ok (.aload_n 0, 1) := op42 (bA_at bd03_dec_X2_0_13 17 rfl rfl)
theorem dX2_lookSinger_28 : decode cX2_lookSinger 28 = .ok (.getfield 37, 3) := op180 (bA_at bd03_dec_X2_0_13 18 rfl rfl) rfl
theorem dX2_lookSinger_31 : decode cX2_lookSinger 31 = .ok (.iload_n 2, 1) := op28 (bA_at bd03_dec_X2_0_13 19 rfl rfl)
theorem dX2_lookSinger_32 : decode cX2_lookSinger 32 = .ok (.iaload, 1) := op46 (bA_at bd03_dec_X2_0_13 20 rfl rfl)
theorem dX2_lookSinger_33 : decode cX2_lookSinger 33 = .ok (.goto 9, 3) := op167 (bA_at bd03_dec_X2_0_13 21 rfl rfl) (by decide +kernel)
theorem dX2_lookSinger_36 : decode cX2_lookSinger 36 = .ok (.aload_n 0, 1) := op42 (bA_at bd03_dec_X2_0_13 22 rfl rfl)
theorem dX2_lookSinger_37 : decode cX2_lookSinger 37 = .ok (.getfield 40, 3) := op180 (bA_at bd03_dec_X2_0_13 23 rfl rfl) rfl
theorem dX2_lookSinger_40 : decode cX2_lookSinger 40 = .ok (.iload_n 2, 1) := op28 (bA_at bd03_dec_X2_0_13 24 rfl rfl)
theorem dX2_lookSinger_41 : decode cX2_lookSinger 41 = .ok (.iaload, 1) := op46 (bA_at bd03_dec_X2_0_13 25 rfl rfl)
theorem dX2_lookSinger_42 : decode cX2_lookSinger 42 = .ok (.ireturn, 1) := op172 (bA_at bd03_dec_X2_0_13 26 rfl rfl)

