theorem bd03_dec_X11_3_0 : ([(0, [21, 4]), (2, [153, 0, 13]), (5, [42]), (6, [27]), (7, [28]), (8, [29]), (9, [182, 1, 255]), (12, [167, 0, 22]), (15, [42]), (16, [180, 0, 88]), (19, [16, 61]), (21, [27]), (22, [104]), (23, [28]), (24, [96]), (25, [51]), (26, [153, 0, 7]), (29, [4]), (30, [167, 0, 4]), (33, [3]), (34, [172])] : List (Nat × List UInt8)).all (fun x => prB x.2 ((cX11_trade.data.toList.drop 99).drop x.1)) = true := by decide +kernel
theorem dX11_trade_99 : decode cX11_trade 99 = .ok (.iload 4, 2) := op21 (bA_at bd03_dec_X11_3_0 0 rfl rfl) rfl
theorem dX11_trade_101 : decode cX11_trade 101 = .ok (.ifCond .eq 13, 3) := op153 (bA_at bd03_dec_X11_3_0 1 rfl rfl) (by decide +kernel)
theorem dX11_trade_104 : decode cX11_trade 104 = .ok (.aload_n 0, 1) := op42 (bA_at bd03_dec_X11_3_0 2 rfl rfl)
theorem dX11_trade_105 : decode cX11_trade 105 = .ok (.iload_n 1, 1) := op27 (bA_at bd03_dec_X11_3_0 3 rfl rfl)
theorem dX11_trade_106 : decode cX11_trade 106 = .ok (.iload_n 2, 1) := op28 (bA_at bd03_dec_X11_3_0 4 rfl rfl)
theorem dX11_trade_107 : decode cX11_trade 107 = .ok (.iload_n 3, 1) := op29 (bA_at bd03_dec_X11_3_0 5 rfl rfl)
theorem dX11_trade_108 : decode cX11_trade 108 = .ok (.invokevirtual 511, 3) := op182 (bA_at bd03_dec_X11_3_0 6 rfl rfl) rfl
theorem dX11_trade_111 : decode cX11_trade 111 = .ok (.goto 22, 3) := op167 (bA_at bd03_dec_X11_3_0 7 rfl rfl) (by decide +kernel)
theorem dX11_trade_114 : decode cX11_trade 114 = .ok (.aload_n 0, 1) := op42 (bA_at bd03_dec_X11_3_0 8 rfl rfl)
theorem dX11_trade_115 : decode cX11_trade 115 = .ok (.getfield 88, 3) := op180 (bA_at bd03_dec_X11_3_0 9 rfl rfl) rfl
theorem dX11_trade_118 : decode cX11_trade 118 = .ok (.bipush 61, 2) := op16 (bA_at bd03_dec_X11_3_0 10 rfl rfl) (by decide +kernel)
theorem dX11_trade_120 : decode cX11_trade 120 = .ok (.iload_n 1, 1) := op27 (bA_at bd03_dec_X11_3_0 11 rfl rfl)
theorem dX11_trade_121 : decode cX11_trade 121 = .ok (.imul, 1) := op104 (bA_at bd03_dec_X11_3_0 12 rfl rfl)
theorem dX11_trade_122 : decode cX11_trade 122 = .ok (.iload_n 2, 1) := op28 (bA_at bd03_dec_X11_3_0 13 rfl rfl)
theorem dX11_trade_123 : decode cX11_trade 123 = .ok (.iadd, 1) := op96 (bA_at bd03_dec_X11_3_0 14 rfl rfl)
theorem dX11_trade_124 : decode cX11_trade 124 = .ok (.baload, 1) := op51 (bA_at bd03_dec_X11_3_0 15 rfl rfl)
theorem dX11_trade_125 : decode cX11_trade 125 = .ok (.ifCond .eq 7, 3) := op153 (bA_at bd03_dec_X11_3_0 16 rfl rfl) (by decide +kernel)
theorem dX11_trade_128 : decode cX11_trade 128 = .ok (.iconst 1, 1) := op4 (bA_at bd03_dec_X11_3_0 17 rfl rfl)
theorem dX11_trade_129 : decode cX11_trade 129 = .ok (.goto 4, 3) := op167 (bA_at bd03_dec_X11_3_0 18 rfl rfl) (by decide +kernel)
theorem dX11_trade_132 : decode cX11_trade 132 = .ok (.iconst 0, 1) := op3 (bA_at bd03_dec_X11_3_0 19 rfl rfl)
theorem dX11_trade_133 : decode cX11_trade 133 = .ok (.ireturn, 1) := op172 (bA_at bd03_dec_X11_3_0 20 rfl rfl)
theorem bd03_dec_X11_3_1 : ([(0, [42]), (1, [3]), (2, [181, 0, 97]), (5, [29]), (6, [3]), (7, [5]), (8, [184, 0, 109]), (11, [153, 0, 12]), (14, [42]), (15, [27]), (16, [28]), (17, [182, 1, 127]), (20, [154, 0, 7]), (23, [20, 1, 247]), (26, [173]), (27, [42]), (28, [42]), (29, [182, 1, 78]), (32, [182, 1, 130]), (35, [87]), (36, [29]), (37, [5]), (38, [160, 0, 19]), (41, [42]), (42, [180, 1, 90]), (45, [16, 10]), (47, [42]), (48, [16, 6]), (50, [182, 1, 47]), (53, [100]), (54, [104]), (55, [133]), (56, [173]), (57, [42]), (58, [180, 1, 90]), (61, [16, 18]), (63, [164, 0, 7]), (66, [20, 1, 247]), (69, [173]), (70, [42]), (71, [16, 6]), (73, [182, 1, 47]), (76, [153, 0, 14]), (79, [42]), (80, [16, 6]), (82, [182, 1, 47]), (85, [16, 10]), (87, [160, 0, 8]), (90, [16, 10]), (92, [167, 0, 33])] : List (Nat × List UInt8)).all (fun x => prB x.2 ((cX11_odds.data.toList.drop 0).drop x.1)) = true := by decide +kernel
theorem dX11_odds_0 : decode cX11_odds 0 = .ok (.aload_n 0, 1) := op42 (bA_at bd03_dec_X11_3_1 0 rfl rfl)
theorem dX11_odds_1 : decode cX11_odds 1 = .ok (.iconst 0, 1) := op3 (bA_at bd03_dec_X11_3_1 1 rfl rfl)
theorem dX11_odds_2 : decode cX11_odds 2 = .ok (.putfield 97, 3) := op181 (bA_at bd03_dec_X11_3_1 2 rfl rfl) rfl
theorem dX11_odds_5 : decode cX11_odds 5 = .ok (.iload_n 3, 1) := op29 (bA_at bd03_dec_X11_3_1 3 rfl rfl)
theorem dX11_odds_6 : decode cX11_odds 6 = .ok (.iconst 0, 1) := op3 (bA_at bd03_dec_X11_3_1 4 rfl rfl)
theorem dX11_odds_7 : decode cX11_odds 7 = .ok (.iconst 2, 1) := op5 (bA_at bd03_dec_X11_3_1 5 rfl rfl)
theorem dX11_odds_8 : decode cX11_odds 8 = .ok (.invokestatic 109, 3) := op184 (bA_at bd03_dec_X11_3_1 6 rfl rfl) rfl
theorem dX11_odds_11 : decode cX11_odds 11 = .ok (.ifCond .eq 12, 3) := op153 (bA_at bd03_dec_X11_3_1 7 rfl rfl) (by decide +kernel)
theorem dX11_odds_14 : decode cX11_odds 14 = .ok (.aload_n 0, 1) := op42 (bA_at bd03_dec_X11_3_1 8 rfl rfl)
theorem dX11_odds_15 : decode cX11_odds 15 = .ok (.iload_n 1, 1) := op27 (bA_at bd03_dec_X11_3_1 9 rfl rfl)
theorem dX11_odds_16 : decode cX11_odds 16 = .ok (.iload_n 2, 1) := op28 (bA_at bd03_dec_X11_3_1 10 rfl rfl)
theorem dX11_odds_17 : decode cX11_odds 17 = .ok (.invokevirtual 383, 3) := op182 (bA_at bd03_dec_X11_3_1 11 rfl rfl) rfl
theorem dX11_odds_20 : decode cX11_odds 20 = .ok (.ifCond .ne 7, 3) := op154 (bA_at bd03_dec_X11_3_1 12 rfl rfl) (by decide +kernel)
theorem dX11_odds_23 : decode cX11_odds 23 = .ok (.ldc2_w 503, 3) := op20 (bA_at bd03_dec_X11_3_1 13 rfl rfl) rfl
theorem dX11_odds_26 : decode cX11_odds 26 = .ok (.lreturn, 1) := op173 (bA_at bd03_dec_X11_3_1 14 rfl rfl)
theorem dX11_odds_27 : decode cX11_odds 27 = .ok (.aload_n 0, 1) := op42 (bA_at bd03_dec_X11_3_1 15 rfl rfl)
theorem dX11_odds_28 : decode cX11_odds 28 = .ok (.aload_n 0, 1) := op42 (bA_at bd03_dec_X11_3_1 16 rfl rfl)
theorem dX11_odds_29 : decode cX11_odds 29 = .ok (.invokevirtual 334, 3) := op182 (bA_at bd03_dec_X11_3_1 17 rfl rfl) rfl
theorem dX11_odds_32 : decode cX11_odds 32 = .ok (.invokevirtual 386, 3) := op182 (bA_at bd03_dec_X11_3_1 18 rfl rfl) rfl
theorem dX11_odds_35 : decode cX11_odds 35 = .ok (.pop, 1) := op87 (bA_at bd03_dec_X11_3_1 19 rfl rfl)
theorem dX11_odds_36 : decode cX11_odds 36 = .ok (.iload_n 3, 1) := op29 (bA_at bd03_dec_X11_3_1 20 rfl rfl)
theorem dX11_odds_37 : decode cX11_odds 37 = .ok (.iconst 2, 1) := op5 (bA_at bd03_dec_X11_3_1 21 rfl rfl)
theorem dX11_odds_38 : decode cX11_odds 38 = .ok (.if_icmp .ne 19, 3) := op160 (bA_at bd03_dec_X11_3_1 22 rfl rfl) (by decide +kernel)
theorem dX11_odds_41 : decode cX11_odds 41 = .ok (.aload_n 0, 1) := op42 (bA_at bd03_dec_X11_3_1 23 rfl rfl)
theorem dX11_odds_42 : decode cX11_odds 42 = .ok (.getfield 346, 3) := op180 (bA_at bd03_dec_X11_3_1 24 rfl rfl) rfl
theorem dX11_odds_45 : decode cX11_odds 45 = .ok (.bipush 10, 2) := op16 (bA_at bd03_dec_X11_3_1 25 rfl rfl) (by decide +kernel)
theorem dX11_odds_47 : decode cX11_odds 47 = .ok (.aload_n 0, 1) := op42 (bA_at bd03_dec_X11_3_1 26 rfl rfl)
theorem dX11_odds_48 : decode cX11_odds 48 = .ok (.bipush 6, 2) := op16 (bA_at bd03_dec_X11_3_1 27 rfl rfl) (by decide +kernel)
theorem dX11_odds_50 : decode cX11_odds 50 = .ok (.invokevirtual 303, 3) := op182 (bA_at bd03_dec_X11_3_1 28 rfl rfl) rfl
theorem dX11_odds_53 : decode cX11_odds 53 = .ok (.isub, 1) := op100 (bA_at bd03_dec_X11_3_1 29 rfl rfl)
theorem dX11_odds_54 : decode cX11_odds 54 = .ok (.imul, 1) := op104 (bA_at bd03_dec_X11_3_1 30 rfl rfl)
theorem dX11_odds_55 : decode cX11_odds 55 = .ok (.i2l, 1) := op133 (bA_at bd03_dec_X11_3_1 31 rfl rfl)
theorem dX11_odds_56 : decode cX11_odds 56 = .ok (.lreturn, 1) := op173 (bA_at bd03_dec_X11_3_1 32 rfl rfl)
theorem dX11_odds_57 : decode cX11_odds 57 = .ok (.aload_n 0, 1) := op42 (bA_at bd03_dec_X11_3_1 33 rfl rfl)
theorem dX11_odds_58 : decode cX11_odds 58 = .ok (.getfield 346, 3) := op180 (bA_at bd03_dec_X11_3_1 34 rfl rfl) rfl
theorem dX11_odds_61 : decode cX11_odds 61 = .ok (.bipush 18, 2) := op16 (bA_at bd03_dec_X11_3_1 35 rfl rfl) (by decide +kernel)
theorem dX11_odds_63 : decode cX11_odds 63 = .ok (.if_icmp .le 7, 3) := op164 (bA_at bd03_dec_X11_3_1 36 rfl rfl) (by decide +kernel)
theorem dX11_odds_66 : decode cX11_odds 66 = .ok (.ldc2_w 503, 3) := op20 (bA_at bd03_dec_X11_3_1 37 rfl rfl) rfl
theorem dX11_odds_69 : decode cX11_odds 69 = .ok (.lreturn, 1) := op173 (bA_at bd03_dec_X11_3_1 38 rfl rfl)
theorem dX11_odds_70 : decode cX11_odds 70 = .ok (.aload_n 0, 1) := op42 (bA_at bd03_dec_X11_3_1 39 rfl rfl)
theorem dX11_odds_71 : decode cX11_odds 71 = .ok (.bipush 6, 2) := op16 (bA_at bd03_dec_X11_3_1 40 rfl rfl) (by decide +kernel)
theorem dX11_odds_73 : decode cX11_odds 73 = .ok (.invokevirtual 303, 3) := op182 (bA_at bd03_dec_X11_3_1 41 rfl rfl) rfl
theorem dX11_odds_76 : decode cX11_odds 76 = .ok (.ifCond .eq 14, 3) := op153 (bA_at bd03_dec_X11_3_1 42 rfl rfl) (by decide +kernel)
theorem dX11_odds_79 : decode cX11_odds 79 = .ok (.aload_n 0, 1) := op42 (bA_at bd03_dec_X11_3_1 43 rfl rfl)
theorem dX11_odds_80 : decode cX11_odds 80 = .ok (.bipush 6, 2) := op16 (bA_at bd03_dec_X11_3_1 44 rfl rfl) (by decide +kernel)
theorem dX11_odds_82 : decode cX11_odds 82 = .ok (.invokevirtual 303, 3) := op182 (bA_at bd03_dec_X11_3_1 45 rfl rfl) rfl
theorem dX11_odds_85 : decode cX11_odds 85 = .ok (.bipush 10, 2) := op16 (bA_at bd03_dec_X11_3_1 46 rfl rfl) (by decide +kernel)
theorem dX11_odds_87 : decode cX11_odds 87 = .ok (.if_icmp .ne 8, 3) := op160 (bA_at bd03_dec_X11_3_1 47 rfl rfl) (by decide +kernel)
theorem dX11_odds_90 : decode cX11_odds 90 = .ok (.bipush 10, 2) := op16 (bA_at bd03_dec_X11_3_1 48 rfl rfl) (by decide +kernel)
theorem dX11_odds_92 : decode cX11_odds 92 = .ok (.goto 33, 3) := op167 (bA_at bd03_dec_X11_3_1 49 rfl rfl) (by decide +kernel)
theorem bd03_dec_X11_3_2 : ([(0, [42]), (1, [16, 6]), (3, [182, 1, 47]), (6, [8]), (7, [160, 0, 7]), (10, [8]), (11, [167, 0, 19]), (14, [42]), (15, [16, 6]), (17, [182, 1, 47]), (20, [5]), (21, [112]), (22, [154, 0, 7]), (25, [5]), (26, [167, 0, 4]), (29, [4]), (30, [54, 4]), (32, [10]), (33, [55, 5]), (35, [10]), (36, [55, 7]), (38, [3]), (39, [54, 9]), (41, [21, 9]), (43, [42]), (44, [180, 1, 90]), (47, [162, 0, 35]), (50, [22, 5]), (52, [42]), (53, [16, 6]), (55, [182, 1, 47]), (58, [21, 4]), (60, [108]), (61, [133]), (62, [105]), (63, [55, 5]), (65, [22, 7]), (67, [16, 10]), (69, [21, 4]), (71, [108]), (72, [133]), (73, [105]), (74, [55, 7]), (76, [132, 9, 1]), (79, [167, 255, 218]), (82, [29]), (83, [154, 0, 8]), (86, [22, 5]), (88, [167, 0, 5]), (91, [22, 7])] : List (Nat × List UInt8)).all (fun x => prB x.2 ((cX11_odds.data.toList.drop 95).drop x.1)) = true := by decide +kernel
theorem dX11_odds_95 : decode cX11_odds 95 = .ok (.aload_n 0, 1) := op42 (bA_at bd03_dec_X11_3_2 0 rfl rfl)
theorem dX11_odds_96 : decode cX11_odds 96 = .ok (.bipush 6, 2) := op16 (bA_at bd03_dec_X11_3_2 1 rfl rfl) (by decide +kernel)
theorem dX11_odds_98 : decode cX11_odds 98 = .ok (.invokevirtual 303, 3) := op182 (bA_at bd03_dec_X11_3_2 2 rfl rfl) rfl
theorem dX11_odds_101 : decode cX11_odds 101 = .ok (.iconst 5, 1) := op8 (bA_at bd03_dec_X11_3_2 3 rfl rfl)
theorem dX11_odds_102 : decode cX11_odds 102 = .ok (.if_icmp .ne 7, 3) := op160 (bA_at bd03_dec_X11_3_2 4 rfl rfl) (by decide +kernel)
theorem dX11_odds_105 : decode cX11_odds 105 = .ok (.iconst 5, 1) := op8 (bA_at bd03_dec_X11_3_2 5 rfl rfl)
theorem dX11_odds_106 : decode cX11_odds 106 = .ok (.goto 19, 3) := op167 (bA_at bd03_dec_X11_3_2 6 rfl rfl) (by decide +kernel)
theorem dX11_odds_109 : decode cX11_odds 109 = .ok (.aload_n 0, 1) := op42 (bA_at bd03_dec_X11_3_2 7 rfl rfl)
theorem dX11_odds_110 : decode cX11_odds 110 = .ok (.bipush 6, 2) := op16 (bA_at bd03_dec_X11_3_2 8 rfl rfl) (by decide +kernel)
theorem dX11_odds_112 : decode cX11_odds 112 = .ok (.invokevirtual 303, 3) := op182 (bA_at bd03_dec_X11_3_2 9 rfl rfl) rfl
theorem dX11_odds_115 : decode cX11_odds 115 = .ok (.iconst 2, 1) := op5 (bA_at bd03_dec_X11_3_2 10 rfl rfl)
theorem dX11_odds_116 : decode cX11_odds 116 = .ok (.irem, 1) := op112 (bA_at bd03_dec_X11_3_2 11 rfl rfl)
theorem dX11_odds_117 : decode cX11_odds 117 = .ok (.ifCond .ne 7, 3) := op154 (bA_at bd03_dec_X11_3_2 12 rfl rfl) (by decide +kernel)
theorem dX11_odds_120 : decode cX11_odds 120 = .ok (.iconst 2, 1) := op5 (bA_at bd03_dec_X11_3_2 13 rfl rfl)
theorem dX11_odds_121 : decode cX11_odds 121 = .ok (.goto 4, 3) := op167 (bA_at bd03_dec_X11_3_2 14 rfl rfl) (by decide +kernel)
theorem dX11_odds_124 : decode cX11_odds 124 = .ok (.iconst 1, 1) := op4 (bA_at bd03_dec_X11_3_2 15 rfl rfl)
theorem dX11_odds_125 : decode cX11_odds 125 = .ok (.istore 4, 2) := op54 (bA_at bd03_dec_X11_3_2 16 rfl rfl) rfl
theorem dX11_odds_127 : decode cX11_odds 127 = .ok (.lconst 1, 1) := op10 (bA_at bd03_dec_X11_3_2 17 rfl rfl)
theorem dX11_odds_128 : decode cX11_odds 128 = .ok (.lstore 5, 2) := op55 (bA_at bd03_dec_X11_3_2 18 rfl rfl) rfl
theorem dX11_odds_130 : decode cX11_odds 130 = .ok (.lconst 1, 1) := op10 (bA_at bd03_dec_X11_3_2 19 rfl rfl)
theorem dX11_odds_131 : decode cX11_odds 131 = .ok (.lstore 7, 2) := op55 (bA_at bd03_dec_X11_3_2 20 rfl rfl) rfl
theorem dX11_odds_133 : decode cX11_odds 133 = .ok (.iconst 0, 1) := op3 (bA_at bd03_dec_X11_3_2 21 rfl rfl)
theorem dX11_odds_134 : decode cX11_odds 134 = .ok (.istore 9, 2) := op54 (bA_at bd03_dec_X11_3_2 22 rfl rfl) rfl
theorem dX11_odds_136 : decode cX11_odds 136 = .ok (.iload 9, 2) := op21 (bA_at bd03_dec_X11_3_2 23 rfl rfl) rfl
theorem dX11_odds_138 : decode cX11_odds 138 = .ok (.aload_n 0, 1) := op42 (bA_at bd03_dec_X11_3_2 24 rfl rfl)
theorem dX11_odds_139 : decode cX11_odds 139 = .ok (.getfield 346, 3) := op180 (bA_at bd03_dec_X11_3_2 25 rfl rfl) rfl
theorem dX11_odds_142 : decode cX11_odds 142 = .ok (.if_icmp .ge 35, 3) := op162 (bA_at bd03_dec_X11_3_2 26 rfl rfl) (by decide +kernel)
theorem dX11_odds_145 : decode cX11_odds 145 = .ok (.lload 5, 2) := op22 (bA_at bd03_dec_X11_3_2 27 rfl rfl) rfl
theorem dX11_odds_147 : decode cX11_odds 147 = .ok (.aload_n 0, 1) := op42 (bA_at bd03_dec_X11_3_2 28 rfl rfl)
theorem dX11_odds_148 : decode cX11_odds 148 = .ok (.bipush 6, 2) := op16 (bA_at bd03_dec_X11_3_2 29 rfl rfl) (by decide +kernel)
theorem dX11_odds_150 : decode cX11_odds 150 = .ok (.invokevirtual 303, 3) := op182 (bA_at bd03_dec_X11_3_2 30 rfl rfl) rfl
theorem dX11_odds_153 : decode cX11_odds 153 = .ok (.iload 4, 2) := op21 (bA_at bd03_dec_X11_3_2 31 rfl rfl) rfl
theorem dX11_odds_155 : decode cX11_odds 155 = .ok (.idiv, 1) := op108 (bA_at bd03_dec_X11_3_2 32 rfl rfl)
theorem dX11_odds_156 : decode cX11_odds 156 = .ok (.i2l, 1) := op133 (bA_at bd03_dec_X11_3_2 33 rfl rfl)
theorem dX11_odds_157 : decode cX11_odds 157 = .ok (.lmul, 1) := op105 (bA_at bd03_dec_X11_3_2 34 rfl rfl)
theorem dX11_odds_158 : decode cX11_odds 158 = .ok (.lstore 5, 2) := op55 (bA_at bd03_dec_X11_3_2 35 rfl rfl) rfl
theorem dX11_odds_160 : decode cX11_odds 160 = .ok (.lload 7, 2) := op22 (bA_at bd03_dec_X11_3_2 36 rfl rfl) rfl
theorem dX11_odds_162 : decode cX11_odds 162 = .ok (.bipush 10, 2) := op16 (bA_at bd03_dec_X11_3_2 37 rfl rfl) (by decide +kernel)
theorem dX11_odds_164 : decode cX11_odds 164 = .ok (.iload 4, 2) := op21 (bA_at bd03_dec_X11_3_2 38 rfl rfl) rfl
theorem dX11_odds_166 : decode cX11_odds 166 = .ok (.idiv, 1) := op108 (bA_at bd03_dec_X11_3_2 39 rfl rfl)
theorem dX11_odds_167 : decode cX11_odds 167 = .ok (.i2l, 1) := op133 (bA_at bd03_dec_X11_3_2 40 rfl rfl)
theorem dX11_odds_168 : decode cX11_odds 168 = .ok (.lmul, 1) := op105 (bA_at bd03_dec_X11_3_2 41 rfl rfl)
theorem dX11_odds_169 : decode cX11_odds 169 = .ok (.lstore 7, 2) := op55 (bA_at bd03_dec_X11_3_2 42 rfl rfl) rfl
theorem dX11_odds_171 : decode cX11_odds 171 = .ok (.iinc 9 1, 3) := op132 (bA_at bd03_dec_X11_3_2 43 rfl rfl) rfl (by decide +kernel)
theorem dX11_odds_174 : decode cX11_odds 174 = .ok (.goto (-38), 3) := op167 (bA_at bd03_dec_X11_3_2 44 rfl rfl) (by decide +kernel)
theorem dX11_odds_177 : decode cX11_odds 177 = .ok (.iload_n 3, 1) := op29 (bA_at bd03_dec_X11_3_2 45 rfl rfl)
theorem dX11_odds_178 : decode cX11_odds 178 = .ok (.ifCond .ne 8, 3) := op154 (bA_at bd03_dec_X11_3_2 46 rfl rfl) (by decide +kernel)
theorem dX11_odds_181 : decode cX11_odds 181 = .ok (.lload 5, 2) := op22 (bA_at bd03_dec_X11_3_2 47 rfl rfl) rfl
theorem dX11_odds_183 : decode cX11_odds 183 = .ok (.goto 5, 3) := op167 (bA_at bd03_dec_X11_3_2 48 rfl rfl) (by decide +kernel)
theorem dX11_odds_186 : decode cX11_odds 186 = .ok (.lload 7, 2) := op22 (bA_at bd03_dec_X11_3_2 49 rfl rfl) rfl
theorem bd03_dec_X11_3_3 : ([(0, [173])] : List (Nat × List UInt8)).all (fun x => prB x.2 ((cX11_odds.data.toList.drop 188).drop x.1)) = true := by decide +kernel
theorem dX11_odds_188 : decode cX11_odds 188 = .ok (.lreturn, 1) := op173 (bA_at bd03_dec_X11_3_3 0 rfl rfl)
theorem bd03_dec_X11_3_4 : ([(0, [42]), (1, [42]), (2, [180, 2, 3]), (5, [19, 2, 6]), (8, [104]), (9, [17, 48, 57]), (12, [96]), (13, [181, 2, 3]), (16, [42]), (17, [180, 2, 3]), (20, [16, 16]), (22, [124]), (23, [27]), (24, [112]), (25, [172])] : List (Nat × List UInt8)).all (fun x => prB x.2 ((cX11_draw.data.toList.drop 0).drop x.1)) = true := by decide +kernel
theorem dX11_draw_0 : decode cX11_draw 0 = .ok (.aload_n 0, 1) := op42 (bA_at bd03_dec_X11_3_4 0 rfl rfl)
theorem dX11_draw_1 : decode cX11_draw 1 = .ok (.aload_n 0, 1) := op42 (bA_at bd03_dec_X11_3_4 1 rfl rfl)
theorem dX11_draw_2 : decode cX11_draw 2 = .ok (.getfield 515, 3) := op180 (bA_at bd03_dec_X11_3_4 2 rfl rfl) rfl
theorem dX11_draw_5 : decode cX11_draw 5 = .ok (.ldc_w 518, 3) := op19 (bA_at bd03_dec_X11_3_4 3 rfl rfl) rfl
theorem dX11_draw_8 : decode cX11_draw 8 = .ok (.imul, 1) := op104 (bA_at bd03_dec_X11_3_4 4 rfl rfl)
theorem dX11_draw_9 : decode cX11_draw 9 = .ok (.sipush 12345, 3) := op17 (bA_at bd03_dec_X11_3_4 5 rfl rfl) (by decide +kernel)
theorem dX11_draw_12 : decode cX11_draw 12 = .ok (.iadd, 1) := op96 (bA_at bd03_dec_X11_3_4 6 rfl rfl)
theorem dX11_draw_13 : decode cX11_draw 13 = .ok (.putfield 515, 3) := op181 (bA_at bd03_dec_X11_3_4 7 rfl rfl) rfl
theorem dX11_draw_16 : decode cX11_draw 16 = .ok (.aload_n 0, 1) := op42 (bA_at bd03_dec_X11_3_4 8 rfl rfl)
theorem dX11_draw_17 : decode cX11_draw 17 = .ok (.getfield 515, 3) := op180 (bA_at bd03_dec_X11_3_4 9 rfl rfl) rfl
theorem dX11_draw_20 : decode cX11_draw 20 = .ok (.bipush 16, 2) := op16 (bA_at bd03_dec_X11_3_4 10 rfl rfl) (by decide +kernel)
theorem dX11_draw_22 : decode cX11_draw 22 = .ok (.iushr, 1) := op124 (bA_at bd03_dec_X11_3_4 11 rfl rfl)
theorem dX11_draw_23 : decode cX11_draw 23 = .ok (.iload_n 1, 1) := op27 (bA_at bd03_dec_X11_3_4 12 rfl rfl)
theorem dX11_draw_24 : decode cX11_draw 24 = .ok (.irem, 1) := op112 (bA_at bd03_dec_X11_3_4 13 rfl rfl)
theorem dX11_draw_25 : decode cX11_draw 25 = .ok (.ireturn, 1) := op172 (bA_at bd03_dec_X11_3_4 14 rfl rfl)
theorem bd03_dec_X11_3_5 : ([(0, [42]), (1, [42]), (2, [180, 1, 54]), (5, [182, 2, 7]), (8, [60]), (9, [42]), (10, [16, 8]), (12, [182, 2, 7]), (15, [6]), (16, [162, 0, 18]), (19, [42]), (20, [27]), (21, [42]), (22, [42]), (23, [180, 1, 51]), (26, [182, 2, 7]), (29, [182, 1, 118]), (32, [87]), (33, [177]), (34, [42]), (35, [8]), (36, [182, 2, 7]), (39, [61]), (40, [42]), (41, [27]), (42, [28]), (43, [182, 1, 108]), (46, [153, 0, 12]), (49, [42]), (50, [27]), (51, [28]), (52, [182, 1, 102]), (55, [167, 0, 19]), (58, [42]), (59, [27]), (60, [28]), (61, [182, 1, 111]), (64, [153, 0, 10]), (67, [42]), (68, [27]), (69, [28]), (70, [3]), (71, [182, 1, 114]), (74, [177])] : List (Nat × List UInt8)).all (fun x => prB x.2 ((cX11_drawDeed.data.toList.drop 0).drop x.1)) = true := by decide +kernel
theorem dX11_drawDeed_0 : decode cX11_drawDeed 0 = .ok (.aload_n 0, 1) := op42 (bA_at bd03_dec_X11_3_5 0 rfl rfl)
theorem dX11_drawDeed_1 : decode cX11_drawDeed 1 = .ok (.aload_n 0, 1) := op42 (bA_at bd03_dec_X11_3_5 1 rfl rfl)
theorem dX11_drawDeed_2 : decode cX11_drawDeed 2 = .ok (.getfield 310, 3) := op180 (bA_at bd03_dec_X11_3_5 2 rfl rfl) rfl
theorem dX11_drawDeed_5 : decode cX11_drawDeed 5 = .ok (.invokevirtual 519, 3) := op182 (bA_at bd03_dec_X11_3_5 3 rfl rfl) rfl
theorem dX11_drawDeed_8 : decode cX11_drawDeed 8 = .ok (.istore_n 1, 1) := op60 (bA_at bd03_dec_X11_3_5 4 rfl rfl)
theorem dX11_drawDeed_9 : decode cX11_drawDeed 9 = .ok (.aload_n 0, 1) := op42 (bA_at bd03_dec_X11_3_5 5 rfl rfl)
theorem dX11_drawDeed_10 : decode cX11_drawDeed 10 = .ok (.bipush 8, 2) := op16 (bA_at bd03_dec_X11_3_5 6 rfl rfl) (by decide +kernel)
theorem dX11_drawDeed_12 : decode cX11_drawDeed 12 = .ok (.invokevirtual 519, 3) := op182 (bA_at bd03_dec_X11_3_5 7 rfl rfl) rfl
theorem dX11_drawDeed_15 : decode cX11_drawDeed 15 = .ok (.iconst 3, 1) := op6 (bA_at bd03_dec_X11_3_5 8 rfl rfl)
theorem dX11_drawDeed_16 : decode cX11_drawDeed 16 = .ok (.if_icmp .ge 18, 3) := op162 (bA_at bd03_dec_X11_3_5 9 rfl rfl) (by decide +kernel)
theorem dX11_drawDeed_19 : decode cX11_drawDeed 19 = .ok (.aload_n 0, 1) := op42 (bA_at bd03_dec_X11_3_5 10 rfl rfl)
theorem dX11_drawDeed_20 : decode cX11_drawDeed 20 = .ok (.iload_n 1, 1) := op27 (bA_at bd03_dec_X11_3_5 11 rfl rfl)
theorem dX11_drawDeed_21 : decode cX11_drawDeed 21 = .ok (.aload_n 0, 1) := op42 (bA_at bd03_dec_X11_3_5 12 rfl rfl)
theorem dX11_drawDeed_22 : decode cX11_drawDeed 22 = .ok (.aload_n 0, 1) := op42 (bA_at bd03_dec_X11_3_5 13 rfl rfl)
theorem dX11_drawDeed_23 : decode cX11_drawDeed 23 = .ok (.getfield 307, 3) := op180 (bA_at bd03_dec_X11_3_5 14 rfl rfl) rfl
theorem dX11_drawDeed_26 : decode cX11_drawDeed 26 = .ok (.invokevirtual 519, 3) := op182 (bA_at bd03_dec_X11_3_5 15 rfl rfl) rfl
theorem dX11_drawDeed_29 : decode cX11_drawDeed 29 = .ok (.invokevirtual 374, 3) := op182 (bA_at bd03_dec_X11_3_5 16 rfl rfl) rfl
theorem dX11_drawDeed_32 : decode cX11_drawDeed 32 = .ok (.pop, 1) := op87 (bA_at bd03_dec_X11_3_5 17 rfl rfl)
theorem dX11_drawDeed_33 : decode cX11_drawDeed 33 = .ok (.return_, 1) := op177 (bA_at bd03_dec_X11_3_5 18 rfl rfl)
theorem dX11_drawDeed_34 : decode cX11_drawDeed 34 = .ok (.aload_n 0, 1) := op42 (bA_at bd03_dec_X11_3_5 19 rfl rfl)
theorem dX11_drawDeed_35 : decode cX11_drawDeed 35 = .ok (.iconst 5, 1) := op8 (bA_at bd03_dec_X11_3_5 20 rfl rfl)
theorem dX11_drawDeed_36 : decode cX11_drawDeed 36 = .ok (.invokevirtual 519, 3) := op182 (bA_at bd03_dec_X11_3_5 21 rfl rfl) rfl
theorem dX11_drawDeed_39 : decode cX11_drawDeed 39 = .ok (.istore_n 2, 1) := op61 (bA_at bd03_dec_X11_3_5 22 rfl rfl)
theorem dX11_drawDeed_40 : decode cX11_drawDeed 40 = .ok (.aload_n 0, 1) := op42 (bA_at bd03_dec_X11_3_5 23 rfl rfl)
theorem dX11_drawDeed_41 : decode cX11_drawDeed 41 = .ok (.iload_n 1, 1) := op27 (bA_at bd03_dec_X11_3_5 24 rfl rfl)
theorem dX11_drawDeed_42 : decode cX11_drawDeed 42 = .ok (.iload_n 2, 1) := op28 (bA_at bd03_dec_X11_3_5 25 rfl rfl)
theorem dX11_drawDeed_43 : decode cX11_drawDeed 43 = .ok (.invokevirtual 364, 3) := op182 (bA_at bd03_dec_X11_3_5 26 rfl rfl) rfl
theorem dX11_drawDeed_46 : decode cX11_drawDeed 46 = .ok (.ifCond .eq 12, 3) := op153 (bA_at bd03_dec_X11_3_5 27 rfl rfl) (by decide +kernel)
theorem dX11_drawDeed_49 : decode cX11_drawDeed 49 = .ok (.aload_n 0, 1) := op42 (bA_at bd03_dec_X11_3_5 28 rfl rfl)
theorem dX11_drawDeed_50 : decode cX11_drawDeed 50 = .ok (.iload_n 1, 1) := op27 (bA_at bd03_dec_X11_3_5 29 rfl rfl)
theorem dX11_drawDeed_51 : decode cX11_drawDeed 51 = .ok (.iload_n 2, 1) := op28 (bA_at bd03_dec_X11_3_5 30 rfl rfl)
theorem dX11_drawDeed_52 : decode cX11_drawDeed 52 = .ok (.invokevirtual 358, 3) := op182 (bA_at bd03_dec_X11_3_5 31 rfl rfl) rfl
theorem dX11_drawDeed_55 : decode cX11_drawDeed 55 = .ok (.goto 19, 3) := op167 (bA_at bd03_dec_X11_3_5 32 rfl rfl) (by decide +kernel)
theorem dX11_drawDeed_58 : decode cX11_drawDeed 58 = .ok (.aload_n 0, 1) := op42 (bA_at bd03_dec_X11_3_5 33 rfl rfl)
theorem dX11_drawDeed_59 : decode cX11_drawDeed 59 = .ok (.iload_n 1, 1) := op27 (bA_at bd03_dec_X11_3_5 34 rfl rfl)
theorem dX11_drawDeed_60 : decode cX11_drawDeed 60 = .ok (.iload_n 2, 1) := op28 (bA_at bd03_dec_X11_3_5 35 rfl rfl)
theorem dX11_drawDeed_61 : decode cX11_drawDeed 61 = .ok (.invokevirtual 367, 3) := op182 (bA_at bd03_dec_X11_3_5 36 rfl rfl) rfl
theorem dX11_drawDeed_64 : decode cX11_drawDeed 64 = .ok (.ifCond .eq 10, 3) := op153 (bA_at bd03_dec_X11_3_5 37 rfl rfl) (by decide +kernel)
theorem dX11_drawDeed_67 : decode cX11_drawDeed 67 = .ok (.aload_n 0, 1) := op42 (bA_at bd03_dec_X11_3_5 38 rfl rfl)
theorem dX11_drawDeed_68 : decode cX11_drawDeed 68 = .ok (.iload_n 1, 1) := op27 (bA_at bd03_dec_X11_3_5 39 rfl rfl)
theorem dX11_drawDeed_69 : decode cX11_drawDeed 69 = .ok (.iload_n 2, 1) := op28 (bA_at bd03_dec_X11_3_5 40 rfl rfl)
theorem dX11_drawDeed_70 : decode cX11_drawDeed 70 = .ok (.iconst 0, 1) := op3 (bA_at bd03_dec_X11_3_5 41 rfl rfl)
theorem dX11_drawDeed_71 : decode cX11_drawDeed 71 = .ok (.invokevirtual 370, 3) := op182 (bA_at bd03_dec_X11_3_5 42 rfl rfl) rfl
theorem dX11_drawDeed_74 : decode cX11_drawDeed 74 = .ok (.return_, 1) := op177 (bA_at bd03_dec_X11_3_5 43 rfl rfl)
theorem bd03_dec_X11_3_6 : ([(0, [42]), (1, [3]), (2, [181, 0, 97]), (5, [29]), (6, [3]), (7, [16, 60]), (9, [184, 0, 109]), (12, [153, 0, 18]), (15, [42]), (16, [27]), (17, [182, 1, 57]), (20, [153, 0, 10]), (23, [42]), (24, [180, 1, 54]), (27, [154, 0, 7]), (30, [17, 252, 24]), (33, [172]), (34, [42]), (35, [28]), (36, [181, 2, 3]), (39, [42]), (40, [182, 1, 121]), (43, [3]), (44, [54, 5]), (46, [21, 5]), (48, [29]), (49, [162, 0, 13]), (52, [42]), (53, [182, 2, 10]), (56, [132, 5, 1]), (59, [167, 255, 243]), (62, [42]), (63, [21, 4]), (65, [182, 1, 151]), (68, [172])] : List (Nat × List UInt8)).all (fun x => prB x.2 ((cX11_drawn.data.toList.drop 0).drop x.1)) = true := by decide +kernel
theorem dX11_drawn_0 : decode cX11_drawn 0 = .ok (.aload_n 0, 1) := op42 (bA_at bd03_dec_X11_3_6 0 rfl rfl)
theorem dX11_drawn_1 : decode cX11_drawn 1 = .ok (.iconst 0, 1) := op3 (bA_at bd03_dec_X11_3_6 1 rfl rfl)
theorem dX11_drawn_2 : decode cX11_drawn 2 = .ok (.putfield 97, 3) := op181 (bA_at bd03_dec_X11_3_6 2 rfl rfl) rfl
theorem dX11_drawn_5 : decode cX11_drawn 5 = .ok (.iload_n 3, 1) := op29 (bA_at bd03_dec_X11_3_6 3 rfl rfl)
theorem dX11_drawn_6 : decode cX11_drawn 6 = .ok (.iconst 0, 1) := op3 (bA_at bd03_dec_X11_3_6 4 rfl rfl)
theorem dX11_drawn_7 : decode cX11_drawn 7 = .ok (.bipush 60, 2) := op16 (bA_at bd03_dec_X11_3_6 5 rfl rfl) (by decide +kernel)
theorem dX11_drawn_9 : decode cX11_drawn 9 = .ok (.invokestatic 109, 3) := op184 (bA_at bd03_dec_X11_3_6 6 rfl rfl) rfl
theorem dX11_drawn_12 : decode cX11_drawn 12 = .ok (.ifCond .eq 18, 3) := op153 (bA_at bd03_dec_X11_3_6 7 rfl rfl) (by decide +kernel)
theorem dX11_drawn_15 : decode cX11_drawn 15 = .ok (.aload_n 0, 1) := op42 (bA_at bd03_dec_X11_3_6 8 rfl rfl)
theorem dX11_drawn_16 : decode cX11_drawn 16 = .ok (.iload_n 1, 1) := op27 (bA_at bd03_dec_X11_3_6 9 rfl rfl)
theorem dX11_drawn_17 : decode cX11_drawn 17 = .ok (.invokevirtual 313, 3) := op182 (bA_at bd03_dec_X11_3_6 10 rfl rfl) rfl
theorem dX11_drawn_20 : decode cX11_drawn 20 = .ok (.ifCond .eq 10, 3) := op153 (bA_at bd03_dec_X11_3_6 11 rfl rfl) (by decide +kernel)
theorem dX11_drawn_23 : decode cX11_drawn 23 = .ok (.aload_n 0, 1) := op42 (bA_at bd03_dec_X11_3_6 12 rfl rfl)
theorem dX11_drawn_24 : decode cX11_drawn 24 = .ok (.getfield 310, 3) := op180 (bA_at bd03_dec_X11_3_6 13 rfl rfl) rfl
theorem dX11_drawn_27 : decode cX11_drawn 27 = .ok (.ifCond .ne 7, 3) := op154 (bA_at bd03_dec_X11_3_6 14 rfl rfl) (by decide +kernel)
theorem dX11_drawn_30 : decode cX11_drawn 30 = .ok (.sipush (-1000), 3) := op17 (bA_at bd03_dec_X11_3_6 15 rfl rfl) (by decide +kernel)
theorem dX11_drawn_33 : decode cX11_drawn 33 = .ok (.ireturn, 1) := op172 (bA_at bd03_dec_X11_3_6 16 rfl rfl)
theorem dX11_drawn_34 : decode cX11_drawn 34 = .ok (.aload_n 0, 1) := op42 (bA_at bd03_dec_X11_3_6 17 rfl rfl)
theorem dX11_drawn_35 : decode cX11_drawn 35 = .ok (.iload_n 2, 1) := op28 (bA_at bd03_dec_X11_3_6 18 rfl rfl)
theorem dX11_drawn_36 : decode cX11_drawn 36 = .ok (.putfield 515, 3) := op181 (bA_at bd03_dec_X11_3_6 19 rfl rfl) rfl
theorem dX11_drawn_39 : decode cX11_drawn 39 = .ok (.aload_n 0, 1) := op42 (bA_at bd03_dec_X11_3_6 20 rfl rfl)
theorem dX11_drawn_40 : decode cX11_drawn 40 = .ok (.invokevirtual 377, 3) := op182 (bA_at bd03_dec_X11_3_6 21 rfl rfl) rfl
theorem dX11_drawn_43 : decode cX11_drawn 43 = .ok (.iconst 0, 1) := op3 (bA_at bd03_dec_X11_3_6 22 rfl rfl)
theorem dX11_drawn_44 : decode cX11_drawn 44 = .ok (.istore 5, 2) := op54 (bA_at bd03_dec_X11_3_6 23 rfl rfl) rfl
theorem dX11_drawn_46 : decode cX11_drawn 46 = .ok (.iload 5, 2) := op21 (bA_at bd03_dec_X11_3_6 24 rfl rfl) rfl
theorem dX11_drawn_48 : decode cX11_drawn 48 = .ok (.iload_n 3, 1) := op29 (bA_at bd03_dec_X11_3_6 25 rfl rfl)
theorem dX11_drawn_49 : decode cX11_drawn 49 = .ok (.if_icmp .ge 13, 3) := op162 (bA_at bd03_dec_X11_3_6 26 rfl rfl) (by decide +kernel)
theorem dX11_drawn_52 : decode cX11_drawn 52 = .ok (.aload_n 0, 1) := op42 (bA_at bd03_dec_X11_3_6 27 rfl rfl)
theorem dX11_drawn_53 : decode cX11_drawn 53 = .ok (.invokevirtual 522, 3) := op182 (bA_at bd03_dec_X11_3_6 28 rfl rfl) rfl
theorem dX11_drawn_56 : decode cX11_drawn 56 = .ok (.iinc 5 1, 3) := op132 (bA_at bd03_dec_X11_3_6 29 rfl rfl) rfl (by decide +kernel)
theorem dX11_drawn_59 : decode cX11_drawn 59 = .ok (.goto (-13), 3) := op167 (bA_at bd03_dec_X11_3_6 30 rfl rfl) (by decide +kernel)
theorem dX11_drawn_62 : decode cX11_drawn 62 = .ok (.aload_n 0, 1) := op42 (bA_at bd03_dec_X11_3_6 31 rfl rfl)
theorem dX11_drawn_63 : decode cX11_drawn 63 = .ok (.iload 4, 2) := op21 (bA_at bd03_dec_X11_3_6 32 rfl rfl) rfl
theorem dX11_drawn_65 : decode cX11_drawn 65 = .ok (.invokevirtual 407, 3) := op182 (bA_at bd03_dec_X11_3_6 33 rfl rfl) rfl
theorem dX11_drawn_68 : decode cX11_drawn 68 = .ok (.ireturn, 1) := op172 (bA_at bd03_dec_X11_3_6 34 rfl rfl)
theorem bd03_dec_X11_3_7 : ([(0, [42]), (1, [3]), (2, [181, 0, 97]), (5, [42]), (6, [27]), (7, [182, 1, 57]), (10, [153, 0, 31]), (13, [42]), (14, [28]), (15, [182, 1, 60]), (18, [153, 0, 23]), (21, [29]), (22, [3]), (23, [16, 99]), (25, [184, 0, 109]), (28, [153, 0, 13]), (31, [21, 4]), (33, [3]), (34, [5]), (35, [184, 0, 109]), (38, [154, 0, 6]), (41, [16, 254]), (43, [172]), (44, [3]), (45, [54, 5]), (47, [2]), (48, [54, 6]), (50, [19, 1, 154]), (53, [54, 7]), (55, [3]), (56, [54, 8]), (58, [21, 8]), (60, [42]), (61, [180, 1, 51]), (64, [162, 0, 78]), (67, [42]), (68, [21, 8]), (70, [3]), (71, [182, 1, 158]), (74, [42]), (75, [180, 0, 59]), (78, [28]), (79, [46]), (80, [29]), (81, [163, 0, 55]), (84, [21, 5]), (86, [4]), (87, [21, 8]), (89, [120]), (90, [128])] : List (Nat × List UInt8)).all (fun x => prB x.2 ((cX11_psalm.data.toList.drop 0).drop x.1)) = true := by decide +kernel
theorem dX11_psalm_0 : decode cX11_psalm 0 = .ok (.aload_n 0, 1) := op42 (bA_at bd03_dec_X11_3_7 0 rfl rfl)
theorem dX11_psalm_1 : decode cX11_psalm 1 = .ok (.iconst 0, 1) := op3 (bA_at bd03_dec_X11_3_7 1 rfl rfl)
theorem dX11_psalm_2 : decode cX11_psalm 2 = .ok (.putfield 97, 3) := op181 (bA_at bd03_dec_X11_3_7 2 rfl rfl) rfl
theorem dX11_psalm_5 : decode cX11_psalm 5 = .ok (.aload_n 0, 1) := op42 (bA_at bd03_dec_X11_3_7 3 rfl rfl)
theorem dX11_psalm_6 : decode cX11_psalm 6 = .ok (.iload_n 1, 1) := op27 (bA_at bd03_dec_X11_3_7 4 rfl rfl)
theorem dX11_psalm_7 : decode cX11_psalm 7 = .ok (.invokevirtual 313, 3) := op182 (bA_at bd03_dec_X11_3_7 5 rfl rfl) rfl
theorem dX11_psalm_10 : decode cX11_psalm 10 = .ok (.ifCond .eq 31, 3) := op153 (bA_at bd03_dec_X11_3_7 6 rfl rfl) (by decide +kernel)
theorem dX11_psalm_13 : decode cX11_psalm 13 = .ok (.aload_n 0, 1) := op42 (bA_at bd03_dec_X11_3_7 7 rfl rfl)
theorem dX11_psalm_14 : decode cX11_psalm 14 = .ok (.iload_n 2, 1) := op28 (bA_at bd03_dec_X11_3_7 8 rfl rfl)
theorem dX11_psalm_15 : decode cX11_psalm 15 = .ok (.invokevirtual 316, 3) := op182 (bA_at bd03_dec_X11_3_7 9 rfl rfl) rfl
theorem dX11_psalm_18 : decode cX11_psalm 18 = .ok (.ifCond .eq 23, 3) := op153 (bA_at bd03_dec_X11_3_7 10 rfl rfl) (by decide +kernel)
theorem dX11_psalm_21 : decode cX11_psalm 21 = .ok (.iload_n 3, 1) := op29 (bA_at bd03_dec_X11_3_7 11 rfl rfl)
theorem dX11_psalm_22 : decode cX11_psalm 22 = .ok (.iconst 0, 1) := op3 (bA_at bd03_dec_X11_3_7 12 rfl rfl)
theorem dX11_psalm_23 : decode cX11_psalm 23 = .ok (.bipush 99, 2) := op16 (bA_at bd03_dec_X11_3_7 13 rfl rfl) (by decide +kernel)
theorem dX11_psalm_25 : decode cX11_psalm 25 = .ok (.invokestatic 109, 3) := op184 (bA_at bd03_dec_X11_3_7 14 rfl rfl) rfl
theorem dX11_psalm_28 : decode cX11_psalm 28 = .ok (.ifCond .eq 13, 3) := op153 (bA_at bd03_dec_X11_3_7 15 rfl rfl) (by decide +kernel)
theorem dX11_psalm_31 : decode cX11_psalm 31 = .ok (.iload 4, 2) := op21 (bA_at bd03_dec_X11_3_7 16 rfl rfl) rfl
theorem dX11_psalm_33 : decode cX11_psalm 33 = .ok (.iconst 0, 1) := op3 (bA_at bd03_dec_X11_3_7 17 rfl rfl)
theorem dX11_psalm_34 : decode cX11_psalm 34 = .ok (.iconst 2, 1) := op5 (bA_at bd03_dec_X11_3_7 18 rfl rfl)
theorem dX11_psalm_35 : decode cX11_psalm 35 = .ok (.invokestatic 109, 3) := op184 (bA_at bd03_dec_X11_3_7 19 rfl rfl) rfl
theorem dX11_psalm_38 : decode cX11_psalm 38 = .ok (.ifCond .ne 6, 3) := op154 (bA_at bd03_dec_X11_3_7 20 rfl rfl) (by decide +kernel)
theorem dX11_psalm_41 : decode cX11_psalm 41 = .ok (.bipush (-2), 2) := op16 (bA_at bd03_dec_X11_3_7 21 rfl rfl) (by decide +kernel)
theorem dX11_psalm_43 : decode cX11_psalm 43 = .ok (.ireturn, 1) := op172 (bA_at bd03_dec_X11_3_7 22 rfl rfl)
theorem dX11_psalm_44 : decode cX11_psalm 44 = .ok (.iconst 0, 1) := op3 (bA_at bd03_dec_X11_3_7 23 rfl rfl)
theorem dX11_psalm_45 : decode cX11_psalm 45 = .ok (.istore 5, 2) := op54 (bA_at bd03_dec_X11_3_7 24 rfl rfl) rfl
theorem dX11_psalm_47 : decode cX11_psalm 47 = .ok (.iconst (-1), 1) := op2 (bA_at bd03_dec_X11_3_7 25 rfl rfl)
theorem dX11_psalm_48 : decode cX11_psalm 48 = .ok (.istore 6, 2) := op54 (bA_at bd03_dec_X11_3_7 26 rfl rfl) rfl
theorem dX11_psalm_50 : decode cX11_psalm 50 = .ok (.ldc_w 410, 3) := op19 (bA_at bd03_dec_X11_3_7 27 rfl rfl) rfl
theorem dX11_psalm_53 : decode cX11_psalm 53 = .ok (.istore 7, 2) := op54 (bA_at bd03_dec_X11_3_7 28 rfl rfl) rfl
theorem dX11_psalm_55 : decode cX11_psalm 55 = .ok (.iconst 0, 1) := op3 (bA_at bd03_dec_X11_3_7 29 rfl rfl)
theorem dX11_psalm_56 : decode cX11_psalm 56 = .ok (.istore 8, 2) := op54 (bA_at bd03_dec_X11_3_7 30 rfl rfl) rfl
theorem dX11_psalm_58 : decode cX11_psalm 58 = .ok (.iload 8, 2) := op21 (bA_at bd03_dec_X11_3_7 31 rfl rfl) rfl
theorem dX11_psalm_60 : decode cX11_psalm 60 = .ok (.aload_n 0, 1) := op42 (bA_at bd03_dec_X11_3_7 32 rfl rfl)
theorem dX11_psalm_61 : decode cX11_psalm 61 = .ok (.getfield 307, 3) := op180 (bA_at bd03_dec_X11_3_7 33 rfl rfl) rfl
theorem dX11_psalm_64 : decode cX11_psalm 64 = .ok (.if_icmp .ge 78, 3) := op162 (bA_at bd03_dec_X11_3_7 34 rfl rfl) (by decide +kernel)
theorem dX11_psalm_67 : decode cX11_psalm 67 = .ok (.aload_n 0, 1) := op42 (bA_at bd03_dec_X11_3_7 35 rfl rfl)
theorem dX11_psalm_68 : decode cX11_psalm 68 = .ok (.iload 8, 2) := op21 (bA_at bd03_dec_X11_3_7 36 rfl rfl) rfl
theorem dX11_psalm_70 : decode cX11_psalm 70 = .ok (.iconst 0, 1) := op3 (bA_at bd03_dec_X11_3_7 37 rfl rfl)
theorem dX11_psalm_71 : decode cX11_psalm 71 = .ok (.invokevirtual 414, 3) := op182 (bA_at bd03_dec_X11_3_7 38 rfl rfl) rfl
theorem dX11_psalm_74 : decode cX11_psalm 74 = .ok (.aload_n 0, 1) := op42 (bA_at bd03_dec_X11_3_7 39 rfl rfl)
theorem dX11_psalm_75 : decode cX11_psalm 75 = .ok (.getfield 59, 3) := op180 (bA_at bd03_dec_X11_3_7 40 rfl rfl) rfl
theorem dX11_psalm_78 : decode cX11_psalm 78 = .ok (.iload_n 2, 1) := op28 (bA_at bd03_dec_X11_3_7 41 rfl rfl)
theorem dX11_psalm_79 : decode cX11_psalm 79 = .ok (.iaload, 1) := op46 (bA_at bd03_dec_X11_3_7 42 rfl rfl)
theorem dX11_psalm_80 : decode cX11_psalm 80 = .ok (.iload_n 3, 1) := op29 (bA_at bd03_dec_X11_3_7 43 rfl rfl)
theorem dX11_psalm_81 : decode cX11_psalm 81 = .ok (.if_icmp .gt 55, 3) := op163 (bA_at bd03_dec_X11_3_7 44 rfl rfl) (by decide +kernel)
theorem dX11_psalm_84 : decode cX11_psalm 84 = .ok (.iload 5, 2) := op21 (bA_at bd03_dec_X11_3_7 45 rfl rfl) rfl
theorem dX11_psalm_86 : decode cX11_psalm 86 = .ok (.iconst 1, 1) := op4 (bA_at bd03_dec_X11_3_7 46 rfl rfl)
theorem dX11_psalm_87 : decode cX11_psalm 87 = .ok (.iload 8, 2) := op21 (bA_at bd03_dec_X11_3_7 47 rfl rfl) rfl
theorem dX11_psalm_89 : decode cX11_psalm 89 = .ok (.ishl, 1) := op120 (bA_at bd03_dec_X11_3_7 48 rfl rfl)
theorem dX11_psalm_90 : decode cX11_psalm 90 = .ok (.ior, 1) := op128 (bA_at bd03_dec_X11_3_7 49 rfl rfl)
theorem bd03_dec_X11_3_8 : ([(0, [54, 5]), (2, [21, 6]), (4, [2]), (5, [159, 0, 18]), (8, [42]), (9, [21, 8]), (11, [182, 1, 66]), (14, [42]), (15, [21, 6]), (17, [182, 1, 66]), (20, [164, 0, 8]), (23, [21, 8]), (25, [167, 0, 5]), (28, [21, 6]), (30, [54, 6]), (32, [21, 7]), (34, [42]), (35, [180, 0, 59]), (38, [28]), (39, [46]), (40, [184, 1, 155]), (43, [54, 7]), (45, [132, 8, 1]), (48, [167, 255, 175]), (51, [21, 4]), (53, [154, 0, 8]), (56, [21, 5]), (58, [167, 0, 27]), (61, [21, 4]), (63, [4]), (64, [160, 0, 8]), (67, [21, 6]), (69, [167, 0, 16]), (72, [21, 5]), (74, [154, 0, 7]), (77, [2]), (78, [167, 0, 7]), (81, [29]), (82, [21, 7]), (84, [100]), (85, [172])] : List (Nat × List UInt8)).all (fun x => prB x.2 ((cX11_psalm.data.toList.drop 91).drop x.1)) = true := by decide +kernel
theorem dX11_psalm_91 : decode cX11_psalm 91 = .ok (.istore 5, 2) := op54 (bA_at bd03_dec_X11_3_8 0 rfl rfl) rfl
theorem dX11_psalm_93 : decode cX11_psalm 93 = .ok (.iload 6, 2) := op21 (bA_at bd03_dec_X11_3_8 1 rfl rfl) rfl
theorem dX11_psalm_95 : decode cX11_psalm 95 = .ok (.iconst (-1), 1) := op2 (bA_at bd03_dec_X11_3_8 2 rfl rfl)
theorem dX11_psalm_96 : decode cX11_psalm 96 = .ok (.if_icmp .eq 18, 3) := op159 (bA_at bd03_dec_X11_3_8 3 rfl rfl) (by decide +kernel)
theorem dX11_psalm_99 : decode cX11_psalm 99 = .ok (.aload_n 0, 1) := op42 (bA_at bd03_dec_X11_3_8 4 rfl rfl)
theorem dX11_psalm_100 : decode cX11_psalm 100 = .ok (.iload 8, 2) := op21 (bA_at bd03_dec_X11_3_8 5 rfl rfl) rfl
theorem dX11_psalm_102 : decode cX11_psalm 102 = .ok (.invokevirtual 322, 3) := op182 (bA_at bd03_dec_X11_3_8 6 rfl rfl) rfl
theorem dX11_psalm_105 : decode cX11_psalm 105 = .ok (.aload_n 0, 1) := op42 (bA_at bd03_dec_X11_3_8 7 rfl rfl)
theorem dX11_psalm_106 : decode cX11_psalm 106 = .ok (.iload 6, 2) := op21 (bA_at bd03_dec_X11_3_8 8 rfl rfl) rfl
theorem dX11_psalm_108 : decode cX11_psalm 108 = .ok (.invokevirtual 322, 3) := op182 (bA_at bd03_dec_X11_3_8 9 rfl rfl) rfl
theorem dX11_psalm_111 : decode cX11_psalm 111 = .ok (.if_icmp .le 8, 3) := op164 (bA_at bd03_dec_X11_3_8 10 rfl rfl) (by decide +kernel)
theorem dX11_psalm_114 : decode cX11_psalm 114 = .ok (.iload 8, 2) := op21 (bA_at bd03_dec_X11_3_8 11 rfl rfl) rfl
theorem dX11_psalm_116 : decode cX11_psalm 116 = .ok (.goto 5, 3) := op167 (bA_at bd03_dec_X11_3_8 12 rfl rfl) (by decide +kernel)
theorem dX11_psalm_119 : decode cX11_psalm 119 = .ok (.iload 6, 2) := op21 (bA_at bd03_dec_X11_3_8 13 rfl rfl) rfl
theorem dX11_psalm_121 : decode cX11_psalm 121 = .ok (.istore 6, 2) := op54 (bA_at bd03_dec_X11_3_8 14 rfl rfl) rfl
theorem dX11_psalm_123 : decode cX11_psalm 123 = .ok (.iload 7, 2) := op21 (bA_at bd03_dec_X11_3_8 15 rfl rfl) rfl
theorem dX11_psalm_125 : decode cX11_psalm 125 = .ok (.aload_n 0, 1) := op42 (bA_at bd03_dec_X11_3_8 16 rfl rfl)
theorem dX11_psalm_126 : decode cX11_psalm 126 = .ok (.getfield 59, 3) := op180 (bA_at bd03_dec_X11_3_8 17 rfl rfl) rfl
theorem dX11_psalm_129 : decode cX11_psalm 129 = .ok (.iload_n 2, 1) := op28 (bA_at bd03_dec_X11_3_8 18 rfl rfl)
theorem dX11_psalm_130 : decode cX11_psalm 130 = .ok (.iaload, 1) := op46 (bA_at bd03_dec_X11_3_8 19 rfl rfl)
theorem dX11_psalm_131 : decode cX11_psalm 131 = .ok (.invokestatic 411, 3) := op184 (bA_at bd03_dec_X11_3_8 20 rfl rfl) rfl
theorem dX11_psalm_134 : decode cX11_psalm 134 = .ok (.istore 7, 2) := op54 (bA_at bd03_dec_X11_3_8 21 rfl rfl) rfl
theorem dX11_psalm_136 : decode cX11_psalm 136 = .ok (.iinc 8 1, 3) := op132 (bA_at bd03_dec_X11_3_8 22 rfl rfl) rfl (by decide +kernel)
theorem dX11_psalm_139 : decode cX11_psalm 139 = .ok (.goto (-81), 3) := op167 (bA_at bd03_dec_X11_3_8 23 rfl rfl) (by decide +kernel)
theorem dX11_psalm_142 : decode cX11_psalm 142 = .ok (.iload 4, 2) := op21 (bA_at bd03_dec_X11_3_8 24 rfl rfl) rfl
theorem dX11_psalm_144 : decode cX11_psalm 144 = .ok (.ifCond .ne 8, 3) := op154 (bA_at bd03_dec_X11_3_8 25 rfl rfl) (by decide +kernel)
theorem dX11_psalm_147 : decode cX11_psalm 147 = .ok (.iload 5, 2) := op21 (bA_at bd03_dec_X11_3_8 26 rfl rfl) rfl
theorem dX11_psalm_149 : decode cX11_psalm 149 = .ok (.goto 27, 3) := op167 (bA_at bd03_dec_X11_3_8 27 rfl rfl) (by decide +kernel)
theorem dX11_psalm_152 : decode cX11_psalm 152 = .ok (.iload 4, 2) := op21 (bA_at bd03_dec_X11_3_8 28 rfl rfl) rfl
theorem dX11_psalm_154 : decode cX11_psalm 154 = .ok (.iconst 1, 1) := op4 (bA_at bd03_dec_X11_3_8 29 rfl rfl)
theorem dX11_psalm_155 : decode cX11_psalm 155 = .ok (.if_icmp .ne 8, 3) := op160 (bA_at bd03_dec_X11_3_8 30 rfl rfl) (by decide +kernel)
theorem dX11_psalm_158 : decode cX11_psalm 158 = .ok (.iload 6, 2) := op21 (bA_at bd03_dec_X11_3_8 31 rfl rfl) rfl
theorem dX11_psalm_160 : decode cX11_psalm 160 = .ok (.goto 16, 3) := op167 (bA_at bd03_dec_X11_3_8 32 rfl rfl) (by decide +kernel)
theorem dX11_psalm_163 : decode cX11_psalm 163 = .ok (.iload 5, 2) := op21 (bA_at bd03_dec_X11_3_8 33 rfl rfl) rfl
theorem dX11_psalm_165 : decode cX11_psalm 165 = .ok (.ifCond .ne 7, 3) := op154 (bA_at bd03_dec_X11_3_8 34 rfl rfl) (by decide +kernel)
theorem dX11_psalm_168 : decode cX11_psalm 168 = .ok (.iconst (-1), 1) := op2 (bA_at bd03_dec_X11_3_8 35 rfl rfl)
theorem dX11_psalm_169 : decode cX11_psalm 169 = .ok (.goto 7, 3) := op167 (bA_at bd03_dec_X11_3_8 36 rfl rfl) (by decide +kernel)
theorem dX11_psalm_172 : decode cX11_psalm 172 = .ok (.iload_n 3, 1) := op29 (bA_at bd03_dec_X11_3_8 37 rfl rfl)
theorem dX11_psalm_173 : decode cX11_psalm 173 = .ok (.iload 7, 2) := op21 (bA_at bd03_dec_X11_3_8 38 rfl rfl) rfl
theorem dX11_psalm_175 : decode cX11_psalm 175 = .ok (.isub, 1) := op100 (bA_at bd03_dec_X11_3_8 39 rfl rfl)
theorem dX11_psalm_176 : decode cX11_psalm 176 = .ok (.ireturn, 1) := op172 (bA_at bd03_dec_X11_3_8 40 rfl rfl)
theorem bd03_dec_X11_3_9 : ([(0, [42]), (1, [3]), (2, [181, 0, 97]), (5, [42]), (6, [27]), (7, [182, 1, 57]), (10, [153, 0, 24]), (13, [42]), (14, [28]), (15, [182, 1, 69]), (18, [153, 0, 16]), (21, [42]), (22, [29]), (23, [182, 1, 69]), (26, [153, 0, 8]), (29, [28]), (30, [29]), (31, [160, 0, 5]), (34, [2]), (35, [172]), (36, [42]), (37, [182, 1, 198]), (40, [2]), (41, [54, 5]), (43, [19, 1, 154]), (46, [54, 6]), (48, [3]), (49, [54, 7]), (51, [21, 7]), (53, [42]), (54, [180, 1, 51]), (57, [162, 0, 77]), (60, [42]), (61, [180, 0, 78]), (64, [16, 9]), (66, [42]), (67, [16, 25]), (69, [28]), (70, [96]), (71, [182, 1, 47]), (74, [104]), (75, [21, 7]), (77, [96]), (78, [46]), (79, [42]), (80, [180, 0, 78]), (83, [16, 9]), (85, [42]), (86, [16, 25]), (88, [29])] : List (Nat × List UInt8)).all (fun x => prB x.2 ((cX11_meet.data.toList.drop 0).drop x.1)) = true := by decide +kernel
theorem dX11_meet_0 : decode cX11_meet 0 = .ok (.aload_n 0, 1) := op42 (bA_at bd03_dec_X11_3_9 0 rfl rfl)
theorem dX11_meet_1 : decode cX11_meet 1 = .ok (.iconst 0, 1) := op3 (bA_at bd03_dec_X11_3_9 1 rfl rfl)
theorem dX11_meet_2 : decode cX11_meet 2 = .ok (.putfield 97, 3) := op181 (bA_at bd03_dec_X11_3_9 2 rfl rfl) rfl
theorem dX11_meet_5 : decode cX11_meet 5 = .ok (.aload_n 0, 1) := op42 (bA_at bd03_dec_X11_3_9 3 rfl rfl)
theorem dX11_meet_6 : decode cX11_meet 6 = .ok (.iload_n 1, 1) := op27 (bA_at bd03_dec_X11_3_9 4 rfl rfl)
theorem dX11_meet_7 : decode cX11_meet 7 = .ok (.invokevirtual 313, 3) := op182 (bA_at bd03_dec_X11_3_9 5 rfl rfl) rfl
theorem dX11_meet_10 : decode cX11_meet 10 = .ok (.ifCond .eq 24, 3) := op153 (bA_at bd03_dec_X11_3_9 6 rfl rfl) (by decide +kernel)
theorem dX11_meet_13 : decode cX11_meet 13 = .ok (.aload_n 0, 1) := op42 (bA_at bd03_dec_X11_3_9 7 rfl rfl)
theorem dX11_meet_14 : decode cX11_meet 14 = .ok (.iload_n 2, 1) := op28 (bA_at bd03_dec_X11_3_9 8 rfl rfl)
theorem dX11_meet_15 : decode cX11_meet 15 = .ok (.invokevirtual 325, 3) := op182 (bA_at bd03_dec_X11_3_9 9 rfl rfl) rfl
theorem dX11_meet_18 : decode cX11_meet 18 = .ok (.ifCond .eq 16, 3) := op153 (bA_at bd03_dec_X11_3_9 10 rfl rfl) (by decide +kernel)
theorem dX11_meet_21 : decode cX11_meet 21 = .ok (.aload_n 0, 1) := op42 (bA_at bd03_dec_X11_3_9 11 rfl rfl)
theorem dX11_meet_22 : decode cX11_meet 22 = .ok (.iload_n 3, 1) := op29 (bA_at bd03_dec_X11_3_9 12 rfl rfl)
theorem dX11_meet_23 : decode cX11_meet 23 = .ok (.invokevirtual 325, 3) := op182 (bA_at bd03_dec_X11_3_9 13 rfl rfl) rfl
theorem dX11_meet_26 : decode cX11_meet 26 = .ok (.ifCond .eq 8, 3) := op153 (bA_at bd03_dec_X11_3_9 14 rfl rfl) (by decide +kernel)
theorem dX11_meet_29 : decode cX11_meet 29 = .ok (.iload_n 2, 1) := op28 (bA_at bd03_dec_X11_3_9 15 rfl rfl)
theorem dX11_meet_30 : decode cX11_meet 30 = .ok (.iload_n 3, 1) := op29 (bA_at bd03_dec_X11_3_9 16 rfl rfl)
theorem dX11_meet_31 : decode cX11_meet 31 = .ok (.if_icmp .ne 5, 3) := op160 (bA_at bd03_dec_X11_3_9 17 rfl rfl) (by decide +kernel)
theorem dX11_meet_34 : decode cX11_meet 34 = .ok (.iconst (-1), 1) := op2 (bA_at bd03_dec_X11_3_9 18 rfl rfl)
theorem dX11_meet_35 : decode cX11_meet 35 = .ok (.ireturn, 1) := op172 (bA_at bd03_dec_X11_3_9 19 rfl rfl)
theorem dX11_meet_36 : decode cX11_meet 36 = .ok (.aload_n 0, 1) := op42 (bA_at bd03_dec_X11_3_9 20 rfl rfl)
theorem dX11_meet_37 : decode cX11_meet 37 = .ok (.invokevirtual 454, 3) := op182 (bA_at bd03_dec_X11_3_9 21 rfl rfl) rfl
theorem dX11_meet_40 : decode cX11_meet 40 = .ok (.iconst (-1), 1) := op2 (bA_at bd03_dec_X11_3_9 22 rfl rfl)
theorem dX11_meet_41 : decode cX11_meet 41 = .ok (.istore 5, 2) := op54 (bA_at bd03_dec_X11_3_9 23 rfl rfl) rfl
theorem dX11_meet_43 : decode cX11_meet 43 = .ok (.ldc_w 410, 3) := op19 (bA_at bd03_dec_X11_3_9 24 rfl rfl) rfl
theorem dX11_meet_46 : decode cX11_meet 46 = .ok (.istore 6, 2) := op54 (bA_at bd03_dec_X11_3_9 25 rfl rfl) rfl
theorem dX11_meet_48 : decode cX11_meet 48 = .ok (.iconst 0, 1) := op3 (bA_at bd03_dec_X11_3_9 26 rfl rfl)
theorem dX11_meet_49 : decode cX11_meet 49 = .ok (.istore 7, 2) := op54 (bA_at bd03_dec_X11_3_9 27 rfl rfl) rfl
theorem dX11_meet_51 : decode cX11_meet 51 = .ok (.iload 7, 2) := op21 (bA_at bd03_dec_X11_3_9 28 rfl rfl) rfl
theorem dX11_meet_53 : decode cX11_meet 53 = .ok (.aload_n 0, 1) := op42 (bA_at bd03_dec_X11_3_9 29 rfl rfl)
theorem dX11_meet_54 : decode cX11_meet 54 = .ok (.getfield 307, 3) := op180 (bA_at bd03_dec_X11_3_9 30 rfl rfl) rfl
theorem dX11_meet_57 : decode cX11_meet 57 = .ok (.if_icmp .ge 77, 3) := op162 (bA_at bd03_dec_X11_3_9 31 rfl rfl) (by decide +kernel)
theorem dX11_meet_60 : decode cX11_meet 60 = .ok (.aload_n 0, 1) := op42 (bA_at bd03_dec_X11_3_9 32 rfl rfl)
theorem dX11_meet_61 : decode cX11_meet 61 = .ok (.getfield 78, 3) := op180 (bA_at bd03_dec_X11_3_9 33 rfl rfl) rfl
theorem dX11_meet_64 : decode cX11_meet 64 = .ok (.bipush 9, 2) := op16 (bA_at bd03_dec_X11_3_9 34 rfl rfl) (by decide +kernel)
theorem dX11_meet_66 : decode cX11_meet 66 = .ok (.aload_n 0, 1) := op42 (bA_at bd03_dec_X11_3_9 35 rfl rfl)
theorem dX11_meet_67 : decode cX11_meet 67 = .ok (.bipush 25, 2) := op16 (bA_at bd03_dec_X11_3_9 36 rfl rfl) (by decide +kernel)
theorem dX11_meet_69 : decode cX11_meet 69 = .ok (.iload_n 2, 1) := op28 (bA_at bd03_dec_X11_3_9 37 rfl rfl)
theorem dX11_meet_70 : decode cX11_meet 70 = .ok (.iadd, 1) := op96 (bA_at bd03_dec_X11_3_9 38 rfl rfl)
theorem dX11_meet_71 : decode cX11_meet 71 = .ok (.invokevirtual 303, 3) := op182 (bA_at bd03_dec_X11_3_9 39 rfl rfl) rfl
theorem dX11_meet_74 : decode cX11_meet 74 = .ok (.imul, 1) := op104 (bA_at bd03_dec_X11_3_9 40 rfl rfl)
theorem dX11_meet_75 : decode cX11_meet 75 = .ok (.iload 7, 2) := op21 (bA_at bd03_dec_X11_3_9 41 rfl rfl) rfl
theorem dX11_meet_77 : decode cX11_meet 77 = .ok (.iadd, 1) := op96 (bA_at bd03_dec_X11_3_9 42 rfl rfl)
theorem dX11_meet_78 : decode cX11_meet 78 = .ok (.iaload, 1) := op46 (bA_at bd03_dec_X11_3_9 43 rfl rfl)
theorem dX11_meet_79 : decode cX11_meet 79 = .ok (.aload_n 0, 1) := op42 (bA_at bd03_dec_X11_3_9 44 rfl rfl)
theorem dX11_meet_80 : decode cX11_meet 80 = .ok (.getfield 78, 3) := op180 (bA_at bd03_dec_X11_3_9 45 rfl rfl) rfl
theorem dX11_meet_83 : decode cX11_meet 83 = .ok (.bipush 9, 2) := op16 (bA_at bd03_dec_X11_3_9 46 rfl rfl) (by decide +kernel)
theorem dX11_meet_85 : decode cX11_meet 85 = .ok (.aload_n 0, 1) := op42 (bA_at bd03_dec_X11_3_9 47 rfl rfl)
theorem dX11_meet_86 : decode cX11_meet 86 = .ok (.bipush 25, 2) := op16 (bA_at bd03_dec_X11_3_9 48 rfl rfl) (by decide +kernel)
theorem dX11_meet_88 : decode cX11_meet 88 = .ok (.iload_n 3, 1) := op29 (bA_at bd03_dec_X11_3_9 49 rfl rfl)
theorem bd03_dec_X11_3_10 : ([(0, [96]), (1, [182, 1, 47]), (4, [104]), (5, [21, 7]), (7, [96]), (8, [46]), (9, [184, 0, 171]), (12, [54, 8]), (14, [21, 8]), (16, [21, 6]), (18, [162, 0, 8]), (21, [21, 7]), (23, [167, 0, 5]), (26, [21, 5]), (28, [54, 5]), (30, [21, 6]), (32, [21, 8]), (34, [184, 1, 155]), (37, [54, 6]), (39, [132, 7, 1]), (42, [167, 255, 176]), (45, [21, 5]), (47, [2]), (48, [159, 0, 8]), (51, [21, 4]), (53, [154, 0, 8]), (56, [21, 5]), (58, [167, 0, 5]), (61, [21, 6]), (63, [172])] : List (Nat × List UInt8)).all (fun x => prB x.2 ((cX11_meet.data.toList.drop 89).drop x.1)) = true := by decide +kernel
theorem dX11_meet_89 : decode cX11_meet 89 = .ok (.iadd, 1) := op96 (bA_at bd03_dec_X11_3_10 0 rfl rfl)
theorem dX11_meet_90 : decode cX11_meet 90 = .ok (.invokevirtual 303, 3) := op182 (bA_at bd03_dec_X11_3_10 1 rfl rfl) rfl
theorem dX11_meet_93 : decode cX11_meet 93 = .ok (.imul, 1) := op104 (bA_at bd03_dec_X11_3_10 2 rfl rfl)
theorem dX11_meet_94 : decode cX11_meet 94 = .ok (.iload 7, 2) := op21 (bA_at bd03_dec_X11_3_10 3 rfl rfl) rfl
theorem dX11_meet_96 : decode cX11_meet 96 = .ok (.iadd, 1) := op96 (bA_at bd03_dec_X11_3_10 4 rfl rfl)
theorem dX11_meet_97 : decode cX11_meet 97 = .ok (.iaload, 1) := op46 (bA_at bd03_dec_X11_3_10 5 rfl rfl)
theorem dX11_meet_98 : decode cX11_meet 98 = .ok (.invokestatic 171, 3) := op184 (bA_at bd03_dec_X11_3_10 6 rfl rfl) rfl
theorem dX11_meet_101 : decode cX11_meet 101 = .ok (.istore 8, 2) := op54 (bA_at bd03_dec_X11_3_10 7 rfl rfl) rfl
theorem dX11_meet_103 : decode cX11_meet 103 = .ok (.iload 8, 2) := op21 (bA_at bd03_dec_X11_3_10 8 rfl rfl) rfl
theorem dX11_meet_105 : decode cX11_meet 105 = .ok (.iload 6, 2) := op21 (bA_at bd03_dec_X11_3_10 9 rfl rfl) rfl
theorem dX11_meet_107 : decode cX11_meet 107 = .ok (.if_icmp .ge 8, 3) := op162 (bA_at bd03_dec_X11_3_10 10 rfl rfl) (by decide +kernel)
theorem dX11_meet_110 : decode cX11_meet 110 = .ok (.iload 7, 2) := op21 (bA_at bd03_dec_X11_3_10 11 rfl rfl) rfl
theorem dX11_meet_112 : decode cX11_meet 112 = .ok (.goto 5, 3) := op167 (bA_at bd03_dec_X11_3_10 12 rfl rfl) (by decide +kernel)
theorem dX11_meet_115 : decode cX11_meet 115 = .ok (.iload 5, 2) := op21 (bA_at bd03_dec_X11_3_10 13 rfl rfl) rfl
theorem dX11_meet_117 : decode cX11_meet 117 = .ok (.istore 5, 2) := op54 (bA_at bd03_dec_X11_3_10 14 rfl rfl) rfl
theorem dX11_meet_119 : decode cX11_meet 119 = .ok (.iload 6, 2) := op21 (bA_at bd03_dec_X11_3_10 15 rfl rfl) rfl
theorem dX11_meet_121 : decode cX11_meet 121 = .ok (.iload 8, 2) := op21 (bA_at bd03_dec_X11_3_10 16 rfl rfl) rfl
theorem dX11_meet_123 : decode cX11_meet 123 = .ok (.invokestatic 411, 3) := op184 (bA_at bd03_dec_X11_3_10 17 rfl rfl) rfl
theorem dX11_meet_126 : decode cX11_meet 126 = .ok (.istore 6, 2) := op54 (bA_at bd03_dec_X11_3_10 18 rfl rfl) rfl
theorem dX11_meet_128 : decode cX11_meet 128 = .ok (.iinc 7 1, 3) := op132 (bA_at bd03_dec_X11_3_10 19 rfl rfl) rfl (by decide +kernel)
theorem dX11_meet_131 : decode cX11_meet 131 = .ok (.goto (-80), 3) := op167 (bA_at bd03_dec_X11_3_10 20 rfl rfl) (by decide +kernel)
theorem dX11_meet_134 : decode cX11_meet 134 = .ok (.iload 5, 2) := op21 (bA_at bd03_dec_X11_3_10 21 rfl rfl) rfl
theorem dX11_meet_136 : decode cX11_meet 136 = .ok (.iconst (-1), 1) := op2 (bA_at bd03_dec_X11_3_10 22 rfl rfl)
theorem dX11_meet_137 : decode cX11_meet 137 = .ok (.if_icmp .eq 8, 3) := op159 (bA_at bd03_dec_X11_3_10 23 rfl rfl) (by decide +kernel)
theorem dX11_meet_140 : decode cX11_meet 140 = .ok (.iload 4, 2) := op21 (bA_at bd03_dec_X11_3_10 24 rfl rfl) rfl
theorem dX11_meet_142 : decode cX11_meet 142 = .ok (.ifCond .ne 8, 3) := op154 (bA_at bd03_dec_X11_3_10 25 rfl rfl) (by decide +kernel)
theorem dX11_meet_145 : decode cX11_meet 145 = .ok (.iload 5, 2) := op21 (bA_at bd03_dec_X11_3_10 26 rfl rfl) rfl
theorem dX11_meet_147 : decode cX11_meet 147 = .ok (.goto 5, 3) := op167 (bA_at bd03_dec_X11_3_10 27 rfl rfl) (by decide +kernel)
theorem dX11_meet_150 : decode cX11_meet 150 = .ok (.iload 6, 2) := op21 (bA_at bd03_dec_X11_3_10 28 rfl rfl) rfl
theorem dX11_meet_152 : decode cX11_meet 152 = .ok (.ireturn, 1) := op172 (bA_at bd03_dec_X11_3_10 29 rfl rfl)
theorem bd03_dec_X11_3_11 : ([(0, [42]), (1, [3]), (2, [181, 0, 97]), (5, [42]), (6, [27]), (7, [182, 1, 57]), (10, [153, 0, 11]), (13, [42]), (14, [28]), (15, [182, 1, 69]), (18, [154, 0, 5]), (21, [2]), (22, [172]), (23, [42]), (24, [182, 1, 198]), (27, [2]), (28, [54, 4]), (30, [19, 1, 154]), (33, [54, 5]), (35, [3]), (36, [54, 6]), (38, [21, 6]), (40, [42]), (41, [180, 1, 51]), (44, [162, 0, 82]), (47, [42]), (48, [21, 6]), (50, [3]), (51, [182, 1, 158]), (54, [42]), (55, [21, 6]), (57, [182, 1, 99]), (60, [153, 0, 9]), (63, [19, 1, 154]), (66, [167, 0, 27]), (69, [42]), (70, [180, 0, 78]), (73, [16, 9]), (75, [42]), (76, [16, 25]), (78, [28]), (79, [96]), (80, [182, 1, 47]), (83, [104]), (84, [21, 6]), (86, [96]), (87, [46]), (88, [42]), (89, [182, 1, 170]), (92, [96])] : List (Nat × List UInt8)).all (fun x => prB x.2 ((cX11_carry.data.toList.drop 0).drop x.1)) = true := by decide +kernel
theorem dX11_carry_0 : decode cX11_carry 0 = .ok (.aload_n 0, 1) := op42 (bA_at bd03_dec_X11_3_11 0 rfl rfl)
theorem dX11_carry_1 : decode cX11_carry 1 = .ok (.iconst 0, 1) := op3 (bA_at bd03_dec_X11_3_11 1 rfl rfl)
theorem dX11_carry_2 : decode cX11_carry 2 = .ok (.putfield 97, 3) := op181 (bA_at bd03_dec_X11_3_11 2 rfl rfl) rfl
theorem dX11_carry_5 : decode cX11_carry 5 = .ok (.aload_n 0, 1) := op42 (bA_at bd03_dec_X11_3_11 3 rfl rfl)
theorem dX11_carry_6 : decode cX11_carry 6 = .ok (.iload_n 1, 1) := op27 (bA_at bd03_dec_X11_3_11 4 rfl rfl)
theorem dX11_carry_7 : decode cX11_carry 7 = .ok (.invokevirtual 313, 3) := op182 (bA_at bd03_dec_X11_3_11 5 rfl rfl) rfl
theorem dX11_carry_10 : decode cX11_carry 10 = .ok (.ifCond .eq 11, 3) := op153 (bA_at bd03_dec_X11_3_11 6 rfl rfl) (by decide +kernel)
theorem dX11_carry_13 : decode cX11_carry 13 = .ok (.aload_n 0, 1) := op42 (bA_at bd03_dec_X11_3_11 7 rfl rfl)
theorem dX11_carry_14 : decode cX11_carry 14 = .ok (.iload_n 2, 1) := op28 (bA_at bd03_dec_X11_3_11 8 rfl rfl)
theorem dX11_carry_15 : decode cX11_carry 15 = .ok (.invokevirtual 325, 3) := op182 (bA_at bd03_dec_X11_3_11 9 rfl rfl) rfl
theorem dX11_carry_18 : decode cX11_carry 18 = .ok (.ifCond .ne 5, 3) := op154 (bA_at bd03_dec_X11_3_11 10 rfl rfl) (by decide +kernel)
theorem dX11_carry_21 : decode cX11_carry 21 = .ok (.iconst (-1), 1) := op2 (bA_at bd03_dec_X11_3_11 11 rfl rfl)
theorem dX11_carry_22 : decode cX11_carry 22 = .ok (.ireturn, 1) := op172 (bA_at bd03_dec_X11_3_11 12 rfl rfl)
theorem dX11_carry_23 : decode cX11_carry 23 = .ok (.aload_n 0, 1) := op42 (bA_at bd03_dec_X11_3_11 13 rfl rfl)
theorem dX11_carry_24 : decode cX11_carry 24 = .ok (.invokevirtual 454, 3) := op182 (bA_at bd03_dec_X11_3_11 14 rfl rfl) rfl
theorem dX11_carry_27 : decode cX11_carry 27 = .ok (.iconst (-1), 1) := op2 (bA_at bd03_dec_X11_3_11 15 rfl rfl)
theorem dX11_carry_28 : decode cX11_carry 28 = .ok (.istore 4, 2) := op54 (bA_at bd03_dec_X11_3_11 16 rfl rfl) rfl
theorem dX11_carry_30 : decode cX11_carry 30 = .ok (.ldc_w 410, 3) := op19 (bA_at bd03_dec_X11_3_11 17 rfl rfl) rfl
theorem dX11_carry_33 : decode cX11_carry 33 = .ok (.istore 5, 2) := op54 (bA_at bd03_dec_X11_3_11 18 rfl rfl) rfl
theorem dX11_carry_35 : decode cX11_carry 35 = .ok (.iconst 0, 1) := op3 (bA_at bd03_dec_X11_3_11 19 rfl rfl)
theorem dX11_carry_36 : decode cX11_carry 36 = .ok (.istore 6, 2) := op54 (bA_at bd03_dec_X11_3_11 20 rfl rfl) rfl
theorem dX11_carry_38 : decode cX11_carry 38 = .ok (.iload 6, 2) := op21 (bA_at bd03_dec_X11_3_11 21 rfl rfl) rfl
theorem dX11_carry_40 : decode cX11_carry 40 = .ok (.aload_n 0, 1) := op42 (bA_at bd03_dec_X11_3_11 22 rfl rfl)
theorem dX11_carry_41 : decode cX11_carry 41 = .ok (.getfield 307, 3) := op180 (bA_at bd03_dec_X11_3_11 23 rfl rfl) rfl
theorem dX11_carry_44 : decode cX11_carry 44 = .ok (.if_icmp .ge 82, 3) := op162 (bA_at bd03_dec_X11_3_11 24 rfl rfl) (by decide +kernel)
theorem dX11_carry_47 : decode cX11_carry 47 = .ok (.aload_n 0, 1) := op42 (bA_at bd03_dec_X11_3_11 25 rfl rfl)
theorem dX11_carry_48 : decode cX11_carry 48 = .ok (.iload 6, 2) := op21 (bA_at bd03_dec_X11_3_11 26 rfl rfl) rfl
theorem dX11_carry_50 : decode cX11_carry 50 = .ok (.iconst 0, 1) := op3 (bA_at bd03_dec_X11_3_11 27 rfl rfl)
theorem dX11_carry_51 : decode cX11_carry 51 = .ok (.invokevirtual 414, 3) := op182 (bA_at bd03_dec_X11_3_11 28 rfl rfl) rfl
theorem dX11_carry_54 : decode cX11_carry 54 = .ok (.aload_n 0, 1) := op42 (bA_at bd03_dec_X11_3_11 29 rfl rfl)
theorem dX11_carry_55 : decode cX11_carry 55 = .ok (.iload 6, 2) := op21 (bA_at bd03_dec_X11_3_11 30 rfl rfl) rfl
theorem dX11_carry_57 : decode cX11_carry 57 = .ok (.invokevirtual 355, 3) := op182 (bA_at bd03_dec_X11_3_11 31 rfl rfl) rfl
theorem dX11_carry_60 : decode cX11_carry 60 = .ok (.ifCond .eq 9, 3) := op153 (bA_at bd03_dec_X11_3_11 32 rfl rfl) (by decide +kernel)
theorem dX11_carry_63 : decode cX11_carry 63 = .ok (.ldc_w 410, 3) := op19 (bA_at bd03_dec_X11_3_11 33 rfl rfl) rfl
theorem dX11_carry_66 : decode cX11_carry 66 = .ok (.goto 27, 3) := op167 (bA_at bd03_dec_X11_3_11 34 rfl rfl) (by decide +kernel)
theorem dX11_carry_69 : decode cX11_carry 69 = .ok (.aload_n 0, 1) := op42 (bA_at bd03_dec_X11_3_11 35 rfl rfl)
theorem dX11_carry_70 : decode cX11_carry 70 = .ok (.getfield 78, 3) := op180 (bA_at bd03_dec_X11_3_11 36 rfl rfl) rfl
theorem dX11_carry_73 : decode cX11_carry 73 = .ok (.bipush 9, 2) := op16 (bA_at bd03_dec_X11_3_11 37 rfl rfl) (by decide +kernel)
theorem dX11_carry_75 : decode cX11_carry 75 = .ok (.aload_n 0, 1) := op42 (bA_at bd03_dec_X11_3_11 38 rfl rfl)
theorem dX11_carry_76 : decode cX11_carry 76 = .ok (.bipush 25, 2) := op16 (bA_at bd03_dec_X11_3_11 39 rfl rfl) (by decide +kernel)
theorem dX11_carry_78 : decode cX11_carry 78 = .ok (.iload_n 2, 1) := op28 (bA_at bd03_dec_X11_3_11 40 rfl rfl)
theorem dX11_carry_79 : decode cX11_carry 79 = .ok (.iadd, 1) := op96 (bA_at bd03_dec_X11_3_11 41 rfl rfl)
theorem dX11_carry_80 : decode cX11_carry 80 = .ok (.invokevirtual 303, 3) := op182 (bA_at bd03_dec_X11_3_11 42 rfl rfl) rfl
theorem dX11_carry_83 : decode cX11_carry 83 = .ok (.imul, 1) := op104 (bA_at bd03_dec_X11_3_11 43 rfl rfl)
theorem dX11_carry_84 : decode cX11_carry 84 = .ok (.iload 6, 2) := op21 (bA_at bd03_dec_X11_3_11 44 rfl rfl) rfl
theorem dX11_carry_86 : decode cX11_carry 86 = .ok (.iadd, 1) := op96 (bA_at bd03_dec_X11_3_11 45 rfl rfl)
theorem dX11_carry_87 : decode cX11_carry 87 = .ok (.iaload, 1) := op46 (bA_at bd03_dec_X11_3_11 46 rfl rfl)
theorem dX11_carry_88 : decode cX11_carry 88 = .ok (.aload_n 0, 1) := op42 (bA_at bd03_dec_X11_3_11 47 rfl rfl)
theorem dX11_carry_89 : decode cX11_carry 89 = .ok (.invokevirtual 426, 3) := op182 (bA_at bd03_dec_X11_3_11 48 rfl rfl) rfl
theorem dX11_carry_92 : decode cX11_carry 92 = .ok (.iadd, 1) := op96 (bA_at bd03_dec_X11_3_11 49 rfl rfl)
theorem bd03_dec_X11_3_12 : ([(0, [54, 7]), (2, [21, 7]), (4, [21, 5]), (6, [162, 0, 8]), (9, [21, 6]), (11, [167, 0, 5]), (14, [21, 4]), (16, [54, 4]), (18, [21, 5]), (20, [21, 7]), (22, [184, 1, 155]), (25, [54, 5]), (27, [132, 6, 1]), (30, [167, 255, 171]), (33, [21, 4]), (35, [2]), (36, [159, 0, 7]), (39, [29]), (40, [154, 0, 8]), (43, [21, 4]), (45, [167, 0, 5]), (48, [21, 5]), (50, [172])] : List (Nat × List UInt8)).all (fun x => prB x.2 ((cX11_carry.data.toList.drop 93).drop x.1)) = true := by decide +kernel
theorem dX11_carry_93 : decode cX11_carry 93 = .ok (.istore 7, 2) := op54 (bA_at bd03_dec_X11_3_12 0 rfl rfl) rfl
theorem dX11_carry_95 : decode cX11_carry 95 = .ok (.iload 7, 2) := op21 (bA_at bd03_dec_X11_3_12 1 rfl rfl) rfl
theorem dX11_carry_97 : decode cX11_carry 97 = .ok (.iload 5, 2) := op21 (bA_at bd03_dec_X11_3_12 2 rfl rfl) rfl
theorem dX11_carry_99 : decode cX11_carry 99 = .ok (.if_icmp .ge 8, 3) := op162 (bA_at bd03_dec_X11_3_12 3 rfl rfl) (by decide +kernel)
theorem dX11_carry_102 : decode cX11_carry 102 = .ok (.iload 6, 2) := op21 (bA_at bd03_dec_X11_3_12 4 rfl rfl) rfl
theorem dX11_carry_104 : decode cX11_carry 104 = .ok (.goto 5, 3) := op167 (bA_at bd03_dec_X11_3_12 5 rfl rfl) (by decide +kernel)
theorem dX11_carry_107 : decode cX11_carry 107 = .ok (.iload 4, 2) := op21 (bA_at bd03_dec_X11_3_12 6 rfl rfl) rfl
theorem dX11_carry_109 : decode cX11_carry 109 = .ok (.istore 4, 2) := op54 (bA_at bd03_dec_X11_3_12 7 rfl rfl) rfl
theorem dX11_carry_111 : decode cX11_carry 111 = .ok (.iload 5, 2) := op21 (bA_at bd03_dec_X11_3_12 8 rfl rfl) rfl
theorem dX11_carry_113 : decode cX11_carry 113 = .ok (.iload 7, 2) := op21 (bA_at bd03_dec_X11_3_12 9 rfl rfl) rfl
theorem dX11_carry_115 : decode cX11_carry 115 = .ok (.invokestatic 411, 3) := op184 (bA_at bd03_dec_X11_3_12 10 rfl rfl) rfl
theorem dX11_carry_118 : decode cX11_carry 118 = .ok (.istore 5, 2) := op54 (bA_at bd03_dec_X11_3_12 11 rfl rfl) rfl
theorem dX11_carry_120 : decode cX11_carry 120 = .ok (.iinc 6 1, 3) := op132 (bA_at bd03_dec_X11_3_12 12 rfl rfl) rfl (by decide +kernel)
theorem dX11_carry_123 : decode cX11_carry 123 = .ok (.goto (-85), 3) := op167 (bA_at bd03_dec_X11_3_12 13 rfl rfl) (by decide +kernel)
theorem dX11_carry_126 : decode cX11_carry 126 = .ok (.iload 4, 2) := op21 (bA_at bd03_dec_X11_3_12 14 rfl rfl) rfl
theorem dX11_carry_128 : decode cX11_carry 128 = .ok (.iconst (-1), 1) := op2 (bA_at bd03_dec_X11_3_12 15 rfl rfl)
theorem dX11_carry_129 : decode cX11_carry 129 = .ok (.if_icmp .eq 7, 3) := op159 (bA_at bd03_dec_X11_3_12 16 rfl rfl) (by decide +kernel)
theorem dX11_carry_132 : decode cX11_carry 132 = .ok (.iload_n 3, 1) := op29 (bA_at bd03_dec_X11_3_12 17 rfl rfl)
theorem dX11_carry_133 : decode cX11_carry 133 = .ok (.ifCond .ne 8, 3) := op154 (bA_at bd03_dec_X11_3_12 18 rfl rfl) (by decide +kernel)
theorem dX11_carry_136 : decode cX11_carry 136 = .ok (.iload 4, 2) := op21 (bA_at bd03_dec_X11_3_12 19 rfl rfl) rfl
theorem dX11_carry_138 : decode cX11_carry 138 = .ok (.goto 5, 3) := op167 (bA_at bd03_dec_X11_3_12 20 rfl rfl) (by decide +kernel)
theorem dX11_carry_141 : decode cX11_carry 141 = .ok (.iload 5, 2) := op21 (bA_at bd03_dec_X11_3_12 21 rfl rfl) rfl
theorem dX11_carry_143 : decode cX11_carry 143 = .ok (.ireturn, 1) := op172 (bA_at bd03_dec_X11_3_12 22 rfl rfl)
theorem bd03_dec_X11_3_13 : ([(0, [42]), (1, [3]), (2, [181, 0, 97]), (5, [42]), (6, [27]), (7, [182, 1, 57]), (10, [153, 0, 19]), (13, [42]), (14, [28]), (15, [182, 1, 60]), (18, [153, 0, 11]), (21, [42]), (22, [29]), (23, [182, 1, 60]), (26, [154, 0, 5]), (29, [2]), (30, [172]), (31, [42]), (32, [28]), (33, [3]), (34, [182, 1, 158]), (37, [3]), (38, [54, 5]), (40, [21, 5]), (42, [42]), (43, [180, 1, 51]), (46, [162, 0, 23]), (49, [42]), (50, [180, 0, 91]), (53, [21, 5]), (55, [42]), (56, [180, 0, 59]), (59, [21, 5]), (61, [46]), (62, [79]), (63, [132, 5, 1]), (66, [167, 255, 230]), (69, [42]), (70, [29]), (71, [3]), (72, [182, 1, 158]), (75, [2]), (76, [54, 5]), (78, [19, 1, 154]), (81, [54, 6]), (83, [3]), (84, [54, 7]), (86, [21, 7]), (88, [42]), (89, [180, 1, 51])] : List (Nat × List UInt8)).all (fun x => prB x.2 ((cX11_join.data.toList.drop 0).drop x.1)) = true := by decide +kernel
theorem dX11_join_0 : decode cX11_join 0 = .ok (.aload_n 0, 1) := op42 (bA_at bd03_dec_X11_3_13 0 rfl rfl)
theorem dX11_join_1 : decode cX11_join 1 = .ok (.iconst 0, 1) := op3 (bA_at bd03_dec_X11_3_13 1 rfl rfl)
theorem dX11_join_2 : decode cX11_join 2 = .ok (.putfield 97, 3) := op181 (bA_at bd03_dec_X11_3_13 2 rfl rfl) rfl
theorem dX11_join_5 : decode cX11_join 5 = .ok (.aload_n 0, 1) := op42 (bA_at bd03_dec_X11_3_13 3 rfl rfl)
theorem dX11_join_6 : decode cX11_join 6 = .ok (.iload_n 1, 1) := op27 (bA_at bd03_dec_X11_3_13 4 rfl rfl)
theorem dX11_join_7 : decode cX11_join 7 = .ok (.invokevirtual 313, 3) := op182 (bA_at bd03_dec_X11_3_13 5 rfl rfl) rfl
theorem dX11_join_10 : decode cX11_join 10 = .ok (.ifCond .eq 19, 3) := op153 (bA_at bd03_dec_X11_3_13 6 rfl rfl) (by decide +kernel)
theorem dX11_join_13 : decode cX11_join 13 = .ok (.aload_n 0, 1) := op42 (bA_at bd03_dec_X11_3_13 7 rfl rfl)
theorem dX11_join_14 : decode cX11_join 14 = .ok (.iload_n 2, 1) := op28 (bA_at bd03_dec_X11_3_13 8 rfl rfl)
theorem dX11_join_15 : decode cX11_join 15 = .ok (.invokevirtual 316, 3) := op182 (bA_at bd03_dec_X11_3_13 9 rfl rfl) rfl
theorem dX11_join_18 : decode cX11_join 18 = .ok (.ifCond .eq 11, 3) := op153 (bA_at bd03_dec_X11_3_13 10 rfl rfl) (by decide +kernel)
theorem dX11_join_21 : decode cX11_join 21 = .ok (.aload_n 0, 1) := op42 (bA_at bd03_dec_X11_3_13 11 rfl rfl)
theorem dX11_join_22 : decode cX11_join 22 = .ok (.iload_n 3, 1) := op29 (bA_at bd03_dec_X11_3_13 12 rfl rfl)
theorem dX11_join_23 : decode cX11_join 23 = .ok (.invokevirtual 316, 3) := op182 (bA_at bd03_dec_X11_3_13 13 rfl rfl) rfl
theorem dX11_join_26 : decode cX11_join 26 = .ok (.ifCond .ne 5, 3) := op154 (bA_at bd03_dec_X11_3_13 14 rfl rfl) (by decide +kernel)
theorem dX11_join_29 : decode cX11_join 29 = .ok (.iconst (-1), 1) := op2 (bA_at bd03_dec_X11_3_13 15 rfl rfl)
theorem dX11_join_30 : decode cX11_join 30 = .ok (.ireturn, 1) := op172 (bA_at bd03_dec_X11_3_13 16 rfl rfl)
theorem dX11_join_31 : decode cX11_join 31 = .ok (.aload_n 0, 1) := op42 (bA_at bd03_dec_X11_3_13 17 rfl rfl)
theorem dX11_join_32 : decode cX11_join 32 = .ok (.iload_n 2, 1) := op28 (bA_at bd03_dec_X11_3_13 18 rfl rfl)
theorem dX11_join_33 : decode cX11_join 33 = .ok (.iconst 0, 1) := op3 (bA_at bd03_dec_X11_3_13 19 rfl rfl)
theorem dX11_join_34 : decode cX11_join 34 = .ok (.invokevirtual 414, 3) := op182 (bA_at bd03_dec_X11_3_13 20 rfl rfl) rfl
theorem dX11_join_37 : decode cX11_join 37 = .ok (.iconst 0, 1) := op3 (bA_at bd03_dec_X11_3_13 21 rfl rfl)
theorem dX11_join_38 : decode cX11_join 38 = .ok (.istore 5, 2) := op54 (bA_at bd03_dec_X11_3_13 22 rfl rfl) rfl
theorem dX11_join_40 : decode cX11_join 40 = .ok (.iload 5, 2) := op21 (bA_at bd03_dec_X11_3_13 23 rfl rfl) rfl
theorem dX11_join_42 : decode cX11_join 42 = .ok (.aload_n 0, 1) := op42 (bA_at bd03_dec_X11_3_13 24 rfl rfl)
theorem dX11_join_43 : decode cX11_join 43 = .ok (.getfield 307, 3) := op180 (bA_at bd03_dec_X11_3_13 25 rfl rfl) rfl
theorem dX11_join_46 : decode cX11_join 46 = .ok (.if_icmp .ge 23, 3) := op162 (bA_at bd03_dec_X11_3_13 26 rfl rfl) (by decide +kernel)
theorem dX11_join_49 : decode cX11_join 49 = .ok (.aload_n 0, 1) := op42 (bA_at bd03_dec_X11_3_13 27 rfl rfl)
theorem dX11_join_50 : decode cX11_join 50 = .ok (.getfield 91, 3) := op180 (bA_at bd03_dec_X11_3_13 28 rfl rfl) rfl
theorem dX11_join_53 : decode cX11_join 53 = .ok (.iload 5, 2) := op21 (bA_at bd03_dec_X11_3_13 29 rfl rfl) rfl
theorem dX11_join_55 : decode cX11_join 55 = .ok (.aload_n 0, 1) := op42 (bA_at bd03_dec_X11_3_13 30 rfl rfl)
theorem dX11_join_56 : decode cX11_join 56 = .ok (.getfield 59, 3) := op180 (bA_at bd03_dec_X11_3_13 31 rfl rfl) rfl
theorem dX11_join_59 : decode cX11_join 59 = .ok (.iload 5, 2) := op21 (bA_at bd03_dec_X11_3_13 32 rfl rfl) rfl
theorem dX11_join_61 : decode cX11_join 61 = .ok (.iaload, 1) := op46 (bA_at bd03_dec_X11_3_13 33 rfl rfl)
theorem dX11_join_62 : decode cX11_join 62 = .ok (.iastore, 1) := op79 (bA_at bd03_dec_X11_3_13 34 rfl rfl)
theorem dX11_join_63 : decode cX11_join 63 = .ok (.iinc 5 1, 3) := op132 (bA_at bd03_dec_X11_3_13 35 rfl rfl) rfl (by decide +kernel)
theorem dX11_join_66 : decode cX11_join 66 = .ok (.goto (-26), 3) := op167 (bA_at bd03_dec_X11_3_13 36 rfl rfl) (by decide +kernel)
theorem dX11_join_69 : decode cX11_join 69 = .ok (.aload_n 0, 1) := op42 (bA_at bd03_dec_X11_3_13 37 rfl rfl)
theorem dX11_join_70 : decode cX11_join 70 = .ok (.iload_n 3, 1) := op29 (bA_at bd03_dec_X11_3_13 38 rfl rfl)
theorem dX11_join_71 : decode cX11_join 71 = .ok (.iconst 0, 1) := op3 (bA_at bd03_dec_X11_3_13 39 rfl rfl)
theorem dX11_join_72 : decode cX11_join 72 = .ok (.invokevirtual 414, 3) := op182 (bA_at bd03_dec_X11_3_13 40 rfl rfl) rfl
theorem dX11_join_75 : decode cX11_join 75 = .ok (.iconst (-1), 1) := op2 (bA_at bd03_dec_X11_3_13 41 rfl rfl)
theorem dX11_join_76 : decode cX11_join 76 = .ok (.istore 5, 2) := op54 (bA_at bd03_dec_X11_3_13 42 rfl rfl) rfl
theorem dX11_join_78 : decode cX11_join 78 = .ok (.ldc_w 410, 3) := op19 (bA_at bd03_dec_X11_3_13 43 rfl rfl) rfl
theorem dX11_join_81 : decode cX11_join 81 = .ok (.istore 6, 2) := op54 (bA_at bd03_dec_X11_3_13 44 rfl rfl) rfl
theorem dX11_join_83 : decode cX11_join 83 = .ok (.iconst 0, 1) := op3 (bA_at bd03_dec_X11_3_13 45 rfl rfl)
theorem dX11_join_84 : decode cX11_join 84 = .ok (.istore 7, 2) := op54 (bA_at bd03_dec_X11_3_13 46 rfl rfl) rfl
theorem dX11_join_86 : decode cX11_join 86 = .ok (.iload 7, 2) := op21 (bA_at bd03_dec_X11_3_13 47 rfl rfl) rfl
theorem dX11_join_88 : decode cX11_join 88 = .ok (.aload_n 0, 1) := op42 (bA_at bd03_dec_X11_3_13 48 rfl rfl)
theorem dX11_join_89 : decode cX11_join 89 = .ok (.getfield 307, 3) := op180 (bA_at bd03_dec_X11_3_13 49 rfl rfl) rfl
theorem bd03_dec_X11_3_14 : ([(0, [162, 0, 53]), (3, [42]), (4, [180, 0, 59]), (7, [21, 7]), (9, [46]), (10, [42]), (11, [180, 0, 91]), (14, [21, 7]), (16, [46]), (17, [184, 0, 171]), (20, [54, 8]), (22, [21, 8]), (24, [21, 6]), (26, [162, 0, 8]), (29, [21, 7]), (31, [167, 0, 5]), (34, [21, 5]), (36, [54, 5]), (38, [21, 6]), (40, [21, 8]), (42, [184, 1, 155]), (45, [54, 6]), (47, [132, 7, 1]), (50, [167, 255, 200]), (53, [21, 5]), (55, [2]), (56, [159, 0, 8]), (59, [21, 4]), (61, [154, 0, 8]), (64, [21, 5]), (66, [167, 0, 5]), (69, [21, 6]), (71, [172])] : List (Nat × List UInt8)).all (fun x => prB x.2 ((cX11_join.data.toList.drop 92).drop x.1)) = true := by decide +kernel
theorem dX11_join_92 : decode cX11_join 92 = .ok (.if_icmp .ge 53, 3) := op162 (bA_at bd03_dec_X11_3_14 0 rfl rfl) (by decide +kernel)
theorem dX11_join_95 : decode cX11_join 95 = .ok (.aload_n 0, 1) := op42 (bA_at bd03_dec_X11_3_14 1 rfl rfl)
theorem dX11_join_96 : decode cX11_join 96 = .ok (.getfield 59, 3) := op180 (bA_at bd03_dec_X11_3_14 2 rfl rfl) rfl
theorem dX11_join_99 : decode cX11_join 99 = .ok (.iload 7, 2) := op21 (bA_at bd03_dec_X11_3_14 3 rfl rfl) rfl
theorem dX11_join_101 : decode cX11_join 101 = .ok (.iaload, 1) := op46 (bA_at bd03_dec_X11_3_14 4 rfl rfl)
theorem dX11_join_102 : decode cX11_join 102 = .ok (.aload_n 0, 1) := op42 (bA_at bd03_dec_X11_3_14 5 rfl rfl)
theorem dX11_join_103 : decode cX11_join 103 = .ok (.getfield 91, 3) := op180 (bA_at bd03_dec_X11_3_14 6 rfl rfl) rfl
theorem dX11_join_106 : decode cX11_join 106 = .ok (.iload 7, 2) := op21 (bA_at bd03_dec_X11_3_14 7 rfl rfl) rfl
theorem dX11_join_108 : decode cX11_join 108 = .ok (.iaload, 1) := op46 (bA_at bd03_dec_X11_3_14 8 rfl rfl)
theorem dX11_join_109 : decode cX11_join 109 = .ok (.invokestatic 171, 3) := op184 (bA_at bd03_dec_X11_3_14 9 rfl rfl) rfl
theorem dX11_join_112 : decode cX11_join 112 = .ok (.istore 8, 2) := op54 (bA_at bd03_dec_X11_3_14 10 rfl rfl) rfl
theorem dX11_join_114 : decode cX11_join 114 = .ok (.iload 8, 2) := op21 (bA_at bd03_dec_X11_3_14 11 rfl rfl) rfl
theorem dX11_join_116 : decode cX11_join 116 = .ok (.iload 6, 2) := op21 (bA_at bd03_dec_X11_3_14 12 rfl rfl) rfl
theorem dX11_join_118 : decode cX11_join 118 = .ok (.if_icmp .ge 8, 3) := op162 (bA_at bd03_dec_X11_3_14 13 rfl rfl) (by decide +kernel)
theorem dX11_join_121 : decode cX11_join 121 = .ok (.iload 7, 2) := op21 (bA_at bd03_dec_X11_3_14 14 rfl rfl) rfl
theorem dX11_join_123 : decode cX11_join 123 = .ok (.goto 5, 3) := op167 (bA_at bd03_dec_X11_3_14 15 rfl rfl) (by decide +kernel)
theorem dX11_join_126 : decode cX11_join 126 = .ok (.iload 5, 2) := op21 (bA_at bd03_dec_X11_3_14 16 rfl rfl) rfl
theorem dX11_join_128 : decode cX11_join 128 = .ok (.istore 5, 2) := op54 (bA_at bd03_dec_X11_3_14 17 rfl rfl) rfl
theorem dX11_join_130 : decode cX11_join 130 = .ok (.iload 6, 2) := op21 (bA_at bd03_dec_X11_3_14 18 rfl rfl) rfl
theorem dX11_join_132 : decode cX11_join 132 = .ok (.iload 8, 2) := op21 (bA_at bd03_dec_X11_3_14 19 rfl rfl) rfl
theorem dX11_join_134 : decode cX11_join 134 = .ok (.invokestatic 411, 3) := op184 (bA_at bd03_dec_X11_3_14 20 rfl rfl) rfl
theorem dX11_join_137 : decode cX11_join 137 = .ok (.istore 6, 2) := op54 (bA_at bd03_dec_X11_3_14 21 rfl rfl) rfl
theorem dX11_join_139 : decode cX11_join 139 = .ok (.iinc 7 1, 3) := op132 (bA_at bd03_dec_X11_3_14 22 rfl rfl) rfl (by decide +kernel)
theorem dX11_join_142 : decode cX11_join 142 = .ok (.goto (-56), 3) := op167 (bA_at bd03_dec_X11_3_14 23 rfl rfl) (by decide +kernel)
theorem dX11_join_145 : decode cX11_join 145 = .ok (.iload 5, 2) := op21 (bA_at bd03_dec_X11_3_14 24 rfl rfl) rfl
theorem dX11_join_147 : decode cX11_join 147 = .ok (.iconst (-1), 1) := op2 (bA_at bd03_dec_X11_3_14 25 rfl rfl)
theorem dX11_join_148 : decode cX11_join 148 = .ok (.if_icmp .eq 8, 3) := op159 (bA_at bd03_dec_X11_3_14 26 rfl rfl) (by decide +kernel)
theorem dX11_join_151 : decode cX11_join 151 = .ok (.iload 4, 2) := op21 (bA_at bd03_dec_X11_3_14 27 rfl rfl) rfl
theorem dX11_join_153 : decode cX11_join 153 = .ok (.ifCond .ne 8, 3) := op154 (bA_at bd03_dec_X11_3_14 28 rfl rfl) (by decide +kernel)
theorem dX11_join_156 : decode cX11_join 156 = .ok (.iload 5, 2) := op21 (bA_at bd03_dec_X11_3_14 29 rfl rfl) rfl
theorem dX11_join_158 : decode cX11_join 158 = .ok (.goto 5, 3) := op167 (bA_at bd03_dec_X11_3_14 30 rfl rfl) (by decide +kernel)
theorem dX11_join_161 : decode cX11_join 161 = .ok (.iload 6, 2) := op21 (bA_at bd03_dec_X11_3_14 31 rfl rfl) rfl
theorem dX11_join_163 : decode cX11_join 163 = .ok (.ireturn, 1) := op172 (bA_at bd03_dec_X11_3_14 32 rfl rfl)
theorem bd03_dec_X11_3_15 : ([(0, [42]), (1, [3]), (2, [181, 0, 97]), (5, [42]), (6, [27]), (7, [182, 1, 57]), (10, [153, 0, 12]), (13, [28]), (14, [3]), (15, [6]), (16, [184, 0, 109]), (19, [154, 0, 5]), (22, [2]), (23, [172]), (24, [3]), (25, [62]), (26, [3]), (27, [54, 4]), (29, [3]), (30, [54, 5]), (32, [3]), (33, [54, 6]), (35, [3]), (36, [54, 7]), (38, [21, 7]), (40, [42]), (41, [180, 1, 51]), (44, [162, 0, 112]), (47, [42]), (48, [21, 7]), (50, [3]), (51, [182, 1, 158]), (54, [42]), (55, [19, 1, 194]), (58, [182, 1, 167]), (61, [4]), (62, [21, 7]), (64, [120]), (65, [2]), (66, [130]), (67, [126]), (68, [54, 8]), (70, [29]), (71, [21, 8]), (73, [128]), (74, [62]), (75, [21, 4]), (77, [21, 8]), (79, [154, 0, 19]), (82, [42])] : List (Nat × List UInt8)).all (fun x => prB x.2 ((cX11_slopes.data.toList.drop 0).drop x.1)) = true := by decide +kernel
theorem dX11_slopes_0 : decode cX11_slopes 0 = .ok (.aload_n 0, 1) := op42 (bA_at bd03_dec_X11_3_15 0 rfl rfl)
theorem dX11_slopes_1 : decode cX11_slopes 1 = .ok (.iconst 0, 1) := op3 (bA_at bd03_dec_X11_3_15 1 rfl rfl)
theorem dX11_slopes_2 : decode cX11_slopes 2 = .ok (.putfield 97, 3) := op181 (bA_at bd03_dec_X11_3_15 2 rfl rfl) rfl
theorem dX11_slopes_5 : decode cX11_slopes 5 = .ok (.aload_n 0, 1) := op42 (bA_at bd03_dec_X11_3_15 3 rfl rfl)
theorem dX11_slopes_6 : decode cX11_slopes 6 = .ok (.iload_n 1, 1) := op27 (bA_at bd03_dec_X11_3_15 4 rfl rfl)
theorem dX11_slopes_7 : decode cX11_slopes 7 = .ok (.invokevirtual 313, 3) := op182 (bA_at bd03_dec_X11_3_15 5 rfl rfl) rfl
theorem dX11_slopes_10 : decode cX11_slopes 10 = .ok (.ifCond .eq 12, 3) := op153 (bA_at bd03_dec_X11_3_15 6 rfl rfl) (by decide +kernel)
theorem dX11_slopes_13 : decode cX11_slopes 13 = .ok (.iload_n 2, 1) := op28 (bA_at bd03_dec_X11_3_15 7 rfl rfl)
theorem dX11_slopes_14 : decode cX11_slopes 14 = .ok (.iconst 0, 1) := op3 (bA_at bd03_dec_X11_3_15 8 rfl rfl)
theorem dX11_slopes_15 : decode cX11_slopes 15 = .ok (.iconst 3, 1) := op6 (bA_at bd03_dec_X11_3_15 9 rfl rfl)
theorem dX11_slopes_16 : decode cX11_slopes 16 = .ok (.invokestatic 109, 3) := op184 (bA_at bd03_dec_X11_3_15 10 rfl rfl) rfl
theorem dX11_slopes_19 : decode cX11_slopes 19 = .ok (.ifCond .ne 5, 3) := op154 (bA_at bd03_dec_X11_3_15 11 rfl rfl) (by decide +kernel)
theorem dX11_slopes_22 : decode cX11_slopes 22 = .ok (.iconst (-1), 1) := op2 (bA_at bd03_dec_X11_3_15 12 rfl rfl)
theorem dX11_slopes_23 : decode cX11_slopes 23 = .ok (.ireturn, 1) := op172 (bA_at bd03_dec_X11_3_15 13 rfl rfl)
theorem dX11_slopes_24 : decode cX11_slopes 24 = .ok (.iconst 0, 1) := op3 (bA_at bd03_dec_X11_3_15 14 rfl rfl)
theorem dX11_slopes_25 : decode cX11_slopes 25 = .ok (.istore_n 3, 1) := op62 (bA_at bd03_dec_X11_3_15 15 rfl rfl)
theorem dX11_slopes_26 : decode cX11_slopes 26 = .ok (.iconst 0, 1) := op3 (bA_at bd03_dec_X11_3_15 16 rfl rfl)
theorem dX11_slopes_27 : decode cX11_slopes 27 = .ok (.istore 4, 2) := op54 (bA_at bd03_dec_X11_3_15 17 rfl rfl) rfl
theorem dX11_slopes_29 : decode cX11_slopes 29 = .ok (.iconst 0, 1) := op3 (bA_at bd03_dec_X11_3_15 18 rfl rfl)
theorem dX11_slopes_30 : decode cX11_slopes 30 = .ok (.istore 5, 2) := op54 (bA_at bd03_dec_X11_3_15 19 rfl rfl) rfl
theorem dX11_slopes_32 : decode cX11_slopes 32 = .ok (.iconst 0, 1) := op3 (bA_at bd03_dec_X11_3_15 20 rfl rfl)
theorem dX11_slopes_33 : decode cX11_slopes 33 = .ok (.istore 6, 2) := op54 (bA_at bd03_dec_X11_3_15 21 rfl rfl) rfl
theorem dX11_slopes_35 : decode cX11_slopes 35 = .ok (.iconst 0, 1) := op3 (bA_at bd03_dec_X11_3_15 22 rfl rfl)
theorem dX11_slopes_36 : decode cX11_slopes 36 = .ok (.istore 7, 2) := op54 (bA_at bd03_dec_X11_3_15 23 rfl rfl) rfl
theorem dX11_slopes_38 : decode cX11_slopes 38 = .ok (.iload 7, 2) := op21 (bA_at bd03_dec_X11_3_15 24 rfl rfl) rfl
theorem dX11_slopes_40 : decode cX11_slopes 40 = .ok (.aload_n 0, 1) := op42 (bA_at bd03_dec_X11_3_15 25 rfl rfl)
theorem dX11_slopes_41 : decode cX11_slopes 41 = .ok (.getfield 307, 3) := op180 (bA_at bd03_dec_X11_3_15 26 rfl rfl) rfl
theorem dX11_slopes_44 : decode cX11_slopes 44 = .ok (.if_icmp .ge 112, 3) := op162 (bA_at bd03_dec_X11_3_15 27 rfl rfl) (by decide +kernel)
theorem dX11_slopes_47 : decode cX11_slopes 47 = .ok (.aload_n 0, 1) := op42 (bA_at bd03_dec_X11_3_15 28 rfl rfl)
theorem dX11_slopes_48 : decode cX11_slopes 48 = .ok (.iload 7, 2) := op21 (bA_at bd03_dec_X11_3_15 29 rfl rfl) rfl
theorem dX11_slopes_50 : decode cX11_slopes 50 = .ok (.iconst 0, 1) := op3 (bA_at bd03_dec_X11_3_15 30 rfl rfl)
theorem dX11_slopes_51 : decode cX11_slopes 51 = .ok (.invokevirtual 414, 3) := op182 (bA_at bd03_dec_X11_3_15 31 rfl rfl) rfl
theorem dX11_slopes_54 : decode cX11_slopes 54 = .ok (.aload_n 0, 1) := op42 (bA_at bd03_dec_X11_3_15 32 rfl rfl)
theorem dX11_slopes_55 : decode cX11_slopes 55 = .ok (.ldc_w 450, 3) := op19 (bA_at bd03_dec_X11_3_15 33 rfl rfl) rfl
theorem dX11_slopes_58 : decode cX11_slopes 58 = .ok (.invokevirtual 423, 3) := op182 (bA_at bd03_dec_X11_3_15 34 rfl rfl) rfl
theorem dX11_slopes_61 : decode cX11_slopes 61 = .ok (.iconst 1, 1) := op4 (bA_at bd03_dec_X11_3_15 35 rfl rfl)
theorem dX11_slopes_62 : decode cX11_slopes 62 = .ok (.iload 7, 2) := op21 (bA_at bd03_dec_X11_3_15 36 rfl rfl) rfl
theorem dX11_slopes_64 : decode cX11_slopes 64 = .ok (.ishl, 1) := op120 (bA_at bd03_dec_X11_3_15 37 rfl rfl)
theorem dX11_slopes_65 : decode cX11_slopes 65 = .ok (.iconst (-1), 1) := op2 (bA_at bd03_dec_X11_3_15 38 rfl rfl)
theorem dX11_slopes_66 : decode cX11_slopes 66 = .ok (.ixor, 1) := op130 (bA_at bd03_dec_X11_3_15 39 rfl rfl)
theorem dX11_slopes_67 : decode cX11_slopes 67 = .ok (.iand, 1) := op126 (bA_at bd03_dec_X11_3_15 40 rfl rfl)
theorem dX11_slopes_68 : decode cX11_slopes 68 = .ok (.istore 8, 2) := op54 (bA_at bd03_dec_X11_3_15 41 rfl rfl) rfl
theorem dX11_slopes_70 : decode cX11_slopes 70 = .ok (.iload_n 3, 1) := op29 (bA_at bd03_dec_X11_3_15 42 rfl rfl)
theorem dX11_slopes_71 : decode cX11_slopes 71 = .ok (.iload 8, 2) := op21 (bA_at bd03_dec_X11_3_15 43 rfl rfl) rfl
theorem dX11_slopes_73 : decode cX11_slopes 73 = .ok (.ior, 1) := op128 (bA_at bd03_dec_X11_3_15 44 rfl rfl)
theorem dX11_slopes_74 : decode cX11_slopes 74 = .ok (.istore_n 3, 1) := op62 (bA_at bd03_dec_X11_3_15 45 rfl rfl)
theorem dX11_slopes_75 : decode cX11_slopes 75 = .ok (.iload 4, 2) := op21 (bA_at bd03_dec_X11_3_15 46 rfl rfl) rfl
theorem dX11_slopes_77 : decode cX11_slopes 77 = .ok (.iload 8, 2) := op21 (bA_at bd03_dec_X11_3_15 47 rfl rfl) rfl
theorem dX11_slopes_79 : decode cX11_slopes 79 = .ok (.ifCond .ne 19, 3) := op154 (bA_at bd03_dec_X11_3_15 48 rfl rfl) (by decide +kernel)
theorem dX11_slopes_82 : decode cX11_slopes 82 = .ok (.aload_n 0, 1) := op42 (bA_at bd03_dec_X11_3_15 49 rfl rfl)
theorem bd03_dec_X11_3_16 : ([(0, [21, 7]), (2, [182, 1, 99]), (5, [154, 0, 10]), (8, [4]), (9, [21, 7]), (11, [120]), (12, [167, 0, 4]), (15, [3]), (16, [128]), (17, [54, 4]), (19, [21, 5]), (21, [21, 8]), (23, [184, 1, 173]), (26, [96]), (27, [54, 5]), (29, [42]), (30, [21, 7]), (32, [182, 1, 191]), (35, [3]), (36, [54, 9]), (38, [21, 9]), (40, [42]), (41, [180, 1, 51]), (44, [162, 0, 23]), (47, [21, 6]), (49, [42]), (50, [180, 0, 68]), (53, [21, 9]), (55, [46]), (56, [184, 0, 171]), (59, [54, 6]), (61, [132, 9, 1]), (64, [167, 255, 230]), (67, [132, 7, 1]), (70, [167, 255, 141]), (73, [28]), (74, [154, 0, 14]), (77, [42]), (78, [182, 1, 179]), (81, [29]), (82, [2]), (83, [130]), (84, [126]), (85, [167, 0, 25]), (88, [28]), (89, [4]), (90, [160, 0, 8]), (93, [21, 4]), (95, [167, 0, 15]), (98, [28])] : List (Nat × List UInt8)).all (fun x => prB x.2 ((cX11_slopes.data.toList.drop 83).drop x.1)) = true := by decide +kernel
theorem dX11_slopes_83 : decode cX11_slopes 83 = .ok (.iload 7, 2) := op21 (bA_at bd03_dec_X11_3_16 0 rfl rfl) rfl
theorem dX11_slopes_85 : decode cX11_slopes 85 = .ok (.invokevirtual 355, 3) := op182 (bA_at bd03_dec_X11_3_16 1 rfl rfl) rfl
theorem dX11_slopes_88 : decode cX11_slopes 88 = .ok (.ifCond .ne 10, 3) := op154 (bA_at bd03_dec_X11_3_16 2 rfl rfl) (by decide +kernel)
theorem dX11_slopes_91 : decode cX11_slopes 91 = .ok (.iconst 1, 1) := op4 (bA_at bd03_dec_X11_3_16 3 rfl rfl)
theorem dX11_slopes_92 : decode cX11_slopes 92 = .ok (.iload 7, 2) := op21 (bA_at bd03_dec_X11_3_16 4 rfl rfl) rfl
theorem dX11_slopes_94 : decode cX11_slopes 94 = .ok (.ishl, 1) := op120 (bA_at bd03_dec_X11_3_16 5 rfl rfl)
theorem dX11_slopes_95 : decode cX11_slopes 95 = .ok (.goto 4, 3) := op167 (bA_at bd03_dec_X11_3_16 6 rfl rfl) (by decide +kernel)
theorem dX11_slopes_98 : decode cX11_slopes 98 = .ok (.iconst 0, 1) := op3 (bA_at bd03_dec_X11_3_16 7 rfl rfl)
theorem dX11_slopes_99 : decode cX11_slopes 99 = .ok (.ior, 1) := op128 (bA_at bd03_dec_X11_3_16 8 rfl rfl)
theorem dX11_slopes_100 : decode cX11_slopes 100 = .ok (.istore 4, 2) := op54 (bA_at bd03_dec_X11_3_16 9 rfl rfl) rfl
theorem dX11_slopes_102 : decode cX11_slopes 102 = .ok (.iload 5, 2) := op21 (bA_at bd03_dec_X11_3_16 10 rfl rfl) rfl
theorem dX11_slopes_104 : decode cX11_slopes 104 = .ok (.iload 8, 2) := op21 (bA_at bd03_dec_X11_3_16 11 rfl rfl) rfl
theorem dX11_slopes_106 : decode cX11_slopes 106 = .ok (.invokestatic 429, 3) := op184 (bA_at bd03_dec_X11_3_16 12 rfl rfl) rfl
theorem dX11_slopes_109 : decode cX11_slopes 109 = .ok (.iadd, 1) := op96 (bA_at bd03_dec_X11_3_16 13 rfl rfl)
theorem dX11_slopes_110 : decode cX11_slopes 110 = .ok (.istore 5, 2) := op54 (bA_at bd03_dec_X11_3_16 14 rfl rfl) rfl
theorem dX11_slopes_112 : decode cX11_slopes 112 = .ok (.aload_n 0, 1) := op42 (bA_at bd03_dec_X11_3_16 15 rfl rfl)
theorem dX11_slopes_113 : decode cX11_slopes 113 = .ok (.iload 7, 2) := op21 (bA_at bd03_dec_X11_3_16 16 rfl rfl) rfl
theorem dX11_slopes_115 : decode cX11_slopes 115 = .ok (.invokevirtual 447, 3) := op182 (bA_at bd03_dec_X11_3_16 17 rfl rfl) rfl
theorem dX11_slopes_118 : decode cX11_slopes 118 = .ok (.iconst 0, 1) := op3 (bA_at bd03_dec_X11_3_16 18 rfl rfl)
theorem dX11_slopes_119 : decode cX11_slopes 119 = .ok (.istore 9, 2) := op54 (bA_at bd03_dec_X11_3_16 19 rfl rfl) rfl
theorem dX11_slopes_121 : decode cX11_slopes 121 = .ok (.iload 9, 2) := op21 (bA_at bd03_dec_X11_3_16 20 rfl rfl) rfl
theorem dX11_slopes_123 : decode cX11_slopes 123 = .ok (.aload_n 0, 1) := op42 (bA_at bd03_dec_X11_3_16 21 rfl rfl)
theorem dX11_slopes_124 : decode cX11_slopes 124 = .ok (.getfield 307, 3) := op180 (bA_at bd03_dec_X11_3_16 22 rfl rfl) rfl
theorem dX11_slopes_127 : decode cX11_slopes 127 = .ok (.if_icmp .ge 23, 3) := op162 (bA_at bd03_dec_X11_3_16 23 rfl rfl) (by decide +kernel)
theorem dX11_slopes_130 : decode cX11_slopes 130 = .ok (.iload 6, 2) := op21 (bA_at bd03_dec_X11_3_16 24 rfl rfl) rfl
theorem dX11_slopes_132 : decode cX11_slopes 132 = .ok (.aload_n 0, 1) := op42 (bA_at bd03_dec_X11_3_16 25 rfl rfl)
theorem dX11_slopes_133 : decode cX11_slopes 133 = .ok (.getfield 68, 3) := op180 (bA_at bd03_dec_X11_3_16 26 rfl rfl) rfl
theorem dX11_slopes_136 : decode cX11_slopes 136 = .ok (.iload 9, 2) := op21 (bA_at bd03_dec_X11_3_16 27 rfl rfl) rfl
theorem dX11_slopes_138 : decode cX11_slopes 138 = .ok (.iaload, 1) := op46 (bA_at bd03_dec_X11_3_16 28 rfl rfl)
theorem dX11_slopes_139 : decode cX11_slopes 139 = .ok (.invokestatic 171, 3) := op184 (bA_at bd03_dec_X11_3_16 29 rfl rfl) rfl
theorem dX11_slopes_142 : decode cX11_slopes 142 = .ok (.istore 6, 2) := op54 (bA_at bd03_dec_X11_3_16 30 rfl rfl) rfl
theorem dX11_slopes_144 : decode cX11_slopes 144 = .ok (.iinc 9 1, 3) := op132 (bA_at bd03_dec_X11_3_16 31 rfl rfl) rfl (by decide +kernel)
theorem dX11_slopes_147 : decode cX11_slopes 147 = .ok (.goto (-26), 3) := op167 (bA_at bd03_dec_X11_3_16 32 rfl rfl) (by decide +kernel)
theorem dX11_slopes_150 : decode cX11_slopes 150 = .ok (.iinc 7 1, 3) := op132 (bA_at bd03_dec_X11_3_16 33 rfl rfl) rfl (by decide +kernel)
theorem dX11_slopes_153 : decode cX11_slopes 153 = .ok (.goto (-115), 3) := op167 (bA_at bd03_dec_X11_3_16 34 rfl rfl) (by decide +kernel)
theorem dX11_slopes_156 : decode cX11_slopes 156 = .ok (.iload_n 2, 1) := op28 (bA_at bd03_dec_X11_3_16 35 rfl rfl)
theorem dX11_slopes_157 : decode cX11_slopes 157 = .ok (.ifCond .ne 14, 3) := op154 (bA_at bd03_dec_X11_3_16 36 rfl rfl) (by decide +kernel)
theorem dX11_slopes_160 : decode cX11_slopes 160 = .ok (.aload_n 0, 1) := op42 (bA_at bd03_dec_X11_3_16 37 rfl rfl)
theorem dX11_slopes_161 : decode cX11_slopes 161 = .ok (.invokevirtual 435, 3) := op182 (bA_at bd03_dec_X11_3_16 38 rfl rfl) rfl
theorem dX11_slopes_164 : decode cX11_slopes 164 = .ok (.iload_n 3, 1) := op29 (bA_at bd03_dec_X11_3_16 39 rfl rfl)
theorem dX11_slopes_165 : decode cX11_slopes 165 = .ok (.iconst (-1), 1) := op2 (bA_at bd03_dec_X11_3_16 40 rfl rfl)
theorem dX11_slopes_166 : decode cX11_slopes 166 = .ok (.ixor, 1) := op130 (bA_at bd03_dec_X11_3_16 41 rfl rfl)
theorem dX11_slopes_167 : decode cX11_slopes 167 = .ok (.iand, 1) := op126 (bA_at bd03_dec_X11_3_16 42 rfl rfl)
theorem dX11_slopes_168 : decode cX11_slopes 168 = .ok (.goto 25, 3) := op167 (bA_at bd03_dec_X11_3_16 43 rfl rfl) (by decide +kernel)
theorem dX11_slopes_171 : decode cX11_slopes 171 = .ok (.iload_n 2, 1) := op28 (bA_at bd03_dec_X11_3_16 44 rfl rfl)
theorem dX11_slopes_172 : decode cX11_slopes 172 = .ok (.iconst 1, 1) := op4 (bA_at bd03_dec_X11_3_16 45 rfl rfl)
theorem dX11_slopes_173 : decode cX11_slopes 173 = .ok (.if_icmp .ne 8, 3) := op160 (bA_at bd03_dec_X11_3_16 46 rfl rfl) (by decide +kernel)
theorem dX11_slopes_176 : decode cX11_slopes 176 = .ok (.iload 4, 2) := op21 (bA_at bd03_dec_X11_3_16 47 rfl rfl) rfl
theorem dX11_slopes_178 : decode cX11_slopes 178 = .ok (.goto 15, 3) := op167 (bA_at bd03_dec_X11_3_16 48 rfl rfl) (by decide +kernel)
theorem dX11_slopes_181 : decode cX11_slopes 181 = .ok (.iload_n 2, 1) := op28 (bA_at bd03_dec_X11_3_16 49 rfl rfl)
theorem bd03_dec_X11_3_17 : ([(0, [5]), (1, [160, 0, 8]), (4, [21, 5]), (6, [167, 0, 5]), (9, [21, 6]), (11, [172])] : List (Nat × List UInt8)).all (fun x => prB x.2 ((cX11_slopes.data.toList.drop 182).drop x.1)) = true := by decide +kernel
theorem dX11_slopes_182 : decode cX11_slopes 182 = .ok (.iconst 2, 1) := op5 (bA_at bd03_dec_X11_3_17 0 rfl rfl)
theorem dX11_slopes_183 : decode cX11_slopes 183 = .ok (.if_icmp .ne 8, 3) := op160 (bA_at bd03_dec_X11_3_17 1 rfl rfl) (by decide +kernel)
theorem dX11_slopes_186 : decode cX11_slopes 186 = .ok (.iload 5, 2) := op21 (bA_at bd03_dec_X11_3_17 2 rfl rfl) rfl
theorem dX11_slopes_188 : decode cX11_slopes 188 = .ok (.goto 5, 3) := op167 (bA_at bd03_dec_X11_3_17 3 rfl rfl) (by decide +kernel)
theorem dX11_slopes_191 : decode cX11_slopes 191 = .ok (.iload 6, 2) := op21 (bA_at bd03_dec_X11_3_17 4 rfl rfl) rfl
theorem dX11_slopes_193 : decode cX11_slopes 193 = .ok (.ireturn, 1) := op172 (bA_at bd03_dec_X11_3_17 5 rfl rfl)
theorem bd03_dec_X11_3_18 : ([(0, [42]), (1, [3]), (2, [181, 0, 97]), (5, [42]), (6, [27]), (7, [182, 1, 57]), (10, [153, 0, 40]), (13, [42]), (14, [28]), (15, [182, 1, 60]), (18, [153, 0, 32]), (21, [42]), (22, [29]), (23, [182, 1, 60]), (26, [153, 0, 24]), (29, [28]), (30, [29]), (31, [159, 0, 19]), (34, [42]), (35, [28]), (36, [182, 1, 99]), (39, [154, 0, 11]), (42, [42]), (43, [29]), (44, [182, 1, 99]), (47, [153, 0, 5]), (50, [2]), (51, [172]), (52, [2]), (53, [54, 5]), (55, [3]), (56, [54, 6]), (58, [21, 6]), (60, [4]), (61, [42]), (62, [180, 1, 51]), (65, [120]), (66, [162, 0, 86]), (69, [42]), (70, [28]), (71, [21, 6]), (73, [182, 1, 158]), (76, [21, 6]), (78, [28]), (79, [184, 0, 101]), (82, [154, 0, 28]), (85, [21, 6]), (87, [29]), (88, [184, 0, 101]), (91, [154, 0, 19])] : List (Nat × List UInt8)).all (fun x => prB x.2 ((cX11_flood.data.toList.drop 0).drop x.1)) = true := by decide +kernel
theorem dX11_flood_0 : decode cX11_flood 0 = .ok (.aload_n 0, 1) := op42 (bA_at bd03_dec_X11_3_18 0 rfl rfl)
theorem dX11_flood_1 : decode cX11_flood 1 = .ok (.iconst 0, 1) := op3 (bA_at bd03_dec_X11_3_18 1 rfl rfl)
theorem dX11_flood_2 : decode cX11_flood 2 = .ok (.putfield 97, 3) := op181 (bA_at bd03_dec_X11_3_18 2 rfl rfl) rfl
theorem dX11_flood_5 : decode cX11_flood 5 = .ok (.aload_n 0, 1) := op42 (bA_at bd03_dec_X11_3_18 3 rfl rfl)
theorem dX11_flood_6 : decode cX11_flood 6 = .ok (.iload_n 1, 1) := op27 (bA_at bd03_dec_X11_3_18 4 rfl rfl)
theorem dX11_flood_7 : decode cX11_flood 7 = .ok (.invokevirtual 313, 3) := op182 (bA_at bd03_dec_X11_3_18 5 rfl rfl) rfl
theorem dX11_flood_10 : decode cX11_flood 10 = .ok (.ifCond .eq 40, 3) := op153 (bA_at bd03_dec_X11_3_18 6 rfl rfl) (by decide +kernel)
theorem dX11_flood_13 : decode cX11_flood 13 = .ok (.aload_n 0, 1) := op42 (bA_at bd03_dec_X11_3_18 7 rfl rfl)
theorem dX11_flood_14 : decode cX11_flood 14 = .ok (.iload_n 2, 1) := op28 (bA_at bd03_dec_X11_3_18 8 rfl rfl)
theorem dX11_flood_15 : decode cX11_flood 15 = .ok (.invokevirtual 316, 3) := op182 (bA_at bd03_dec_X11_3_18 9 rfl rfl) rfl
theorem dX11_flood_18 : decode cX11_flood 18 = .ok (.ifCond .eq 32, 3) := op153 (bA_at bd03_dec_X11_3_18 10 rfl rfl) (by decide +kernel)
theorem dX11_flood_21 : decode cX11_flood 21 = .ok (.aload_n 0, 1) := op42 (bA_at bd03_dec_X11_3_18 11 rfl rfl)
theorem dX11_flood_22 : decode cX11_flood 22 = .ok (.iload_n 3, 1) := op29 (bA_at bd03_dec_X11_3_18 12 rfl rfl)
theorem dX11_flood_23 : decode cX11_flood 23 = .ok (.invokevirtual 316, 3) := op182 (bA_at bd03_dec_X11_3_18 13 rfl rfl) rfl
theorem dX11_flood_26 : decode cX11_flood 26 = .ok (.ifCond .eq 24, 3) := op153 (bA_at bd03_dec_X11_3_18 14 rfl rfl) (by decide +kernel)
theorem dX11_flood_29 : decode cX11_flood 29 = .ok (.iload_n 2, 1) := op28 (bA_at bd03_dec_X11_3_18 15 rfl rfl)
theorem dX11_flood_30 : decode cX11_flood 30 = .ok (.iload_n 3, 1) := op29 (bA_at bd03_dec_X11_3_18 16 rfl rfl)
theorem dX11_flood_31 : decode cX11_flood 31 = .ok (.if_icmp .eq 19, 3) := op159 (bA_at bd03_dec_X11_3_18 17 rfl rfl) (by decide +kernel)
theorem dX11_flood_34 : decode cX11_flood 34 = .ok (.aload_n 0, 1) := op42 (bA_at bd03_dec_X11_3_18 18 rfl rfl)
theorem dX11_flood_35 : decode cX11_flood 35 = .ok (.iload_n 2, 1) := op28 (bA_at bd03_dec_X11_3_18 19 rfl rfl)
theorem dX11_flood_36 : decode cX11_flood 36 = .ok (.invokevirtual 355, 3) := op182 (bA_at bd03_dec_X11_3_18 20 rfl rfl) rfl
theorem dX11_flood_39 : decode cX11_flood 39 = .ok (.ifCond .ne 11, 3) := op154 (bA_at bd03_dec_X11_3_18 21 rfl rfl) (by decide +kernel)
theorem dX11_flood_42 : decode cX11_flood 42 = .ok (.aload_n 0, 1) := op42 (bA_at bd03_dec_X11_3_18 22 rfl rfl)
theorem dX11_flood_43 : decode cX11_flood 43 = .ok (.iload_n 3, 1) := op29 (bA_at bd03_dec_X11_3_18 23 rfl rfl)
theorem dX11_flood_44 : decode cX11_flood 44 = .ok (.invokevirtual 355, 3) := op182 (bA_at bd03_dec_X11_3_18 24 rfl rfl) rfl
theorem dX11_flood_47 : decode cX11_flood 47 = .ok (.ifCond .eq 5, 3) := op153 (bA_at bd03_dec_X11_3_18 25 rfl rfl) (by decide +kernel)
theorem dX11_flood_50 : decode cX11_flood 50 = .ok (.iconst (-1), 1) := op2 (bA_at bd03_dec_X11_3_18 26 rfl rfl)
theorem dX11_flood_51 : decode cX11_flood 51 = .ok (.ireturn, 1) := op172 (bA_at bd03_dec_X11_3_18 27 rfl rfl)
theorem dX11_flood_52 : decode cX11_flood 52 = .ok (.iconst (-1), 1) := op2 (bA_at bd03_dec_X11_3_18 28 rfl rfl)
theorem dX11_flood_53 : decode cX11_flood 53 = .ok (.istore 5, 2) := op54 (bA_at bd03_dec_X11_3_18 29 rfl rfl) rfl
theorem dX11_flood_55 : decode cX11_flood 55 = .ok (.iconst 0, 1) := op3 (bA_at bd03_dec_X11_3_18 30 rfl rfl)
theorem dX11_flood_56 : decode cX11_flood 56 = .ok (.istore 6, 2) := op54 (bA_at bd03_dec_X11_3_18 31 rfl rfl) rfl
theorem dX11_flood_58 : decode cX11_flood 58 = .ok (.iload 6, 2) := op21 (bA_at bd03_dec_X11_3_18 32 rfl rfl) rfl
theorem dX11_flood_60 : decode cX11_flood 60 = .ok (.iconst 1, 1) := op4 (bA_at bd03_dec_X11_3_18 33 rfl rfl)
theorem dX11_flood_61 : decode cX11_flood 61 = .ok (.aload_n 0, 1) := op42 (bA_at bd03_dec_X11_3_18 34 rfl rfl)
theorem dX11_flood_62 : decode cX11_flood 62 = .ok (.getfield 307, 3) := op180 (bA_at bd03_dec_X11_3_18 35 rfl rfl) rfl
theorem dX11_flood_65 : decode cX11_flood 65 = .ok (.ishl, 1) := op120 (bA_at bd03_dec_X11_3_18 36 rfl rfl)
theorem dX11_flood_66 : decode cX11_flood 66 = .ok (.if_icmp .ge 86, 3) := op162 (bA_at bd03_dec_X11_3_18 37 rfl rfl) (by decide +kernel)
theorem dX11_flood_69 : decode cX11_flood 69 = .ok (.aload_n 0, 1) := op42 (bA_at bd03_dec_X11_3_18 38 rfl rfl)
theorem dX11_flood_70 : decode cX11_flood 70 = .ok (.iload_n 2, 1) := op28 (bA_at bd03_dec_X11_3_18 39 rfl rfl)
theorem dX11_flood_71 : decode cX11_flood 71 = .ok (.iload 6, 2) := op21 (bA_at bd03_dec_X11_3_18 40 rfl rfl) rfl
theorem dX11_flood_73 : decode cX11_flood 73 = .ok (.invokevirtual 414, 3) := op182 (bA_at bd03_dec_X11_3_18 41 rfl rfl) rfl
theorem dX11_flood_76 : decode cX11_flood 76 = .ok (.iload 6, 2) := op21 (bA_at bd03_dec_X11_3_18 42 rfl rfl) rfl
theorem dX11_flood_78 : decode cX11_flood 78 = .ok (.iload_n 2, 1) := op28 (bA_at bd03_dec_X11_3_18 43 rfl rfl)
theorem dX11_flood_79 : decode cX11_flood 79 = .ok (.invokestatic 101, 3) := op184 (bA_at bd03_dec_X11_3_18 44 rfl rfl) rfl
theorem dX11_flood_82 : decode cX11_flood 82 = .ok (.ifCond .ne 28, 3) := op154 (bA_at bd03_dec_X11_3_18 45 rfl rfl) (by decide +kernel)
theorem dX11_flood_85 : decode cX11_flood 85 = .ok (.iload 6, 2) := op21 (bA_at bd03_dec_X11_3_18 46 rfl rfl) rfl
theorem dX11_flood_87 : decode cX11_flood 87 = .ok (.iload_n 3, 1) := op29 (bA_at bd03_dec_X11_3_18 47 rfl rfl)
theorem dX11_flood_88 : decode cX11_flood 88 = .ok (.invokestatic 101, 3) := op184 (bA_at bd03_dec_X11_3_18 48 rfl rfl) rfl
theorem dX11_flood_91 : decode cX11_flood 91 = .ok (.ifCond .ne 19, 3) := op154 (bA_at bd03_dec_X11_3_18 49 rfl rfl) (by decide +kernel)
theorem bd03_dec_X11_3_19 : ([(0, [42]), (1, [180, 0, 59]), (4, [29]), (5, [46]), (6, [19, 1, 154]), (9, [161, 0, 7]), (12, [4]), (13, [167, 0, 4]), (16, [3]), (17, [54, 7]), (19, [21, 7]), (21, [153, 0, 27]), (24, [21, 5]), (26, [2]), (27, [159, 0, 16]), (30, [21, 6]), (32, [184, 1, 173]), (35, [21, 5]), (37, [184, 1, 173]), (40, [162, 0, 8]), (43, [21, 6]), (45, [167, 0, 5]), (48, [21, 5]), (50, [54, 5]), (52, [132, 6, 1]), (55, [167, 255, 165]), (58, [21, 5]), (60, [2]), (61, [159, 0, 8]), (64, [21, 4]), (66, [153, 0, 8]), (69, [21, 5]), (71, [167, 0, 8]), (74, [21, 5]), (76, [184, 1, 173]), (79, [172])] : List (Nat × List UInt8)).all (fun x => prB x.2 ((cX11_flood.data.toList.drop 94).drop x.1)) = true := by decide +kernel
theorem dX11_flood_94 : decode cX11_flood 94 = .ok (.aload_n 0, 1) := op42 (bA_at bd03_dec_X11_3_19 0 rfl rfl)
theorem dX11_flood_95 : decode cX11_flood 95 = .ok (.getfield 59, 3) := op180 (bA_at bd03_dec_X11_3_19 1 rfl rfl) rfl
theorem dX11_flood_98 : decode cX11_flood 98 = .ok (.iload_n 3, 1) := op29 (bA_at bd03_dec_X11_3_19 2 rfl rfl)
theorem dX11_flood_99 : decode cX11_flood 99 = .ok (.iaload, 1) := op46 (bA_at bd03_dec_X11_3_19 3 rfl rfl)
theorem dX11_flood_100 : decode cX11_flood 100 = .ok (.ldc_w 410, 3) := op19 (bA_at bd03_dec_X11_3_19 4 rfl rfl) rfl
theorem dX11_flood_103 : decode cX11_flood 103 = .ok (.if_icmp .lt 7, 3) := op161 (bA_at bd03_dec_X11_3_19 5 rfl rfl) (by decide +kernel)
theorem dX11_flood_106 : decode cX11_flood 106 = .ok (.iconst 1, 1) := op4 (bA_at bd03_dec_X11_3_19 6 rfl rfl)
theorem dX11_flood_107 : decode cX11_flood 107 = .ok (.goto 4, 3) := op167 (bA_at bd03_dec_X11_3_19 7 rfl rfl) (by decide +kernel)
theorem dX11_flood_110 : decode cX11_flood 110 = .ok (.iconst 0, 1) := op3 (bA_at bd03_dec_X11_3_19 8 rfl rfl)
theorem dX11_flood_111 : decode cX11_flood 111 = .ok (.istore 7, 2) := op54 (bA_at bd03_dec_X11_3_19 9 rfl rfl) rfl
theorem dX11_flood_113 : decode cX11_flood 113 = .ok (.iload 7, 2) := op21 (bA_at bd03_dec_X11_3_19 10 rfl rfl) rfl
theorem dX11_flood_115 : decode cX11_flood 115 = .ok (.ifCond .eq 27, 3) := op153 (bA_at bd03_dec_X11_3_19 11 rfl rfl) (by decide +kernel)
theorem dX11_flood_118 : decode cX11_flood 118 = .ok (.iload 5, 2) := op21 (bA_at bd03_dec_X11_3_19 12 rfl rfl) rfl
theorem dX11_flood_120 : decode cX11_flood 120 = .ok (.iconst (-1), 1) := op2 (bA_at bd03_dec_X11_3_19 13 rfl rfl)
theorem dX11_flood_121 : decode cX11_flood 121 = .ok (.if_icmp .eq 16, 3) := op159 (bA_at bd03_dec_X11_3_19 14 rfl rfl) (by decide +kernel)
theorem dX11_flood_124 : decode cX11_flood 124 = .ok (.iload 6, 2) := op21 (bA_at bd03_dec_X11_3_19 15 rfl rfl) rfl
theorem dX11_flood_126 : decode cX11_flood 126 = .ok (.invokestatic 429, 3) := op184 (bA_at bd03_dec_X11_3_19 16 rfl rfl) rfl
theorem dX11_flood_129 : decode cX11_flood 129 = .ok (.iload 5, 2) := op21 (bA_at bd03_dec_X11_3_19 17 rfl rfl) rfl
theorem dX11_flood_131 : decode cX11_flood 131 = .ok (.invokestatic 429, 3) := op184 (bA_at bd03_dec_X11_3_19 18 rfl rfl) rfl
theorem dX11_flood_134 : decode cX11_flood 134 = .ok (.if_icmp .ge 8, 3) := op162 (bA_at bd03_dec_X11_3_19 19 rfl rfl) (by decide +kernel)
theorem dX11_flood_137 : decode cX11_flood 137 = .ok (.iload 6, 2) := op21 (bA_at bd03_dec_X11_3_19 20 rfl rfl) rfl
theorem dX11_flood_139 : decode cX11_flood 139 = .ok (.goto 5, 3) := op167 (bA_at bd03_dec_X11_3_19 21 rfl rfl) (by decide +kernel)
theorem dX11_flood_142 : decode cX11_flood 142 = .ok (.iload 5, 2) := op21 (bA_at bd03_dec_X11_3_19 22 rfl rfl) rfl
theorem dX11_flood_144 : decode cX11_flood 144 = .ok (.istore 5, 2) := op54 (bA_at bd03_dec_X11_3_19 23 rfl rfl) rfl
theorem dX11_flood_146 : decode cX11_flood 146 = .ok (.iinc 6 1, 3) := op132 (bA_at bd03_dec_X11_3_19 24 rfl rfl) rfl (by decide +kernel)
theorem dX11_flood_149 : decode cX11_flood 149 = .ok (.goto (-91), 3) := op167 (bA_at bd03_dec_X11_3_19 25 rfl rfl) (by decide +kernel)
theorem dX11_flood_152 : decode cX11_flood 152 = .ok (.iload 5, 2) := op21 (bA_at bd03_dec_X11_3_19 26 rfl rfl) rfl
theorem dX11_flood_154 : decode cX11_flood 154 = .ok (.iconst (-1), 1) := op2 (bA_at bd03_dec_X11_3_19 27 rfl rfl)
theorem dX11_flood_155 : decode cX11_flood 155 = .ok (.if_icmp .eq 8, 3) := op159 (bA_at bd03_dec_X11_3_19 28 rfl rfl) (by decide +kernel)
theorem dX11_flood_158 : decode cX11_flood 158 = .ok (.iload 4, 2) := op21 (bA_at bd03_dec_X11_3_19 29 rfl rfl) rfl
theorem dX11_flood_160 : decode cX11_flood 160 = .ok (.ifCond .eq 8, 3) := op153 (bA_at bd03_dec_X11_3_19 30 rfl rfl) (by decide +kernel)
theorem dX11_flood_163 : decode cX11_flood 163 = .ok (.iload 5, 2) := op21 (bA_at bd03_dec_X11_3_19 31 rfl rfl) rfl
theorem dX11_flood_165 : decode cX11_flood 165 = .ok (.goto 8, 3) := op167 (bA_at bd03_dec_X11_3_19 32 rfl rfl) (by decide +kernel)
theorem dX11_flood_168 : decode cX11_flood 168 = .ok (.iload 5, 2) := op21 (bA_at bd03_dec_X11_3_19 33 rfl rfl) rfl
theorem dX11_flood_170 : decode cX11_flood 170 = .ok (.invokestatic 429, 3) := op184 (bA_at bd03_dec_X11_3_19 34 rfl rfl) rfl
theorem dX11_flood_173 : decode cX11_flood 173 = .ok (.ireturn, 1) := op172 (bA_at bd03_dec_X11_3_19 35 rfl rfl)
theorem bd03_dec_X11_3_20 : ([(0, [3]), (1, [62]), (2, [42]), (3, [180, 1, 84]), (6, [28]), (7, [184, 0, 101]), (10, [153, 0, 12]), (13, [42]), (14, [180, 0, 56]), (17, [28]), (18, [46]), (19, [167, 0, 6]), (22, [19, 1, 154]), (25, [54, 4]), (27, [27]), (28, [54, 5]), (30, [3]), (31, [54, 6]), (33, [21, 6]), (35, [42]), (36, [180, 1, 54]), (39, [162, 0, 34]), (42, [29]), (43, [42]), (44, [180, 0, 47]), (47, [21, 6]), (49, [46]), (50, [28]), (51, [184, 0, 101]), (54, [153, 0, 10]), (57, [4]), (58, [21, 6]), (60, [120]), (61, [167, 0, 4]), (64, [3]), (65, [128]), (66, [62]), (67, [132, 6, 1]), (70, [167, 255, 219]), (73, [21, 5]), (75, [153, 0, 179]), (78, [2]), (79, [54, 6]), (81, [3]), (82, [54, 7]), (84, [21, 7]), (86, [42]), (87, [180, 1, 54]), (90, [162, 0, 49]), (93, [21, 5])] : List (Nat × List UInt8)).all (fun x => prB x.2 ((cX11_taught.data.toList.drop 0).drop x.1)) = true := by decide +kernel
theorem dX11_taught_0 : decode cX11_taught 0 = .ok (.iconst 0, 1) := op3 (bA_at bd03_dec_X11_3_20 0 rfl rfl)
theorem dX11_taught_1 : decode cX11_taught 1 = .ok (.istore_n 3, 1) := op62 (bA_at bd03_dec_X11_3_20 1 rfl rfl)
theorem dX11_taught_2 : decode cX11_taught 2 = .ok (.aload_n 0, 1) := op42 (bA_at bd03_dec_X11_3_20 2 rfl rfl)
theorem dX11_taught_3 : decode cX11_taught 3 = .ok (.getfield 340, 3) := op180 (bA_at bd03_dec_X11_3_20 3 rfl rfl) rfl
theorem dX11_taught_6 : decode cX11_taught 6 = .ok (.iload_n 2, 1) := op28 (bA_at bd03_dec_X11_3_20 4 rfl rfl)
theorem dX11_taught_7 : decode cX11_taught 7 = .ok (.invokestatic 101, 3) := op184 (bA_at bd03_dec_X11_3_20 5 rfl rfl) rfl
theorem dX11_taught_10 : decode cX11_taught 10 = .ok (.ifCond .eq 12, 3) := op153 (bA_at bd03_dec_X11_3_20 6 rfl rfl) (by decide +kernel)
theorem dX11_taught_13 : decode cX11_taught 13 = .ok (.aload_n 0, 1) := op42 (bA_at bd03_dec_X11_3_20 7 rfl rfl)
theorem dX11_taught_14 : decode cX11_taught 14 = .ok (.getfield 56, 3) := op180 (bA_at bd03_dec_X11_3_20 8 rfl rfl) rfl
theorem dX11_taught_17 : decode cX11_taught 17 = .ok (.iload_n 2, 1) := op28 (bA_at bd03_dec_X11_3_20 9 rfl rfl)
theorem dX11_taught_18 : decode cX11_taught 18 = .ok (.iaload, 1) := op46 (bA_at bd03_dec_X11_3_20 10 rfl rfl)
theorem dX11_taught_19 : decode cX11_taught 19 = .ok (.goto 6, 3) := op167 (bA_at bd03_dec_X11_3_20 11 rfl rfl) (by decide +kernel)
theorem dX11_taught_22 : decode cX11_taught 22 = .ok (.ldc_w 410, 3) := op19 (bA_at bd03_dec_X11_3_20 12 rfl rfl) rfl
theorem dX11_taught_25 : decode cX11_taught 25 = .ok (.istore 4, 2) := op54 (bA_at bd03_dec_X11_3_20 13 rfl rfl) rfl
theorem dX11_taught_27 : decode cX11_taught 27 = .ok (.iload_n 1, 1) := op27 (bA_at bd03_dec_X11_3_20 14 rfl rfl)
theorem dX11_taught_28 : decode cX11_taught 28 = .ok (.istore 5, 2) := op54 (bA_at bd03_dec_X11_3_20 15 rfl rfl) rfl
theorem dX11_taught_30 : decode cX11_taught 30 = .ok (.iconst 0, 1) := op3 (bA_at bd03_dec_X11_3_20 16 rfl rfl)
theorem dX11_taught_31 : decode cX11_taught 31 = .ok (.istore 6, 2) := op54 (bA_at bd03_dec_X11_3_20 17 rfl rfl) rfl
theorem dX11_taught_33 : decode cX11_taught 33 = .ok (.iload 6, 2) := op21 (bA_at bd03_dec_X11_3_20 18 rfl rfl) rfl
theorem dX11_taught_35 : decode cX11_taught 35 = .ok (.aload_n 0, 1) := op42 (bA_at bd03_dec_X11_3_20 19 rfl rfl)
theorem dX11_taught_36 : decode cX11_taught 36 = .ok (.getfield 310, 3) := op180 (bA_at bd03_dec_X11_3_20 20 rfl rfl) rfl
theorem dX11_taught_39 : decode cX11_taught 39 = .ok (.if_icmp .ge 34, 3) := op162 (bA_at bd03_dec_X11_3_20 21 rfl rfl) (by decide +kernel)
theorem dX11_taught_42 : decode cX11_taught 42 = .ok (.iload_n 3, 1) := op29 (bA_at bd03_dec_X11_3_20 22 rfl rfl)
theorem dX11_taught_43 : decode cX11_taught 43 = .ok (.aload_n 0, 1) := op42 (bA_at bd03_dec_X11_3_20 23 rfl rfl)
theorem dX11_taught_44 : decode cX11_taught 44 = .ok (.getfield 47, 3) := op180 (bA_at bd03_dec_X11_3_20 24 rfl rfl) rfl
theorem dX11_taught_47 : decode cX11_taught 47 = .ok (.iload 6, 2) := op21 (bA_at bd03_dec_X11_3_20 25 rfl rfl) rfl
theorem dX11_taught_49 : decode cX11_taught 49 = .ok (.iaload, 1) := op46 (bA_at bd03_dec_X11_3_20 26 rfl rfl)
theorem dX11_taught_50 : decode cX11_taught 50 = .ok (.iload_n 2, 1) := op28 (bA_at bd03_dec_X11_3_20 27 rfl rfl)
theorem dX11_taught_51 : decode cX11_taught 51 = .ok (.invokestatic 101, 3) := op184 (bA_at bd03_dec_X11_3_20 28 rfl rfl) rfl
theorem dX11_taught_54 : decode cX11_taught 54 = .ok (.ifCond .eq 10, 3) := op153 (bA_at bd03_dec_X11_3_20 29 rfl rfl) (by decide +kernel)
theorem dX11_taught_57 : decode cX11_taught 57 = .ok (.iconst 1, 1) := op4 (bA_at bd03_dec_X11_3_20 30 rfl rfl)
theorem dX11_taught_58 : decode cX11_taught 58 = .ok (.iload 6, 2) := op21 (bA_at bd03_dec_X11_3_20 31 rfl rfl) rfl
theorem dX11_taught_60 : decode cX11_taught 60 = .ok (.ishl, 1) := op120 (bA_at bd03_dec_X11_3_20 32 rfl rfl)
theorem dX11_taught_61 : decode cX11_taught 61 = .ok (.goto 4, 3) := op167 (bA_at bd03_dec_X11_3_20 33 rfl rfl) (by decide +kernel)
theorem dX11_taught_64 : decode cX11_taught 64 = .ok (.iconst 0, 1) := op3 (bA_at bd03_dec_X11_3_20 34 rfl rfl)
theorem dX11_taught_65 : decode cX11_taught 65 = .ok (.ior, 1) := op128 (bA_at bd03_dec_X11_3_20 35 rfl rfl)
theorem dX11_taught_66 : decode cX11_taught 66 = .ok (.istore_n 3, 1) := op62 (bA_at bd03_dec_X11_3_20 36 rfl rfl)
theorem dX11_taught_67 : decode cX11_taught 67 = .ok (.iinc 6 1, 3) := op132 (bA_at bd03_dec_X11_3_20 37 rfl rfl) rfl (by decide +kernel)
theorem dX11_taught_70 : decode cX11_taught 70 = .ok (.goto (-37), 3) := op167 (bA_at bd03_dec_X11_3_20 38 rfl rfl) (by decide +kernel)
theorem dX11_taught_73 : decode cX11_taught 73 = .ok (.iload 5, 2) := op21 (bA_at bd03_dec_X11_3_20 39 rfl rfl) rfl
theorem dX11_taught_75 : decode cX11_taught 75 = .ok (.ifCond .eq 179, 3) := op153 (bA_at bd03_dec_X11_3_20 40 rfl rfl) (by decide +kernel)
theorem dX11_taught_78 : decode cX11_taught 78 = .ok (.iconst (-1), 1) := op2 (bA_at bd03_dec_X11_3_20 41 rfl rfl)
theorem dX11_taught_79 : decode cX11_taught 79 = .ok (.istore 6, 2) := op54 (bA_at bd03_dec_X11_3_20 42 rfl rfl) rfl
theorem dX11_taught_81 : decode cX11_taught 81 = .ok (.iconst 0, 1) := op3 (bA_at bd03_dec_X11_3_20 43 rfl rfl)
theorem dX11_taught_82 : decode cX11_taught 82 = .ok (.istore 7, 2) := op54 (bA_at bd03_dec_X11_3_20 44 rfl rfl) rfl
theorem dX11_taught_84 : decode cX11_taught 84 = .ok (.iload 7, 2) := op21 (bA_at bd03_dec_X11_3_20 45 rfl rfl) rfl
theorem dX11_taught_86 : decode cX11_taught 86 = .ok (.aload_n 0, 1) := op42 (bA_at bd03_dec_X11_3_20 46 rfl rfl)
theorem dX11_taught_87 : decode cX11_taught 87 = .ok (.getfield 310, 3) := op180 (bA_at bd03_dec_X11_3_20 47 rfl rfl) rfl
theorem dX11_taught_90 : decode cX11_taught 90 = .ok (.if_icmp .ge 49, 3) := op162 (bA_at bd03_dec_X11_3_20 48 rfl rfl) (by decide +kernel)
theorem dX11_taught_93 : decode cX11_taught 93 = .ok (.iload 5, 2) := op21 (bA_at bd03_dec_X11_3_20 49 rfl rfl) rfl
theorem bd03_dec_X11_3_21 : ([(0, [21, 7]), (2, [184, 0, 101]), (5, [153, 0, 29]), (8, [21, 6]), (10, [2]), (11, [159, 0, 18]), (14, [42]), (15, [21, 7]), (17, [182, 1, 96]), (20, [42]), (21, [21, 6]), (23, [182, 1, 96]), (26, [164, 0, 8]), (29, [21, 7]), (31, [167, 0, 5]), (34, [21, 6]), (36, [54, 6]), (38, [132, 7, 1]), (41, [167, 255, 204]), (44, [29]), (45, [21, 6]), (47, [184, 0, 101]), (50, [153, 0, 28]), (53, [42]), (54, [21, 6]), (56, [182, 1, 96]), (59, [21, 4]), (61, [162, 0, 17]), (64, [42]), (65, [42]), (66, [180, 0, 44]), (69, [21, 6]), (71, [46]), (72, [182, 1, 99]), (75, [153, 0, 5]), (78, [2]), (79, [172]), (80, [42]), (81, [21, 6]), (83, [182, 1, 96]), (86, [54, 4]), (88, [21, 5]), (90, [4]), (91, [21, 6]), (93, [120]), (94, [2]), (95, [130]), (96, [126]), (97, [54, 5]), (99, [42])] : List (Nat × List UInt8)).all (fun x => prB x.2 ((cX11_taught.data.toList.drop 95).drop x.1)) = true := by decide +kernel
theorem dX11_taught_95 : decode cX11_taught 95 = .ok (.iload 7, 2) := op21 (bA_at bd03_dec_X11_3_21 0 rfl rfl) rfl
theorem dX11_taught_97 : decode cX11_taught 97 = .ok (.invokestatic 101, 3) := op184 (bA_at bd03_dec_X11_3_21 1 rfl rfl) rfl
theorem dX11_taught_100 : decode cX11_taught 100 = .ok (.ifCond .eq 29, 3) := op153 (bA_at bd03_dec_X11_3_21 2 rfl rfl) (by decide +kernel)
theorem dX11_taught_103 : decode cX11_taught 103 = .ok (.iload 6, 2) := op21 (bA_at bd03_dec_X11_3_21 3 rfl rfl) rfl
theorem dX11_taught_105 : decode cX11_taught 105 = .ok (.iconst (-1), 1) := op2 (bA_at bd03_dec_X11_3_21 4 rfl rfl)
theorem dX11_taught_106 : decode cX11_taught 106 = .ok (.if_icmp .eq 18, 3) := op159 (bA_at bd03_dec_X11_3_21 5 rfl rfl) (by decide +kernel)
theorem dX11_taught_109 : decode cX11_taught 109 = .ok (.aload_n 0, 1) := op42 (bA_at bd03_dec_X11_3_21 6 rfl rfl)
theorem dX11_taught_110 : decode cX11_taught 110 = .ok (.iload 7, 2) := op21 (bA_at bd03_dec_X11_3_21 7 rfl rfl) rfl
theorem dX11_taught_112 : decode cX11_taught 112 = .ok (.invokevirtual 352, 3) := op182 (bA_at bd03_dec_X11_3_21 8 rfl rfl) rfl
theorem dX11_taught_115 : decode cX11_taught 115 = .ok (.aload_n 0, 1) := op42 (bA_at bd03_dec_X11_3_21 9 rfl rfl)
theorem dX11_taught_116 : decode cX11_taught 116 = .ok (.iload 6, 2) := op21 (bA_at bd03_dec_X11_3_21 10 rfl rfl) rfl
theorem dX11_taught_118 : decode cX11_taught 118 = .ok (.invokevirtual 352, 3) := op182 (bA_at bd03_dec_X11_3_21 11 rfl rfl) rfl
theorem dX11_taught_121 : decode cX11_taught 121 = .ok (.if_icmp .le 8, 3) := op164 (bA_at bd03_dec_X11_3_21 12 rfl rfl) (by decide +kernel)
theorem dX11_taught_124 : decode cX11_taught 124 = .ok (.iload 7, 2) := op21 (bA_at bd03_dec_X11_3_21 13 rfl rfl) rfl
theorem dX11_taught_126 : decode cX11_taught 126 = .ok (.goto 5, 3) := op167 (bA_at bd03_dec_X11_3_21 14 rfl rfl) (by decide +kernel)
theorem dX11_taught_129 : decode cX11_taught 129 = .ok (.iload 6, 2) := op21 (bA_at bd03_dec_X11_3_21 15 rfl rfl) rfl
theorem dX11_taught_131 : decode cX11_taught 131 = .ok (.istore 6, 2) := op54 (bA_at bd03_dec_X11_3_21 16 rfl rfl) rfl
theorem dX11_taught_133 : decode cX11_taught 133 = .ok (.iinc 7 1, 3) := op132 (bA_at bd03_dec_X11_3_21 17 rfl rfl) rfl (by decide +kernel)
theorem dX11_taught_136 : decode cX11_taught 136 = .ok (.goto (-52), 3) := op167 (bA_at bd03_dec_X11_3_21 18 rfl rfl) (by decide +kernel)
theorem dX11_taught_139 : decode cX11_taught 139 = .ok (.iload_n 3, 1) := op29 (bA_at bd03_dec_X11_3_21 19 rfl rfl)
theorem dX11_taught_140 : decode cX11_taught 140 = .ok (.iload 6, 2) := op21 (bA_at bd03_dec_X11_3_21 20 rfl rfl) rfl
theorem dX11_taught_142 : decode cX11_taught 142 = .ok (.invokestatic 101, 3) := op184 (bA_at bd03_dec_X11_3_21 21 rfl rfl) rfl
theorem dX11_taught_145 : decode cX11_taught 145 = .ok (.ifCond .eq 28, 3) := op153 (bA_at bd03_dec_X11_3_21 22 rfl rfl) (by decide +kernel)
theorem dX11_taught_148 : decode cX11_taught 148 = .ok (.aload_n 0, 1) := op42 (bA_at bd03_dec_X11_3_21 23 rfl rfl)
theorem dX11_taught_149 : decode cX11_taught 149 = .ok (.iload 6, 2) := op21 (bA_at bd03_dec_X11_3_21 24 rfl rfl) rfl
theorem dX11_taught_151 : decode cX11_taught 151 = .ok (.invokevirtual 352, 3) := op182 (bA_at bd03_dec_X11_3_21 25 rfl rfl) rfl
theorem dX11_taught_154 : decode cX11_taught 154 = .ok (.iload 4, 2) := op21 (bA_at bd03_dec_X11_3_21 26 rfl rfl) rfl
theorem dX11_taught_156 : decode cX11_taught 156 = .ok (.if_icmp .ge 17, 3) := op162 (bA_at bd03_dec_X11_3_21 27 rfl rfl) (by decide +kernel)
theorem dX11_taught_159 : decode cX11_taught 159 = .ok (.aload_n 0, 1) := op42 (bA_at bd03_dec_X11_3_21 28 rfl rfl)
theorem dX11_taught_160 : decode cX11_taught 160 = .ok (.aload_n 0, 1) := op42 (bA_at bd03_dec_X11_3_21 29 rfl rfl)
theorem dX11_taught_161 : decode cX11_taught 161 = .ok (.getfield 44, 3) := op180 (bA_at bd03_dec_X11_3_21 30 rfl rfl) rfl
theorem dX11_taught_164 : decode cX11_taught 164 = .ok (.iload 6, 2) := op21 (bA_at bd03_dec_X11_3_21 31 rfl rfl) rfl
theorem dX11_taught_166 : decode cX11_taught 166 = .ok (.iaload, 1) := op46 (bA_at bd03_dec_X11_3_21 32 rfl rfl)
theorem dX11_taught_167 : decode cX11_taught 167 = .ok (.invokevirtual 355, 3) := op182 (bA_at bd03_dec_X11_3_21 33 rfl rfl) rfl
theorem dX11_taught_170 : decode cX11_taught 170 = .ok (.ifCond .eq 5, 3) := op153 (bA_at bd03_dec_X11_3_21 34 rfl rfl) (by decide +kernel)
theorem dX11_taught_173 : decode cX11_taught 173 = .ok (.iconst (-1), 1) := op2 (bA_at bd03_dec_X11_3_21 35 rfl rfl)
theorem dX11_taught_174 : decode cX11_taught 174 = .ok (.ireturn, 1) := op172 (bA_at bd03_dec_X11_3_21 36 rfl rfl)
theorem dX11_taught_175 : decode cX11_taught 175 = .ok (.aload_n 0, 1) := op42 (bA_at bd03_dec_X11_3_21 37 rfl rfl)
theorem dX11_taught_176 : decode cX11_taught 176 = .ok (.iload 6, 2) := op21 (bA_at bd03_dec_X11_3_21 38 rfl rfl) rfl
theorem dX11_taught_178 : decode cX11_taught 178 = .ok (.invokevirtual 352, 3) := op182 (bA_at bd03_dec_X11_3_21 39 rfl rfl) rfl
theorem dX11_taught_181 : decode cX11_taught 181 = .ok (.istore 4, 2) := op54 (bA_at bd03_dec_X11_3_21 40 rfl rfl) rfl
theorem dX11_taught_183 : decode cX11_taught 183 = .ok (.iload 5, 2) := op21 (bA_at bd03_dec_X11_3_21 41 rfl rfl) rfl
theorem dX11_taught_185 : decode cX11_taught 185 = .ok (.iconst 1, 1) := op4 (bA_at bd03_dec_X11_3_21 42 rfl rfl)
theorem dX11_taught_186 : decode cX11_taught 186 = .ok (.iload 6, 2) := op21 (bA_at bd03_dec_X11_3_21 43 rfl rfl) rfl
theorem dX11_taught_188 : decode cX11_taught 188 = .ok (.ishl, 1) := op120 (bA_at bd03_dec_X11_3_21 44 rfl rfl)
theorem dX11_taught_189 : decode cX11_taught 189 = .ok (.iconst (-1), 1) := op2 (bA_at bd03_dec_X11_3_21 45 rfl rfl)
theorem dX11_taught_190 : decode cX11_taught 190 = .ok (.ixor, 1) := op130 (bA_at bd03_dec_X11_3_21 46 rfl rfl)
theorem dX11_taught_191 : decode cX11_taught 191 = .ok (.iand, 1) := op126 (bA_at bd03_dec_X11_3_21 47 rfl rfl)
theorem dX11_taught_192 : decode cX11_taught 192 = .ok (.istore 5, 2) := op54 (bA_at bd03_dec_X11_3_21 48 rfl rfl) rfl
theorem dX11_taught_194 : decode cX11_taught 194 = .ok (.aload_n 0, 1) := op42 (bA_at bd03_dec_X11_3_21 49 rfl rfl)
theorem bd03_dec_X11_3_22 : ([(0, [42]), (1, [180, 0, 44]), (4, [21, 6]), (6, [46]), (7, [182, 1, 93]), (10, [54, 7]), (12, [3]), (13, [54, 8]), (15, [21, 8]), (17, [42]), (18, [180, 1, 54]), (21, [162, 0, 35]), (24, [29]), (25, [21, 7]), (27, [42]), (28, [180, 0, 44]), (31, [21, 8]), (33, [46]), (34, [184, 0, 101]), (37, [153, 0, 10]), (40, [4]), (41, [21, 8]), (43, [120]), (44, [167, 0, 4]), (47, [3]), (48, [128]), (49, [62]), (50, [132, 8, 1]), (53, [167, 255, 218]), (56, [167, 255, 78]), (59, [29]), (60, [172])] : List (Nat × List UInt8)).all (fun x => prB x.2 ((cX11_taught.data.toList.drop 195).drop x.1)) = true := by decide +kernel
theorem dX11_taught_195 : decode cX11_taught 195 = .ok (.aload_n 0, 1) := op42 (bA_at bd03_dec_X11_3_22 0 rfl rfl)
theorem dX11_taught_196 : decode cX11_taught 196 = .ok (.getfield 44, 3) := op180 (bA_at bd03_dec_X11_3_22 1 rfl rfl) rfl
theorem dX11_taught_199 : decode cX11_taught 199 = .ok (.iload 6, 2) := op21 (bA_at bd03_dec_X11_3_22 2 rfl rfl) rfl
theorem dX11_taught_201 : decode cX11_taught 201 = .ok (.iaload, 1) := op46 (bA_at bd03_dec_X11_3_22 3 rfl rfl)
theorem dX11_taught_202 : decode cX11_taught 202 = .ok (.invokevirtual 349, 3) := op182 (bA_at bd03_dec_X11_3_22 4 rfl rfl) rfl
theorem dX11_taught_205 : decode cX11_taught 205 = .ok (.istore 7, 2) := op54 (bA_at bd03_dec_X11_3_22 5 rfl rfl) rfl
theorem dX11_taught_207 : decode cX11_taught 207 = .ok (.iconst 0, 1) := op3 (bA_at bd03_dec_X11_3_22 6 rfl rfl)
theorem dX11_taught_208 : decode cX11_taught 208 = .ok (.istore 8, 2) := op54 (bA_at bd03_dec_X11_3_22 7 rfl rfl) rfl
theorem dX11_taught_210 : decode cX11_taught 210 = .ok (.iload 8, 2) := op21 (bA_at bd03_dec_X11_3_22 8 rfl rfl) rfl
theorem dX11_taught_212 : decode cX11_taught 212 = .ok (.aload_n 0, 1) := op42 (bA_at bd03_dec_X11_3_22 9 rfl rfl)
theorem dX11_taught_213 : decode cX11_taught 213 = .ok (.getfield 310, 3) := op180 (bA_at bd03_dec_X11_3_22 10 rfl rfl) rfl
theorem dX11_taught_216 : decode cX11_taught 216 = .ok (.if_icmp .ge 35, 3) := op162 (bA_at bd03_dec_X11_3_22 11 rfl rfl) (by decide +kernel)
theorem dX11_taught_219 : decode cX11_taught 219 = .ok (.iload_n 3, 1) := op29 (bA_at bd03_dec_X11_3_22 12 rfl rfl)
theorem dX11_taught_220 : decode cX11_taught 220 = .ok (.iload 7, 2) := op21 (bA_at bd03_dec_X11_3_22 13 rfl rfl) rfl
theorem dX11_taught_222 : decode cX11_taught 222 = .ok (.aload_n 0, 1) := op42 (bA_at bd03_dec_X11_3_22 14 rfl rfl)
theorem dX11_taught_223 : decode cX11_taught 223 = .ok (.getfield 44, 3) := op180 (bA_at bd03_dec_X11_3_22 15 rfl rfl) rfl
theorem dX11_taught_226 : decode cX11_taught 226 = .ok (.iload 8, 2) := op21 (bA_at bd03_dec_X11_3_22 16 rfl rfl) rfl
theorem dX11_taught_228 : decode cX11_taught 228 = .ok (.iaload, 1) := op46 (bA_at bd03_dec_X11_3_22 17 rfl rfl)
theorem dX11_taught_229 : decode cX11_taught 229 = .ok (.invokestatic 101, 3) := op184 (bA_at bd03_dec_X11_3_22 18 rfl rfl) rfl
theorem dX11_taught_232 : decode cX11_taught 232 = .ok (.ifCond .eq 10, 3) := op153 (bA_at bd03_dec_X11_3_22 19 rfl rfl) (by decide +kernel)
theorem dX11_taught_235 : decode cX11_taught 235 = .ok (.iconst 1, 1) := op4 (bA_at bd03_dec_X11_3_22 20 rfl rfl)
theorem dX11_taught_236 : decode cX11_taught 236 = .ok (.iload 8, 2) := op21 (bA_at bd03_dec_X11_3_22 21 rfl rfl) rfl
theorem dX11_taught_238 : decode cX11_taught 238 = .ok (.ishl, 1) := op120 (bA_at bd03_dec_X11_3_22 22 rfl rfl)
theorem dX11_taught_239 : decode cX11_taught 239 = .ok (.goto 4, 3) := op167 (bA_at bd03_dec_X11_3_22 23 rfl rfl) (by decide +kernel)
theorem dX11_taught_242 : decode cX11_taught 242 = .ok (.iconst 0, 1) := op3 (bA_at bd03_dec_X11_3_22 24 rfl rfl)
theorem dX11_taught_243 : decode cX11_taught 243 = .ok (.ior, 1) := op128 (bA_at bd03_dec_X11_3_22 25 rfl rfl)
theorem dX11_taught_244 : decode cX11_taught 244 = .ok (.istore_n 3, 1) := op62 (bA_at bd03_dec_X11_3_22 26 rfl rfl)
theorem dX11_taught_245 : decode cX11_taught 245 = .ok (.iinc 8 1, 3) := op132 (bA_at bd03_dec_X11_3_22 27 rfl rfl) rfl (by decide +kernel)
theorem dX11_taught_248 : decode cX11_taught 248 = .ok (.goto (-38), 3) := op167 (bA_at bd03_dec_X11_3_22 28 rfl rfl) (by decide +kernel)
theorem dX11_taught_251 : decode cX11_taught 251 = .ok (.goto (-178), 3) := op167 (bA_at bd03_dec_X11_3_22 29 rfl rfl) (by decide +kernel)
theorem dX11_taught_254 : decode cX11_taught 254 = .ok (.iload_n 3, 1) := op29 (bA_at bd03_dec_X11_3_22 30 rfl rfl)
theorem dX11_taught_255 : decode cX11_taught 255 = .ok (.ireturn, 1) := op172 (bA_at bd03_dec_X11_3_22 31 rfl rfl)
theorem bd03_dec_X11_3_23 : ([(0, [42]), (1, [3]), (2, [181, 0, 97]), (5, [42]), (6, [27]), (7, [28]), (8, [182, 1, 127]), (11, [153, 0, 34]), (14, [29]), (15, [3]), (16, [42]), (17, [182, 1, 78]), (20, [184, 0, 109]), (23, [153, 0, 22]), (26, [42]), (27, [29]), (28, [182, 1, 130]), (31, [29]), (32, [161, 0, 13]), (35, [21, 4]), (37, [3]), (38, [7]), (39, [184, 0, 109]), (42, [154, 0, 5]), (45, [2]), (46, [172]), (47, [2]), (48, [54, 5]), (50, [3]), (51, [54, 6]), (53, [21, 6]), (55, [4]), (56, [42]), (57, [180, 1, 54]), (60, [120]), (61, [162, 0, 68]), (64, [42]), (65, [21, 6]), (67, [21, 4]), (69, [182, 2, 13]), (72, [4]), (73, [42]), (74, [180, 1, 54]), (77, [120]), (78, [4]), (79, [100]), (80, [160, 0, 7]), (83, [4]), (84, [167, 0, 4]), (87, [3])] : List (Nat × List UInt8)).all (fun x => prB x.2 ((cX11_teach.data.toList.drop 0).drop x.1)) = true := by decide +kernel
theorem dX11_teach_0 : decode cX11_teach 0 = .ok (.aload_n 0, 1) := op42 (bA_at bd03_dec_X11_3_23 0 rfl rfl)
theorem dX11_teach_1 : decode cX11_teach 1 = .ok (.iconst 0, 1) := op3 (bA_at bd03_dec_X11_3_23 1 rfl rfl)
theorem dX11_teach_2 : decode cX11_teach 2 = .ok (.putfield 97, 3) := op181 (bA_at bd03_dec_X11_3_23 2 rfl rfl) rfl
theorem dX11_teach_5 : decode cX11_teach 5 = .ok (.aload_n 0, 1) := op42 (bA_at bd03_dec_X11_3_23 3 rfl rfl)
theorem dX11_teach_6 : decode cX11_teach 6 = .ok (.iload_n 1, 1) := op27 (bA_at bd03_dec_X11_3_23 4 rfl rfl)
theorem dX11_teach_7 : decode cX11_teach 7 = .ok (.iload_n 2, 1) := op28 (bA_at bd03_dec_X11_3_23 5 rfl rfl)
theorem dX11_teach_8 : decode cX11_teach 8 = .ok (.invokevirtual 383, 3) := op182 (bA_at bd03_dec_X11_3_23 6 rfl rfl) rfl
theorem dX11_teach_11 : decode cX11_teach 11 = .ok (.ifCond .eq 34, 3) := op153 (bA_at bd03_dec_X11_3_23 7 rfl rfl) (by decide +kernel)
theorem dX11_teach_14 : decode cX11_teach 14 = .ok (.iload_n 3, 1) := op29 (bA_at bd03_dec_X11_3_23 8 rfl rfl)
theorem dX11_teach_15 : decode cX11_teach 15 = .ok (.iconst 0, 1) := op3 (bA_at bd03_dec_X11_3_23 9 rfl rfl)
theorem dX11_teach_16 : decode cX11_teach 16 = .ok (.aload_n 0, 1) := op42 (bA_at bd03_dec_X11_3_23 10 rfl rfl)
theorem dX11_teach_17 : decode cX11_teach 17 = .ok (.invokevirtual 334, 3) := op182 (bA_at bd03_dec_X11_3_23 11 rfl rfl) rfl
theorem dX11_teach_20 : decode cX11_teach 20 = .ok (.invokestatic 109, 3) := op184 (bA_at bd03_dec_X11_3_23 12 rfl rfl) rfl
theorem dX11_teach_23 : decode cX11_teach 23 = .ok (.ifCond .eq 22, 3) := op153 (bA_at bd03_dec_X11_3_23 13 rfl rfl) (by decide +kernel)
theorem dX11_teach_26 : decode cX11_teach 26 = .ok (.aload_n 0, 1) := op42 (bA_at bd03_dec_X11_3_23 14 rfl rfl)
theorem dX11_teach_27 : decode cX11_teach 27 = .ok (.iload_n 3, 1) := op29 (bA_at bd03_dec_X11_3_23 15 rfl rfl)
theorem dX11_teach_28 : decode cX11_teach 28 = .ok (.invokevirtual 386, 3) := op182 (bA_at bd03_dec_X11_3_23 16 rfl rfl) rfl
theorem dX11_teach_31 : decode cX11_teach 31 = .ok (.iload_n 3, 1) := op29 (bA_at bd03_dec_X11_3_23 17 rfl rfl)
theorem dX11_teach_32 : decode cX11_teach 32 = .ok (.if_icmp .lt 13, 3) := op161 (bA_at bd03_dec_X11_3_23 18 rfl rfl) (by decide +kernel)
theorem dX11_teach_35 : decode cX11_teach 35 = .ok (.iload 4, 2) := op21 (bA_at bd03_dec_X11_3_23 19 rfl rfl) rfl
theorem dX11_teach_37 : decode cX11_teach 37 = .ok (.iconst 0, 1) := op3 (bA_at bd03_dec_X11_3_23 20 rfl rfl)
theorem dX11_teach_38 : decode cX11_teach 38 = .ok (.iconst 4, 1) := op7 (bA_at bd03_dec_X11_3_23 21 rfl rfl)
theorem dX11_teach_39 : decode cX11_teach 39 = .ok (.invokestatic 109, 3) := op184 (bA_at bd03_dec_X11_3_23 22 rfl rfl) rfl
theorem dX11_teach_42 : decode cX11_teach 42 = .ok (.ifCond .ne 5, 3) := op154 (bA_at bd03_dec_X11_3_23 23 rfl rfl) (by decide +kernel)
theorem dX11_teach_45 : decode cX11_teach 45 = .ok (.iconst (-1), 1) := op2 (bA_at bd03_dec_X11_3_23 24 rfl rfl)
theorem dX11_teach_46 : decode cX11_teach 46 = .ok (.ireturn, 1) := op172 (bA_at bd03_dec_X11_3_23 25 rfl rfl)
theorem dX11_teach_47 : decode cX11_teach 47 = .ok (.iconst (-1), 1) := op2 (bA_at bd03_dec_X11_3_23 26 rfl rfl)
theorem dX11_teach_48 : decode cX11_teach 48 = .ok (.istore 5, 2) := op54 (bA_at bd03_dec_X11_3_23 27 rfl rfl) rfl
theorem dX11_teach_50 : decode cX11_teach 50 = .ok (.iconst 0, 1) := op3 (bA_at bd03_dec_X11_3_23 28 rfl rfl)
theorem dX11_teach_51 : decode cX11_teach 51 = .ok (.istore 6, 2) := op54 (bA_at bd03_dec_X11_3_23 29 rfl rfl) rfl
theorem dX11_teach_53 : decode cX11_teach 53 = .ok (.iload 6, 2) := op21 (bA_at bd03_dec_X11_3_23 30 rfl rfl) rfl
theorem dX11_teach_55 : decode cX11_teach 55 = .ok (.iconst 1, 1) := op4 (bA_at bd03_dec_X11_3_23 31 rfl rfl)
theorem dX11_teach_56 : decode cX11_teach 56 = .ok (.aload_n 0, 1) := op42 (bA_at bd03_dec_X11_3_23 32 rfl rfl)
theorem dX11_teach_57 : decode cX11_teach 57 = .ok (.getfield 310, 3) := op180 (bA_at bd03_dec_X11_3_23 33 rfl rfl) rfl
theorem dX11_teach_60 : decode cX11_teach 60 = .ok (.ishl, 1) := op120 (bA_at bd03_dec_X11_3_23 34 rfl rfl)
theorem dX11_teach_61 : decode cX11_teach 61 = .ok (.if_icmp .ge 68, 3) := op162 (bA_at bd03_dec_X11_3_23 35 rfl rfl) (by decide +kernel)
theorem dX11_teach_64 : decode cX11_teach 64 = .ok (.aload_n 0, 1) := op42 (bA_at bd03_dec_X11_3_23 36 rfl rfl)
theorem dX11_teach_65 : decode cX11_teach 65 = .ok (.iload 6, 2) := op21 (bA_at bd03_dec_X11_3_23 37 rfl rfl) rfl
theorem dX11_teach_67 : decode cX11_teach 67 = .ok (.iload 4, 2) := op21 (bA_at bd03_dec_X11_3_23 38 rfl rfl) rfl
theorem dX11_teach_69 : decode cX11_teach 69 = .ok (.invokevirtual 525, 3) := op182 (bA_at bd03_dec_X11_3_23 39 rfl rfl) rfl
theorem dX11_teach_72 : decode cX11_teach 72 = .ok (.iconst 1, 1) := op4 (bA_at bd03_dec_X11_3_23 40 rfl rfl)
theorem dX11_teach_73 : decode cX11_teach 73 = .ok (.aload_n 0, 1) := op42 (bA_at bd03_dec_X11_3_23 41 rfl rfl)
theorem dX11_teach_74 : decode cX11_teach 74 = .ok (.getfield 310, 3) := op180 (bA_at bd03_dec_X11_3_23 42 rfl rfl) rfl
theorem dX11_teach_77 : decode cX11_teach 77 = .ok (.ishl, 1) := op120 (bA_at bd03_dec_X11_3_23 43 rfl rfl)
theorem dX11_teach_78 : decode cX11_teach 78 = .ok (.iconst 1, 1) := op4 (bA_at bd03_dec_X11_3_23 44 rfl rfl)
theorem dX11_teach_79 : decode cX11_teach 79 = .ok (.isub, 1) := op100 (bA_at bd03_dec_X11_3_23 45 rfl rfl)
theorem dX11_teach_80 : decode cX11_teach 80 = .ok (.if_icmp .ne 7, 3) := op160 (bA_at bd03_dec_X11_3_23 46 rfl rfl) (by decide +kernel)
theorem dX11_teach_83 : decode cX11_teach 83 = .ok (.iconst 1, 1) := op4 (bA_at bd03_dec_X11_3_23 47 rfl rfl)
theorem dX11_teach_84 : decode cX11_teach 84 = .ok (.goto 4, 3) := op167 (bA_at bd03_dec_X11_3_23 48 rfl rfl) (by decide +kernel)
theorem dX11_teach_87 : decode cX11_teach 87 = .ok (.iconst 0, 1) := op3 (bA_at bd03_dec_X11_3_23 49 rfl rfl)
theorem bd03_dec_X11_3_24 : ([(0, [54, 7]), (2, [21, 7]), (4, [153, 0, 27]), (7, [21, 5]), (9, [2]), (10, [159, 0, 13]), (13, [21, 6]), (15, [184, 1, 173]), (18, [21, 5]), (20, [162, 0, 11]), (23, [21, 6]), (25, [184, 1, 173]), (28, [167, 0, 5]), (31, [21, 5]), (33, [54, 5]), (35, [132, 6, 1]), (38, [167, 255, 183]), (41, [21, 5]), (43, [172])] : List (Nat × List UInt8)).all (fun x => prB x.2 ((cX11_teach.data.toList.drop 88).drop x.1)) = true := by decide +kernel
theorem dX11_teach_88 : decode cX11_teach 88 = .ok (.istore 7, 2) := op54 (bA_at bd03_dec_X11_3_24 0 rfl rfl) rfl
theorem dX11_teach_90 : decode cX11_teach 90 = .ok (.iload 7, 2) := op21 (bA_at bd03_dec_X11_3_24 1 rfl rfl) rfl
theorem dX11_teach_92 : decode cX11_teach 92 = .ok (.ifCond .eq 27, 3) := op153 (bA_at bd03_dec_X11_3_24 2 rfl rfl) (by decide +kernel)
theorem dX11_teach_95 : decode cX11_teach 95 = .ok (.iload 5, 2) := op21 (bA_at bd03_dec_X11_3_24 3 rfl rfl) rfl
theorem dX11_teach_97 : decode cX11_teach 97 = .ok (.iconst (-1), 1) := op2 (bA_at bd03_dec_X11_3_24 4 rfl rfl)
theorem dX11_teach_98 : decode cX11_teach 98 = .ok (.if_icmp .eq 13, 3) := op159 (bA_at bd03_dec_X11_3_24 5 rfl rfl) (by decide +kernel)
theorem dX11_teach_101 : decode cX11_teach 101 = .ok (.iload 6, 2) := op21 (bA_at bd03_dec_X11_3_24 6 rfl rfl) rfl
theorem dX11_teach_103 : decode cX11_teach 103 = .ok (.invokestatic 429, 3) := op184 (bA_at bd03_dec_X11_3_24 7 rfl rfl) rfl
theorem dX11_teach_106 : decode cX11_teach 106 = .ok (.iload 5, 2) := op21 (bA_at bd03_dec_X11_3_24 8 rfl rfl) rfl
theorem dX11_teach_108 : decode cX11_teach 108 = .ok (.if_icmp .ge 11, 3) := op162 (bA_at bd03_dec_X11_3_24 9 rfl rfl) (by decide +kernel)
theorem dX11_teach_111 : decode cX11_teach 111 = .ok (.iload 6, 2) := op21 (bA_at bd03_dec_X11_3_24 10 rfl rfl) rfl
theorem dX11_teach_113 : decode cX11_teach 113 = .ok (.invokestatic 429, 3) := op184 (bA_at bd03_dec_X11_3_24 11 rfl rfl) rfl
theorem dX11_teach_116 : decode cX11_teach 116 = .ok (.goto 5, 3) := op167 (bA_at bd03_dec_X11_3_24 12 rfl rfl) (by decide +kernel)
theorem dX11_teach_119 : decode cX11_teach 119 = .ok (.iload 5, 2) := op21 (bA_at bd03_dec_X11_3_24 13 rfl rfl) rfl
theorem dX11_teach_121 : decode cX11_teach 121 = .ok (.istore 5, 2) := op54 (bA_at bd03_dec_X11_3_24 14 rfl rfl) rfl
theorem dX11_teach_123 : decode cX11_teach 123 = .ok (.iinc 6 1, 3) := op132 (bA_at bd03_dec_X11_3_24 15 rfl rfl) rfl (by decide +kernel)
theorem dX11_teach_126 : decode cX11_teach 126 = .ok (.goto (-73), 3) := op167 (bA_at bd03_dec_X11_3_24 16 rfl rfl) (by decide +kernel)
theorem dX11_teach_129 : decode cX11_teach 129 = .ok (.iload 5, 2) := op21 (bA_at bd03_dec_X11_3_24 17 rfl rfl) rfl
theorem dX11_teach_131 : decode cX11_teach 131 = .ok (.ireturn, 1) := op172 (bA_at bd03_dec_X11_3_24 18 rfl rfl)
theorem bd03_dec_X11_3_25 : ([(0, [42]), (1, [3]), (2, [181, 0, 97]), (5, [27]), (6, [3]), (7, [6]), (8, [184, 0, 109]), (11, [153, 0, 12]), (14, [42]), (15, [180, 0, 23]), (18, [27]), (19, [46]), (20, [167, 0, 5]), (23, [16, 254]), (25, [172])] : List (Nat × List UInt8)).all (fun x => prB x.2 ((cX11_count.data.toList.drop 0).drop x.1)) = true := by decide +kernel
theorem dX11_count_0 : decode cX11_count 0 = .ok (.aload_n 0, 1) := op42 (bA_at bd03_dec_X11_3_25 0 rfl rfl)
theorem dX11_count_1 : decode cX11_count 1 = .ok (.iconst 0, 1) := op3 (bA_at bd03_dec_X11_3_25 1 rfl rfl)
theorem dX11_count_2 : decode cX11_count 2 = .ok (.putfield 97, 3) := op181 (bA_at bd03_dec_X11_3_25 2 rfl rfl) rfl
theorem dX11_count_5 : decode cX11_count 5 = .ok (.iload_n 1, 1) := op27 (bA_at bd03_dec_X11_3_25 3 rfl rfl)
theorem dX11_count_6 : decode cX11_count 6 = .ok (.iconst 0, 1) := op3 (bA_at bd03_dec_X11_3_25 4 rfl rfl)
theorem dX11_count_7 : decode cX11_count 7 = .ok (.iconst 3, 1) := op6 (bA_at bd03_dec_X11_3_25 5 rfl rfl)
theorem dX11_count_8 : decode cX11_count 8 = .ok (.invokestatic 109, 3) := op184 (bA_at bd03_dec_X11_3_25 6 rfl rfl) rfl
theorem dX11_count_11 : decode cX11_count 11 = .ok (.ifCond .eq 12, 3) := op153 (bA_at bd03_dec_X11_3_25 7 rfl rfl) (by decide +kernel)
theorem dX11_count_14 : decode cX11_count 14 = .ok (.aload_n 0, 1) := op42 (bA_at bd03_dec_X11_3_25 8 rfl rfl)
theorem dX11_count_15 : decode cX11_count 15 = .ok (.getfield 23, 3) := op180 (bA_at bd03_dec_X11_3_25 9 rfl rfl) rfl
theorem dX11_count_18 : decode cX11_count 18 = .ok (.iload_n 1, 1) := op27 (bA_at bd03_dec_X11_3_25 10 rfl rfl)
theorem dX11_count_19 : decode cX11_count 19 = .ok (.iaload, 1) := op46 (bA_at bd03_dec_X11_3_25 11 rfl rfl)
theorem dX11_count_20 : decode cX11_count 20 = .ok (.goto 5, 3) := op167 (bA_at bd03_dec_X11_3_25 12 rfl rfl) (by decide +kernel)
theorem dX11_count_23 : decode cX11_count 23 = .ok (.bipush (-2), 2) := op16 (bA_at bd03_dec_X11_3_25 13 rfl rfl) (by decide +kernel)
theorem dX11_count_25 : decode cX11_count 25 = .ok (.ireturn, 1) := op172 (bA_at bd03_dec_X11_3_25 14 rfl rfl)
theorem bd03_dec_X11_3_26 : ([(0, [42]), (1, [3]), (2, [181, 0, 97]), (5, [27]), (6, [3]), (7, [5]), (8, [184, 0, 109]), (11, [154, 0, 5]), (14, [3]), (15, [172]), (16, [42]), (17, [3]), (18, [27]), (19, [4]), (20, [96]), (21, [182, 2, 16]), (24, [42]), (25, [180, 0, 94]), (28, [27]), (29, [4]), (30, [84]), (31, [4]), (32, [172])] : List (Nat × List UInt8)).all (fun x => prB x.2 ((cX11_image.data.toList.drop 0).drop x.1)) = true := by decide +kernel
theorem dX11_image_0 : decode cX11_image 0 = .ok (.aload_n 0, 1) := op42 (bA_at bd03_dec_X11_3_26 0 rfl rfl)
theorem dX11_image_1 : decode cX11_image 1 = .ok (.iconst 0, 1) := op3 (bA_at bd03_dec_X11_3_26 1 rfl rfl)
theorem dX11_image_2 : decode cX11_image 2 = .ok (.putfield 97, 3) := op181 (bA_at bd03_dec_X11_3_26 2 rfl rfl) rfl
theorem dX11_image_5 : decode cX11_image 5 = .ok (.iload_n 1, 1) := op27 (bA_at bd03_dec_X11_3_26 3 rfl rfl)
theorem dX11_image_6 : decode cX11_image 6 = .ok (.iconst 0, 1) := op3 (bA_at bd03_dec_X11_3_26 4 rfl rfl)
theorem dX11_image_7 : decode cX11_image 7 = .ok (.iconst 2, 1) := op5 (bA_at bd03_dec_X11_3_26 5 rfl rfl)
theorem dX11_image_8 : decode cX11_image 8 = .ok (.invokestatic 109, 3) := op184 (bA_at bd03_dec_X11_3_26 6 rfl rfl) rfl
theorem dX11_image_11 : decode cX11_image 11 = .ok (.ifCond .ne 5, 3) := op154 (bA_at bd03_dec_X11_3_26 7 rfl rfl) (by decide +kernel)
theorem dX11_image_14 : decode cX11_image 14 = .ok (.iconst 0, 1) := op3 (bA_at bd03_dec_X11_3_26 8 rfl rfl)
theorem dX11_image_15 : decode cX11_image 15 = .ok (.ireturn, 1) := op172 (bA_at bd03_dec_X11_3_26 9 rfl rfl)
theorem dX11_image_16 : decode cX11_image 16 = .ok (.aload_n 0, 1) := op42 (bA_at bd03_dec_X11_3_26 10 rfl rfl)
theorem dX11_image_17 : decode cX11_image 17 = .ok (.iconst 0, 1) := op3 (bA_at bd03_dec_X11_3_26 11 rfl rfl)
theorem dX11_image_18 : decode cX11_image 18 = .ok (.iload_n 1, 1) := op27 (bA_at bd03_dec_X11_3_26 12 rfl rfl)
theorem dX11_image_19 : decode cX11_image 19 = .ok (.iconst 1, 1) := op4 (bA_at bd03_dec_X11_3_26 13 rfl rfl)
theorem dX11_image_20 : decode cX11_image 20 = .ok (.iadd, 1) := op96 (bA_at bd03_dec_X11_3_26 14 rfl rfl)
theorem dX11_image_21 : decode cX11_image 21 = .ok (.invokevirtual 528, 3) := op182 (bA_at bd03_dec_X11_3_26 15 rfl rfl) rfl
theorem dX11_image_24 : decode cX11_image 24 = .ok (.aload_n 0, 1) := op42 (bA_at bd03_dec_X11_3_26 16 rfl rfl)
theorem dX11_image_25 : decode cX11_image 25 = .ok (.getfield 94, 3) := op180 (bA_at bd03_dec_X11_3_26 17 rfl rfl) rfl
theorem dX11_image_28 : decode cX11_image 28 = .ok (.iload_n 1, 1) := op27 (bA_at bd03_dec_X11_3_26 18 rfl rfl)
theorem dX11_image_29 : decode cX11_image 29 = .ok (.iconst 1, 1) := op4 (bA_at bd03_dec_X11_3_26 19 rfl rfl)
theorem dX11_image_30 : decode cX11_image 30 = .ok (.bastore, 1) := op84 (bA_at bd03_dec_X11_3_26 20 rfl rfl)
theorem dX11_image_31 : decode cX11_image 31 = .ok (.iconst 1, 1) := op4 (bA_at bd03_dec_X11_3_26 21 rfl rfl)
theorem dX11_image_32 : decode cX11_image 32 = .ok (.ireturn, 1) := op172 (bA_at bd03_dec_X11_3_26 22 rfl rfl)
theorem bd03_dec_X11_3_27 : ([(0, [42]), (1, [3]), (2, [181, 0, 97]), (5, [27]), (6, [3]), (7, [5]), (8, [184, 0, 109]), (11, [153, 0, 12]), (14, [42]), (15, [180, 0, 94]), (18, [27]), (19, [51]), (20, [154, 0, 5]), (23, [3]), (24, [172]), (25, [42]), (26, [27]), (27, [4]), (28, [96]), (29, [3]), (30, [182, 2, 16]), (33, [4]), (34, [172])] : List (Nat × List UInt8)).all (fun x => prB x.2 ((cX11_again.data.toList.drop 0).drop x.1)) = true := by decide +kernel
theorem dX11_again_0 : decode cX11_again 0 = .ok (.aload_n 0, 1) := op42 (bA_at bd03_dec_X11_3_27 0 rfl rfl)
theorem dX11_again_1 : decode cX11_again 1 = .ok (.iconst 0, 1) := op3 (bA_at bd03_dec_X11_3_27 1 rfl rfl)
theorem dX11_again_2 : decode cX11_again 2 = .ok (.putfield 97, 3) := op181 (bA_at bd03_dec_X11_3_27 2 rfl rfl) rfl
theorem dX11_again_5 : decode cX11_again 5 = .ok (.iload_n 1, 1) := op27 (bA_at bd03_dec_X11_3_27 3 rfl rfl)
theorem dX11_again_6 : decode cX11_again 6 = .ok (.iconst 0, 1) := op3 (bA_at bd03_dec_X11_3_27 4 rfl rfl)
theorem dX11_again_7 : decode cX11_again 7 = .ok (.iconst 2, 1) := op5 (bA_at bd03_dec_X11_3_27 5 rfl rfl)
theorem dX11_again_8 : decode cX11_again 8 = .ok (.invokestatic 109, 3) := op184 (bA_at bd03_dec_X11_3_27 6 rfl rfl) rfl
theorem dX11_again_11 : decode cX11_again 11 = .ok (.ifCond .eq 12, 3) := op153 (bA_at bd03_dec_X11_3_27 7 rfl rfl) (by decide +kernel)
theorem dX11_again_14 : decode cX11_again 14 = .ok (.aload_n 0, 1) := op42 (bA_at bd03_dec_X11_3_27 8 rfl rfl)
theorem dX11_again_15 : decode cX11_again 15 = .ok (.getfield 94, 3) := op180 (bA_at bd03_dec_X11_3_27 9 rfl rfl) rfl
theorem dX11_again_18 : decode cX11_again 18 = .ok (.iload_n 1, 1) := op27 (bA_at bd03_dec_X11_3_27 10 rfl rfl)
theorem dX11_again_19 : decode cX11_again 19 = .ok (.baload, 1) := op51 (bA_at bd03_dec_X11_3_27 11 rfl rfl)
theorem dX11_again_20 : decode cX11_again 20 = .ok (.ifCond .ne 5, 3) := op154 (bA_at bd03_dec_X11_3_27 12 rfl rfl) (by decide +kernel)
theorem dX11_again_23 : decode cX11_again 23 = .ok (.iconst 0, 1) := op3 (bA_at bd03_dec_X11_3_27 13 rfl rfl)
theorem dX11_again_24 : decode cX11_again 24 = .ok (.ireturn, 1) := op172 (bA_at bd03_dec_X11_3_27 14 rfl rfl)
theorem dX11_again_25 : decode cX11_again 25 = .ok (.aload_n 0, 1) := op42 (bA_at bd03_dec_X11_3_27 15 rfl rfl)
theorem dX11_again_26 : decode cX11_again 26 = .ok (.iload_n 1, 1) := op27 (bA_at bd03_dec_X11_3_27 16 rfl rfl)
theorem dX11_again_27 : decode cX11_again 27 = .ok (.iconst 1, 1) := op4 (bA_at bd03_dec_X11_3_27 17 rfl rfl)
theorem dX11_again_28 : decode cX11_again 28 = .ok (.iadd, 1) := op96 (bA_at bd03_dec_X11_3_27 18 rfl rfl)
theorem dX11_again_29 : decode cX11_again 29 = .ok (.iconst 0, 1) := op3 (bA_at bd03_dec_X11_3_27 19 rfl rfl)
theorem dX11_again_30 : decode cX11_again 30 = .ok (.invokevirtual 528, 3) := op182 (bA_at bd03_dec_X11_3_27 20 rfl rfl) rfl
theorem dX11_again_33 : decode cX11_again 33 = .ok (.iconst 1, 1) := op4 (bA_at bd03_dec_X11_3_27 21 rfl rfl)
theorem dX11_again_34 : decode cX11_again 34 = .ok (.ireturn, 1) := op172 (bA_at bd03_dec_X11_3_27 22 rfl rfl)

