section
theorem bd03_dec_X11_3_0 : ([(0, [21, 4]), (2, [153, 0, 13]), (5, [42]), (6, [27]), (7, [28]), (8, [29]), (9, [182, 1, 255]), (12, [167, 0, 22]), (15, [42]), (16, [180, 0, 88]), (19, [16, 61]), (21, [27]), (22, [104]), (23, [28]), (24, [96]), (25, [51]), (26, [153, 0, 7]), (29, [4]), (30, [167, 0, 4]), (33, [3]), (34, [172])] : List (Nat × List UInt8)).all (fun x => prB x.2 ((cX11_trade.data.toList.drop 99).drop x.1)) = true := by decide +kernel
theorem dX11_trade_99 : decode cX11_trade 99 = .ok (.iload 4, 2) := op21 (bA_at bd03_dec_X11_3_0 0 rfl rfl) rfl
theorem dX11_trade_101 : decode cX11_trade 101 = .ok (.ifCond .eq 13, 3) := op153 (bA_at bd03_dec_X11_3_0 1 rfl rfl) (by decide +kernel)
theorem dX11_trade_104 : decode cX11_trade 104 = .ok (.aload_n 0, 1) := op42 (bA_at bd03_dec_X11_3_0 2 rfl rfl)
theorem dX11_trade_105 : decode cX11_trade 105 = .ok (.iload_n 1, 1) := op27 (bA_at bd03_dec_X11_3_0 3 rfl rfl)
theorem dX11_trade_106 : decode cX11_trade 106 = .ok (.iload_n 2, 1) := op28 (bA_at bd03_dec_X11_3_0 4 rfl rfl)
theorem dX11_trade_107 : decode cX11_trade 107 = .ok (.iload_n 3, 1) := op29 (bA_at bd03_dec_X11_3_0 5 rfl rfl)
theorem dX11_trade_108 : decode cX11_trade 108 = .ok (.invokevirtual 511, 3) := op182 (bA_at bd03_dec_X11_3_0 6 rfl rfl) rfl
theorem dX11_trade_111 : decode cX11_trade 111 = .ok (.goto 22, 3) := op167 (bA_at bd03_dec_X11_3_0 7 rfl rfl) (by decide +kernel)
theorem dX11_trade_114 : decode cX11_trade 114 = .ok (.aload_n 0, 1) := op42 (bA_at bd03_dec_X11_3_0 8 rfl rfl)
theorem dX11_trade_115 : decode cX11_trade 115 = .ok (.getfield 88, 3) := op180 (bA_at bd03_dec_X11_3_0 9 rfl rfl) rfl
theorem dX11_trade_118 : decode cX11_trade 118 = .ok (.bipush 61, 2) := op16 (bA_at bd03_dec_X11_3_0 10 rfl rfl) (by decide +kernel)
theorem dX11_trade_120 : decode cX11_trade 120 = .ok (.iload_n 1, 1) := op27 (bA_at bd03_dec_X11_3_0 11 rfl rfl)
theorem dX11_trade_121 : decode cX11_trade 121 = .ok (.imul, 1) := op104 (bA_at bd03_dec_X11_3_0 12 rfl rfl)
theorem dX11_trade_122 : decode cX11_trade 122 = .ok (.iload_n 2, 1) := op28 (bA_at bd03_dec_X11_3_0 13 rfl rfl)
theorem dX11_trade_123 : decode cX11_trade 123 = .ok (.iadd, 1) := op96 (bA_at bd03_dec_X11_3_0 14 rfl rfl)
theorem dX11_trade_124 : decode cX11_trade 124 = .ok (.baload, 1) := op51 (bA_at bd03_dec_X11_3_0 15 rfl rfl)
theorem dX11_trade_125 : decode cX11_trade 125 = .ok (.ifCond .eq 7, 3) := op153 (bA_at bd03_dec_X11_3_0 16 rfl rfl) (by decide +kernel)
theorem dX11_trade_128 : decode cX11_trade 128 = .ok (.iconst 1, 1) := op4 (bA_at bd03_dec_X11_3_0 17 rfl rfl)
theorem dX11_trade_129 : decode cX11_trade 129 = .ok (.goto 4, 3) := op167 (bA_at bd03_dec_X11_3_0 18 rfl rfl) (by decide +kernel)
theorem dX11_trade_132 : decode cX11_trade 132 = .ok (.iconst 0, 1) := op3 (bA_at bd03_dec_X11_3_0 19 rfl rfl)
theorem dX11_trade_133 : decode cX11_trade 133 = .ok (.ireturn, 1) := op172 (bA_at bd03_dec_X11_3_0 20 rfl rfl)
theorem bd03_dec_X11_3_1 : ([(0, [42]), (1, [3]), (2, [181, 0, 97]), (5, [29]), (6, [3]), (7, [5]), (8, [184, 0, 109]), (11, [153, 0, 12]), (14, [42]), (15, [27]), (16, [28]), (17, [182, 1, 127]), (20, [154, 0, 7]), (23, [20, 1, 247]), (26, [173]), (27, [42]), (28, [42]), (29, [182, 1, 78]), (32, [182, 1, 130]), (35, [87]), (36, [29]), (37, [5]), (38, [160, 0, 19]), (41, [42]), (42, [180, 1, 90]), (45, [16, 10]), (47, [42]), (48, [16, 6]), (50, [182, 1, 47]), (53, [100]), (54, [104]), (55, [133]), (56, [173]), (57, [42]), (58, [180, 1, 90]), (61, [16, 18]), (63, [164, 0, 7]), (66, [20, 1, 247]), (69, [173]), (70, [42]), (71, [16, 6]), (73, [182, 1, 47]), (76, [153, 0, 14]), (79, [42]), (80, [16, 6]), (82, [182, 1, 47]), (85, [16, 10]), (87, [160, 0, 8]), (90, [16, 10]), (92, [167, 0, 33])] : List (Nat × List UInt8)).all (fun x => prB x.2 ((cX11_odds.data.toList.drop 0).drop x.1)) = true := by decide +kernel
theorem dX11_odds_0 : decode cX11_odds 0 = .ok (.aload_n 0, 1) := op42 (bA_at bd03_dec_X11_3_1 0 rfl rfl)
theorem dX11_odds_1 : decode cX11_odds 1 = .ok (.iconst 0, 1) := op3 (bA_at bd03_dec_X11_3_1 1 rfl rfl)
theorem dX11_odds_2 : decode cX11_odds 2 = .ok (.putfield 97, 3) := op181 (bA_at bd03_dec_X11_3_1 2 rfl rfl) rfl
theorem dX11_odds_5 : decode cX11_odds 5 = .ok (.iload_n 3, 1) := op29 (bA_at bd03_dec_X11_3_1 3 rfl rfl)
theorem dX11_odds_6 : decode cX11_odds 6 = .ok (.iconst 0, 1) := op3 (bA_at bd03_dec_X11_3_1 4 rfl rfl)
theorem dX11_odds_7 : decode cX11_odds 7 = .ok (.iconst 2, 1) := op5 (bA_at bd03_dec_X11_3_1 5 rfl rfl)
theorem dX11_odds_8 : decode cX11_odds 8 = .ok (.invokestatic 109, 3) := op184 (bA_at bd03_dec_X11_3_1 6 rfl rfl) rfl
theorem dX11_odds_11 : decode cX11_odds 11 = .ok (.ifCond .eq 12, 3) := op153 (bA_at bd03_dec_X11_3_1 7 rfl rfl) (by decide +kernel)
theorem dX11_odds_14 : decode cX11_odds 14 = .ok (.aload_n 0, 1) := op42 (bA_at bd03_dec_X11_3_1 8 rfl rfl)
theorem dX11_odds_15 : decode cX11_odds 15 = .ok (.iload_n 1, 1) := op27 (bA_at bd03_dec_X11_3_1 9 rfl rfl)
theorem dX11_odds_16 : decode cX11_odds 16 = .ok (.iload_n 2, 1) := op28 (bA_at bd03_dec_X11_3_1 10 rfl rfl)
theorem dX11_odds_17 : decode cX11_odds 17 = .ok (.invokevirtual 383, 3) := op182 (bA_at bd03_dec_X11_3_1 11 rfl rfl) rfl
theorem dX11_odds_20 : decode cX11_odds 20 = .ok (.ifCond .ne 7, 3) := op154 (bA_at bd03_dec_X11_3_1 12 rfl rfl) (by decide +kernel)
theorem dX11_odds_23 : decode cX11_odds 23 = .ok (.ldc2_w 503, 3) := op20 (bA_at bd03_dec_X11_3_1 13 rfl rfl) rfl
theorem dX11_odds_26 : decode cX11_odds 26 = .ok (.lreturn, 1) := op173 (bA_at bd03_dec_X11_3_1 14 rfl rfl)
theorem dX11_odds_27 : decode cX11_odds 27 = .ok (.aload_n 0, 1) := op42 (bA_at bd03_dec_X11_3_1 15 rfl rfl)
theorem dX11_odds_28 : decode cX11_odds 28 = .ok (.aload_n 0, 1) := op42 (bA_at bd03_dec_X11_3_1 16 rfl rfl)
theorem dX11_odds_29 : decode cX11_odds 29 = .ok (.invokevirtual 334, 3) := op182 (bA_at bd03_dec_X11_3_1 17 rfl rfl) rfl
theorem dX11_odds_32 : decode cX11_odds 32 = .ok (.invokevirtual 386, 3) := op182 (bA_at bd03_dec_X11_3_1 18 rfl rfl) rfl
theorem dX11_odds_35 : decode cX11_odds 35 = .ok (.pop, 1) := op87 (bA_at bd03_dec_X11_3_1 19 rfl rfl)
theorem dX11_odds_36 : decode cX11_odds 36 = .ok (.iload_n 3, 1) := op29 (bA_at bd03_dec_X11_3_1 20 rfl rfl)
theorem dX11_odds_37 : decode cX11_odds 37 = .ok (.iconst 2, 1) := op5 (bA_at bd03_dec_X11_3_1 21 rfl rfl)
theorem dX11_odds_38 : decode cX11_odds 38 = .ok (.if_icmp .ne 19, 3) := op160 (bA_at bd03_dec_X11_3_1 22 rfl rfl) (by decide +kernel)
theorem dX11_odds_41 : decode cX11_odds 41 = .ok (.aload_n 0, 1) := op42 (bA_at bd03_dec_X11_3_1 23 rfl rfl)
theorem dX11_odds_42 : decode cX11_odds 42 = .ok (.getfield 346, 3) := op180 (bA_at bd03_dec_X11_3_1 24 rfl rfl) rfl
theorem dX11_odds_45 : decode cX11_odds 45 = .ok (.bipush 10, 2) := op16 (bA_at bd03_dec_X11_3_1 25 rfl rfl) (by decide +kernel)
theorem dX11_odds_47 : decode cX11_odds 47 = .ok (.aload_n 0, 1) := op42 (bA_at bd03_dec_X11_3_1 26 rfl rfl)
theorem dX11_odds_48 : decode cX11_odds 48 = .ok (.bipush 6, 2) := op16 (bA_at bd03_dec_X11_3_1 27 rfl rfl) (by decide +kernel)
theorem dX11_odds_50 : decode cX11_odds 50 = .ok (.invokevirtual 303, 3) := op182 (bA_at bd03_dec_X11_3_1 28 rfl rfl) rfl
theorem dX11_odds_53 : decode cX11_odds 53 = .ok (.isub, 1) := op100 (bA_at bd03_dec_X11_3_1 29 rfl rfl)
theorem dX11_odds_54 : decode cX11_odds 54 = .ok (.imul, 1) := op104 (bA_at bd03_dec_X11_3_1 30 rfl rfl)
theorem dX11_odds_55 : decode cX11_odds 55 = .ok (.i2l, 1) := op133 (bA_at bd03_dec_X11_3_1 31 rfl rfl)
theorem dX11_odds_56 : decode cX11_odds 56 = .ok (.lreturn, 1) := op173 (bA_at bd03_dec_X11_3_1 32 rfl rfl)
theorem dX11_odds_57 : decode cX11_odds 57 = .ok (.aload_n 0, 1) := op42 (bA_at bd03_dec_X11_3_1 33 rfl rfl)
theorem dX11_odds_58 : decode cX11_odds 58 = .ok (.getfield 346, 3) := op180 (bA_at bd03_dec_X11_3_1 34 rfl rfl) rfl
theorem dX11_odds_61 : decode cX11_odds 61 = .ok (.bipush 18, 2) := op16 (bA_at bd03_dec_X11_3_1 35 rfl rfl) (by decide +kernel)
theorem dX11_odds_63 : decode cX11_odds 63 = .ok (.if_icmp .le 7, 3) := op164 (bA_at bd03_dec_X11_3_1 36 rfl rfl) (by decide +kernel)
theorem dX11_odds_66 : decode cX11_odds 66 = .ok (.ldc2_w 503, 3) := op20 (bA_at bd03_dec_X11_3_1 37 rfl rfl) rfl
theorem dX11_odds_69 : decode cX11_odds 69 = .ok (.lreturn, 1) := op173 (bA_at bd03_dec_X11_3_1 38 rfl rfl)
theorem dX11_odds_70 : decode cX11_odds 70 = .ok (.aload_n 0, 1) := op42 (bA_at bd03_dec_X11_3_1 39 rfl rfl)
theorem dX11_odds_71 : decode cX11_odds 71 = .ok (.bipush 6, 2) := op16 (bA_at bd03_dec_X11_3_1 40 rfl rfl) (by decide +kernel)
theorem dX11_odds_73 : decode cX11_odds 73 = .ok (.invokevirtual 303, 3) := op182 (bA_at bd03_dec_X11_3_1 41 rfl rfl) rfl
theorem dX11_odds_76 : decode cX11_odds 76 = .ok (.ifCond .eq 14, 3) := op153 (bA_at bd03_dec_X11_3_1 42 rfl rfl) (by decide +kernel)
theorem dX11_odds_79 : decode cX11_odds 79 = .ok (.aload_n 0, 1) := op42 (bA_at bd03_dec_X11_3_1 43 rfl rfl)
theorem dX11_odds_80 : decode cX11_odds 80 = .ok (.bipush 6, 2) := op16 (bA_at bd03_dec_X11_3_1 44 rfl rfl) (by decide +kernel)
theorem dX11_odds_82 : decode cX11_odds 82 = .ok (.invokevirtual 303, 3) := op182 (bA_at bd03_dec_X11_3_1 45 rfl rfl) rfl
theorem dX11_odds_85 : decode cX11_odds 85 = .ok (.bipush 10, 2) := op16 (bA_at bd03_dec_X11_3_1 46 rfl rfl) (by decide +kernel)
theorem dX11_odds_87 : decode cX11_odds 87 = .ok (.if_icmp .ne 8, 3) := op160 (bA_at bd03_dec_X11_3_1 47 rfl rfl) (by decide +kernel)
theorem dX11_odds_90 : decode cX11_odds 90 = .ok (.bipush 10, 2) := op16 (bA_at bd03_dec_X11_3_1 48 rfl rfl) (by decide +kernel)
theorem dX11_odds_92 : decode cX11_odds 92 = .ok (.goto 33, 3) := op167 (bA_at bd03_dec_X11_3_1 49 rfl rfl) (by decide +kernel)
theorem bd03_dec_X11_3_2 : ([(0, [42]), (1, [16, 6]), (3, [182, 1, 47]), (6, [8]), (7, [160, 0, 7]), (10, [8]), (11, [167, 0, 19]), (14, [42]), (15, [16, 6]), (17, [182, 1, 47]), (20, [5]), (21, [112]), (22, [154, 0, 7]), (25, [5]), (26, [167, 0, 4]), (29, [4]), (30, [54, 4]), (32, [10]), (33, [55, 5]), (35, [10]), (36, [55, 7]), (38, [3]), (39, [54, 9]), (41, [21, 9]), (43, [42]), (44, [180, 1, 90]), (47, [162, 0, 35]), (50, [22, 5]), (52, [42]), (53, [16, 6]), (55, [182, 1, 47]), (58, [21, 4]), (60, [108]), (61, [133]), (62, [105]), (63, [55, 5]), (65, [22, 7]), (67, [16, 10]), (69, [21, 4]), (71, [108]), (72, [133]), (73, [105]), (74, [55, 7]), (76, [132, 9, 1]), (79, [167, 255, 218]), (82, [29]), (83, [154, 0, 8]), (86, [22, 5]), (88, [167, 0, 5]), (91, [22, 7])] : List (Nat × List UInt8)).all (fun x => prB x.2 ((cX11_odds.data.toList.drop 95).drop x.1)) = true := by decide +kernel
theorem dX11_odds_95 : decode cX11_odds 95 = .ok (.aload_n 0, 1) := op42 (bA_at bd03_dec_X11_3_2 0 rfl rfl)
theorem dX11_odds_96 : decode cX11_odds 96 = .ok (.bipush 6, 2) := op16 (bA_at bd03_dec_X11_3_2 1 rfl rfl) (by decide +kernel)
theorem dX11_odds_98 : decode cX11_odds 98 = .ok (.invokevirtual 303, 3) := op182 (bA_at bd03_dec_X11_3_2 2 rfl rfl) rfl
theorem dX11_odds_101 : decode cX11_odds 101 = .ok (.iconst 5, 1) := op8 (bA_at bd03_dec_X11_3_2 3 rfl rfl)
theorem dX11_odds_102 : decode cX11_odds 102 = .ok (.if_icmp .ne 7, 3) := op160 (bA_at bd03_dec_X11_3_2 4 rfl rfl) (by decide +kernel)
theorem dX11_odds_105 : decode cX11_odds 105 = .ok (.iconst 5, 1) := op8 (bA_at bd03_dec_X11_3_2 5 rfl rfl)
theorem dX11_odds_106 : decode cX11_odds 106 = .ok (.goto 19, 3) := op167 (bA_at bd03_dec_X11_3_2 6 rfl rfl) (by decide +kernel)
theorem dX11_odds_109 : decode cX11_odds 109 = .ok (.aload_n 0, 1) := op42 (bA_at bd03_dec_X11_3_2 7 rfl rfl)
theorem dX11_odds_110 : decode cX11_odds 110 = .ok (.bipush 6, 2) := op16 (bA_at bd03_dec_X11_3_2 8 rfl rfl) (by decide +kernel)
theorem dX11_odds_112 : decode cX11_odds 112 = .ok (.invokevirtual 303, 3) := op182 (bA_at bd03_dec_X11_3_2 9 rfl rfl) rfl
theorem dX11_odds_115 : decode cX11_odds 115 = .ok (.iconst 2, 1) := op5 (bA_at bd03_dec_X11_3_2 10 rfl rfl)
theorem dX11_odds_116 : decode cX11_odds 116 = .ok (.irem, 1) := op112 (bA_at bd03_dec_X11_3_2 11 rfl rfl)
theorem dX11_odds_117 : decode cX11_odds 117 = .ok (.ifCond .ne 7, 3) := op154 (bA_at bd03_dec_X11_3_2 12 rfl rfl) (by decide +kernel)
theorem dX11_odds_120 : decode cX11_odds 120 = .ok (.iconst 2, 1) := op5 (bA_at bd03_dec_X11_3_2 13 rfl rfl)
theorem dX11_odds_121 : decode cX11_odds 121 = .ok (.goto 4, 3) := op167 (bA_at bd03_dec_X11_3_2 14 rfl rfl) (by decide +kernel)
theorem dX11_odds_124 : decode cX11_odds 124 = .ok (.iconst 1, 1) := op4 (bA_at bd03_dec_X11_3_2 15 rfl rfl)
theorem dX11_odds_125 : decode cX11_odds 125 = .ok (.istore 4, 2) := op54 (bA_at bd03_dec_X11_3_2 16 rfl rfl) rfl
theorem dX11_odds_127 : decode cX11_odds 127 = .ok (.lconst 1, 1) := op10 (bA_at bd03_dec_X11_3_2 17 rfl rfl)
theorem dX11_odds_128 : decode cX11_odds 128 = .ok (.lstore 5, 2) := op55 (bA_at bd03_dec_X11_3_2 18 rfl rfl) rfl
theorem dX11_odds_130 : decode cX11_odds 130 = .ok (.lconst 1, 1) := op10 (bA_at bd03_dec_X11_3_2 19 rfl rfl)
theorem dX11_odds_131 : decode cX11_odds 131 = .ok (.lstore 7, 2) := op55 (bA_at bd03_dec_X11_3_2 20 rfl rfl) rfl
theorem dX11_odds_133 : decode cX11_odds 133 = .ok (.iconst 0, 1) := op3 (bA_at bd03_dec_X11_3_2 21 rfl rfl)
theorem dX11_odds_134 : decode cX11_odds 134 = .ok (.istore 9, 2) := op54 (bA_at bd03_dec_X11_3_2 22 rfl rfl) rfl
theorem dX11_odds_136 : decode cX11_odds 136 = .ok (.iload 9, 2) := op21 (bA_at bd03_dec_X11_3_2 23 rfl rfl) rfl
theorem dX11_odds_138 : decode cX11_odds 138 = .ok (.aload_n 0, 1) := op42 (bA_at bd03_dec_X11_3_2 24 rfl rfl)
theorem dX11_odds_139 : decode cX11_odds 139 = .ok (.getfield 346, 3) := op180 (bA_at bd03_dec_X11_3_2 25 rfl rfl) rfl
theorem dX11_odds_142 : decode cX11_odds 142 = .ok (.if_icmp .ge 35, 3) := op162 (bA_at bd03_dec_X11_3_2 26 rfl rfl) (by decide +kernel)
theorem dX11_odds_145 : decode cX11_odds 145 = .ok (.lload 5, 2) := op22 (bA_at bd03_dec_X11_3_2 27 rfl rfl) rfl
theorem dX11_odds_147 : decode cX11_odds 147 = .ok (.aload_n 0, 1) := op42 (bA_at bd03_dec_X11_3_2 28 rfl rfl)
theorem dX11_odds_148 : decode cX11_odds 148 = .ok (.bipush 6, 2) := op16 (bA_at bd03_dec_X11_3_2 29 rfl rfl) (by decide +kernel)
theorem dX11_odds_150 : decode cX11_odds 150 = .ok (.invokevirtual 303, 3) := op182 (bA_at bd03_dec_X11_3_2 30 rfl rfl) rfl
theorem dX11_odds_153 : decode cX11_odds 153 = .ok (.iload 4, 2) := op21 (bA_at bd03_dec_X11_3_2 31 rfl rfl) rfl
theorem dX11_odds_155 : decode cX11_odds 155 = .ok (.idiv, 1) := op108 (bA_at bd03_dec_X11_3_2 32 rfl rfl)
theorem dX11_odds_156 : decode cX11_odds 156 = .ok (.i2l, 1) := op133 (bA_at bd03_dec_X11_3_2 33 rfl rfl)
theorem dX11_odds_157 : decode cX11_odds 157 = .ok (.lmul, 1) := op105 (bA_at bd03_dec_X11_3_2 34 rfl rfl)
theorem dX11_odds_158 : decode cX11_odds 158 = .ok (.lstore 5, 2) := op55 (bA_at bd03_dec_X11_3_2 35 rfl rfl) rfl
theorem dX11_odds_160 : decode cX11_odds 160 = .ok (.lload 7, 2) := op22 (bA_at bd03_dec_X11_3_2 36 rfl rfl) rfl
theorem dX11_odds_162 : decode cX11_odds 162 = .ok (.bipush 10, 2) := op16 (bA_at bd03_dec_X11_3_2 37 rfl rfl) (by decide +kernel)
theorem dX11_odds_164 : decode cX11_odds 164 = .ok (.iload 4, 2) := op21 (bA_at bd03_dec_X11_3_2 38 rfl rfl) rfl
theorem dX11_odds_166 : decode cX11_odds 166 = .ok (.idiv, 1) := op108 (bA_at bd03_dec_X11_3_2 39 rfl rfl)
theorem dX11_odds_167 : decode cX11_odds 167 = .ok (.i2l, 1) := op133 (bA_at bd03_dec_X11_3_2 40 rfl rfl)
theorem dX11_odds_168 : decode cX11_odds 168 = .ok (.lmul, 1) := op105 (bA_at bd03_dec_X11_3_2 41 rfl rfl)
theorem dX11_odds_169 : decode cX11_odds 169 = .ok (.lstore 7, 2) := op55 (bA_at bd03_dec_X11_3_2 42 rfl rfl) rfl
theorem dX11_odds_171 : decode cX11_odds 171 = .ok (.iinc 9 1, 3) := op132 (bA_at bd03_dec_X11_3_2 43 rfl rfl) rfl (by decide +kernel)
theorem dX11_odds_174 : decode cX11_odds 174 = .ok (.goto (-38), 3) := op167 (bA_at bd03_dec_X11_3_2 44 rfl rfl) (by decide +kernel)
theorem dX11_odds_177 : decode cX11_odds 177 = .ok (.iload_n 3, 1) := op29 (bA_at bd03_dec_X11_3_2 45 rfl rfl)
theorem dX11_odds_178 : decode cX11_odds 178 = .ok (.ifCond .ne 8, 3) := op154 (bA_at bd03_dec_X11_3_2 46 rfl rfl) (by decide +kernel)
theorem dX11_odds_181 : decode cX11_odds 181 = .ok (.lload 5, 2) := op22 (bA_at bd03_dec_X11_3_2 47 rfl rfl) rfl
theorem dX11_odds_183 : decode cX11_odds 183 = .ok (.goto 5, 3) := op167 (bA_at bd03_dec_X11_3_2 48 rfl rfl) (by decide +kernel)
theorem dX11_odds_186 : decode cX11_odds 186 = .ok (.lload 7, 2) := op22 (bA_at bd03_dec_X11_3_2 49 rfl rfl) rfl
theorem bd03_dec_X11_3_3 : ([(0, [173])] : List (Nat × List UInt8)).all (fun x => prB x.2 ((cX11_odds.data.toList.drop 188).drop x.1)) = true := by decide +kernel
theorem dX11_odds_188 : decode cX11_odds 188 = .ok (.lreturn, 1) := op173 (bA_at bd03_dec_X11_3_3 0 rfl rfl)
theorem bd03_dec_X11_3_4 : ([(0, [42]), (1, [42]), (2, [180, 2, 3]), (5, [19, 2, 6]), (8, [104]), (9, [17, 48, 57]), (12, [96]), (13, [181, 2, 3]), (16, [42]), (17, [180, 2, 3]), (20, [16, 16]), (22, [124]), (23, [27]), (24, [112]), (25, [172])] : List (Nat × List UInt8)).all (fun x => prB x.2 ((cX11_draw.data.toList.drop 0).drop x.1)) = true := by decide +kernel
theorem dX11_draw_0 : decode cX11_draw 0 = .ok (.aload_n 0, 1) := op42 (bA_at bd03_dec_X11_3_4 0 rfl rfl)
theorem dX11_draw_1 : decode cX11_draw 1 = .ok (.aload_n 0, 1) := op42 (bA_at bd03_dec_X11_3_4 1 rfl rfl)
theorem dX11_draw_2 : decode cX11_draw 2 = .ok (.getfield 515, 3) := op180 (bA_at bd03_dec_X11_3_4 2 rfl rfl) rfl
theorem dX11_draw_5 : decode cX11_draw 5 = .ok (.ldc_w 518, 3) := op19 (bA_at bd03_dec_X11_3_4 3 rfl rfl) rfl
theorem dX11_draw_8 : decode cX11_draw 8 = .ok (.imul, 1) := op104 (bA_at bd03_dec_X11_3_4 4 rfl rfl)
theorem dX11_draw_9 : decode cX11_draw 9 = .ok (.sipush 12345, 3) := op17 (bA_at bd03_dec_X11_3_4 5 rfl rfl) (by decide +kernel)
theorem dX11_draw_12 : decode cX11_draw 12 = .ok (.iadd, 1) := op96 (bA_at bd03_dec_X11_3_4 6 rfl rfl)
theorem dX11_draw_13 : decode cX11_draw 13 = .ok (.putfield 515, 3) := op181 (bA_at bd03_dec_X11_3_4 7 rfl rfl) rfl
theorem dX11_draw_16 : decode cX11_draw 16 = .ok (.aload_n 0, 1) := op42 (bA_at bd03_dec_X11_3_4 8 rfl rfl)
theorem dX11_draw_17 : decode cX11_draw 17 = .ok (.getfield 515, 3) := op180 (bA_at bd03_dec_X11_3_4 9 rfl rfl) rfl
theorem dX11_draw_20 : decode cX11_draw 20 = .ok (.bipush 16, 2) := op16 (bA_at bd03_dec_X11_3_4 10 rfl rfl) (by decide +kernel)
theorem dX11_draw_22 : decode cX11_draw 22 = .ok (.iushr, 1) := op124 (bA_at bd03_dec_X11_3_4 11 rfl rfl)
theorem dX11_draw_23 : decode cX11_draw 23 = .ok (.iload_n 1, 1) := op27 (bA_at bd03_dec_X11_3_4 12 rfl rfl)
theorem dX11_draw_24 : decode cX11_draw 24 = .ok (.irem, 1) := op112 (bA_at bd03_dec_X11_3_4 13 rfl rfl)
theorem dX11_draw_25 : decode cX11_draw 25 = .ok (.ireturn, 1) := op172 (bA_at bd03_dec_X11_3_4 14 rfl rfl)
theorem bd03_dec_X11_3_5 : ([(0, [42]), (1, [42]), (2, [180, 1, 54]), (5, [182, 2, 7]), (8, [60]), (9, [42]), (10, [16, 8]), (12, [182, 2, 7]), (15, [6]), (16, [162, 0, 18]), (19, [42]), (20, [27]), (21, [42]), (22, [42]), (23, [180, 1, 51]), (26, [182, 2, 7]), (29, [182, 1, 118]), (32, [87]), (33, [177]), (34, [42]), (35, [8]), (36, [182, 2, 7]), (39, [61]), (40, [42]), (41, [27]), (42, [28]), (43, [182, 1, 108]), (46, [153, 0, 12]), (49, [42]), (50, [27]), (51, [28]), (52, [182, 1, 102]), (55, [167, 0, 19]), (58, [42]), (59, [27]), (60, [28]), (61, [182, 1, 111]), (64, [153, 0, 10]), (67, [42]), (68, [27]), (69, [28]), (70, [3]), (71, [182, 1, 114]), (74, [177])] : List (Nat × List UInt8)).all (fun x => prB x.2 ((cX11_drawDeed.data.toList.drop 0).drop x.1)) = true := by decide +kernel
theorem dX11_drawDeed_0 : decode cX11_drawDeed 0 = .ok (.aload_n 0, 1) := op42 (bA_at bd03_dec_X11_3_5 0 rfl rfl)
theorem dX11_drawDeed_1 : decode cX11_drawDeed 1 = .ok (.aload_n 0, 1) := op42 (bA_at bd03_dec_X11_3_5 1 rfl rfl)
theorem dX11_drawDeed_2 : decode cX11_drawDeed 2 = .ok (.getfield 310, 3) := op180 (bA_at bd03_dec_X11_3_5 2 rfl rfl) rfl
theorem dX11_drawDeed_5 : decode cX11_drawDeed 5 = .ok (.invokevirtual 519, 3) := op182 (bA_at bd03_dec_X11_3_5 3 rfl rfl) rfl
theorem dX11_drawDeed_8 : decode cX11_drawDeed 8 = .ok (.istore_n 1, 1) := op60 (bA_at bd03_dec_X11_3_5 4 rfl rfl)
theorem dX11_drawDeed_9 : decode cX11_drawDeed 9 = .ok (.aload_n 0, 1) := op42 (bA_at bd03_dec_X11_3_5 5 rfl rfl)
theorem dX11_drawDeed_10 : decode cX11_drawDeed 10 = .ok (.bipush 8, 2) := op16 (bA_at bd03_dec_X11_3_5 6 rfl rfl) (by decide +kernel)
theorem dX11_drawDeed_12 : decode cX11_drawDeed 12 = .ok (.invokevirtual 519, 3) := op182 (bA_at bd03_dec_X11_3_5 7 rfl rfl) rfl
theorem dX11_drawDeed_15 : decode cX11_drawDeed 15 = .ok (.iconst 3, 1) := op6 (bA_at bd03_dec_X11_3_5 8 rfl rfl)
theorem dX11_drawDeed_16 : decode cX11_drawDeed 16 = .ok (.if_icmp .ge 18, 3) := op162 (bA_at bd03_dec_X11_3_5 9 rfl rfl) (by decide +kernel)
theorem dX11_drawDeed_19 : decode cX11_drawDeed 19 = .ok (.aload_n 0, 1) := op42 (bA_at bd03_dec_X11_3_5 10 rfl rfl)
theorem dX11_drawDeed_20 : decode cX11_drawDeed 20 = .ok (.iload_n 1, 1) := op27 (bA_at bd03_dec_X11_3_5 11 rfl rfl)
theorem dX11_drawDeed_21 : decode cX11_drawDeed 21 = .ok (.aload_n 0, 1) := op42 (bA_at bd03_dec_X11_3_5 12 rfl rfl)
theorem dX11_drawDeed_22 : decode cX11_drawDeed 22 = .ok (.aload_n 0, 1) := op42 (bA_at bd03_dec_X11_3_5 13 rfl rfl)
theorem dX11_drawDeed_23 : decode cX11_drawDeed 23 = .ok (.getfield 307, 3) := op180 (bA_at bd03_dec_X11_3_5 14 rfl rfl) rfl
theorem dX11_drawDeed_26 : decode cX11_drawDeed 26 = .ok (.invokevirtual 519, 3) := op182 (bA_at bd03_dec_X11_3_5 15 rfl rfl) rfl
theorem dX11_drawDeed_29 : decode cX11_drawDeed 29 = .ok (.invokevirtual 374, 3) := op182 (bA_at bd03_dec_X11_3_5 16 rfl rfl) rfl
theorem dX11_drawDeed_32 : decode cX11_drawDeed 32 = .ok (.pop, 1) := op87 (bA_at bd03_dec_X11_3_5 17 rfl rfl)
theorem dX11_drawDeed_33 : decode cX11_drawDeed 33 = .ok (.return_, 1) := op177 (bA_at bd03_dec_X11_3_5 18 rfl rfl)
theorem dX11_drawDeed_34 : decode cX11_drawDeed 34 = .ok (.aload_n 0, 1) := op42 (bA_at bd03_dec_X11_3_5 19 rfl rfl)
theorem dX11_drawDeed_35 : decode cX11_drawDeed 35 = .ok (.iconst 5, 1) := op8 (bA_at bd03_dec_X11_3_5 20 rfl rfl)
theorem dX11_drawDeed_36 : decode cX11_drawDeed 36 = .ok (.invokevirtual 519, 3) := op182 (bA_at bd03_dec_X11_3_5 21 rfl rfl) rfl
theorem dX11_drawDeed_39 : decode cX11_drawDeed 39 = .ok (.istore_n 2, 1) := op61 (bA_at bd03_dec_X11_3_5 22 rfl rfl)
theorem dX11_drawDeed_40 : decode cX11_drawDeed 40 = .ok (.aload_n 0, 1) := op42 (bA_at bd03_dec_X11_3_5 23 rfl rfl)
theorem dX11_drawDeed_41 : decode cX11_drawDeed 41 = .ok (.iload_n 1, 1) := op27 (bA_at bd03_dec_X11_3_5 24 rfl rfl)
theorem dX11_drawDeed_42 : decode cX11_drawDeed 42 = .ok (.iload_n 2, 1) := op28 (bA_at bd03_dec_X11_3_5 25 rfl rfl)
theorem dX11_drawDeed_43 : decode cX11_drawDeed 43 = .ok (.invokevirtual 364, 3) := op182 (bA_at bd03_dec_X11_3_5 26 rfl rfl) rfl
theorem dX11_drawDeed_46 : decode cX11_drawDeed 46 = .ok (.ifCond .eq 12, 3) := op153 (bA_at bd03_dec_X11_3_5 27 rfl rfl) (by decide +kernel)
theorem dX11_drawDeed_49 : decode cX11_drawDeed 49 = .ok (.aload_n 0, 1) := op42 (bA_at bd03_dec_X11_3_5 28 rfl rfl)
theorem dX11_drawDeed_50 : decode cX11_drawDeed 50 = .ok (.iload_n 1, 1) := op27 (bA_at bd03_dec_X11_3_5 29 rfl rfl)
theorem dX11_drawDeed_51 : decode cX11_drawDeed 51 = .ok (.iload_n 2, 1) := op28 (bA_at bd03_dec_X11_3_5 30 rfl rfl)
theorem dX11_drawDeed_52 : decode cX11_drawDeed 52 = .ok (.invokevirtual 358, 3) := op182 (bA_at bd03_dec_X11_3_5 31 rfl rfl) rfl
theorem dX11_drawDeed_55 : decode cX11_drawDeed 55 = .ok (.goto 19, 3) := op167 (bA_at bd03_dec_X11_3_5 32 rfl rfl) (by decide +kernel)
theorem dX11_drawDeed_58 : decode cX11_drawDeed 58 = .ok (.aload_n 0, 1) := op42 (bA_at bd03_dec_X11_3_5 33 rfl rfl)
theorem dX11_drawDeed_59 : decode cX11_drawDeed 59 = .ok (.iload_n 1, 1) := op27 (bA_at bd03_dec_X11_3_5 34 rfl rfl)
theorem dX11_drawDeed_60 : decode cX11_drawDeed 60 = .ok (.iload_n 2, 1) := op28 (bA_at bd03_dec_X11_3_5 35 rfl rfl)
theorem dX11_drawDeed_61 : decode cX11_drawDeed 61 = .ok (.invokevirtual 367, 3) := op182 (bA_at bd03_dec_X11_3_5 36 rfl rfl) rfl
theorem dX11_drawDeed_64 : decode cX11_drawDeed 64 = .ok (.ifCond .eq 10, 3) := op153 (bA_at bd03_dec_X11_3_5 37 rfl rfl) (by decide +kernel)
theorem dX11_drawDeed_67 : decode cX11_drawDeed 67 = .ok (.aload_n 0, 1) := op42 (bA_at bd03_dec_X11_3_5 38 rfl rfl)
theorem dX11_drawDeed_68 : decode cX11_drawDeed 68 = .ok (.iload_n 1, 1) := op27 (bA_at bd03_dec_X11_3_5 39 rfl rfl)
theorem dX11_drawDeed_69 : decode cX11_drawDeed 69 = .ok (.iload_n 2, 1) := op28 (bA_at bd03_dec_X11_3_5 40 rfl rfl)
theorem dX11_drawDeed_70 : decode cX11_drawDeed 70 = .ok (.iconst 0, 1) := op3 (bA_at bd03_dec_X11_3_5 41 rfl rfl)
theorem dX11_drawDeed_71 : decode cX11_drawDeed 71 = .ok (.invokevirtual 370, 3) := op182 (bA_at bd03_dec_X11_3_5 42 rfl rfl) rfl
theorem dX11_drawDeed_74 : decode cX11_drawDeed 74 = .ok (.return_, 1) := op177 (bA_at bd03_dec_X11_3_5 43 rfl rfl)
theorem bd03_dec_X11_3_6 : ([(0, [42]), (1, [3]), (2, [181, 0, 97]), (5, [29]), (6, [3]), (7, [16, 60]), (9, [184, 0, 109]), (12, [153, 0, 18]), (15, [42]), (16, [27]), (17, [182, 1, 57]), (20, [153, 0, 10]), (23, [42]), (24, [180, 1, 54]), (27, [154, 0, 7]), (30, [17, 252, 24]), (33, [172]), (34, [42]), (35, [28]), (36, [181, 2, 3]), (39, [42]), (40, [182, 1, 121]), (43, [3]), (44, [54, 5]), (46, [21, 5]), (48, [29]), (49, [162, 0, 13]), (52, [42]), (53, [182, 2, 10]), (56, [132, 5, 1]), (59, [167, 255, 243]), (62, [42]), (63, [21, 4]), (65, [182, 1, 151]), (68, [172])] : List (Nat × List UInt8)).all (fun x => prB x.2 ((cX11_drawn.data.toList.drop 0).drop x.1)) = true := by decide +kernel
theorem dX11_drawn_0 : decode cX11_drawn 0 = .ok (.aload_n 0, 1) := op42 (bA_at bd03_dec_X11_3_6 0 rfl rfl)
theorem dX11_drawn_1 : decode cX11_drawn 1 = .ok (.iconst 0, 1) := op3 (bA_at bd03_dec_X11_3_6 1 rfl rfl)
theorem dX11_drawn_2 : decode cX11_drawn 2 = .ok (.putfield 97, 3) := op181 (bA_at bd03_dec_X11_3_6 2 rfl rfl) rfl
theorem dX11_drawn_5 : decode cX11_drawn 5 = .ok (.iload_n 3, 1) := op29 (bA_at bd03_dec_X11_3_6 3 rfl rfl)
theorem dX11_drawn_6 : decode cX11_drawn 6 = .ok (.iconst 0, 1) := op3 (bA_at bd03_dec_X11_3_6 4 rfl rfl)
theorem dX11_drawn_7 : decode cX11_drawn 7 = .ok (.bipush 60, 2) := op16 (bA_at bd03_dec_X11_3_6 5 rfl rfl) (by decide +kernel)
theorem dX11_drawn_9 : decode cX11_drawn 9 = .ok (.invokestatic 109, 3) := op184 (bA_at bd03_dec_X11_3_6 6 rfl rfl) rfl
theorem dX11_drawn_12 : decode cX11_drawn 12 = .ok (.ifCond .eq 18, 3) := op153 (bA_at bd03_dec_X11_3_6 7 rfl rfl) (by decide +kernel)
theorem dX11_drawn_15 : decode cX11_drawn 15 = .ok (.aload_n 0, 1) := op42 (bA_at bd03_dec_X11_3_6 8 rfl rfl)
theorem dX11_drawn_16 : decode cX11_drawn 16 = .ok (.iload_n 1, 1) := op27 (bA_at bd03_dec_X11_3_6 9 rfl rfl)
theorem dX11_drawn_17 : decode cX11_drawn 17 = .ok (.invokevirtual 313, 3) := op182 (bA_at bd03_dec_X11_3_6 10 rfl rfl) rfl
theorem dX11_drawn_20 : decode cX11_drawn 20 = .ok (.ifCond .eq 10, 3) := op153 (bA_at bd03_dec_X11_3_6 11 rfl rfl) (by decide +kernel)
theorem dX11_drawn_23 : decode cX11_drawn 23 = .ok (.aload_n 0, 1) := op42 (bA_at bd03_dec_X11_3_6 12 rfl rfl)
theorem dX11_drawn_24 : decode cX11_drawn 24 = .ok (.getfield 310, 3) := op180 (bA_at bd03_dec_X11_3_6 13 rfl rfl) rfl
theorem dX11_drawn_27 : decode cX11_drawn 27 = .ok (.ifCond .ne 7, 3) := op154 (bA_at bd03_dec_X11_3_6 14 rfl rfl) (by decide +kernel)
theorem dX11_drawn_30 : decode cX11_drawn 30 = .ok (.sipush (-1000), 3) := op17 (bA_at bd03_dec_X11_3_6 15 rfl rfl) (by decide +kernel)
theorem dX11_drawn_33 : decode cX11_drawn 33 = .ok (.ireturn, 1) := op172 (bA_at bd03_dec_X11_3_6 16 rfl rfl)
theorem dX11_drawn_34 : decode cX11_drawn 34 = .ok (.aload_n 0, 1) := op42 (bA_at bd03_dec_X11_3_6 17 rfl rfl)
theorem dX11_drawn_35 : decode cX11_drawn 35 = .ok (.iload_n 2, 1) := op28 (bA_at bd03_dec_X11_3_6 18 rfl rfl)
theorem dX11_drawn_36 : decode cX11_drawn 36 = .ok (.putfield 515, 3) := op181 (bA_at bd03_dec_X11_3_6 19 rfl rfl) rfl
theorem dX11_drawn_39 : decode cX11_drawn 39 = .ok (.aload_n 0, 1) := op42 (bA_at bd03_dec_X11_3_6 20 rfl rfl)
theorem dX11_drawn_40 : decode cX11_drawn 40 = .ok (.invokevirtual 377, 3) := op182 (bA_at bd03_dec_X11_3_6 21 rfl rfl) rfl
theorem dX11_drawn_43 : decode cX11_drawn 43 = .ok (.iconst 0, 1) := op3 (bA_at bd03_dec_X11_3_6 22 rfl rfl)
theorem dX11_drawn_44 : decode cX11_drawn 44 = .ok (.istore 5, 2) := op54 (bA_at bd03_dec_X11_3_6 23 rfl rfl) rfl
theorem dX11_drawn_46 : decode cX11_drawn 46 = .ok (.iload 5, 2) := op21 (bA_at bd03_dec_X11_3_6 24 rfl rfl) rfl
theorem dX11_drawn_48 : decode cX11_drawn 48 = .ok (.iload_n 3, 1) := op29 (bA_at bd03_dec_X11_3_6 25 rfl rfl)
theorem dX11_drawn_49 : decode cX11_drawn 49 = .ok (.if_icmp .ge 13, 3) := op162 (bA_at bd03_dec_X11_3_6 26 rfl rfl) (by decide +kernel)
theorem dX11_drawn_52 : decode cX11_drawn 52 = .ok (.aload_n 0, 1) := op42 (bA_at bd03_dec_X11_3_6 27 rfl rfl)
theorem dX11_drawn_53 : decode cX11_drawn 53 = .ok (.invokevirtual 522, 3) := op182 (bA_at bd03_dec_X11_3_6 28 rfl rfl) rfl
theorem dX11_drawn_56 : decode cX11_drawn 56 = .ok (.iinc 5 1, 3) := op132 (bA_at bd03_dec_X11_3_6 29 rfl rfl) rfl (by decide +kernel)
theorem dX11_drawn_59 : decode cX11_drawn 59 = .ok (.goto (-13), 3) := op167 (bA_at bd03_dec_X11_3_6 30 rfl rfl) (by decide +kernel)
theorem dX11_drawn_62 : decode cX11_drawn 62 = .ok (.aload_n 0, 1) := op42 (bA_at bd03_dec_X11_3_6 31 rfl rfl)
theorem dX11_drawn_63 : decode cX11_drawn 63 = .ok (.iload 4, 2) := op21 (bA_at bd03_dec_X11_3_6 32 rfl rfl) rfl
theorem dX11_drawn_65 : decode cX11_drawn 65 = .ok (.invokevirtual 407, 3) := op182 (bA_at bd03_dec_X11_3_6 33 rfl rfl) rfl
theorem dX11_drawn_68 : decode cX11_drawn 68 = .ok (.ireturn, 1) := op172 (bA_at bd03_dec_X11_3_6 34 rfl rfl)
theorem bd03_dec_X11_3_7 : ([(0, [42]), (1, [3]), (2, [181, 0, 97]), (5, [42]), (6, [27]), (7, [182, 1, 57]), (10, [153, 0, 31]), (13, [42]), (14, [28]), (15, [182, 1, 60]), (18, [153, 0, 23]), (21, [29]), (22, [3]), (23, [16, 99]), (25, [184, 0, 109]), (28, [153, 0, 13]), (31, [21, 4]), (33, [3]), (34, [5]), (35, [184, 0, 109]), (38, [154, 0, 6]), (41, [16, 254]), (43, [172]), (44, [3]), (45, [54, 5]), (47, [2]), (48, [54, 6]), (50, [19, 1, 154]), (53, [54, 7]), (55, [3]), (56, [54, 8]), (58, [21, 8]), (60, [42]), (61, [180, 1, 51]), (64, [162, 0, 78]), (67, [42]), (68, [21, 8]), (70, [3]), (71, [182, 1, 158]), (74, [42]), (75, [180, 0, 59]), (78, [28]), (79, [46]), (80, [29]), (81, [163, 0, 55]), (84, [21, 5]), (86, [4]), (87, [21, 8]), (89, [120]), (90, [128])] : List (Nat × List UInt8)).all (fun x => prB x.2 ((cX11_psalm.data.toList.drop 0).drop x.1)) = true := by decide +kernel
theorem dX11_psalm_0 : decode cX11_psalm 0 = .ok (.aload_n 0, 1) := op42 (bA_at bd03_dec_X11_3_7 0 rfl rfl)
theorem dX11_psalm_1 : decode cX11_psalm 1 = .ok (.iconst 0, 1) := op3 (bA_at bd03_dec_X11_3_7 1 rfl rfl)
theorem dX11_psalm_2 : decode cX11_psalm 2 = .ok (.putfield 97, 3) := op181 (bA_at bd03_dec_X11_3_7 2 rfl rfl) rfl
theorem dX11_psalm_5 : decode cX11_psalm 5 = .ok (.aload_n 0, 1) := op42 (bA_at bd03_dec_X11_3_7 3 rfl rfl)
theorem dX11_psalm_6 : decode cX11_psalm 6 = .ok (.iload_n 1, 1) := op27 (bA_at bd03_dec_X11_3_7 4 rfl rfl)
theorem dX11_psalm_7 : decode cX11_psalm 7 = .ok (.invokevirtual 313, 3) := op182 (bA_at bd03_dec_X11_3_7 5 rfl rfl) rfl
theorem dX11_psalm_10 : decode cX11_psalm 10 = .ok (.ifCond .eq 31, 3) := op153 (bA_at bd03_dec_X11_3_7 6 rfl rfl) (by decide +kernel)
theorem dX11_psalm_13 : decode cX11_psalm 13 = .ok (.aload_n 0, 1) := op42 (bA_at bd03_dec_X11_3_7 7 rfl rfl)
theorem dX11_psalm_14 : decode cX11_psalm 14 = .ok (.iload_n 2, 1) := op28 (bA_at bd03_dec_X11_3_7 8 rfl rfl)
theorem dX11_psalm_15 : decode cX11_psalm 15 = .ok (.invokevirtual 316, 3) := op182 (bA_at bd03_dec_X11_3_7 9 rfl rfl) rfl
theorem dX11_psalm_18 : decode cX11_psalm 18 = .ok (.ifCond .eq 23, 3) := op153 (bA_at bd03_dec_X11_3_7 10 rfl rfl) (by decide +kernel)
theorem dX11_psalm_21 : decode cX11_psalm 21 = .ok (.iload_n 3, 1) := op29 (bA_at bd03_dec_X11_3_7 11 rfl rfl)
theorem dX11_psalm_22 : decode cX11_psalm 22 = .ok (.iconst 0, 1) := op3 (bA_at bd03_dec_X11_3_7 12 rfl rfl)
theorem dX11_psalm_23 : decode cX11_psalm 23 = .ok (.bipush 99, 2) := op16 (bA_at bd03_dec_X11_3_7 13 rfl rfl) (by decide +kernel)
theorem dX11_psalm_25 : decode cX11_psalm 25 = .ok (.invokestatic 109, 3) := op184 (bA_at bd03_dec_X11_3_7 14 rfl rfl) rfl
theorem dX11_psalm_28 : decode cX11_psalm 28 = .ok (.ifCond .eq 13, 3) := op153 (bA_at bd03_dec_X11_3_7 15 rfl rfl) (by decide +kernel)
theorem dX11_psalm_31 : decode cX11_psalm 31 = .ok (.iload 4, 2) := op21 (bA_at bd03_dec_X11_3_7 16 rfl rfl) rfl
theorem dX11_psalm_33 : decode cX11_psalm 33 = .ok (.iconst 0, 1) := op3 (bA_at bd03_dec_X11_3_7 17 rfl rfl)
theorem dX11_psalm_34 : decode cX11_psalm 34 = .ok (.iconst 2, 1) := op5 (bA_at bd03_dec_X11_3_7 18 rfl rfl)
theorem dX11_psalm_35 : decode cX11_psalm 35 = .ok (.invokestatic 109, 3) := op184 (bA_at bd03_dec_X11_3_7 19 rfl rfl) rfl
theorem dX11_psalm_38 : decode cX11_psalm 38 = .ok (.ifCond .ne 6, 3) := op154 (bA_at bd03_dec_X11_3_7 20 rfl rfl) (by decide +kernel)
theorem dX11_psalm_41 : decode cX11_psalm 41 = .ok (.bipush (-2), 2) := op16 (bA_at bd03_dec_X11_3_7 21 rfl rfl) (by decide +kernel)
theorem dX11_psalm_43 : decode cX11_psalm 43 = .ok (.ireturn, 1) := op172 (bA_at bd03_dec_X11_3_7 22 rfl rfl)
theorem dX11_psalm_44 : decode cX11_psalm 44 = .ok (.iconst 0, 1) := op3 (bA_at bd03_dec_X11_3_7 23 rfl rfl)
theorem dX11_psalm_45 : decode cX11_psalm 45 = .ok (.istore 5, 2) := op54 (bA_at bd03_dec_X11_3_7 24 rfl rfl) rfl
theorem dX11_psalm_47 : decode cX11_psalm 47 = .ok (.iconst (-1), 1) := op2 (bA_at bd03_dec_X11_3_7 25 rfl rfl)
theorem dX11_psalm_48 : decode cX11_psalm 48 = .ok (.istore 6, 2) := op54 (bA_at bd03_dec_X11_3_7 26 rfl rfl) rfl
theorem dX11_psalm_50 : decode cX11_psalm 50 = .ok (.ldc_w 410, 3) := op19 (bA_at bd03_dec_X11_3_7 27 rfl rfl) rfl
theorem dX11_psalm_53 : decode cX11_psalm 53 = .ok (.istore 7, 2) := op54 (bA_at bd03_dec_X11_3_7 28 rfl rfl) rfl
theorem dX11_psalm_55 : decode cX11_psalm 55 = .ok (.iconst 0, 1) := op3 (bA_at bd03_dec_X11_3_7 29 rfl rfl)
theorem dX11_psalm_56 : decode cX11_psalm 56 = .ok (.istore 8, 2) := op54 (bA_at bd03_dec_X11_3_7 30 rfl rfl) rfl
theorem dX11_psalm_58 : decode cX11_psalm 58 = .ok (.iload 8, 2) := op21 (bA_at bd03_dec_X11_3_7 31 rfl rfl) rfl
theorem dX11_psalm_60 : decode cX11_psalm 60 = .ok (.aload_n 0, 1) := op42 (bA_at bd03_dec_X11_3_7 32 rfl rfl)
theorem dX11_psalm_61 : decode cX11_psalm 61 = .ok (.getfield 307, 3) := op180 (bA_at bd03_dec_X11_3_7 33 rfl rfl) rfl
theorem dX11_psalm_64 : decode cX11_psalm 64 = .ok (.if_icmp .ge 78, 3) := op162 (bA_at bd03_dec_X11_3_7 34 rfl rfl) (by decide +kernel)
theorem dX11_psalm_67 : decode cX11_psalm 67 = .ok (.aload_n 0, 1) := op42 (bA_at bd03_dec_X11_3_7 35 rfl rfl)
theorem dX11_psalm_68 : decode cX11_psalm 68 = .ok (.iload 8, 2) := op21 (bA_at bd03_dec_X11_3_7 36 rfl rfl) rfl
theorem dX11_psalm_70 : decode cX11_psalm 70 = .ok (.iconst 0, 1) := op3 (bA_at bd03_dec_X11_3_7 37 rfl rfl)
theorem dX11_psalm_71 : decode cX11_psalm 71 = .ok (.invokevirtual 414, 3) := op182 (bA_at bd03_dec_X11_3_7 38 rfl rfl) rfl
theorem dX11_psalm_74 : decode cX11_psalm 74 = .ok (.aload_n 0, 1) := op42 (bA_at bd03_dec_X11_3_7 39 rfl rfl)
theorem dX11_psalm_75 : decode cX11_psalm 75 = .ok (.getfield 59, 3) := op180 (bA_at bd03_dec_X11_3_7 40 rfl rfl) rfl
theorem dX11_psalm_78 : decode cX11_psalm 78 = .ok (.iload_n 2, 1) := op28 (bA_at bd03_dec_X11_3_7 41 rfl rfl)
theorem dX11_psalm_79 : decode cX11_psalm 79 = .ok (.iaload, 1) := op46 (bA_at bd03_dec_X11_3_7 42 rfl rfl)
theorem dX11_psalm_80 : decode cX11_psalm 80 = .ok (.iload_n 3, 1) := op29 (bA_at bd03_dec_X11_3_7 43 rfl rfl)
theorem dX11_psalm_81 : decode cX11_psalm 81 = .ok (.if_icmp .gt 55, 3) := op163 (bA_at bd03_dec_X11_3_7 44 rfl rfl) (by decide +kernel)
theorem dX11_psalm_84 : decode cX11_psalm 84 = .ok (.iload 5, 2) := op21 (bA_at bd03_dec_X11_3_7 45 rfl rfl) rfl
theorem dX11_psalm_86 : decode cX11_psalm 86 = .ok (.iconst 1, 1) := op4 (bA_at bd03_dec_X11_3_7 46 rfl rfl)
theorem dX11_psalm_87 : decode cX11_psalm 87 = .ok (.iload 8, 2) := op21 (bA_at bd03_dec_X11_3_7 47 rfl rfl) rfl
theorem dX11_psalm_89 : decode cX11_psalm 89 = .ok (.ishl, 1) := op120 (bA_at bd03_dec_X11_3_7 48 rfl rfl)
theorem dX11_psalm_90 : decode cX11_psalm 90 = .ok (.ior, 1) := op128 (bA_at bd03_dec_X11_3_7 49 rfl rfl)
theorem bd03_dec_X11_3_8 : ([(0, [54, 5]), (2, [21, 6]), (4, [2]), (5, [159, 0, 18]), (8, [42]), (9, [21, 8]), (11, [182, 1, 66]), (14, [42]), (15, [21, 6]), (17, [182, 1, 66]), (20, [164, 0, 8]), (23, [21, 8]), (25, [167, 0, 5]), (28, [21, 6]), (30, [54, 6]), (32, [21, 7]), (34, [42]), (35, [180, 0, 59]), (38, [28]), (39, [46]), (40, [184, 1, 155]), (43, [54, 7]), (45, [132, 8, 1]), (48, [167, 255, 175]), (51, [21, 4]), (53, [154, 0, 8]), (56, [21, 5]), (58, [167, 0, 27]), (61, [21, 4]), (63, [4]), (64, [160, 0, 8]), (67, [21, 6]), (69, [167, 0, 16]), (72, [21, 5]), (74, [154, 0, 7]), (77, [2]), (78, [167, 0, 7]), (81, [29]), (82, [21, 7]), (84, [100]), (85, [172])] : List (Nat × List UInt8)).all (fun x => prB x.2 ((cX11_psalm.data.toList.drop 91).drop x.1)) = true := by decide +kernel
theorem dX11_psalm_91 : decode cX11_psalm 91 = .ok (.istore 5, 2) := op54 (bA_at bd03_dec_X11_3_8 0 rfl rfl) rfl
theorem dX11_psalm_93 : decode cX11_psalm 93 = .ok (.iload 6, 2) := op21 (bA_at bd03_dec_X11_3_8 1 rfl rfl) rfl
theorem dX11_psalm_95 : decode cX11_psalm 95 = .ok (.iconst (-1), 1) := op2 (bA_at bd03_dec_X11_3_8 2 rfl rfl)
theorem dX11_psalm_96 : decode cX11_psalm 96 = .ok (.if_icmp .eq 18, 3) := op159 (bA_at bd03_dec_X11_3_8 3 rfl rfl) (by decide +kernel)
theorem dX11_psalm_99 : decode cX11_psalm 99 = .ok (.aload_n 0, 1) := op42 (bA_at bd03_dec_X11_3_8 4 rfl rfl)
theorem dX11_psalm_100 : decode cX11_psalm 100 = .ok (.iload 8, 2) := op21 (bA_at bd03_dec_X11_3_8 5 rfl rfl) rfl
theorem dX11_psalm_102 : decode cX11_psalm 102 = .ok (.invokevirtual 322, 3) := op182 (bA_at bd03_dec_X11_3_8 6 rfl rfl) rfl
theorem dX11_psalm_105 : decode cX11_psalm 105 = .ok (.aload_n 0, 1) := op42 (bA_at bd03_dec_X11_3_8 7 rfl rfl)
theorem dX11_psalm_106 : decode cX11_psalm 106 = .ok (.iload 6, 2) := op21 (bA_at bd03_dec_X11_3_8 8 rfl rfl) rfl
theorem dX11_psalm_108 : decode cX11_psalm 108 = .ok (.invokevirtual 322, 3) := op182 (bA_at bd03_dec_X11_3_8 9 rfl rfl) rfl
theorem dX11_psalm_111 : decode cX11_psalm 111 = .ok (.if_icmp .le 8, 3) := op164 (bA_at bd03_dec_X11_3_8 10 rfl rfl) (by decide +kernel)
theorem dX11_psalm_114 : decode cX11_psalm 114 = .ok (.iload 8, 2) := op21 (bA_at bd03_dec_X11_3_8 11 rfl rfl) rfl
theorem dX11_psalm_116 : decode cX11_psalm 116 = .ok (.goto 5, 3) := op167 (bA_at bd03_dec_X11_3_8 12 rfl rfl) (by decide +kernel)
theorem dX11_psalm_119 : decode cX11_psalm 119 = .ok (.iload 6, 2) := op21 (bA_at bd03_dec_X11_3_8 13 rfl rfl) rfl
theorem dX11_psalm_121 : decode cX11_psalm 121 = .ok (.istore 6, 2) := op54 (bA_at bd03_dec_X11_3_8 14 rfl rfl) rfl
theorem dX11_psalm_123 : decode cX11_psalm 123 = .ok (.iload 7, 2) := op21 (bA_at bd03_dec_X11_3_8 15 rfl rfl) rfl
theorem dX11_psalm_125 : decode cX11_psalm 125 = .ok (.aload_n 0, 1) := op42 (bA_at bd03_dec_X11_3_8 16 rfl rfl)
theorem dX11_psalm_126 : decode cX11_psalm 126 = .ok (.getfield 59, 3) := op180 (bA_at bd03_dec_X11_3_8 17 rfl rfl) rfl
theorem dX11_psalm_129 : decode cX11_psalm 129 = .ok (.iload_n 2, 1) := op28 (bA_at bd03_dec_X11_3_8 18 rfl rfl)
theorem dX11_psalm_130 : decode cX11_psalm 130 = .ok (.iaload, 1) := op46 (bA_at bd03_dec_X11_3_8 19 rfl rfl)
theorem dX11_psalm_131 : decode cX11_psalm 131 = .ok (.invokestatic 411, 3) := op184 (bA_at bd03_dec_X11_3_8 20 rfl rfl) rfl
theorem dX11_psalm_134 : decode cX11_psalm 134 = .ok (.istore 7, 2) := op54 (bA_at bd03_dec_X11_3_8 21 rfl rfl) rfl
theorem dX11_psalm_136 : decode cX11_psalm 136 = .ok (.iinc 8 1, 3) := op132 (bA_at bd03_dec_X11_3_8 22 rfl rfl) rfl (by decide +kernel)
theorem dX11_psalm_139 : decode cX11_psalm 139 = .ok (.goto (-81), 3) := op167 (bA_at bd03_dec_X11_3_8 23 rfl rfl) (by decide +kernel)
theorem dX11_psalm_142 : decode cX11_psalm 142 = .ok (.iload 4, 2) := op21 (bA_at bd03_dec_X11_3_8 24 rfl rfl) rfl
theorem dX11_psalm_144 : decode cX11_psalm 144 = .ok (.ifCond .ne 8, 3) := op154 (bA_at bd03_dec_X11_3_8 25 rfl rfl) (by decide +kernel)
theorem dX11_psalm_147 : decode cX11_psalm 147 = .ok (.iload 5, 2) := op21 (bA_at bd03_dec_X11_3_8 26 rfl rfl) rfl
theorem dX11_psalm_149 : decode cX11_psalm 149 = .ok (.goto 27, 3) := op167 (bA_at bd03_dec_X11_3_8 27 rfl rfl) (by decide +kernel)
theorem dX11_psalm_152 : decode cX11_psalm 152 = .ok (.iload 4, 2) := op21 (bA_at bd03_dec_X11_3_8 28 rfl rfl) rfl
theorem dX11_psalm_154 : decode cX11_psalm 154 = .ok (.iconst 1, 1) := op4 (bA_at bd03_dec_X11_3_8 29 rfl rfl)
theorem dX11_psalm_155 : decode cX11_psalm 155 = .ok (.if_icmp .ne 8, 3) := op160 (bA_at bd03_dec_X11_3_8 30 rfl rfl) (by decide +kernel)
theorem dX11_psalm_158 : decode cX11_psalm 158 = .ok (.iload 6, 2) := op21 (bA_at bd03_dec_X11_3_8 31 rfl rfl) rfl
theorem dX11_psalm_160 : decode cX11_psalm 160 = .ok (.goto 16, 3) := op167 (bA_at bd03_dec_X11_3_8 32 rfl rfl) (by decide +kernel)
theorem dX11_psalm_163 : decode cX11_psalm 163 = .ok (.iload 5, 2) := op21 (bA_at bd03_dec_X11_3_8 33 rfl rfl) rfl
theorem dX11_psalm_165 : decode cX11_psalm 165 = .ok (.ifCond .ne 7, 3) := op154 (bA_at bd03_dec_X11_3_8 34 rfl rfl) (by decide +kernel)
theorem dX11_psalm_168 : decode cX11_psalm 168 = .ok (.iconst (-1), 1) := op2 (bA_at bd03_dec_X11_3_8 35 rfl rfl)
theorem dX11_psalm_169 : decode cX11_psalm 169 = .ok (.goto 7, 3) := op167 (bA_at bd03_dec_X11_3_8 36 rfl rfl) (by decide +kernel)
theorem dX11_psalm_172 : decode cX11_psalm 172 = .ok (.iload_n 3, 1) := op29 (bA_at bd03_dec_X11_3_8 37 rfl rfl)
theorem dX11_psalm_173 : decode cX11_psalm 173 = .ok (.iload 7, 2) := op21 (bA_at bd03_dec_X11_3_8 38 rfl rfl) rfl
theorem dX11_psalm_175 : decode cX11_psalm 175 = .ok (.isub, 1) := op100 (bA_at bd03_dec_X11_3_8 39 rfl rfl)
theorem dX11_psalm_176 : decode cX11_psalm 176 = .ok (.ireturn, 1) := op172 (bA_at bd03_dec_X11_3_8 40 rfl rfl)
theorem bd03_dec_X11_3_9 : ([(0, [42]), (1, [3]), (2, [181, 0, 97]), (5, [42]), (6, [27]), (7, [182, 1, 57]), (10, [153, 0, 24]), (13, [42]), (14, [28]), (15, [182, 1, 69]), (18, [153, 0, 16]), (21, [42]), (22, [29]), (23, [182, 1, 69]), (26, [153, 0, 8]), (29, [28]), (30, [29]), (31, [160, 0, 5]), (34, [2]), (35, [172]), (36, [42]), (37, [182, 1, 198]), (40, [2]), (41, [54, 5]), (43, [19, 1, 154]), (46, [54, 6]), (48, [3]), (49, [54, 7]), (51, [21, 7]), (53, [42]), (54, [180, 1, 51]), (57, [162, 0, 77]), (60, [42]), (61, [180, 0, 78]), (64, [16, 9]), (66, [42]), (67, [16, 25]), (69, [28]), (70, [96]), (71, [182, 1, 47]), (74, [104]), (75, [21, 7]), (77, [96]), (78, [46]), (79, [42]), (80, [180, 0, 78]), (83, [16, 9]), (85, [42]), (86, [16, 25]), (88, [29])] : List (Nat × List UInt8)).all (fun x => prB x.2 ((cX11_meet.data.toList.drop 0).drop x.1)) = true := by decide +kernel
theorem dX11_meet_0 : decode cX11_meet 0 = .ok (.aload_n 0, 1) := op42 (bA_at bd03_dec_X11_3_9 0 rfl rfl)
theorem dX11_meet_1 : decode cX11_meet 1 = .ok (.iconst 0, 1) := op3 (bA_at bd03_dec_X11_3_9 1 rfl rfl)
theorem dX11_meet_2 : decode cX11_meet 2 = .ok (.putfield 97, 3) := op181 (bA_at bd03_dec_X11_3_9 2 rfl rfl) rfl
theorem dX11_meet_5 : decode cX11_meet 5 = .ok (.aload_n 0, 1) := op42 (bA_at bd03_dec_X11_3_9 3 rfl rfl)
theorem dX11_meet_6 : decode cX11_meet 6 = .ok (.iload_n 1, 1) := op27 (bA_at bd03_dec_X11_3_9 4 rfl rfl)
theorem dX11_meet_7 : decode cX11_meet 7 = .ok (.invokevirtual 313, 3) := op182 (bA_at bd03_dec_X11_3_9 5 rfl rfl) rfl
theorem dX11_meet_10 : decode cX11_meet 10 = .ok (.ifCond .eq 24, 3) := op153 (bA_at bd03_dec_X11_3_9 6 rfl rfl) (by decide +kernel)
theorem dX11_meet_13 : decode cX11_meet 13 = .ok (.aload_n 0, 1) := op42 (bA_at bd03_dec_X11_3_9 7 rfl rfl)
theorem dX11_meet_14 : decode cX11_meet 14 = .ok (.iload_n 2, 1) := op28 (bA_at bd03_dec_X11_3_9 8 rfl rfl)
theorem dX11_meet_15 : decode cX11_meet 15 = .ok (.invokevirtual 325, 3) := op182 (bA_at bd03_dec_X11_3_9 9 rfl rfl) rfl
theorem dX11_meet_18 : decode cX11_meet 18 = .ok (.ifCond .eq 16, 3) := op153 (bA_at bd03_dec_X11_3_9 10 rfl rfl) (by decide +kernel)
theorem dX11_meet_21 : decode cX11_meet 21 = .ok (.aload_n 0, 1) := op42 (bA_at bd03_dec_X11_3_9 11 rfl rfl)
theorem dX11_meet_22 : decode cX11_meet 22 = .ok (.iload_n 3, 1) := op29 (bA_at bd03_dec_X11_3_9 12 rfl rfl)
theorem dX11_meet_23 : decode cX11_meet 23 = .ok (.invokevirtual 325, 3) := op182 (bA_at bd03_dec_X11_3_9 13 rfl rfl) rfl
theorem dX11_meet_26 : decode cX11_meet 26 = .ok (.ifCond .eq 8, 3) := op153 (bA_at bd03_dec_X11_3_9 14 rfl rfl) (by decide +kernel)
theorem dX11_meet_29 : decode cX11_meet 29 = .ok (.iload_n 2, 1) := op28 (bA_at bd03_dec_X11_3_9 15 rfl rfl)
theorem dX11_meet_30 : decode cX11_meet 30 = .ok (.iload_n 3, 1) := op29 (bA_at bd03_dec_X11_3_9 16 rfl rfl)
theorem dX11_meet_31 : decode cX11_meet 31 = .ok (.if_icmp .ne 5, 3) := op160 (bA_at bd03_dec_X11_3_9 17 rfl rfl) (by decide +kernel)
theorem dX11_meet_34 : decode cX11_meet 34 = .ok (.iconst (-1), 1) := op2 (bA_at bd03_dec_X11_3_9 18 rfl rfl)
theorem dX11_meet_35 : decode cX11_meet 35 = .ok (.ireturn, 1) := op172 (bA_at bd03_dec_X11_3_9 19 rfl rfl)
theorem dX11_meet_36 : decode cX11_meet 36 = .ok (.aload_n 0, 1) := op42 (bA_at bd03_dec_X11_3_9 20 rfl rfl)
theorem dX11_meet_37 : decode cX11_meet 37 = .ok (.invokevirtual 454, 3) := op182 (bA_at bd03_dec_X11_3_9 21 rfl rfl) rfl
theorem dX11_meet_40 : decode cX11_meet 40 = .ok (.iconst (-1), 1) := op2 (bA_at bd03_dec_X11_3_9 22 rfl rfl)
theorem dX11_meet_41 : decode cX11_meet 41 = .ok (.istore 5, 2) := op54 (bA_at bd03_dec_X11_3_9 23 rfl rfl) rfl
theorem dX11_meet_43 : decode cX11_meet 43 = .ok (.ldc_w 410, 3) := op19 (bA_at bd03_dec_X11_3_9 24 rfl rfl) rfl
theorem dX11_meet_46 : decode cX11_meet 46 = .ok (.istore 6, 2) := op54 (bA_at bd03_dec_X11_3_9 25 rfl rfl) rfl
theorem dX11_meet_48 : decode cX11_meet 48 = .ok (.iconst 0, 1) := op3 (bA_at bd03_dec_X11_3_9 26 rfl rfl)
theorem dX11_meet_49 : decode cX11_meet 49 = .ok (.istore 7, 2) := op54 (bA_at bd03_dec_X11_3_9 27 rfl rfl) rfl
theorem dX11_meet_51 : decode cX11_meet 51 = .ok (.iload 7, 2) := op21 (bA_at bd03_dec_X11_3_9 28 rfl rfl) rfl
theorem dX11_meet_53 : decode cX11_meet 53 = .ok (.aload_n 0, 1) := op42 (bA_at bd03_dec_X11_3_9 29 rfl rfl)
theorem dX11_meet_54 : decode cX11_meet 54 = .ok (.getfield 307, 3) := op180 (bA_at bd03_dec_X11_3_9 30 rfl rfl) rfl
theorem dX11_meet_57 : decode cX11_meet 57 = .ok (.if_icmp .ge 77, 3) := op162 (bA_at bd03_dec_X11_3_9 31 rfl rfl) (by decide +kernel)
theorem dX11_meet_60 : decode cX11_meet 60 = .ok (.aload_n 0, 1) := op42 (bA_at bd03_dec_X11_3_9 32 rfl rfl)
theorem dX11_meet_61 : decode cX11_meet 61 = .ok (.getfield 78, 3) := op180 (bA_at bd03_dec_X11_3_9 33 rfl rfl) rfl
theorem dX11_meet_64 : decode cX11_meet 64 = .ok (.bipush 9, 2) := op16 (bA_at bd03_dec_X11_3_9 34 rfl rfl) (by decide +kernel)
theorem dX11_meet_66 : decode cX11_meet 66 = .ok (.aload_n 0, 1) := op42 (bA_at bd03_dec_X11_3_9 35 rfl rfl)
theorem dX11_meet_67 : decode cX11_meet 67 = .ok (.bipush 25, 2) := op16 (bA_at bd03_dec_X11_3_9 36 rfl rfl) (by decide +kernel)
theorem dX11_meet_69 : decode cX11_meet 69 = .ok (.iload_n 2, 1) := op28 (bA_at bd03_dec_X11_3_9 37 rfl rfl)
theorem dX11_meet_70 : decode cX11_meet 70 = .ok (.iadd, 1) := op96 (bA_at bd03_dec_X11_3_9 38 rfl rfl)
theorem dX11_meet_71 : decode cX11_meet 71 = .ok (.invokevirtual 303, 3) := op182 (bA_at bd03_dec_X11_3_9 39 rfl rfl) rfl
theorem dX11_meet_74 : decode cX11_meet 74 = .ok (.imul, 1) := op104 (bA_at bd03_dec_X11_3_9 40 rfl rfl)
theorem dX11_meet_75 : decode cX11_meet 75 = .ok (.iload 7, 2) := op21 (bA_at bd03_dec_X11_3_9 41 rfl rfl) rfl
theorem dX11_meet_77 : decode cX11_meet 77 = .ok (.iadd, 1) := op96 (bA_at bd03_dec_X11_3_9 42 rfl rfl)
theorem dX11_meet_78 : decode cX11_meet 78 = .ok (.iaload, 1) := op46 (bA_at bd03_dec_X11_3_9 43 rfl rfl)
theorem dX11_meet_79 : decode cX11_meet 79 = .ok (.aload_n 0, 1) := op42 (bA_at bd03_dec_X11_3_9 44 rfl rfl)
theorem dX11_meet_80 : decode cX11_meet 80 = .ok (.getfield 78, 3) := op180 (bA_at bd03_dec_X11_3_9 45 rfl rfl) rfl
theorem dX11_meet_83 : decode cX11_meet 83 = .ok (.bipush 9, 2) := op16 (bA_at bd03_dec_X11_3_9 46 rfl rfl) (by decide +kernel)
theorem dX11_meet_85 : decode cX11_meet 85 = .ok (.aload_n 0, 1) := op42 (bA_at bd03_dec_X11_3_9 47 rfl rfl)
theorem dX11_meet_86 : decode cX11_meet 86 = .ok (.bipush 25, 2) := op16 (bA_at bd03_dec_X11_3_9 48 rfl rfl) (by decide +kernel)
theorem dX11_meet_88 : decode cX11_meet 88 = .ok (.iload_n 3, 1) := op29 (bA_at bd03_dec_X11_3_9 49 rfl rfl)
theorem bd03_dec_X11_3_10 : ([(0, [96]), (1, [182, 1, 47]), (4, [104]), (5, [21, 7]), (7, [96]), (8, [46]), (9, [184, 0, 171]), (12, [54, 8]), (14, [21, 8]), (16, [21, 6]), (18, [162, 0, 8]), (21, [21, 7]), (23, [167, 0, 5]), (26, [21, 5]), (28, [54, 5]), (30, [21, 6]), (32, [21, 8]), (34, [184, 1, 155]), (37, [54, 6]), (39, [132, 7, 1]), (42, [167, 255, 176]), (45, [21, 5]), (47, [2]), (48, [159, 0, 8]), (51, [21, 4]), (53, [154, 0, 8]), (56, [21, 5]), (58, [167, 0, 5]), (61, [21, 6]), (63, [172])] : List (Nat × List UInt8)).all (fun x => prB x.2 ((cX11_meet.data.toList.drop 89).drop x.1)) = true := by decide +kernel
theorem dX11_meet_89 : decode cX11_meet 89 = .ok (.iadd, 1) := op96 (bA_at bd03_dec_X11_3_10 0 rfl rfl)
theorem dX11_meet_90 : decode cX11_meet 90 = .ok (.invokevirtual 303, 3) := op182 (bA_at bd03_dec_X11_3_10 1 rfl rfl) rfl
theorem dX11_meet_93 : decode cX11_meet 93 = .ok (.imul, 1) := op104 (bA_at bd03_dec_X11_3_10 2 rfl rfl)
theorem dX11_meet_94 : decode cX11_meet 94 = .ok (.iload 7, 2) := op21 (bA_at bd03_dec_X11_3_10 3 rfl rfl) rfl
theorem dX11_meet_96 : decode cX11_meet 96 = .ok (.iadd, 1) := op96 (bA_at bd03_dec_X11_3_10 4 rfl rfl)
theorem dX11_meet_97 : decode cX11_meet 97 = .ok (.iaload, 1) := op46 (bA_at bd03_dec_X11_3_10 5 rfl rfl)
theorem dX11_meet_98 : decode cX11_meet 98 = .ok (.invokestatic 171, 3) := op184 (bA_at bd03_dec_X11_3_10 6 rfl rfl) rfl
theorem dX11_meet_101 : decode cX11_meet 101 = .ok (.istore 8, 2) := op54 (bA_at bd03_dec_X11_3_10 7 rfl rfl) rfl
theorem dX11_meet_103 : decode cX11_meet 103 = .ok (.iload 8, 2) := op21 (bA_at bd03_dec_X11_3_10 8 rfl rfl) rfl
theorem dX11_meet_105 : decode cX11_meet 105 = .ok (.iload 6, 2) := op21 (bA_at bd03_dec_X11_3_10 9 rfl rfl) rfl
theorem dX11_meet_107 : decode cX11_meet 107 = .ok (.if_icmp .ge 8, 3) := op162 (bA_at bd03_dec_X11_3_10 10 rfl rfl) (by decide +kernel)
theorem dX11_meet_110 : decode cX11_meet 110 = .ok (.iload 7, 2) := op21 (bA_at bd03_dec_X11_3_10 11 rfl rfl) rfl
theorem dX11_meet_112 : decode cX11_meet 112 = .ok (.goto 5, 3) := op167 (bA_at bd03_dec_X11_3_10 12 rfl rfl) (by decide +kernel)
theorem dX11_meet_115 : decode cX11_meet 115 = .ok (.iload 5, 2) := op21 (bA_at bd03_dec_X11_3_10 13 rfl rfl) rfl
theorem dX11_meet_117 : decode cX11_meet 117 = .ok (.istore 5, 2) := op54 (bA_at bd03_dec_X11_3_10 14 rfl rfl) rfl
theorem dX11_meet_119 : decode cX11_meet 119 = .ok (.iload 6, 2) := op21 (bA_at bd03_dec_X11_3_10 15 rfl rfl) rfl
theorem dX11_meet_121 : decode cX11_meet 121 = .ok (.iload 8, 2) := op21 (bA_at bd03_dec_X11_3_10 16 rfl rfl) rfl
theorem dX11_meet_123 : decode cX11_meet 123 = .ok (.invokestatic 411, 3) := op184 (bA_at bd03_dec_X11_3_10 17 rfl rfl) rfl
theorem dX11_meet_126 : decode cX11_meet 126 = .ok (.istore 6, 2) := op54 (bA_at bd03_dec_X11_3_10 18 rfl rfl) rfl
theorem dX11_meet_128 : decode cX11_meet 128 = .ok (.iinc 7 1, 3) := op132 (bA_at bd03_dec_X11_3_10 19 rfl rfl) rfl (by decide +kernel)
theorem dX11_meet_131 : decode cX11_meet 131 = .ok (.goto (-80), 3) := op167 (bA_at bd03_dec_X11_3_10 20 rfl rfl) (by decide +kernel)
theorem dX11_meet_134 : decode cX11_meet 134 = .ok (.iload 5, 2) := op21 (bA_at bd03_dec_X11_3_10 21 rfl rfl) rfl
theorem dX11_meet_136 : decode cX11_meet 136 = .ok (.iconst (-1), 1) := op2 (bA_at bd03_dec_X11_3_10 22 rfl rfl)
theorem dX11_meet_137 : decode cX11_meet 137 = .ok (.if_icmp .eq 8, 3) := op159 (bA_at bd03_dec_X11_3_10 23 rfl rfl) (by decide +kernel)
theorem dX11_meet_140 : decode cX11_meet 140 = .ok (.iload 4, 2) := op21 (bA_at bd03_dec_X11_3_10 24 rfl rfl) rfl
theorem dX11_meet_142 : decode cX11_meet 142 = .ok (.ifCond .ne 8, 3) := op154 (bA_at bd03_dec_X11_3_10 25 rfl rfl) (by decide +kernel)
theorem dX11_meet_145 : decode cX11_meet 145 = .ok (.iload 5, 2) := op21 (bA_at bd03_dec_X11_3_10 26 rfl rfl) rfl
theorem dX11_meet_147 : decode cX11_meet 147 = .ok (.goto 5, 3) := op167 (bA_at bd03_dec_X11_3_10 27 rfl rfl) (by decide +kernel)
theorem dX11_meet_150 : decode cX11_meet 150 = .ok (.iload 6, 2) := op21 (bA_at bd03_dec_X11_3_10 28 rfl rfl) rfl
theorem dX11_meet_152 : decode cX11_meet 152 = .ok (.ireturn, 1) := op172 (bA_at bd03_dec_X11_3_10 29 rfl rfl)
theorem bd03_dec_X11_3_11 : ([(0, [42]), (1, [3]), (2, [181, 0, 97]), (5, [42]), (6, [27]), (7, [182, 1, 57]), (10, [153, 0, 11]), (13, [42]), (14, [28]), (15, [182, 1, 69]), (18, [154, 0, 5]), (21, [2]), (22, [172]), (23, [42]), (24, [182, 1, 198]), (27, [2]), (28, [54, 4]), (30, [19, 1, 154]), (33, [54, 5]), (35, [3]), (36, [54, 6]), (38, [21, 6]), (40, [42]), (41, [180, 1, 51]), (44, [162, 0, 82]), (47, [42]), (48, [21, 6]), (50, [3]), (51, [182, 1, 158]), (54, [42]), (55, [21, 6]), (57, [182, 1, 99]), (60, [153, 0, 9]), (63, [19, 1, 154]), (66, [167, 0, 27]), (69, [42]), (70, [180, 0, 78]), (73, [16, 9]), (75, [42]), (76, [16, 25]), (78, [28]), (79, [96]), (80, [182, 1, 47]), (83, [104]), (84, [21, 6]), (86, [96]), (87, [46]), (88, [42]), (89, [182, 1, 170]), (92, [96])] : List (Nat × List UInt8)).all (fun x => prB x.2 ((cX11_carry.data.toList.drop 0).drop x.1)) = true := by decide +kernel
theorem dX11_carry_0 : decode cX11_carry 0 = .ok (.aload_n 0, 1) := op42 (bA_at bd03_dec_X11_3_11 0 rfl rfl)
theorem dX11_carry_1 : decode cX11_carry 1 = .ok (.iconst 0, 1) := op3 (bA_at bd03_dec_X11_3_11 1 rfl rfl)
theorem dX11_carry_2 : decode cX11_carry 2 = .ok (.putfield 97, 3) := op181 (bA_at bd03_dec_X11_3_11 2 rfl rfl) rfl
theorem dX11_carry_5 : decode cX11_carry 5 = .ok (.aload_n 0, 1) := op42 (bA_at bd03_dec_X11_3_11 3 rfl rfl)
theorem dX11_carry_6 : decode cX11_carry 6 = .ok (.iload_n 1, 1) := op27 (bA_at bd03_dec_X11_3_11 4 rfl rfl)
theorem dX11_carry_7 : decode cX11_carry 7 = .ok (.invokevirtual 313, 3) := op182 (bA_at bd03_dec_X11_3_11 5 rfl rfl) rfl
theorem dX11_carry_10 : decode cX11_carry 10 = .ok (.ifCond .eq 11, 3) := op153 (bA_at bd03_dec_X11_3_11 6 rfl rfl) (by decide +kernel)
theorem dX11_carry_13 : decode cX11_carry 13 = .ok (.aload_n 0, 1) := op42 (bA_at bd03_dec_X11_3_11 7 rfl rfl)
theorem dX11_carry_14 : decode cX11_carry 14 = .ok (.iload_n 2, 1) := op28 (bA_at bd03_dec_X11_3_11 8 rfl rfl)
theorem dX11_carry_15 : decode cX11_carry 15 = .ok (.invokevirtual 325, 3) := op182 (bA_at bd03_dec_X11_3_11 9 rfl rfl) rfl
theorem dX11_carry_18 : decode cX11_carry 18 = .ok (.ifCond .ne 5, 3) := op154 (bA_at bd03_dec_X11_3_11 10 rfl rfl) (by decide +kernel)
theorem dX11_carry_21 : decode cX11_carry 21 = .ok (.iconst (-1), 1) := op2 (bA_at bd03_dec_X11_3_11 11 rfl rfl)
theorem dX11_carry_22 : decode cX11_carry 22 = .ok (.ireturn, 1) := op172 (bA_at bd03_dec_X11_3_11 12 rfl rfl)
theorem dX11_carry_23 : decode cX11_carry 23 = .ok (.aload_n 0, 1) := op42 (bA_at bd03_dec_X11_3_11 13 rfl rfl)
theorem dX11_carry_24 : decode cX11_carry 24 = .ok (.invokevirtual 454, 3) := op182 (bA_at bd03_dec_X11_3_11 14 rfl rfl) rfl
theorem dX11_carry_27 : decode cX11_carry 27 = .ok (.iconst (-1), 1) := op2 (bA_at bd03_dec_X11_3_11 15 rfl rfl)
theorem dX11_carry_28 : decode cX11_carry 28 = .ok (.istore 4, 2) := op54 (bA_at bd03_dec_X11_3_11 16 rfl rfl) rfl
theorem dX11_carry_30 : decode cX11_carry 30 = .ok (.ldc_w 410, 3) := op19 (bA_at bd03_dec_X11_3_11 17 rfl rfl) rfl
theorem dX11_carry_33 : decode cX11_carry 33 = .ok (.istore 5, 2) := op54 (bA_at bd03_dec_X11_3_11 18 rfl rfl) rfl
theorem dX11_carry_35 : decode cX11_carry 35 = .ok (.iconst 0, 1) := op3 (bA_at bd03_dec_X11_3_11 19 rfl rfl)
theorem dX11_carry_36 : decode cX11_carry 36 = .ok (.istore 6, 2) := op54 (bA_at bd03_dec_X11_3_11 20 rfl rfl) rfl
theorem dX11_carry_38 : decode cX11_carry 38 = .ok (.iload 6, 2) := op21 (bA_at bd03_dec_X11_3_11 21 rfl rfl) rfl
theorem dX11_carry_40 : decode cX11_carry 40 = .ok (.aload_n 0, 1) := op42 (bA_at bd03_dec_X11_3_11 22 rfl rfl)
theorem dX11_carry_41 : decode cX11_carry 41 = .ok (.getfield 307, 3) := op180 (bA_at bd03_dec_X11_3_11 23 rfl rfl) rfl
theorem dX11_carry_44 : decode cX11_carry 44 = .ok (.if_icmp .ge 82, 3) := op162 (bA_at bd03_dec_X11_3_11 24 rfl rfl) (by decide +kernel)
theorem dX11_carry_47 : decode cX11_carry 47 = .ok (.aload_n 0, 1) := op42 (bA_at bd03_dec_X11_3_11 25 rfl rfl)
theorem dX11_carry_48 : decode cX11_carry 48 = .ok (.iload 6, 2) := op21 (bA_at bd03_dec_X11_3_11 26 rfl rfl) rfl
theorem dX11_carry_50 : decode cX11_carry 50 = .ok (.iconst 0, 1) := op3 (bA_at bd03_dec_X11_3_11 27 rfl rfl)
theorem dX11_carry_51 : decode cX11_carry 51 = .ok (.invokevirtual 414, 3) := op182 (bA_at bd03_dec_X11_3_11 28 rfl rfl) rfl
theorem dX11_carry_54 : decode cX11_carry 54 = .ok (.aload_n 0, 1) := op42 (bA_at bd03_dec_X11_3_11 29 rfl rfl)
theorem dX11_carry_55 : decode cX11_carry 55 = .ok (.iload 6, 2) := op21 (bA_at bd03_dec_X11_3_11 30 rfl rfl) rfl
theorem dX11_carry_57 : decode cX11_carry 57 = .ok (.invokevirtual 355, 3) := op182 (bA_at bd03_dec_X11_3_11 31 rfl rfl) rfl
theorem dX11_carry_60 : decode cX11_carry 60 = .ok (.ifCond .eq 9, 3) := op153 (bA_at bd03_dec_X11_3_11 32 rfl rfl) (by decide +kernel)
theorem dX11_carry_63 : decode cX11_carry 63 = .ok (.ldc_w 410, 3) := op19 (bA_at bd03_dec_X11_3_11 33 rfl rfl) rfl
theorem dX11_carry_66 : decode cX11_carry 66 = .ok (.goto 27, 3) := op167 (bA_at bd03_dec_X11_3_11 34 rfl rfl) (by decide +kernel)
theorem dX11_carry_69 : decode cX11_carry 69 = .ok (.aload_n 0, 1) := op42 (bA_at bd03_dec_X11_3_11 35 rfl rfl)
theorem dX11_carry_70 : decode cX11_carry 70 = .ok (.getfield 78, 3) := op180 (bA_at bd03_dec_X11_3_11 36 rfl rfl) rfl
theorem dX11_carry_73 : decode cX11_carry 73 = .ok (.bipush 9, 2) := op16 (bA_at bd03_dec_X11_3_11 37 rfl rfl) (by decide +kernel)
theorem dX11_carry_75 : decode cX11_carry 75 = .ok (.aload_n 0, 1) := op42 (bA_at bd03_dec_X11_3_11 38 rfl rfl)
theorem dX11_carry_76 : decode cX11_carry 76 = .ok (.bipush 25, 2) := op16 (bA_at bd03_dec_X11_3_11 39 rfl rfl) (by decide +kernel)
theorem dX11_carry_78 : decode cX11_carry 78 = .ok (.iload_n 2, 1) := op28 (bA_at bd03_dec_X11_3_11 40 rfl rfl)
theorem dX11_carry_79 : decode cX11_carry 79 = .ok (.iadd, 1) := op96 (bA_at bd03_dec_X11_3_11 41 rfl rfl)
theorem dX11_carry_80 : decode cX11_carry 80 = .ok (.invokevirtual 303, 3) := op182 (bA_at bd03_dec_X11_3_11 42 rfl rfl) rfl
theorem dX11_carry_83 : decode cX11_carry 83 = .ok (.imul, 1) := op104 (bA_at bd03_dec_X11_3_11 43 rfl rfl)
theorem dX11_carry_84 : decode cX11_carry 84 = .ok (.iload 6, 2) := op21 (bA_at bd03_dec_X11_3_11 44 rfl rfl) rfl
theorem dX11_carry_86 : decode cX11_carry 86 = .ok (.iadd, 1) := op96 (bA_at bd03_dec_X11_3_11 45 rfl rfl)
theorem dX11_carry_87 : decode cX11_carry 87 = .ok (.iaload, 1) := op46 (bA_at bd03_dec_X11_3_11 46 rfl rfl)
theorem dX11_carry_88 : decode cX11_carry 88 = .ok (.aload_n 0, 1) := op42 (bA_at bd03_dec_X11_3_11 47 rfl rfl)
theorem dX11_carry_89 : decode cX11_carry 89 = .ok (.invokevirtual 426, 3) := op182 (bA_at bd03_dec_X11_3_11 48 rfl rfl) rfl
theorem dX11_carry_92 : decode cX11_carry 92 = .ok (.iadd, 1) := op96 (bA_at bd03_dec_X11_3_11 49 rfl rfl)
theorem bd03_dec_X11_3_12 : ([(0, [54, 7]), (2, [21, 7]), (4, [21, 5]), (6, [162, 0, 8]), (9, [21, 6]), (11, [167, 0, 5]), (14, [21, 4]), (16, [54, 4]), (18, [21, 5]), (20, [21, 7]), (22, [184, 1, 155]), (25, [54, 5]), (27, [132, 6, 1]), (30, [167, 255, 171]), (33, [21, 4]), (35, [2]), (36, [159, 0, 7]), (39, [29]), (40, [154, 0, 8]), (43, [21, 4]), (45, [167, 0, 5]), (48, [21, 5]), (50, [172])] : List (Nat × List UInt8)).all (fun x => prB x.2 ((cX11_carry.data.toList.drop 93).drop x.1)) = true := by decide +kernel
theorem dX11_carry_93 : decode cX11_carry 93 = .ok (.istore 7, 2) := op54 (bA_at bd03_dec_X11_3_12 0 rfl rfl) rfl
theorem dX11_carry_95 : decode cX11_carry 95 = .ok (.iload 7, 2) := op21 (bA_at bd03_dec_X11_3_12 1 rfl rfl) rfl
theorem dX11_carry_97 : decode cX11_carry 97 = .ok (.iload 5, 2) := op21 (bA_at bd03_dec_X11_3_12 2 rfl rfl) rfl
theorem dX11_carry_99 : decode cX11_carry 99 = .ok (.if_icmp .ge 8, 3) := op162 (bA_at bd03_dec_X11_3_12 3 rfl rfl) (by decide +kernel)
theorem dX11_carry_102 : decode cX11_carry 102 = .ok (.iload 6, 2) := op21 (bA_at bd03_dec_X11_3_12 4 rfl rfl) rfl
theorem dX11_carry_104 : decode cX11_carry 104 = .ok (.goto 5, 3) := op167 (bA_at bd03_dec_X11_3_12 5 rfl rfl) (by decide +kernel)
theorem dX11_carry_107 : decode cX11_carry 107 = .ok (.iload 4, 2) := op21 (bA_at bd03_dec_X11_3_12 6 rfl rfl) rfl
theorem dX11_carry_109 : decode cX11_carry 109 = .ok (.istore 4, 2) := op54 (bA_at bd03_dec_X11_3_12 7 rfl rfl) rfl
theorem dX11_carry_111 : decode cX11_carry 111 = .ok (.iload 5, 2) := op21 (bA_at bd03_dec_X11_3_12 8 rfl rfl) rfl
theorem dX11_carry_113 : decode cX11_carry 113 = .ok (.iload 7, 2) := op21 (bA_at bd03_dec_X11_3_12 9 rfl rfl) rfl
theorem dX11_carry_115 : decode cX11_carry 115 = .ok (.invokestatic 411, 3) := op184 (bA_at bd03_dec_X11_3_12 10 rfl rfl) rfl
theorem dX11_carry_118 : decode cX11_carry 118 = .ok (.istore 5, 2) := op54 (bA_at bd03_dec_X11_3_12 11 rfl rfl) rfl
theorem dX11_carry_120 : decode cX11_carry 120 = .ok (.iinc 6 1, 3) := op132 (bA_at bd03_dec_X11_3_12 12 rfl rfl) rfl (by decide +kernel)
theorem dX11_carry_123 : decode cX11_carry 123 = .ok (.goto (-85), 3) := op167 (bA_at bd03_dec_X11_3_12 13 rfl rfl) (by decide +kernel)
theorem dX11_carry_126 : decode cX11_carry 126 = .ok (.iload 4, 2) := op21 (bA_at bd03_dec_X11_3_12 14 rfl rfl) rfl
theorem dX11_carry_128 : decode cX11_carry 128 = .ok (.iconst (-1), 1) := op2 (bA_at bd03_dec_X11_3_12 15 rfl rfl)
theorem dX11_carry_129 : decode cX11_carry 129 = .ok (.if_icmp .eq 7, 3) := op159 (bA_at bd03_dec_X11_3_12 16 rfl rfl) (by decide +kernel)
theorem dX11_carry_132 : decode cX11_carry 132 = .ok (.iload_n 3, 1) := op29 (bA_at bd03_dec_X11_3_12 17 rfl rfl)
theorem dX11_carry_133 : decode cX11_carry 133 = .ok (.ifCond .ne 8, 3) := op154 (bA_at bd03_dec_X11_3_12 18 rfl rfl) (by decide +kernel)
theorem dX11_carry_136 : decode cX11_carry 136 = .ok (.iload 4, 2) := op21 (bA_at bd03_dec_X11_3_12 19 rfl rfl) rfl
theorem dX11_carry_138 : decode cX11_carry 138 = .ok (.goto 5, 3) := op167 (bA_at bd03_dec_X11_3_12 20 rfl rfl) (by decide +kernel)
theorem dX11_carry_141 : decode cX11_carry 141 = .ok (.iload 5, 2) := op21 (bA_at bd03_dec_X11_3_12 21 rfl rfl) rfl
theorem dX11_carry_143 : decode cX11_carry 143 = .ok (.ireturn, 1) := op172 (bA_at bd03_dec_X11_3_12 22 rfl rfl)
theorem bd03_dec_X11_3_13 : ([(0, [42]), (1, [3]), (2, [181, 0, 97]), (5, [42]), (6, [27]), (7, [182, 1, 57]), (10, [153, 0, 19]), (13, [42]), (14, [28]), (15, [182, 1, 60]), (18, [153, 0, 11]), (21, [42]), (22, [29]), (23, [182, 1, 60]), (26, [154, 0, 5]), (29, [2]), (30, [172]), (31, [42]), (32, [28]), (33, [3]), (34, [182, 1, 158]), (37, [3]), (38, [54, 5]), (40, [21, 5]), (42, [42]), (43, [180, 1, 51]), (46, [162, 0, 23]), (49, [42]), (50, [180, 0, 91]), (53, [21, 5]), (55, [42]), (56, [180, 0, 59]), (59, [21, 5]), (61, [46]), (62, [79]), (63, [132, 5, 1]), (66, [167, 255, 230]), (69, [42]), (70, [29]), (71, [3]), (72, [182, 1, 158]), (75, [2]), (76, [54, 5]), (78, [19, 1, 154]), (81, [54, 6]), (83, [3]), (84, [54, 7]), (86, [21, 7]), (88, [42]), (89, [180, 1, 51])] : List (Nat × List UInt8)).all (fun x => prB x.2 ((cX11_join.data.toList.drop 0).drop x.1)) = true := by decide +kernel
theorem dX11_join_0 : decode cX11_join 0 = .ok (.aload_n 0, 1) := op42 (bA_at bd03_dec_X11_3_13 0 rfl rfl)
theorem dX11_join_1 : decode cX11_join 1 = .ok (.iconst 0, 1) := op3 (bA_at bd03_dec_X11_3_13 1 rfl rfl)
theorem dX11_join_2 : decode cX11_join 2 = .ok (.putfield 97, 3) := op181 (bA_at bd03_dec_X11_3_13 2 rfl rfl) rfl
theorem dX11_join_5 : decode cX11_join 5 = .ok (.aload_n 0, 1) := op42 (bA_at bd03_dec_X11_3_13 3 rfl rfl)
theorem dX11_join_6 : decode cX11_join 6 = .ok (.iload_n 1, 1) := op27 (bA_at bd03_dec_X11_3_13 4 rfl rfl)
theorem dX11_join_7 : decode cX11_join 7 = .ok (.invokevirtual 313, 3) := op182 (bA_at bd03_dec_X11_3_13 5 rfl rfl) rfl
theorem dX11_join_10 : decode cX11_join 10 = .ok (.ifCond .eq 19, 3) := op153 (bA_at bd03_dec_X11_3_13 6 rfl rfl) (by decide +kernel)
theorem dX11_join_13 : decode cX11_join 13 = .ok (.aload_n 0, 1) := op42 (bA_at bd03_dec_X11_3_13 7 rfl rfl)
theorem dX11_join_14 : decode cX11_join 14 = .ok (.iload_n 2, 1) := op28 (bA_at bd03_dec_X11_3_13 8 rfl rfl)
theorem dX11_join_15 : decode cX11_join 15 = .ok (.invokevirtual 316, 3) := op182 (bA_at bd03_dec_X11_3_13 9 rfl rfl) rfl
theorem dX11_join_18 : decode cX11_join 18 = .ok (.ifCond .eq 11, 3) := op153 (bA_at bd03_dec_X11_3_13 10 rfl rfl) (by decide +kernel)
theorem dX11_join_21 : decode cX11_join 21 = .ok (.aload_n 0, 1) := op42 (bA_at bd03_dec_X11_3_13 11 rfl rfl)
theorem dX11_join_22 : decode cX11_join 22 = .ok (.iload_n 3, 1) := op29 (bA_at bd03_dec_X11_3_13 12 rfl rfl)
theorem dX11_join_23 : decode cX11_join 23 = .ok (.invokevirtual 316, 3) := op182 (bA_at bd03_dec_X11_3_13 13 rfl rfl) rfl
theorem dX11_join_26 : decode cX11_join 26 = .ok (.ifCond .ne 5, 3) := op154 (bA_at bd03_dec_X11_3_13 14 rfl rfl) (by decide +kernel)
theorem dX11_join_29 : decode cX11_join 29 = .ok (.iconst (-1), 1) := op2 (bA_at bd03_dec_X11_3_13 15 rfl rfl)
theorem dX11_join_30 : decode cX11_join 30 = .ok (.ireturn, 1) := op172 (bA_at bd03_dec_X11_3_13 16 rfl rfl)
theorem dX11_join_31 : decode cX11_join 31 = .ok (.aload_n 0, 1) := op42 (bA_at bd03_dec_X11_3_13 17 rfl rfl)
theorem dX11_join_32 : decode cX11_join 32 = .ok (.iload_n 2, 1) := op28 (bA_at bd03_dec_X11_3_13 18 rfl rfl)
theorem dX11_join_33 : decode cX11_join 33 = .ok (.iconst 0, 1) := op3 (bA_at bd03_dec_X11_3_13 19 rfl rfl)
theorem dX11_join_34 : decode cX11_join 34 = .ok (.invokevirtual 414, 3) := op182 (bA_at bd03_dec_X11_3_13 20 rfl rfl) rfl
theorem dX11_join_37 : decode cX11_join 37 = .ok (.iconst 0, 1) := op3 (bA_at bd03_dec_X11_3_13 21 rfl rfl)
theorem dX11_join_38 : decode cX11_join 38 = .ok (.istore 5, 2) := op54 (bA_at bd03_dec_X11_3_13 22 rfl rfl) rfl
theorem dX11_join_40 : decode cX11_join 40 = .ok (.iload 5, 2) := op21 (bA_at bd03_dec_X11_3_13 23 rfl rfl) rfl
theorem dX11_join_42 : decode cX11_join 42 = .ok (.aload_n 0, 1) := op42 (bA_at bd03_dec_X11_3_13 24 rfl rfl)
theorem dX11_join_43 : decode cX11_join 43 = .ok (.getfield 307, 3) := op180 (bA_at bd03_dec_X11_3_13 25 rfl rfl) rfl
theorem dX11_join_46 : decode cX11_join 46 = .ok (.if_icmp .ge 23, 3) := op162 (bA_at bd03_dec_X11_3_13 26 rfl rfl) (by decide +kernel)
theorem dX11_join_49 : decode cX11_join 49 = .ok (.aload_n 0, 1) := op42 (bA_at bd03_dec_X11_3_13 27 rfl rfl)
theorem dX11_join_50 : decode cX11_join 50 = .ok (.getfield 91, 3) := op180 (bA_at bd03_dec_X11_3_13 28 rfl rfl) rfl
theorem dX11_join_53 : decode cX11_join 53 = .ok (.iload 5, 2) := op21 (bA_at bd03_dec_X11_3_13 29 rfl rfl) rfl
theorem dX11_join_55 : decode cX11_join 55 = .ok (.aload_n 0, 1) := op42 (bA_at bd03_dec_X11_3_13 30 rfl rfl)
theorem dX11_join_56 : decode cX11_join 56 = .ok (.getfield 59, 3) := op180 (bA_at bd03_dec_X11_3_13 31 rfl rfl) rfl
theorem dX11_join_59 : decode cX11_join 59 = .ok (.iload 5, 2) := op21 (bA_at bd03_dec_X11_3_13 32 rfl rfl) rfl
theorem dX11_join_61 : decode cX11_join 61 = .ok (.iaload, 1) := op46 (bA_at bd03_dec_X11_3_13 33 rfl rfl)
theorem dX11_join_62 : decode cX11_join 62 = .ok (.iastore, 1) := op79 (bA_at bd03_dec_X11_3_13 34 rfl rfl)
theorem dX11_join_63 : decode cX11_join 63 = .ok (.iinc 5 1, 3) := op132 (bA_at bd03_dec_X11_3_13 35 rfl rfl) rfl (by decide +kernel)
theorem dX11_join_66 : decode cX11_join 66 = .ok (.goto (-26), 3) := op167 (bA_at bd03_dec_X11_3_13 36 rfl rfl) (by decide +kernel)
theorem dX11_join_69 : decode cX11_join 69 = .ok (.aload_n 0, 1) := op42 (bA_at bd03_dec_X11_3_13 37 rfl rfl)
theorem dX11_join_70 : decode cX11_join 70 = .ok (.iload_n 3, 1) := op29 (bA_at bd03_dec_X11_3_13 38 rfl rfl)
theorem dX11_join_71 : decode cX11_join 71 = .ok (.iconst 0, 1) := op3 (bA_at bd03_dec_X11_3_13 39 rfl rfl)
theorem dX11_join_72 : decode cX11_join 72 = .ok (.invokevirtual 414, 3) := op182 (bA_at bd03_dec_X11_3_13 40 rfl rfl) rfl
theorem dX11_join_75 : decode cX11_join 75 = .ok (.iconst (-1), 1) := op2 (bA_at bd03_dec_X11_3_13 41 rfl rfl)
theorem dX11_join_76 : decode cX11_join 76 = .ok (.istore 5, 2) := op54 (bA_at bd03_dec_X11_3_13 42 rfl rfl) rfl
theorem dX11_join_78 : decode cX11_join 78 = .ok (.ldc_w 410, 3) := op19 (bA_at bd03_dec_X11_3_13 43 rfl rfl) rfl
theorem dX11_join_81 : decode cX11_join 81 = .ok (.istore 6, 2) := op54 (bA_at bd03_dec_X11_3_13 44 rfl rfl) rfl
theorem dX11_join_83 : decode cX11_join 83 = .ok (.iconst 0, 1) := op3 (bA_at bd03_dec_X11_3_13 45 rfl rfl)
theorem dX11_join_84 : decode cX11_join 84 = .ok (.istore 7, 2) := op54 (bA_at bd03_dec_X11_3_13 46 rfl rfl) rfl
theorem dX11_join_86 : decode cX11_join 86 = .ok (.iload 7, 2) := op21 (bA_at bd03_dec_X11_3_13 47 rfl rfl) rfl
theorem dX11_join_88 : decode cX11_join 88 = .ok (.aload_n 0, 1) := op42 (bA_at bd03_dec_X11_3_13 48 rfl rfl)
theorem dX11_join_89 : decode cX11_join 89 = .ok (.getfield 307, 3) := op180 (bA_at bd03_dec_X11_3_13 49 rfl rfl) rfl
theorem bd03_dec_X11_3_14 : ([(0, [162, 0, 53]), (3, [42]), (4, [180, 0, 59]), (7, [21, 7]), (9, [46]), (10, [42]), (11, [180, 0, 91]), (14, [21, 7]), (16, [46]), (17, [184, 0, 171]), (20, [54, 8]), (22, [21, 8]), (24, [21, 6]), (26, [162, 0, 8]), (29, [21, 7]), (31, [167, 0, 5]), (34, [21, 5]), (36, [54, 5]), (38, [21, 6]), (40, [21, 8]), (42, [184, 1, 155]), (45, [54, 6]), (47, [132, 7, 1]), (50, [167, 255, 200]), (53, [21, 5]), (55, [2]), (56, [159, 0, 8]), (59, [21, 4]), (61, [154, 0, 8]), (64, [21, 5]), (66, [167, 0, 5]), (69, [21, 6]), (71, [172])] : List (Nat × List UInt8)).all (fun x => prB x.2 ((cX11_join.data.toList.drop 92).drop x.1)) = true := by decide +kernel
theorem dX11_join_92 : decode cX11_join 92 = .ok (.if_icmp .ge 53, 3) := op162 (bA_at bd03_dec_X11_3_14 0 rfl rfl) (by decide +kernel)
theorem dX11_join_95 : decode cX11_join 95 = .ok (.aload_n 0, 1) := op42 (bA_at bd03_dec_X11_3_14 1 rfl rfl)
theorem dX11_join_96 : decode cX11_join 96 = .ok (.getfield 59, 3) := op180 (bA_at bd03_dec_X11_3_14 2 rfl rfl) rfl
theorem dX11_join_99 : decode cX11_join 99 = .ok (.iload 7, 2) := op21 (bA_at bd03_dec_X11_3_14 3 rfl rfl) rfl
theorem dX11_join_101 : decode cX11_join 101 = .ok (.iaload, 1) := op46 (bA_at bd03_dec_X11_3_14 4 rfl rfl)
theorem dX11_join_102 : decode cX11_join 102 = .ok (.aload_n 0, 1) := op42 (bA_at bd03_dec_X11_3_14 5 rfl rfl)
theorem dX11_join_103 : decode cX11_join 103 = .ok (.getfield 91, 3) := op180 (bA_at bd03_dec_X11_3_14 6 rfl rfl) rfl
theorem dX11_join_106 : decode cX11_join 106 = .ok (.iload 7, 2) := op21 (bA_at bd03_dec_X11_3_14 7 rfl rfl) rfl
theorem dX11_join_108 : decode cX11_join 108 = .ok (.iaload, 1) := op46 (bA_at bd03_dec_X11_3_14 8 rfl rfl)
theorem dX11_join_109 : decode cX11_join 109 = .ok (.invokestatic 171, 3) := op184 (bA_at bd03_dec_X11_3_14 9 rfl rfl) rfl
theorem dX11_join_112 : decode cX11_join 112 = .ok (.istore 8, 2) := op54 (bA_at bd03_dec_X11_3_14 10 rfl rfl) rfl
theorem dX11_join_114 : decode cX11_join 114 = .ok (.iload 8, 2) := op21 (bA_at bd03_dec_X11_3_14 11 rfl rfl) rfl
theorem dX11_join_116 : decode cX11_join 116 = .ok (.iload 6, 2) := op21 (bA_at bd03_dec_X11_3_14 12 rfl rfl) rfl
theorem dX11_join_118 : decode cX11_join 118 = .ok (.if_icmp .ge 8, 3) := op162 (bA_at bd03_dec_X11_3_14 13 rfl rfl) (by decide +kernel)
theorem dX11_join_121 : decode cX11_join 121 = .ok (.iload 7, 2) := op21 (bA_at bd03_dec_X11_3_14 14 rfl rfl) rfl
theorem dX11_join_123 : decode cX11_join 123 = .ok (.goto 5, 3) := op167 (bA_at bd03_dec_X11_3_14 15 rfl rfl) (by decide +kernel)
theorem dX11_join_126 : decode cX11_join 126 = .ok (.iload 5, 2) := op21 (bA_at bd03_dec_X11_3_14 16 rfl rfl) rfl
theorem dX11_join_128 : decode cX11_join 128 = .ok (.istore 5, 2) := op54 (bA_at bd03_dec_X11_3_14 17 rfl rfl) rfl
theorem dX11_join_130 : decode cX11_join 130 = .ok (.iload 6, 2) := op21 (bA_at bd03_dec_X11_3_14 18 rfl rfl) rfl
theorem dX11_join_132 : decode cX11_join 132 = .ok (.iload 8, 2) := op21 (bA_at bd03_dec_X11_3_14 19 rfl rfl) rfl
theorem dX11_join_134 : decode cX11_join 134 = .ok (.invokestatic 411, 3) := op184 (bA_at bd03_dec_X11_3_14 20 rfl rfl) rfl
theorem dX11_join_137 : decode cX11_join 137 = .ok (.istore 6, 2) := op54 (bA_at bd03_dec_X11_3_14 21 rfl rfl) rfl
theorem dX11_join_139 : decode cX11_join 139 = .ok (.iinc 7 1, 3) := op132 (bA_at bd03_dec_X11_3_14 22 rfl rfl) rfl (by decide +kernel)
theorem dX11_join_142 : decode cX11_join 142 = .ok (.goto (-56), 3) := op167 (bA_at bd03_dec_X11_3_14 23 rfl rfl) (by decide +kernel)
theorem dX11_join_145 : decode cX11_join 145 = .ok (.iload 5, 2) := op21 (bA_at bd03_dec_X11_3_14 24 rfl rfl) rfl
theorem dX11_join_147 : decode cX11_join 147 = .ok (.iconst (-1), 1) := op2 (bA_at bd03_dec_X11_3_14 25 rfl rfl)
theorem dX11_join_148 : decode cX11_join 148 = .ok (.if_icmp .eq 8, 3) := op159 (bA_at bd03_dec_X11_3_14 26 rfl rfl) (by decide +kernel)
theorem dX11_join_151 : decode cX11_join 151 = .ok (.iload 4, 2) := op21 (bA_at bd03_dec_X11_3_14 27 rfl rfl) rfl
theorem dX11_join_153 : decode cX11_join 153 = .ok (.ifCond .ne 8, 3) := op154 (bA_at bd03_dec_X11_3_14 28 rfl rfl) (by decide +kernel)
theorem dX11_join_156 : decode cX11_join 156 = .ok (.iload 5, 2) := op21 (bA_at bd03_dec_X11_3_14 29 rfl rfl) rfl
theorem dX11_join_158 : decode cX11_join 158 = .ok (.goto 5, 3) := op167 (bA_at bd03_dec_X11_3_14 30 rfl rfl) (by decide +kernel)
theorem dX11_join_161 : decode cX11_join 161 = .ok (.iload 6, 2) := op21 (bA_at bd03_dec_X11_3_14 31 rfl rfl) rfl
theorem dX11_join_163 : decode cX11_join 163 = .ok (.ireturn, 1) := op172 (bA_at bd03_dec_X11_3_14 32 rfl rfl)
theorem bd03_dec_X11_3_15 : ([(0, [42]), (1, [3]), (2, [181, 0, 97]), (5, [42]), (6, [27]), (7, [182, 1, 57]), (10, [153, 0, 12]), (13, [28]), (14, [3]), (15, [6]), (16, [184, 0, 109]), (19, [154, 0, 5]), (22, [2]), (23, [172]), (24, [3]), (25, [62]), (26, [3]), (27, [54, 4]), (29, [3]), (30, [54, 5]), (32, [3]), (33, [54, 6]), (35, [3]), (36, [54, 7]), (38, [21, 7]), (40, [42]), (41, [180, 1, 51]), (44, [162, 0, 112]), (47, [42]), (48, [21, 7]), (50, [3]), (51, [182, 1, 158]), (54, [42]), (55, [19, 1, 194]), (58, [182, 1, 167]), (61, [4]), (62, [21, 7]), (64, [120]), (65, [2]), (66, [130]), (67, [126]), (68, [54, 8]), (70, [29]), (71, [21, 8]), (73, [128]), (74, [62]), (75, [21, 4]), (77, [21, 8]), (79, [154, 0, 19]), (82, [42])] : List (Nat × List UInt8)).all (fun x => prB x.2 ((cX11_slopes.data.toList.drop 0).drop x.1)) = true := by decide +kernel
theorem dX11_slopes_0 : decode cX11_slopes 0 = .ok (.aload_n 0, 1) := op42 (bA_at bd03_dec_X11_3_15 0 rfl rfl)
theorem dX11_slopes_1 : decode cX11_slopes 1 = .ok (.iconst 0, 1) := op3 (bA_at bd03_dec_X11_3_15 1 rfl rfl)
theorem dX11_slopes_2 : decode cX11_slopes 2 = .ok (.putfield 97, 3) := op181 (bA_at bd03_dec_X11_3_15 2 rfl rfl) rfl
theorem dX11_slopes_5 : decode cX11_slopes 5 = .ok (.aload_n 0, 1) := op42 (bA_at bd03_dec_X11_3_15 3 rfl rfl)
theorem dX11_slopes_6 : decode cX11_slopes 6 = .ok (.iload_n 1, 1) := op27 (bA_at bd03_dec_X11_3_15 4 rfl rfl)
theorem dX11_slopes_7 : decode cX11_slopes 7 = .ok (.invokevirtual 313, 3) := op182 (bA_at bd03_dec_X11_3_15 5 rfl rfl) rfl
theorem dX11_slopes_10 : decode cX11_slopes 10 = .ok (.ifCond .eq 12, 3) := op153 (bA_at bd03_dec_X11_3_15 6 rfl rfl) (by decide +kernel)
theorem dX11_slopes_13 : decode cX11_slopes 13 = .ok (.iload_n 2, 1) := op28 (bA_at bd03_dec_X11_3_15 7 rfl rfl)
theorem dX11_slopes_14 : decode cX11_slopes 14 = .ok (.iconst 0, 1) := op3 (bA_at bd03_dec_X11_3_15 8 rfl rfl)
theorem dX11_slopes_15 : decode cX11_slopes 15 = .ok (.iconst 3, 1) := op6 (bA_at bd03_dec_X11_3_15 9 rfl rfl)
theorem dX11_slopes_16 : decode cX11_slopes 16 = .ok (.invokestatic 109, 3) := op184 (bA_at bd03_dec_X11_3_15 10 rfl rfl) rfl
theorem dX11_slopes_19 : decode cX11_slopes 19 = .ok (.ifCond .ne 5, 3) := op154 (bA_at bd03_dec_X11_3_15 11 rfl rfl) (by decide +kernel)
theorem dX11_slopes_22 : decode cX11_slopes 22 = .ok (.iconst (-1), 1) := op2 (bA_at bd03_dec_X11_3_15 12 rfl rfl)
theorem dX11_slopes_23 : decode cX11_slopes 23 = .ok (.ireturn, 1) := op172 (bA_at bd03_dec_X11_3_15 13 rfl rfl)
theorem dX11_slopes_24 : decode cX11_slopes 24 = .ok (.iconst 0, 1) := op3 (bA_at bd03_dec_X11_3_15 14 rfl rfl)
theorem dX11_slopes_25 : decode cX11_slopes 25 = .ok (.istore_n 3, 1) := op62 (bA_at bd03_dec_X11_3_15 15 rfl rfl)
theorem dX11_slopes_26 : decode cX11_slopes 26 = .ok (.iconst 0, 1) := op3 (bA_at bd03_dec_X11_3_15 16 rfl rfl)
theorem dX11_slopes_27 : decode cX11_slopes 27 = .ok (.istore 4, 2) := op54 (bA_at bd03_dec_X11_3_15 17 rfl rfl) rfl
theorem dX11_slopes_29 : decode cX11_slopes 29 = .ok (.iconst 0, 1) := op3 (bA_at bd03_dec_X11_3_15 18 rfl rfl)
theorem dX11_slopes_30 : decode cX11_slopes 30 = .ok (.istore 5, 2) := op54 (bA_at bd03_dec_X11_3_15 19 rfl rfl) rfl
theorem dX11_slopes_32 : decode cX11_slopes 32 = .ok (.iconst 0, 1) := op3 (bA_at bd03_dec_X11_3_15 20 rfl rfl)
theorem dX11_slopes_33 : decode cX11_slopes 33 = .ok (.istore 6, 2) := op54 (bA_at bd03_dec_X11_3_15 21 rfl rfl) rfl
theorem dX11_slopes_35 : decode cX11_slopes 35 = .ok (.iconst 0, 1) := op3 (bA_at bd03_dec_X11_3_15 22 rfl rfl)
theorem dX11_slopes_36 : decode cX11_slopes 36 = .ok (.istore 7, 2) := op54 (bA_at bd03_dec_X11_3_15 23 rfl rfl) rfl
theorem dX11_slopes_38 : decode cX11_slopes 38 = .ok (.iload 7, 2) := op21 (bA_at bd03_dec_X11_3_15 24 rfl rfl) rfl
theorem dX11_slopes_40 : decode cX11_slopes 40 = .ok (.aload_n 0, 1) := op42 (bA_at bd03_dec_X11_3_15 25 rfl rfl)
theorem dX11_slopes_41 : decode cX11_slopes 41 = .ok (.getfield 307, 3) := op180 (bA_at bd03_dec_X11_3_15 26 rfl rfl) rfl
theorem dX11_slopes_44 : decode cX11_slopes 44 = .ok (.if_icmp .ge 112, 3) := op162 (bA_at bd03_dec_X11_3_15 27 rfl rfl) (by decide +kernel)
theorem dX11_slopes_47 : decode cX11_slopes 47 = .ok (.aload_n 0, 1) := op42 (bA_at bd03_dec_X11_3_15 28 rfl rfl)
theorem dX11_slopes_48 : decode cX11_slopes 48 = .ok (.iload 7, 2) := op21 (bA_at bd03_dec_X11_3_15 29 rfl rfl) rfl
theorem dX11_slopes_50 : decode cX11_slopes 50 = .ok (.iconst 0, 1) := op3 (bA_at bd03_dec_X11_3_15 30 rfl rfl)
theorem dX11_slopes_51 : decode cX11_slopes 51 = .ok (.invokevirtual 414, 3) := op182 (bA_at bd03_dec_X11_3_15 31 rfl rfl) rfl
theorem dX11_slopes_54 : decode cX11_slopes 54 = .ok (.aload_n 0, 1) := op42 (bA_at bd03_dec_X11_3_15 32 rfl rfl)
theorem dX11_slopes_55 : decode cX11_slopes 55 = .ok (.ldc_w 450, 3) := op19 (bA_at bd03_dec_X11_3_15 33 rfl rfl) rfl
theorem dX11_slopes_58 : decode cX11_slopes 58 = .ok (.invokevirtual 423, 3) := op182 (bA_at bd03_dec_X11_3_15 34 rfl rfl) rfl
theorem dX11_slopes_61 : decode cX11_slopes 61 = .ok (.iconst 1, 1) := op4 (bA_at bd03_dec_X11_3_15 35 rfl rfl)
theorem dX11_slopes_62 : decode cX11_slopes 62 = .ok (.iload 7, 2) := op21 (bA_at bd03_dec_X11_3_15 36 rfl rfl) rfl
theorem dX11_slopes_64 : decode cX11_slopes 64 = .ok (.ishl, 1) := op120 (bA_at bd03_dec_X11_3_15 37 rfl rfl)
theorem dX11_slopes_65 : decode cX11_slopes 65 = .ok (.iconst (-1), 1) := op2 (bA_at bd03_dec_X11_3_15 38 rfl rfl)
theorem dX11_slopes_66 : decode cX11_slopes 66 = .ok (.ixor, 1) := op130 (bA_at bd03_dec_X11_3_15 39 rfl rfl)
theorem dX11_slopes_67 : decode cX11_slopes 67 = .ok (.iand, 1) := op126 (bA_at bd03_dec_X11_3_15 40 rfl rfl)
theorem dX11_slopes_68 : decode cX11_slopes 68 = .ok (.istore 8, 2) := op54 (bA_at bd03_dec_X11_3_15 41 rfl rfl) rfl
theorem dX11_slopes_70 : decode cX11_slopes 70 = .ok (.iload_n 3, 1) := op29 (bA_at bd03_dec_X11_3_15 42 rfl rfl)
theorem dX11_slopes_71 : decode cX11_slopes 71 = .ok (.iload 8, 2) := op21 (bA_at bd03_dec_X11_3_15 43 rfl rfl) rfl
theorem dX11_slopes_73 : decode cX11_slopes 73 = .ok (.ior, 1) := op128 (bA_at bd03_dec_X11_3_15 44 rfl rfl)
theorem dX11_slopes_74 : decode cX11_slopes 74 = .ok (.istore_n 3, 1) := op62 (bA_at bd03_dec_X11_3_15 45 rfl rfl)
theorem dX11_slopes_75 : decode cX11_slopes 75 = .ok (.iload 4, 2) := op21 (bA_at bd03_dec_X11_3_15 46 rfl rfl) rfl
theorem dX11_slopes_77 : decode cX11_slopes 77 = .ok (.iload 8, 2) := op21 (bA_at bd03_dec_X11_3_15 47 rfl rfl) rfl
theorem dX11_slopes_79 : decode cX11_slopes 79 = .ok (.ifCond .ne 19, 3) := op154 (bA_at bd03_dec_X11_3_15 48 rfl rfl) (by decide +kernel)
theorem dX11_slopes_82 : decode cX11_slopes 82 = .ok (.aload_n 0, 1) := op42 (bA_at bd03_dec_X11_3_15 49 rfl rfl)
theorem bd03_dec_X11_3_16 : ([(0, [21, 7]), (2, [182, 1, 99]), (5, [154, 0, 10]), (8, [4]), (9, [21, 7]), (11, [120]), (12, [167, 0, 4]), (15, [3]), (16, [128]), (17, [54, 4]), (19, [21, 5]), (21, [21, 8]), (23, [184, 1, 173]), (26, [96]), (27, [54, 5]), (29, [42]), (30, [21, 7]), (32, [182, 1, 191]), (35, [3]), (36, [54, 9]), (38, [21, 9]), (40, [42]), (41, [180, 1, 51]), (44, [162, 0, 23]), (47, [21, 6]), (49, [42]), (50, [180, 0, 68]), (53, [21, 9]), (55, [46]), (56, [184, 0, 171]), (59, [54, 6]), (61, [132, 9, 1]), (64, [167, 255, 230]), (67, [132, 7, 1]), (70, [167, 255, 141]), (73, [28]), (74, [154, 0, 14]), (77, [42]), (78, [182, 1, 179]), (81, [29]), (82, [2]), (83, [130]), (84, [126]), (85, [167, 0, 25]), (88, [28]), (89, [4]), (90, [160, 0, 8]), (93, [21, 4]), (95, [167, 0, 15]), (98, [28])] : List (Nat × List UInt8)).all (fun x => prB x.2 ((cX11_slopes.data.toList.drop 83).drop x.1)) = true := by decide +kernel
theorem dX11_slopes_83 : decode cX11_slopes 83 = .ok (.iload 7, 2) := op21 (bA_at bd03_dec_X11_3_16 0 rfl rfl) rfl
theorem dX11_slopes_85 : decode cX11_slopes 85 = .ok (.invokevirtual 355, 3) := op182 (bA_at bd03_dec_X11_3_16 1 rfl rfl) rfl
theorem dX11_slopes_88 : decode cX11_slopes 88 = .ok (.ifCond .ne 10, 3) := op154 (bA_at bd03_dec_X11_3_16 2 rfl rfl) (by decide +kernel)
theorem dX11_slopes_91 : decode cX11_slopes 91 = .ok (.iconst 1, 1) := op4 (bA_at bd03_dec_X11_3_16 3 rfl rfl)
theorem dX11_slopes_92 : decode cX11_slopes 92 = .ok (.iload 7, 2) := op21 (bA_at bd03_dec_X11_3_16 4 rfl rfl) rfl
theorem dX11_slopes_94 : decode cX11_slopes 94 = .ok (.ishl, 1) := op120 (bA_at bd03_dec_X11_3_16 5 rfl rfl)
theorem dX11_slopes_95 : decode cX11_slopes 95 = .ok (.goto 4, 3) := op167 (bA_at bd03_dec_X11_3_16 6 rfl rfl) (by decide +kernel)
theorem dX11_slopes_98 : decode cX11_slopes 98 = .ok (.iconst 0, 1) := op3 (bA_at bd03_dec_X11_3_16 7 rfl rfl)
theorem dX11_slopes_99 : decode cX11_slopes 99 = .ok (.ior, 1) := op128 (bA_at bd03_dec_X11_3_16 8 rfl rfl)
theorem dX11_slopes_100 : decode cX11_slopes 100 = .ok (.istore 4, 2) := op54 (bA_at bd03_dec_X11_3_16 9 rfl rfl) rfl
theorem dX11_slopes_102 : decode cX11_slopes 102 = .ok (.iload 5, 2) := op21 (bA_at bd03_dec_X11_3_16 10 rfl rfl) rfl
theorem dX11_slopes_104 : decode cX11_slopes 104 = .ok (.iload 8, 2) := op21 (bA_at bd03_dec_X11_3_16 11 rfl rfl) rfl
theorem dX11_slopes_106 : decode cX11_slopes 106 = .ok (.invokestatic 429, 3) := op184 (bA_at bd03_dec_X11_3_16 12 rfl rfl) rfl
theorem dX11_slopes_109 : decode cX11_slopes 109 = .ok (.iadd, 1) := op96 (bA_at bd03_dec_X11_3_16 13 rfl rfl)
theorem dX11_slopes_110 : decode cX11_slopes 110 = .ok (.istore 5, 2) := op54 (bA_at bd03_dec_X11_3_16 14 rfl rfl) rfl
theorem dX11_slopes_112 : decode cX11_slopes 112 = .ok (.aload_n 0, 1) := op42 (bA_at bd03_dec_X11_3_16 15 rfl rfl)
theorem dX11_slopes_113 : decode cX11_slopes 113 = .ok (.iload 7, 2) := op21 (bA_at bd03_dec_X11_3_16 16 rfl rfl) rfl
theorem dX11_slopes_115 : decode cX11_slopes 115 = .ok (.invokevirtual 447, 3) := op182 (bA_at bd03_dec_X11_3_16 17 rfl rfl) rfl
theorem dX11_slopes_118 : decode cX11_slopes 118 = .ok (.iconst 0, 1) := op3 (bA_at bd03_dec_X11_3_16 18 rfl rfl)
theorem dX11_slopes_119 : decode cX11_slopes 119 = .ok (.istore 9, 2) := op54 (bA_at bd03_dec_X11_3_16 19 rfl rfl) rfl
theorem dX11_slopes_121 : decode cX11_slopes 121 = .ok (.iload 9, 2) := op21 (bA_at bd03_dec_X11_3_16 20 rfl rfl) rfl
theorem dX11_slopes_123 : decode cX11_slopes 123 = .ok (.aload_n 0, 1) := op42 (bA_at bd03_dec_X11_3_16 21 rfl rfl)
theorem dX11_slopes_124 : decode cX11_slopes 124 = .ok (.getfield 307, 3) := op180 (bA_at bd03_dec_X11_3_16 22 rfl rfl) rfl
theorem dX11_slopes_127 : decode cX11_slopes 127 = .ok (.if_icmp .ge 23, 3) := op162 (bA_at bd03_dec_X11_3_16 23 rfl rfl) (by decide +kernel)
theorem dX11_slopes_130 : decode cX11_slopes 130 = .ok (.iload 6, 2) := op21 (bA_at bd03_dec_X11_3_16 24 rfl rfl) rfl
theorem dX11_slopes_132 : decode cX11_slopes 132 = .ok (.aload_n 0, 1) := op42 (bA_at bd03_dec_X11_3_16 25 rfl rfl)
theorem dX11_slopes_133 : decode cX11_slopes 133 = .ok (.getfield 68, 3) := op180 (bA_at bd03_dec_X11_3_16 26 rfl rfl) rfl
theorem dX11_slopes_136 : decode cX11_slopes 136 = .ok (.iload 9, 2) := op21 (bA_at bd03_dec_X11_3_16 27 rfl rfl) rfl
theorem dX11_slopes_138 : decode cX11_slopes 138 = .ok (.iaload, 1) := op46 (bA_at bd03_dec_X11_3_16 28 rfl rfl)
theorem dX11_slopes_139 : decode cX11_slopes 139 = .ok (.invokestatic 171, 3) := op184 (bA_at bd03_dec_X11_3_16 29 rfl rfl) rfl
theorem dX11_slopes_142 : decode cX11_slopes 142 = .ok (.istore 6, 2) := op54 (bA_at bd03_dec_X11_3_16 30 rfl rfl) rfl
theorem dX11_slopes_144 : decode cX11_slopes 144 = .ok (.iinc 9 1, 3) := op132 (bA_at bd03_dec_X11_3_16 31 rfl rfl) rfl (by decide +kernel)
theorem dX11_slopes_147 : decode cX11_slopes 147 = .ok (.goto (-26), 3) := op167 (bA_at bd03_dec_X11_3_16 32 rfl rfl) (by decide +kernel)
theorem dX11_slopes_150 : decode cX11_slopes 150 = .ok (.iinc 7 1, 3) := op132 (bA_at bd03_dec_X11_3_16 33 rfl rfl) rfl (by decide +kernel)
theorem dX11_slopes_153 : decode cX11_slopes 153 = .ok (.goto (-115), 3) := op167 (bA_at bd03_dec_X11_3_16 34 rfl rfl) (by decide +kernel)
theorem dX11_slopes_156 : decode cX11_slopes 156 = .ok (.iload_n 2, 1) := op28 (bA_at bd03_dec_X11_3_16 35 rfl rfl)
theorem dX11_slopes_157 : decode cX11_slopes 157 = .ok (.ifCond .ne 14, 3) := op154 (bA_at bd03_dec_X11_3_16 36 rfl rfl) (by decide +kernel)
theorem dX11_slopes_160 : decode cX11_slopes 160 = .ok (.aload_n 0, 1) := op42 (bA_at bd03_dec_X11_3_16 37 rfl rfl)
theorem dX11_slopes_161 : decode cX11_slopes 161 = .ok (.invokevirtual 435, 3) := op182 (bA_at bd03_dec_X11_3_16 38 rfl rfl) rfl
theorem dX11_slopes_164 : decode cX11_slopes 164 = .ok (.iload_n 3, 1) := op29 (bA_at bd03_dec_X11_3_16 39 rfl rfl)
theorem dX11_slopes_165 : decode cX11_slopes 165 = .ok (.iconst (-1), 1) := op2 (bA_at bd03_dec_X11_3_16 40 rfl rfl)
theorem dX11_slopes_166 : decode cX11_slopes 166 = .ok (.ixor, 1) := op130 (bA_at bd03_dec_X11_3_16 41 rfl rfl)
theorem dX11_slopes_167 : decode cX11_slopes 167 = .ok (.iand, 1) := op126 (bA_at bd03_dec_X11_3_16 42 rfl rfl)
theorem dX11_slopes_168 : decode cX11_slopes 168 = .ok (.goto 25, 3) := op167 (bA_at bd03_dec_X11_3_16 43 rfl rfl) (by decide +kernel)
theorem dX11_slopes_171 : decode cX11_slopes 171 = .ok (.iload_n 2, 1) := op28 (bA_at bd03_dec_X11_3_16 44 rfl rfl)
theorem dX11_slopes_172 : decode cX11_slopes 172 = .ok (.iconst 1, 1) := op4 (bA_at bd03_dec_X11_3_16 45 rfl rfl)
theorem dX11_slopes_173 : decode cX11_slopes 173 = .ok (.if_icmp .ne 8, 3) := op160 (bA_at bd03_dec_X11_3_16 46 rfl rfl) (by decide +kernel)
theorem dX11_slopes_176 : decode cX11_slopes 176 = .ok (.iload 4, 2) := op21 (bA_at bd03_dec_X11_3_16 47 rfl rfl) rfl
theorem dX11_slopes_178 : decode cX11_slopes 178 = .ok (.goto 15, 3) := op167 (bA_at bd03_dec_X11_3_16 48 rfl rfl) (by decide +kernel)
theorem dX11_slopes_181 : decode cX11_slopes 181 = .ok (.iload_n 2, 1) := op28 (bA_at bd03_dec_X11_3_16 49 rfl rfl)
theorem bd03_dec_X11_3_17 : ([(0, [5]), (1, [160, 0, 8]), (4, [21, 5]), (6, [167, 0, 5]), (9, [21, 6]), (11, [172])] : List (Nat × List UInt8)).all (fun x => prB x.2 ((cX11_slopes.data.toList.drop 182).drop x.1)) = true := by decide +kernel
theorem dX11_slopes_182 : decode cX11_slopes 182 = .ok (.iconst 2, 1) := op5 (bA_at bd03_dec_X11_3_17 0 rfl rfl)
theorem dX11_slopes_183 : decode cX11_slopes 183 = .ok (.if_icmp .ne 8, 3) := op160 (bA_at bd03_dec_X11_3_17 1 rfl rfl) (by decide +kernel)
theorem dX11_slopes_186 : decode cX11_slopes 186 = .ok (.iload 5, 2) := op21 (bA_at bd03_dec_X11_3_17 2 rfl rfl) rfl
theorem dX11_slopes_188 : decode cX11_slopes 188 = .ok (.goto 5, 3) := op167 (bA_at bd03_dec_X11_3_17 3 rfl rfl) (by decide +kernel)
theorem dX11_slopes_191 : decode cX11_slopes 191 = .ok (.iload 6, 2) := op21 (bA_at bd03_dec_X11_3_17 4 rfl rfl) rfl
theorem dX11_slopes_193 : decode cX11_slopes 193 = .ok (.ireturn, 1) := op172 (bA_at bd03_dec_X11_3_17 5 rfl rfl)
theorem bd03_dec_X11_3_18 : ([(0, [42]), (1, [3]), (2, [181, 0, 97]), (5, [42]), (6, [27]), (7, [182, 1, 57]), (10, [153, 0, 40]), (13, [42]), (14, [28]), (15, [182, 1, 60]), (18, [153, 0, 32]), (21, [42]), (22, [29]), (23, [182, 1, 60]), (26, [153, 0, 24]), (29, [28]), (30, [29]), (31, [159, 0, 19]), (34, [42]), (35, [28]), (36, [182, 1, 99]), (39, [154, 0, 11]), (42, [42]), (43, [29]), (44, [182, 1, 99]), (47, [153, 0, 5]), (50, [2]), (51, [172]), (52, [2]), (53, [54, 5]), (55, [3]), (56, [54, 6]), (58, [21, 6]), (60, [4]), (61, [42]), (62, [180, 1, 51]), (65, [120]), (66, [162, 0, 86]), (69, [42]), (70, [28]), (71, [21, 6]), (73, [182, 1, 158]), (76, [21, 6]), (78, [28]), (79, [184, 0, 101]), (82, [154, 0, 28]), (85, [21, 6]), (87, [29]), (88, [184, 0, 101]), (91, [154, 0, 19])] : List (Nat × List UInt8)).all (fun x => prB x.2 ((cX11_flood.data.toList.drop 0).drop x.1)) = true := by decide +kernel
theorem dX11_flood_0 : decode cX11_flood 0 = .ok (.aload_n 0, 1) := op42 (bA_at bd03_dec_X11_3_18 0 rfl rfl)
theorem dX11_flood_1 : decode cX11_flood 1 = .ok (.iconst 0, 1) := op3 (bA_at bd03_dec_X11_3_18 1 rfl rfl)
theorem dX11_flood_2 : decode cX11_flood 2 = .ok (.putfield 97, 3) := op181 (bA_at bd03_dec_X11_3_18 2 rfl rfl) rfl
theorem dX11_flood_5 : decode cX11_flood 5 = .ok (.aload_n 0, 1) := op42 (bA_at bd03_dec_X11_3_18 3 rfl rfl)
theorem dX11_flood_6 : decode cX11_flood 6 = .ok (.iload_n 1, 1) := op27 (bA_at bd03_dec_X11_3_18 4 rfl rfl)
theorem dX11_flood_7 : decode cX11_flood 7 = .ok (.invokevirtual 313, 3) := op182 (bA_at bd03_dec_X11_3_18 5 rfl rfl) rfl
theorem dX11_flood_10 : decode cX11_flood 10 = .ok (.ifCond .eq 40, 3) := op153 (bA_at bd03_dec_X11_3_18 6 rfl rfl) (by decide +kernel)
theorem dX11_flood_13 : decode cX11_flood 13 = .ok (.aload_n 0, 1) := op42 (bA_at bd03_dec_X11_3_18 7 rfl rfl)
theorem dX11_flood_14 : decode cX11_flood 14 = .ok (.iload_n 2, 1) := op28 (bA_at bd03_dec_X11_3_18 8 rfl rfl)
theorem dX11_flood_15 : decode cX11_flood 15 = .ok (.invokevirtual 316, 3) := op182 (bA_at bd03_dec_X11_3_18 9 rfl rfl) rfl
theorem dX11_flood_18 : decode cX11_flood 18 = .ok (.ifCond .eq 32, 3) := op153 (bA_at bd03_dec_X11_3_18 10 rfl rfl) (by decide +kernel)
theorem dX11_flood_21 : decode cX11_flood 21 = .ok (.aload_n 0, 1) := op42 (bA_at bd03_dec_X11_3_18 11 rfl rfl)
theorem dX11_flood_22 : decode cX11_flood 22 = .ok (.iload_n 3, 1) := op29 (bA_at bd03_dec_X11_3_18 12 rfl rfl)
theorem dX11_flood_23 : decode cX11_flood 23 = .ok (.invokevirtual 316, 3) := op182 (bA_at bd03_dec_X11_3_18 13 rfl rfl) rfl
theorem dX11_flood_26 : decode cX11_flood 26 = .ok (.ifCond .eq 24, 3) := op153 (bA_at bd03_dec_X11_3_18 14 rfl rfl) (by decide +kernel)
theorem dX11_flood_29 : decode cX11_flood 29 = .ok (.iload_n 2, 1) := op28 (bA_at bd03_dec_X11_3_18 15 rfl rfl)
theorem dX11_flood_30 : decode cX11_flood 30 = .ok (.iload_n 3, 1) := op29 (bA_at bd03_dec_X11_3_18 16 rfl rfl)
theorem dX11_flood_31 : decode cX11_flood 31 = .ok (.if_icmp .eq 19, 3) := op159 (bA_at bd03_dec_X11_3_18 17 rfl rfl) (by decide +kernel)
theorem dX11_flood_34 : decode cX11_flood 34 = .ok (.aload_n 0, 1) := op42 (bA_at bd03_dec_X11_3_18 18 rfl rfl)
theorem dX11_flood_35 : decode cX11_flood 35 = .ok (.iload_n 2, 1) := op28 (bA_at bd03_dec_X11_3_18 19 rfl rfl)
theorem dX11_flood_36 : decode cX11_flood 36 = .ok (.invokevirtual 355, 3) := op182 (bA_at bd03_dec_X11_3_18 20 rfl rfl) rfl
theorem dX11_flood_39 : decode cX11_flood 39 = .ok (.ifCond .ne 11, 3) := op154 (bA_at bd03_dec_X11_3_18 21 rfl rfl) (by decide +kernel)
theorem dX11_flood_42 : decode cX11_flood 42 = .ok (.aload_n 0, 1) := op42 (bA_at bd03_dec_X11_3_18 22 rfl rfl)
theorem dX11_flood_43 : decode cX11_flood 43 = .ok (.iload_n 3, 1) := op29 (bA_at bd03_dec_X11_3_18 23 rfl rfl)
theorem dX11_flood_44 : decode cX11_flood 44 = .ok (.invokevirtual 355, 3) := op182 (bA_at bd03_dec_X11_3_18 24 rfl rfl) rfl
theorem dX11_flood_47 : decode cX11_flood 47 = .ok (.ifCond .eq 5, 3) := op153 (bA_at bd03_dec_X11_3_18 25 rfl rfl) (by decide +kernel)
theorem dX11_flood_50 : decode cX11_flood 50 = .ok (.iconst (-1), 1) := op2 (bA_at bd03_dec_X11_3_18 26 rfl rfl)
theorem dX11_flood_51 : decode cX11_flood 51 = .ok (.ireturn, 1) := op172 (bA_at bd03_dec_X11_3_18 27 rfl rfl)
theorem dX11_flood_52 : decode cX11_flood 52 = .ok (.iconst (-1), 1) := op2 (bA_at bd03_dec_X11_3_18 28 rfl rfl)
theorem dX11_flood_53 : decode cX11_flood 53 = .ok (.istore 5, 2) := op54 (bA_at bd03_dec_X11_3_18 29 rfl rfl) rfl
theorem dX11_flood_55 : decode cX11_flood 55 = .ok (.iconst 0, 1) := op3 (bA_at bd03_dec_X11_3_18 30 rfl rfl)
theorem dX11_flood_56 : decode cX11_flood 56 = .ok (.istore 6, 2) := op54 (bA_at bd03_dec_X11_3_18 31 rfl rfl) rfl
theorem dX11_flood_58 : decode cX11_flood 58 = .ok (.iload 6, 2) := op21 (bA_at bd03_dec_X11_3_18 32 rfl rfl) rfl
theorem dX11_flood_60 : decode cX11_flood 60 = .ok (.iconst 1, 1) := op4 (bA_at bd03_dec_X11_3_18 33 rfl rfl)
theorem dX11_flood_61 : decode cX11_flood 61 = .ok (.aload_n 0, 1) := op42 (bA_at bd03_dec_X11_3_18 34 rfl rfl)
theorem dX11_flood_62 : decode cX11_flood 62 = .ok (.getfield 307, 3) := op180 (bA_at bd03_dec_X11_3_18 35 rfl rfl) rfl
theorem dX11_flood_65 : decode cX11_flood 65 = .ok (.ishl, 1) := op120 (bA_at bd03_dec_X11_3_18 36 rfl rfl)
theorem dX11_flood_66 : decode cX11_flood 66 = .ok (.if_icmp .ge 86, 3) := op162 (bA_at bd03_dec_X11_3_18 37 rfl rfl) (by decide +kernel)
theorem dX11_flood_69 : decode cX11_flood 69 = .ok (.aload_n 0, 1) := op42 (bA_at bd03_dec_X11_3_18 38 rfl rfl)
theorem dX11_flood_70 : decode cX11_flood 70 = .ok (.iload_n 2, 1) := op28 (bA_at bd03_dec_X11_3_18 39 rfl rfl)
theorem dX11_flood_71 : decode cX11_flood 71 = .ok (.iload 6, 2) := op21 (bA_at bd03_dec_X11_3_18 40 rfl rfl) rfl
theorem dX11_flood_73 : decode cX11_flood 73 = .ok (.invokevirtual 414, 3) := op182 (bA_at bd03_dec_X11_3_18 41 rfl rfl) rfl
theorem dX11_flood_76 : decode cX11_flood 76 = .ok (.iload 6, 2) := op21 (bA_at bd03_dec_X11_3_18 42 rfl rfl) rfl
theorem dX11_flood_78 : decode cX11_flood 78 = .ok (.iload_n 2, 1) := op28 (bA_at bd03_dec_X11_3_18 43 rfl rfl)
theorem dX11_flood_79 : decode cX11_flood 79 = .ok (.invokestatic 101, 3) := op184 (bA_at bd03_dec_X11_3_18 44 rfl rfl) rfl
theorem dX11_flood_82 : decode cX11_flood 82 = .ok (.ifCond .ne 28, 3) := op154 (bA_at bd03_dec_X11_3_18 45 rfl rfl) (by decide +kernel)
theorem dX11_flood_85 : decode cX11_flood 85 = .ok (.iload 6, 2) := op21 (bA_at bd03_dec_X11_3_18 46 rfl rfl) rfl
theorem dX11_flood_87 : decode cX11_flood 87 = .ok (.iload_n 3, 1) := op29 (bA_at bd03_dec_X11_3_18 47 rfl rfl)
theorem dX11_flood_88 : decode cX11_flood 88 = .ok (.invokestatic 101, 3) := op184 (bA_at bd03_dec_X11_3_18 48 rfl rfl) rfl
theorem dX11_flood_91 : decode cX11_flood 91 = .ok (.ifCond .ne 19, 3) := op154 (bA_at bd03_dec_X11_3_18 49 rfl rfl) (by decide +kernel)
theorem bd03_dec_X11_3_19 : ([(0, [42]), (1, [180, 0, 59]), (4, [29]), (5, [46]), (6, [19, 1, 154]), (9, [161, 0, 7]), (12, [4]), (13, [167, 0, 4]), (16, [3]), (17, [54, 7]), (19, [21, 7]), (21, [153, 0, 27]), (24, [21, 5]), (26, [2]), (27, [159, 0, 16]), (30, [21, 6]), (32, [184, 1, 173]), (35, [21, 5]), (37, [184, 1, 173]), (40, [162, 0, 8]), (43, [21, 6]), (45, [167, 0, 5]), (48, [21, 5]), (50, [54, 5]), (52, [132, 6, 1]), (55, [167, 255, 165]), (58, [21, 5]), (60, [2]), (61, [159, 0, 8]), (64, [21, 4]), (66, [153, 0, 8]), (69, [21, 5]), (71, [167, 0, 8]), (74, [21, 5]), (76, [184, 1, 173]), (79, [172])] : List (Nat × List UInt8)).all (fun x => prB x.2 ((cX11_flood.data.toList.drop 94).drop x.1)) = true := by decide +kernel
theorem dX11_flood_94 : decode cX11_flood 94 = .ok (.aload_n 0, 1) := op42 (bA_at bd03_dec_X11_3_19 0 rfl rfl)
theorem dX11_flood_95 : decode cX11_flood 95 = .ok (.getfield 59, 3) := op180 (bA_at bd03_dec_X11_3_19 1 rfl rfl) rfl
theorem dX11_flood_98 : decode cX11_flood 98 = .ok (.iload_n 3, 1) := op29 (bA_at bd03_dec_X11_3_19 2 rfl rfl)
theorem dX11_flood_99 : decode cX11_flood 99 = .ok (.iaload, 1) := op46 (bA_at bd03_dec_X11_3_19 3 rfl rfl)
theorem dX11_flood_100 : decode cX11_flood 100 = .ok (.ldc_w 410, 3) := op19 (bA_at bd03_dec_X11_3_19 4 rfl rfl) rfl
theorem dX11_flood_103 : decode cX11_flood 103 = .ok (.if_icmp .lt 7, 3) := op161 (bA_at bd03_dec_X11_3_19 5 rfl rfl) (by decide +kernel)
theorem dX11_flood_106 : decode cX11_flood 106 = .ok (.iconst 1, 1) := op4 (bA_at bd03_dec_X11_3_19 6 rfl rfl)
theorem dX11_flood_107 : decode cX11_flood 107 = .ok (.goto 4, 3) := op167 (bA_at bd03_dec_X11_3_19 7 rfl rfl) (by decide +kernel)
theorem dX11_flood_110 : decode cX11_flood 110 = .ok (.iconst 0, 1) := op3 (bA_at bd03_dec_X11_3_19 8 rfl rfl)
theorem dX11_flood_111 : decode cX11_flood 111 = .ok (.istore 7, 2) := op54 (bA_at bd03_dec_X11_3_19 9 rfl rfl) rfl
theorem dX11_flood_113 : decode cX11_flood 113 = .ok (.iload 7, 2) := op21 (bA_at bd03_dec_X11_3_19 10 rfl rfl) rfl
theorem dX11_flood_115 : decode cX11_flood 115 = .ok (.ifCond .eq 27, 3) := op153 (bA_at bd03_dec_X11_3_19 11 rfl rfl) (by decide +kernel)
theorem dX11_flood_118 : decode cX11_flood 118 = .ok (.iload 5, 2) := op21 (bA_at bd03_dec_X11_3_19 12 rfl rfl) rfl
theorem dX11_flood_120 : decode cX11_flood 120 = .ok (.iconst (-1), 1) := op2 (bA_at bd03_dec_X11_3_19 13 rfl rfl)
theorem dX11_flood_121 : decode cX11_flood 121 = .ok (.if_icmp .eq 16, 3) := op159 (bA_at bd03_dec_X11_3_19 14 rfl rfl) (by decide +kernel)
theorem dX11_flood_124 : decode cX11_flood 124 = .ok (.iload 6, 2) := op21 (bA_at bd03_dec_X11_3_19 15 rfl rfl) rfl
theorem dX11_flood_126 : decode cX11_flood 126 = .ok (.invokestatic 429, 3) := op184 (bA_at bd03_dec_X11_3_19 16 rfl rfl) rfl
theorem dX11_flood_129 : decode cX11_flood 129 = .ok (.iload 5, 2) := op21 (bA_at bd03_dec_X11_3_19 17 rfl rfl) rfl
theorem dX11_flood_131 : decode cX11_flood 131 = .ok (.invokestatic 429, 3) := op184 (bA_at bd03_dec_X11_3_19 18 rfl rfl) rfl
theorem dX11_flood_134 : decode cX11_flood 134 = .ok (.if_icmp .ge 8, 3) := op162 (bA_at bd03_dec_X11_3_19 19 rfl rfl) (by decide +kernel)
theorem dX11_flood_137 : decode cX11_flood 137 = .ok (.iload 6, 2) := op21 (bA_at bd03_dec_X11_3_19 20 rfl rfl) rfl
theorem dX11_flood_139 : decode cX11_flood 139 = .ok (.goto 5, 3) := op167 (bA_at bd03_dec_X11_3_19 21 rfl rfl) (by decide +kernel)
theorem dX11_flood_142 : decode cX11_flood 142 = .ok (.iload 5, 2) := op21 (bA_at bd03_dec_X11_3_19 22 rfl rfl) rfl
theorem dX11_flood_144 : decode cX11_flood 144 = .ok (.istore 5, 2) := op54 (bA_at bd03_dec_X11_3_19 23 rfl rfl) rfl
theorem dX11_flood_146 : decode cX11_flood 146 = .ok (.iinc 6 1, 3) := op132 (bA_at bd03_dec_X11_3_19 24 rfl rfl) rfl (by decide +kernel)
theorem dX11_flood_149 : decode cX11_flood 149 = .ok (.goto (-91), 3) := op167 (bA_at bd03_dec_X11_3_19 25 rfl rfl) (by decide +kernel)
theorem dX11_flood_152 : decode cX11_flood 152 = .ok (.iload 5, 2) := op21 (bA_at bd03_dec_X11_3_19 26 rfl rfl) rfl
theorem dX11_flood_154 : decode cX11_flood 154 = .ok (.iconst (-1), 1) := op2 (bA_at bd03_dec_X11_3_19 27 rfl rfl)
theorem dX11_flood_155 : decode cX11_flood 155 = .ok (.if_icmp .eq 8, 3) := op159 (bA_at bd03_dec_X11_3_19 28 rfl rfl) (by decide +kernel)
theorem dX11_flood_158 : decode cX11_flood 158 = .ok (.iload 4, 2) := op21 (bA_at bd03_dec_X11_3_19 29 rfl rfl) rfl
theorem dX11_flood_160 : decode cX11_flood 160 = .ok (.ifCond .eq 8, 3) := op153 (bA_at bd03_dec_X11_3_19 30 rfl rfl) (by decide +kernel)
theorem dX11_flood_163 : decode cX11_flood 163 = .ok (.iload 5, 2) := op21 (bA_at bd03_dec_X11_3_19 31 rfl rfl) rfl
theorem dX11_flood_165 : decode cX11_flood 165 = .ok (.goto 8, 3) := op167 (bA_at bd03_dec_X11_3_19 32 rfl rfl) (by decide +kernel)
theorem dX11_flood_168 : decode cX11_flood 168 = .ok (.iload 5, 2) := op21 (bA_at bd03_dec_X11_3_19 33 rfl rfl) rfl
theorem dX11_flood_170 : decode cX11_flood 170 = .ok (.invokestatic 429, 3) := op184 (bA_at bd03_dec_X11_3_19 34 rfl rfl) rfl
theorem dX11_flood_173 : decode cX11_flood 173 = .ok (.ireturn, 1) := op172 (bA_at bd03_dec_X11_3_19 35 rfl rfl)
theorem bd03_dec_X11_3_20 : ([(0, [3]), (1, [62]), (2, [42]), (3, [180, 1, 84]), (6, [28]), (7, [184, 0, 101]), (10, [153, 0, 12]), (13, [42]), (14, [180, 0, 56]), (17, [28]), (18, [46]), (19, [167, 0, 6]), (22, [19, 1, 154]), (25, [54, 4]), (27, [27]), (28, [54, 5]), (30, [3]), (31, [54, 6]), (33, [21, 6]), (35, [42]), (36, [180, 1, 54]), (39, [162, 0, 34]), (42, [29]), (43, [42]), (44, [180, 0, 47]), (47, [21, 6]), (49, [46]), (50, [28]), (51, [184, 0, 101]), (54, [153, 0, 10]), (57, [4]), (58, [21, 6]), (60, [120]), (61, [167, 0, 4]), (64, [3]), (65, [128]), (66, [62]), (67, [132, 6, 1]), (70, [167, 255, 219]), (73, [21, 5]), (75, [153, 0, 179]), (78, [2]), (79, [54, 6]), (81, [3]), (82, [54, 7]), (84, [21, 7]), (86, [42]), (87, [180, 1, 54]), (90, [162, 0, 49]), (93, [21, 5])] : List (Nat × List UInt8)).all (fun x => prB x.2 ((cX11_taught.data.toList.drop 0).drop x.1)) = true := by decide +kernel
theorem dX11_taught_0 : decode cX11_taught 0 = .ok (.iconst 0, 1) := op3 (bA_at bd03_dec_X11_3_20 0 rfl rfl)
theorem dX11_taught_1 : decode cX11_taught 1 = .ok (.istore_n 3, 1) := op62 (bA_at bd03_dec_X11_3_20 1 rfl rfl)
theorem dX11_taught_2 : decode cX11_taught 2 = .ok (.aload_n 0, 1) := op42 (bA_at bd03_dec_X11_3_20 2 rfl rfl)
theorem dX11_taught_3 : decode cX11_taught 3 = .ok (.getfield 340, 3) := op180 (bA_at bd03_dec_X11_3_20 3 rfl rfl) rfl
theorem dX11_taught_6 : decode cX11_taught 6 = .ok (.iload_n 2, 1) := op28 (bA_at bd03_dec_X11_3_20 4 rfl rfl)
theorem dX11_taught_7 : decode cX11_taught 7 = .ok (.invokestatic 101, 3) := op184 (bA_at bd03_dec_X11_3_20 5 rfl rfl) rfl
theorem dX11_taught_10 : decode cX11_taught 10 = .ok (.ifCond .eq 12, 3) := op153 (bA_at bd03_dec_X11_3_20 6 rfl rfl) (by decide +kernel)
theorem dX11_taught_13 : decode cX11_taught 13 = .ok (.aload_n 0, 1) := op42 (bA_at bd03_dec_X11_3_20 7 rfl rfl)
theorem dX11_taught_14 : decode cX11_taught 14 = .ok (.getfield 56, 3) := op180 (bA_at bd03_dec_X11_3_20 8 rfl rfl) rfl
theorem dX11_taught_17 : decode cX11_taught 17 = .ok (.iload_n 2, 1) := op28 (bA_at bd03_dec_X11_3_20 9 rfl rfl)
theorem dX11_taught_18 : decode cX11_taught 18 = .ok (.iaload, 1) := op46 (bA_at bd03_dec_X11_3_20 10 rfl rfl)
theorem dX11_taught_19 : decode cX11_taught 19 = .ok (.goto 6, 3) := op167 (bA_at bd03_dec_X11_3_20 11 rfl rfl) (by decide +kernel)
theorem dX11_taught_22 : decode cX11_taught 22 = .ok (.ldc_w 410, 3) := op19 (bA_at bd03_dec_X11_3_20 12 rfl rfl) rfl
theorem dX11_taught_25 : decode cX11_taught 25 = .ok (.istore 4, 2) := op54 (bA_at bd03_dec_X11_3_20 13 rfl rfl) rfl
theorem dX11_taught_27 : decode cX11_taught 27 = .ok (.iload_n 1, 1) := op27 (bA_at bd03_dec_X11_3_20 14 rfl rfl)
theorem dX11_taught_28 : decode cX11_taught 28 = .ok (.istore 5, 2) := op54 (bA_at bd03_dec_X11_3_20 15 rfl rfl) rfl
theorem dX11_taught_30 : decode cX11_taught 30 = .ok (.iconst 0, 1) := op3 (bA_at bd03_dec_X11_3_20 16 rfl rfl)
theorem dX11_taught_31 : decode cX11_taught 31 = .ok (.istore 6, 2) := op54 (bA_at bd03_dec_X11_3_20 17 rfl rfl) rfl
theorem dX11_taught_33 : decode cX11_taught 33 = .ok (.iload 6, 2) := op21 (bA_at bd03_dec_X11_3_20 18 rfl rfl) rfl
theorem dX11_taught_35 : decode cX11_taught 35 = .ok (.aload_n 0, 1) := op42 (bA_at bd03_dec_X11_3_20 19 rfl rfl)
theorem dX11_taught_36 : decode cX11_taught 36 = .ok (.getfield 310, 3) := op180 (bA_at bd03_dec_X11_3_20 20 rfl rfl) rfl
theorem dX11_taught_39 : decode cX11_taught 39 = .ok (.if_icmp .ge 34, 3) := op162 (bA_at bd03_dec_X11_3_20 21 rfl rfl) (by decide +kernel)
theorem dX11_taught_42 : decode cX11_taught 42 = .ok (.iload_n 3, 1) := op29 (bA_at bd03_dec_X11_3_20 22 rfl rfl)
theorem dX11_taught_43 : decode cX11_taught 43 = .ok (.aload_n 0, 1) := op42 (bA_at bd03_dec_X11_3_20 23 rfl rfl)
theorem dX11_taught_44 : decode cX11_taught 44 = .ok (.getfield 47, 3) := op180 (bA_at bd03_dec_X11_3_20 24 rfl rfl) rfl
theorem dX11_taught_47 : decode cX11_taught 47 = .ok (.iload 6, 2) := op21 (bA_at bd03_dec_X11_3_20 25 rfl rfl) rfl
theorem dX11_taught_49 : decode cX11_taught 49 = .ok (.iaload, 1) := op46 (bA_at bd03_dec_X11_3_20 26 rfl rfl)
theorem dX11_taught_50 : decode cX11_taught 50 = .ok (.iload_n 2, 1) := op28 (bA_at bd03_dec_X11_3_20 27 rfl rfl)
theorem dX11_taught_51 : decode cX11_taught 51 = .ok (.invokestatic 101, 3) := op184 (bA_at bd03_dec_X11_3_20 28 rfl rfl) rfl
theorem dX11_taught_54 : decode cX11_taught 54 = .ok (.ifCond .eq 10, 3) := op153 (bA_at bd03_dec_X11_3_20 29 rfl rfl) (by decide +kernel)
theorem dX11_taught_57 : decode cX11_taught 57 = .ok (.iconst 1, 1) := op4 (bA_at bd03_dec_X11_3_20 30 rfl rfl)
theorem dX11_taught_58 : decode cX11_taught 58 = .ok (.iload 6, 2) := op21 (bA_at bd03_dec_X11_3_20 31 rfl rfl) rfl
theorem dX11_taught_60 : decode cX11_taught 60 = .ok (.ishl, 1) := op120 (bA_at bd03_dec_X11_3_20 32 rfl rfl)
theorem dX11_taught_61 : decode cX11_taught 61 = .ok (.goto 4, 3) := op167 (bA_at bd03_dec_X11_3_20 33 rfl rfl) (by decide +kernel)
theorem dX11_taught_64 : decode cX11_taught 64 = .ok (.iconst 0, 1) := op3 (bA_at bd03_dec_X11_3_20 34 rfl rfl)
theorem dX11_taught_65 : decode cX11_taught 65 = .ok (.ior, 1) := op128 (bA_at bd03_dec_X11_3_20 35 rfl rfl)
theorem dX11_taught_66 : decode cX11_taught 66 = .ok (.istore_n 3, 1) := op62 (bA_at bd03_dec_X11_3_20 36 rfl rfl)
theorem dX11_taught_67 : decode cX11_taught 67 = .ok (.iinc 6 1, 3) := op132 (bA_at bd03_dec_X11_3_20 37 rfl rfl) rfl (by decide +kernel)
theorem dX11_taught_70 : decode cX11_taught 70 = .ok (.goto (-37), 3) := op167 (bA_at bd03_dec_X11_3_20 38 rfl rfl) (by decide +kernel)
theorem dX11_taught_73 : decode cX11_taught 73 = .ok (.iload 5, 2) := op21 (bA_at bd03_dec_X11_3_20 39 rfl rfl) rfl
theorem dX11_taught_75 : decode cX11_taught 75 = .ok (.ifCond .eq 179, 3) := op153 (bA_at bd03_dec_X11_3_20 40 rfl rfl) (by decide +kernel)
theorem dX11_taught_78 : decode cX11_taught 78 = .ok (.iconst (-1), 1) := op2 (bA_at bd03_dec_X11_3_20 41 rfl rfl)
theorem dX11_taught_79 : decode cX11_taught 79 = .ok (.istore 6, 2) := op54 (bA_at bd03_dec_X11_3_20 42 rfl rfl) rfl
theorem dX11_taught_81 : decode cX11_taught 81 = .ok (.iconst 0, 1) := op3 (bA_at bd03_dec_X11_3_20 43 rfl rfl)
theorem dX11_taught_82 : decode cX11_taught 82 = .ok (.istore 7, 2) := op54 (bA_at bd03_dec_X11_3_20 44 rfl rfl) rfl
theorem dX11_taught_84 : decode cX11_taught 84 = .ok (.iload 7, 2) := op21 (bA_at bd03_dec_X11_3_20 45 rfl rfl) rfl
theorem dX11_taught_86 : decode cX11_taught 86 = .ok (.aload_n 0, 1) := op42 (bA_at bd03_dec_X11_3_20 46 rfl rfl)
theorem dX11_taught_87 : decode cX11_taught 87 = .ok (.getfield 310, 3) := op180 (bA_at bd03_dec_X11_3_20 47 rfl rfl) rfl
theorem dX11_taught_90 : decode cX11_taught 90 = .ok (.if_icmp .ge 49, 3) := op162 (bA_at bd03_dec_X11_3_20 48 rfl rfl) (by decide +kernel)
theorem dX11_taught_93 : decode cX11_taught 93 = .ok (.iload 5, 2) := op21 (bA_at bd03_dec_X11_3_20 49 rfl rfl) rfl
theorem bd03_dec_X11_3_21 : ([(0, [21, 7]), (2, [184, 0, 101]), (5, [153, 0, 29]), (8, [21, 6]), (10, [2]), (11, [159, 0, 18]), (14, [42]), (15, [21, 7]), (17, [182, 1, 96]), (20, [42]), (21, [21, 6]), (23, [182, 1, 96]), (26, [164, 0, 8]), (29, [21, 7]), (31, [167, 0, 5]), (34, [21, 6]), (36, [54, 6]), (38, [132, 7, 1]), (41, [167, 255, 204]), (44, [29]), (45, [21, 6]), (47, [184, 0, 101]), (50, [153, 0, 28]), (53, [42]), (54, [21, 6]), (56, [182, 1, 96]), (59, [21, 4]), (61, [162, 0, 17]), (64, [42]), (65, [42]), (66, [180, 0, 44]), (69, [21, 6]), (71, [46]), (72, [182, 1, 99]), (75, [153, 0, 5]), (78, [2]), (79, [172]), (80, [42]), (81, [21, 6]), (83, [182, 1, 96]), (86, [54, 4]), (88, [21, 5]), (90, [4]), (91, [21, 6]), (93, [120]), (94, [2]), (95, [130]), (96, [126]), (97, [54, 5]), (99, [42])] : List (Nat × List UInt8)).all (fun x => prB x.2 ((cX11_taught.data.toList.drop 95).drop x.1)) = true := by decide +kernel
theorem dX11_taught_95 : decode cX11_taught 95 = .ok (.iload 7, 2) := op21 (bA_at bd03_dec_X11_3_21 0 rfl rfl) rfl
theorem dX11_taught_97 : decode cX11_taught 97 = .ok (.invokestatic 101, 3) := op184 (bA_at bd03_dec_X11_3_21 1 rfl rfl) rfl
theorem dX11_taught_100 : decode cX11_taught 100 = .ok (.ifCond .eq 29, 3) := op153 (bA_at bd03_dec_X11_3_21 2 rfl rfl) (by decide +kernel)
theorem dX11_taught_103 : decode cX11_taught 103 = .ok (.iload 6, 2) := op21 (bA_at bd03_dec_X11_3_21 3 rfl rfl) rfl
theorem dX11_taught_105 : decode cX11_taught 105 = .ok (.iconst (-1), 1) := op2 (bA_at bd03_dec_X11_3_21 4 rfl rfl)
theorem dX11_taught_106 : decode cX11_taught 106 = .ok (.if_icmp .eq 18, 3) := op159 (bA_at bd03_dec_X11_3_21 5 rfl rfl) (by decide +kernel)
theorem dX11_taught_109 : decode cX11_taught 109 = .ok (.aload_n 0, 1) := op42 (bA_at bd03_dec_X11_3_21 6 rfl rfl)
theorem dX11_taught_110 : decode cX11_taught 110 = .ok (.iload 7, 2) := op21 (bA_at bd03_dec_X11_3_21 7 rfl rfl) rfl
theorem dX11_taught_112 : decode cX11_taught 112 = .ok (.invokevirtual 352, 3) := op182 (bA_at bd03_dec_X11_3_21 8 rfl rfl) rfl
theorem dX11_taught_115 : decode cX11_taught 115 = .ok (.aload_n 0, 1) := op42 (bA_at bd03_dec_X11_3_21 9 rfl rfl)
theorem dX11_taught_116 : decode cX11_taught 116 = .ok (.iload 6, 2) := op21 (bA_at bd03_dec_X11_3_21 10 rfl rfl) rfl
theorem dX11_taught_118 : decode cX11_taught 118 = .ok (.invokevirtual 352, 3) := op182 (bA_at bd03_dec_X11_3_21 11 rfl rfl) rfl
theorem dX11_taught_121 : decode cX11_taught 121 = .ok (.if_icmp .le 8, 3) := op164 (bA_at bd03_dec_X11_3_21 12 rfl rfl) (by decide +kernel)
theorem dX11_taught_124 : decode cX11_taught 124 = .ok (.iload 7, 2) := op21 (bA_at bd03_dec_X11_3_21 13 rfl rfl) rfl
theorem dX11_taught_126 : decode cX11_taught 126 = .ok (.goto 5, 3) := op167 (bA_at bd03_dec_X11_3_21 14 rfl rfl) (by decide +kernel)
theorem dX11_taught_129 : decode cX11_taught 129 = .ok (.iload 6, 2) := op21 (bA_at bd03_dec_X11_3_21 15 rfl rfl) rfl
theorem dX11_taught_131 : decode cX11_taught 131 = .ok (.istore 6, 2) := op54 (bA_at bd03_dec_X11_3_21 16 rfl rfl) rfl
theorem dX11_taught_133 : decode cX11_taught 133 = .ok (.iinc 7 1, 3) := op132 (bA_at bd03_dec_X11_3_21 17 rfl rfl) rfl (by decide +kernel)
theorem dX11_taught_136 : decode cX11_taught 136 = .ok (.goto (-52), 3) := op167 (bA_at bd03_dec_X11_3_21 18 rfl rfl) (by decide +kernel)
theorem dX11_taught_139 : decode cX11_taught 139 = .ok (.iload_n 3, 1) := op29 (bA_at bd03_dec_X11_3_21 19 rfl rfl)
theorem dX11_taught_140 : decode cX11_taught 140 = .ok (.iload 6, 2) := op21 (bA_at bd03_dec_X11_3_21 20 rfl rfl) rfl
theorem dX11_taught_142 : decode cX11_taught 142 = .ok (.invokestatic 101, 3) := op184 (bA_at bd03_dec_X11_3_21 21 rfl rfl) rfl
theorem dX11_taught_145 : decode cX11_taught 145 = .ok (.ifCond .eq 28, 3) := op153 (bA_at bd03_dec_X11_3_21 22 rfl rfl) (by decide +kernel)
theorem dX11_taught_148 : decode cX11_taught 148 = .ok (.aload_n 0, 1) := op42 (bA_at bd03_dec_X11_3_21 23 rfl rfl)
theorem dX11_taught_149 : decode cX11_taught 149 = .ok (.iload 6, 2) := op21 (bA_at bd03_dec_X11_3_21 24 rfl rfl) rfl
theorem dX11_taught_151 : decode cX11_taught 151 = .ok (.invokevirtual 352, 3) := op182 (bA_at bd03_dec_X11_3_21 25 rfl rfl) rfl
theorem dX11_taught_154 : decode cX11_taught 154 = .ok (.iload 4, 2) := op21 (bA_at bd03_dec_X11_3_21 26 rfl rfl) rfl
theorem dX11_taught_156 : decode cX11_taught 156 = .ok (.if_icmp .ge 17, 3) := op162 (bA_at bd03_dec_X11_3_21 27 rfl rfl) (by decide +kernel)
theorem dX11_taught_159 : decode cX11_taught 159 = .ok (.aload_n 0, 1) := op42 (bA_at bd03_dec_X11_3_21 28 rfl rfl)
theorem dX11_taught_160 : decode cX11_taught 160 = .ok (.aload_n 0, 1) := op42 (bA_at bd03_dec_X11_3_21 29 rfl rfl)
theorem dX11_taught_161 : decode cX11_taught 161 = .ok (.getfield 44, 3) := op180 (bA_at bd03_dec_X11_3_21 30 rfl rfl) rfl
theorem dX11_taught_164 : decode cX11_taught 164 = .ok (.iload 6, 2) := op21 (bA_at bd03_dec_X11_3_21 31 rfl rfl) rfl
theorem dX11_taught_166 : decode cX11_taught 166 = .ok (.iaload, 1) := op46 (bA_at bd03_dec_X11_3_21 32 rfl rfl)
theorem dX11_taught_167 : decode cX11_taught 167 = .ok (.invokevirtual 355, 3) := op182 (bA_at bd03_dec_X11_3_21 33 rfl rfl) rfl
theorem dX11_taught_170 : decode cX11_taught 170 = .ok (.ifCond .eq 5, 3) := op153 (bA_at bd03_dec_X11_3_21 34 rfl rfl) (by decide +kernel)
theorem dX11_taught_173 : decode cX11_taught 173 = .ok (.iconst (-1), 1) := op2 (bA_at bd03_dec_X11_3_21 35 rfl rfl)
theorem dX11_taught_174 : decode cX11_taught 174 = .ok (.ireturn, 1) := op172 (bA_at bd03_dec_X11_3_21 36 rfl rfl)
theorem dX11_taught_175 : decode cX11_taught 175 = .ok (.aload_n 0, 1) := op42 (bA_at bd03_dec_X11_3_21 37 rfl rfl)
theorem dX11_taught_176 : decode cX11_taught 176 = .ok (.iload 6, 2) := op21 (bA_at bd03_dec_X11_3_21 38 rfl rfl) rfl
theorem dX11_taught_178 : decode cX11_taught 178 = .ok (.invokevirtual 352, 3) := op182 (bA_at bd03_dec_X11_3_21 39 rfl rfl) rfl
theorem dX11_taught_181 : decode cX11_taught 181 = .ok (.istore 4, 2) := op54 (bA_at bd03_dec_X11_3_21 40 rfl rfl) rfl
theorem dX11_taught_183 : decode cX11_taught 183 = .ok (.iload 5, 2) := op21 (bA_at bd03_dec_X11_3_21 41 rfl rfl) rfl
theorem dX11_taught_185 : decode cX11_taught 185 = .ok (.iconst 1, 1) := op4 (bA_at bd03_dec_X11_3_21 42 rfl rfl)
theorem dX11_taught_186 : decode cX11_taught 186 = .ok (.iload 6, 2) := op21 (bA_at bd03_dec_X11_3_21 43 rfl rfl) rfl
theorem dX11_taught_188 : decode cX11_taught 188 = .ok (.ishl, 1) := op120 (bA_at bd03_dec_X11_3_21 44 rfl rfl)
theorem dX11_taught_189 : decode cX11_taught 189 = .ok (.iconst (-1), 1) := op2 (bA_at bd03_dec_X11_3_21 45 rfl rfl)
theorem dX11_taught_190 : decode cX11_taught 190 = .ok (.ixor, 1) := op130 (bA_at bd03_dec_X11_3_21 46 rfl rfl)
theorem dX11_taught_191 : decode cX11_taught 191 = .ok (.iand, 1) := op126 (bA_at bd03_dec_X11_3_21 47 rfl rfl)
theorem dX11_taught_192 : decode cX11_taught 192 = .ok (.istore 5, 2) := op54 (bA_at bd03_dec_X11_3_21 48 rfl rfl) rfl
theorem dX11_taught_194 : decode cX11_taught 194 = .ok (.aload_n 0, 1) := op42 (bA_at bd03_dec_X11_3_21 49 rfl rfl)
theorem bd03_dec_X11_3_22 : ([(0, [42]), (1, [180, 0, 44]), (4, [21, 6]), (6, [46]), (7, [182, 1, 93]), (10, [54, 7]), (12, [3]), (13, [54, 8]), (15, [21, 8]), (17, [42]), (18, [180, 1, 54]), (21, [162, 0, 35]), (24, [29]), (25, [21, 7]), (27, [42]), (28, [180, 0, 44]), (31, [21, 8]), (33, [46]), (34, [184, 0, 101]), (37, [153, 0, 10]), (40, [4]), (41, [21, 8]), (43, [120]), (44, [167, 0, 4]), (47, [3]), (48, [128]), (49, [62]), (50, [132, 8, 1]), (53, [167, 255, 218]), (56, [167, 255, 78]), (59, [29]), (60, [172])] : List (Nat × List UInt8)).all (fun x => prB x.2 ((cX11_taught.data.toList.drop 195).drop x.1)) = true := by decide +kernel
theorem dX11_taught_195 : decode cX11_taught 195 = .ok (.aload_n 0, 1) := op42 (bA_at bd03_dec_X11_3_22 0 rfl rfl)
theorem dX11_taught_196 : decode cX11_taught 196 = .ok (.getfield 44, 3) := op180 (bA_at bd03_dec_X11_3_22 1 rfl rfl) rfl
theorem dX11_taught_199 : decode cX11_taught 199 = .ok (.iload 6, 2) := op21 (bA_at bd03_dec_X11_3_22 2 rfl rfl) rfl
theorem dX11_taught_201 : decode cX11_taught 201 = .ok (.iaload, 1) := op46 (bA_at bd03_dec_X11_3_22 3 rfl rfl)
theorem dX11_taught_202 : decode cX11_taught 202 = .ok (.invokevirtual 349, 3) := op182 (bA_at bd03_dec_X11_3_22 4 rfl rfl) rfl
theorem dX11_taught_205 : decode cX11_taught 205 = .ok (.istore 7, 2) := op54 (bA_at bd03_dec_X11_3_22 5 rfl rfl) rfl
theorem dX11_taught_207 : decode cX11_taught 207 = .ok (.iconst 0, 1) := op3 (bA_at bd03_dec_X11_3_22 6 rfl rfl)
theorem dX11_taught_208 : decode cX11_taught 208 = .ok (.istore 8, 2) := op54 (bA_at bd03_dec_X11_3_22 7 rfl rfl) rfl
theorem dX11_taught_210 : decode cX11_taught 210 = .ok (.iload 8, 2) := op21 (bA_at bd03_dec_X11_3_22 8 rfl rfl) rfl
theorem dX11_taught_212 : decode cX11_taught 212 = .ok (.aload_n 0, 1) := op42 (bA_at bd03_dec_X11_3_22 9 rfl rfl)
theorem dX11_taught_213 : decode cX11_taught 213 = .ok (.getfield 310, 3) := op180 (bA_at bd03_dec_X11_3_22 10 rfl rfl) rfl
theorem dX11_taught_216 : decode cX11_taught 216 = .ok (.if_icmp .ge 35, 3) := op162 (bA_at bd03_dec_X11_3_22 11 rfl rfl) (by decide +kernel)
theorem dX11_taught_219 : decode cX11_taught 219 = .ok (.iload_n 3, 1) := op29 (bA_at bd03_dec_X11_3_22 12 rfl rfl)
theorem dX11_taught_220 : decode cX11_taught 220 = .ok (.iload 7, 2) := op21 (bA_at bd03_dec_X11_3_22 13 rfl rfl) rfl
theorem dX11_taught_222 : decode cX11_taught 222 = .ok (.aload_n 0, 1) := op42 (bA_at bd03_dec_X11_3_22 14 rfl rfl)
theorem dX11_taught_223 : decode cX11_taught 223 = .ok (.getfield 44, 3) := op180 (bA_at bd03_dec_X11_3_22 15 rfl rfl) rfl
theorem dX11_taught_226 : decode cX11_taught 226 = .ok (.iload 8, 2) := op21 (bA_at bd03_dec_X11_3_22 16 rfl rfl) rfl
theorem dX11_taught_228 : decode cX11_taught 228 = .ok (.iaload, 1) := op46 (bA_at bd03_dec_X11_3_22 17 rfl rfl)
theorem dX11_taught_229 : decode cX11_taught 229 = .ok (.invokestatic 101, 3) := op184 (bA_at bd03_dec_X11_3_22 18 rfl rfl) rfl
theorem dX11_taught_232 : decode cX11_taught 232 = .ok (.ifCond .eq 10, 3) := op153 (bA_at bd03_dec_X11_3_22 19 rfl rfl) (by decide +kernel)
theorem dX11_taught_235 : decode cX11_taught 235 = .ok (.iconst 1, 1) := op4 (bA_at bd03_dec_X11_3_22 20 rfl rfl)
theorem dX11_taught_236 : decode cX11_taught 236 = .ok (.iload 8, 2) := op21 (bA_at bd03_dec_X11_3_22 21 rfl rfl) rfl
theorem dX11_taught_238 : decode cX11_taught 238 = .ok (.ishl, 1) := op120 (bA_at bd03_dec_X11_3_22 22 rfl rfl)
theorem dX11_taught_239 : decode cX11_taught 239 = .ok (.goto 4, 3) := op167 (bA_at bd03_dec_X11_3_22 23 rfl rfl) (by decide +kernel)
theorem dX11_taught_242 : decode cX11_taught 242 = .ok (.iconst 0, 1) := op3 (bA_at bd03_dec_X11_3_22 24 rfl rfl)
theorem dX11_taught_243 : decode cX11_taught 243 = .ok (.ior, 1) := op128 (bA_at bd03_dec_X11_3_22 25 rfl rfl)
theorem dX11_taught_244 : decode cX11_taught 244 = .ok (.istore_n 3, 1) := op62 (bA_at bd03_dec_X11_3_22 26 rfl rfl)
theorem dX11_taught_245 : decode cX11_taught 245 = .ok (.iinc 8 1, 3) := op132 (bA_at bd03_dec_X11_3_22 27 rfl rfl) rfl (by decide +kernel)
theorem dX11_taught_248 : decode cX11_taught 248 = .ok (.goto (-38), 3) := op167 (bA_at bd03_dec_X11_3_22 28 rfl rfl) (by decide +kernel)
theorem dX11_taught_251 : decode cX11_taught 251 = .ok (.goto (-178), 3) := op167 (bA_at bd03_dec_X11_3_22 29 rfl rfl) (by decide +kernel)
theorem dX11_taught_254 : decode cX11_taught 254 = .ok (.iload_n 3, 1) := op29 (bA_at bd03_dec_X11_3_22 30 rfl rfl)
theorem dX11_taught_255 : decode cX11_taught 255 = .ok (.ireturn, 1) := op172 (bA_at bd03_dec_X11_3_22 31 rfl rfl)
theorem bd03_dec_X11_3_23 : ([(0, [42]), (1, [3]), (2, [181, 0, 97]), (5, [42]), (6, [27]), (7, [28]), (8, [182, 1, 127]), (11, [153, 0, 34]), (14, [29]), (15, [3]), (16, [42]), (17, [182, 1, 78]), (20, [184, 0, 109]), (23, [153, 0, 22]), (26, [42]), (27, [29]), (28, [182, 1, 130]), (31, [29]), (32, [161, 0, 13]), (35, [21, 4]), (37, [3]), (38, [7]), (39, [184, 0, 109]), (42, [154, 0, 5]), (45, [2]), (46, [172]), (47, [2]), (48, [54, 5]), (50, [3]), (51, [54, 6]), (53, [21, 6]), (55, [4]), (56, [42]), (57, [180, 1, 54]), (60, [120]), (61, [162, 0, 68]), (64, [42]), (65, [21, 6]), (67, [21, 4]), (69, [182, 2, 13]), (72, [4]), (73, [42]), (74, [180, 1, 54]), (77, [120]), (78, [4]), (79, [100]), (80, [160, 0, 7]), (83, [4]), (84, [167, 0, 4]), (87, [3])] : List (Nat × List UInt8)).all (fun x => prB x.2 ((cX11_teach.data.toList.drop 0).drop x.1)) = true := by decide +kernel
theorem dX11_teach_0 : decode cX11_teach 0 = .ok (.aload_n 0, 1) := op42 (bA_at bd03_dec_X11_3_23 0 rfl rfl)
theorem dX11_teach_1 : decode cX11_teach 1 = .ok (.iconst 0, 1) := op3 (bA_at bd03_dec_X11_3_23 1 rfl rfl)
theorem dX11_teach_2 : decode cX11_teach 2 = .ok (.putfield 97, 3) := op181 (bA_at bd03_dec_X11_3_23 2 rfl rfl) rfl
theorem dX11_teach_5 : decode cX11_teach 5 = .ok (.aload_n 0, 1) := op42 (bA_at bd03_dec_X11_3_23 3 rfl rfl)
theorem dX11_teach_6 : decode cX11_teach 6 = .ok (.iload_n 1, 1) := op27 (bA_at bd03_dec_X11_3_23 4 rfl rfl)
theorem dX11_teach_7 : decode cX11_teach 7 = .ok (.iload_n 2, 1) := op28 (bA_at bd03_dec_X11_3_23 5 rfl rfl)
theorem dX11_teach_8 : decode cX11_teach 8 = .ok (.invokevirtual 383, 3) := op182 (bA_at bd03_dec_X11_3_23 6 rfl rfl) rfl
theorem dX11_teach_11 : decode cX11_teach 11 = .ok (.ifCond .eq 34, 3) := op153 (bA_at bd03_dec_X11_3_23 7 rfl rfl) (by decide +kernel)
theorem dX11_teach_14 : decode cX11_teach 14 = .ok (.iload_n 3, 1) := op29 (bA_at bd03_dec_X11_3_23 8 rfl rfl)
theorem dX11_teach_15 : decode cX11_teach 15 = .ok (.iconst 0, 1) := op3 (bA_at bd03_dec_X11_3_23 9 rfl rfl)
theorem dX11_teach_16 : decode cX11_teach 16 = .ok (.aload_n 0, 1) := op42 (bA_at bd03_dec_X11_3_23 10 rfl rfl)
theorem dX11_teach_17 : decode cX11_teach 17 = .ok (.invokevirtual 334, 3) := op182 (bA_at bd03_dec_X11_3_23 11 rfl rfl) rfl
theorem dX11_teach_20 : decode cX11_teach 20 = .ok (.invokestatic 109, 3) := op184 (bA_at bd03_dec_X11_3_23 12 rfl rfl) rfl
theorem dX11_teach_23 : decode cX11_teach 23 = .ok (.ifCond .eq 22, 3) := op153 (bA_at bd03_dec_X11_3_23 13 rfl rfl) (by decide +kernel)
theorem dX11_teach_26 : decode cX11_teach 26 = .ok (.aload_n 0, 1) := op42 (bA_at bd03_dec_X11_3_23 14 rfl rfl)
theorem dX11_teach_27 : decode cX11_teach 27 = .ok (.iload_n 3, 1) := op29 (bA_at bd03_dec_X11_3_23 15 rfl rfl)
theorem dX11_teach_28 : decode cX11_teach 28 = .ok (.invokevirtual 386, 3) := op182 (bA_at bd03_dec_X11_3_23 16 rfl rfl) rfl
theorem dX11_teach_31 : decode cX11_teach 31 = .ok (.iload_n 3, 1) := op29 (bA_at bd03_dec_X11_3_23 17 rfl rfl)
theorem dX11_teach_32 : decode cX11_teach 32 = .ok (.if_icmp .lt 13, 3) := op161 (bA_at bd03_dec_X11_3_23 18 rfl rfl) (by decide +kernel)
theorem dX11_teach_35 : decode cX11_teach 35 = .ok (.iload 4, 2) := op21 (bA_at bd03_dec_X11_3_23 19 rfl rfl) rfl
theorem dX11_teach_37 : decode cX11_teach 37 = .ok (.iconst 0, 1) := op3 (bA_at bd03_dec_X11_3_23 20 rfl rfl)
theorem dX11_teach_38 : decode cX11_teach 38 = .ok (.iconst 4, 1) := op7 (bA_at bd03_dec_X11_3_23 21 rfl rfl)
theorem dX11_teach_39 : decode cX11_teach 39 = .ok (.invokestatic 109, 3) := op184 (bA_at bd03_dec_X11_3_23 22 rfl rfl) rfl
theorem dX11_teach_42 : decode cX11_teach 42 = .ok (.ifCond .ne 5, 3) := op154 (bA_at bd03_dec_X11_3_23 23 rfl rfl) (by decide +kernel)
theorem dX11_teach_45 : decode cX11_teach 45 = .ok (.iconst (-1), 1) := op2 (bA_at bd03_dec_X11_3_23 24 rfl rfl)
theorem dX11_teach_46 : decode cX11_teach 46 = .ok (.ireturn, 1) := op172 (bA_at bd03_dec_X11_3_23 25 rfl rfl)
theorem dX11_teach_47 : decode cX11_teach 47 = .ok (.iconst (-1), 1) := op2 (bA_at bd03_dec_X11_3_23 26 rfl rfl)
theorem dX11_teach_48 : decode cX11_teach 48 = .ok (.istore 5, 2) := op54 (bA_at bd03_dec_X11_3_23 27 rfl rfl) rfl
theorem dX11_teach_50 : decode cX11_teach 50 = .ok (.iconst 0, 1) := op3 (bA_at bd03_dec_X11_3_23 28 rfl rfl)
theorem dX11_teach_51 : decode cX11_teach 51 = .ok (.istore 6, 2) := op54 (bA_at bd03_dec_X11_3_23 29 rfl rfl) rfl
theorem dX11_teach_53 : decode cX11_teach 53 = .ok (.iload 6, 2) := op21 (bA_at bd03_dec_X11_3_23 30 rfl rfl) rfl
theorem dX11_teach_55 : decode cX11_teach 55 = .ok (.iconst 1, 1) := op4 (bA_at bd03_dec_X11_3_23 31 rfl rfl)
theorem dX11_teach_56 : decode cX11_teach 56 = .ok (.aload_n 0, 1) := op42 (bA_at bd03_dec_X11_3_23 32 rfl rfl)
theorem dX11_teach_57 : decode cX11_teach 57 = .ok (.getfield 310, 3) := op180 (bA_at bd03_dec_X11_3_23 33 rfl rfl) rfl
theorem dX11_teach_60 : decode cX11_teach 60 = .ok (.ishl, 1) := op120 (bA_at bd03_dec_X11_3_23 34 rfl rfl)
theorem dX11_teach_61 : decode cX11_teach 61 = .ok (.if_icmp .ge 68, 3) := op162 (bA_at bd03_dec_X11_3_23 35 rfl rfl) (by decide +kernel)
theorem dX11_teach_64 : decode cX11_teach 64 = .ok (.aload_n 0, 1) := op42 (bA_at bd03_dec_X11_3_23 36 rfl rfl)
theorem dX11_teach_65 : decode cX11_teach 65 = .ok (.iload 6, 2) := op21 (bA_at bd03_dec_X11_3_23 37 rfl rfl) rfl
theorem dX11_teach_67 : decode cX11_teach 67 = .ok (.iload 4, 2) := op21 (bA_at bd03_dec_X11_3_23 38 rfl rfl) rfl
theorem dX11_teach_69 : decode cX11_teach 69 = .ok (.invokevirtual 525, 3) := op182 (bA_at bd03_dec_X11_3_23 39 rfl rfl) rfl
theorem dX11_teach_72 : decode cX11_teach 72 = .ok (.iconst 1, 1) := op4 (bA_at bd03_dec_X11_3_23 40 rfl rfl)
theorem dX11_teach_73 : decode cX11_teach 73 = .ok (.aload_n 0, 1) := op42 (bA_at bd03_dec_X11_3_23 41 rfl rfl)
theorem dX11_teach_74 : decode cX11_teach 74 = .ok (.getfield 310, 3) := op180 (bA_at bd03_dec_X11_3_23 42 rfl rfl) rfl
theorem dX11_teach_77 : decode cX11_teach 77 = .ok (.ishl, 1) := op120 (bA_at bd03_dec_X11_3_23 43 rfl rfl)
theorem dX11_teach_78 : decode cX11_teach 78 = .ok (.iconst 1, 1) := op4 (bA_at bd03_dec_X11_3_23 44 rfl rfl)
theorem dX11_teach_79 : decode cX11_teach 79 = .ok (.isub, 1) := op100 (bA_at bd03_dec_X11_3_23 45 rfl rfl)
theorem dX11_teach_80 : decode cX11_teach 80 = .ok (.if_icmp .ne 7, 3) := op160 (bA_at bd03_dec_X11_3_23 46 rfl rfl) (by decide +kernel)
theorem dX11_teach_83 : decode cX11_teach 83 = .ok (.iconst 1, 1) := op4 (bA_at bd03_dec_X11_3_23 47 rfl rfl)
theorem dX11_teach_84 : decode cX11_teach 84 = .ok (.goto 4, 3) := op167 (bA_at bd03_dec_X11_3_23 48 rfl rfl) (by decide +kernel)
theorem dX11_teach_87 : decode cX11_teach 87 = .ok (.iconst 0, 1) := op3 (bA_at bd03_dec_X11_3_23 49 rfl rfl)
theorem bd03_dec_X11_3_24 : ([(0, [54, 7]), (2, [21, 7]), (4, [153, 0, 27]), (7, [21, 5]), (9, [2]), (10, [159, 0, 13]), (13, [21, 6]), (15, [184, 1, 173]), (18, [21, 5]), (20, [162, 0, 11]), (23, [21, 6]), (25, [184, 1, 173]), (28, [167, 0, 5]), (31, [21, 5]), (33, [54, 5]), (35, [132, 6, 1]), (38, [167, 255, 183]), (41, [21, 5]), (43, [172])] : List (Nat × List UInt8)).all (fun x => prB x.2 ((cX11_teach.data.toList.drop 88).drop x.1)) = true := by decide +kernel
theorem dX11_teach_88 : decode cX11_teach 88 = .ok (.istore 7, 2) := op54 (bA_at bd03_dec_X11_3_24 0 rfl rfl) rfl
theorem dX11_teach_90 : decode cX11_teach 90 = .ok (.iload 7, 2) := op21 (bA_at bd03_dec_X11_3_24 1 rfl rfl) rfl
theorem dX11_teach_92 : decode cX11_teach 92 = .ok (.ifCond .eq 27, 3) := op153 (bA_at bd03_dec_X11_3_24 2 rfl rfl) (by decide +kernel)
theorem dX11_teach_95 : decode cX11_teach 95 = .ok (.iload 5, 2) := op21 (bA_at bd03_dec_X11_3_24 3 rfl rfl) rfl
theorem dX11_teach_97 : decode cX11_teach 97 = .ok (.iconst (-1), 1) := op2 (bA_at bd03_dec_X11_3_24 4 rfl rfl)
theorem dX11_teach_98 : decode cX11_teach 98 = .ok (.if_icmp .eq 13, 3) := op159 (bA_at bd03_dec_X11_3_24 5 rfl rfl) (by decide +kernel)
theorem dX11_teach_101 : decode cX11_teach 101 = .ok (.iload 6, 2) := op21 (bA_at bd03_dec_X11_3_24 6 rfl rfl) rfl
theorem dX11_teach_103 : decode cX11_teach 103 = .ok (.invokestatic 429, 3) := op184 (bA_at bd03_dec_X11_3_24 7 rfl rfl) rfl
theorem dX11_teach_106 : decode cX11_teach 106 = .ok (.iload 5, 2) := op21 (bA_at bd03_dec_X11_3_24 8 rfl rfl) rfl
theorem dX11_teach_108 : decode cX11_teach 108 = .ok (.if_icmp .ge 11, 3) := op162 (bA_at bd03_dec_X11_3_24 9 rfl rfl) (by decide +kernel)
theorem dX11_teach_111 : decode cX11_teach 111 = .ok (.iload 6, 2) := op21 (bA_at bd03_dec_X11_3_24 10 rfl rfl) rfl
theorem dX11_teach_113 : decode cX11_teach 113 = .ok (.invokestatic 429, 3) := op184 (bA_at bd03_dec_X11_3_24 11 rfl rfl) rfl
theorem dX11_teach_116 : decode cX11_teach 116 = .ok (.goto 5, 3) := op167 (bA_at bd03_dec_X11_3_24 12 rfl rfl) (by decide +kernel)
theorem dX11_teach_119 : decode cX11_teach 119 = .ok (.iload 5, 2) := op21 (bA_at bd03_dec_X11_3_24 13 rfl rfl) rfl
theorem dX11_teach_121 : decode cX11_teach 121 = .ok (.istore 5, 2) := op54 (bA_at bd03_dec_X11_3_24 14 rfl rfl) rfl
theorem dX11_teach_123 : decode cX11_teach 123 = .ok (.iinc 6 1, 3) := op132 (bA_at bd03_dec_X11_3_24 15 rfl rfl) rfl (by decide +kernel)
theorem dX11_teach_126 : decode cX11_teach 126 = .ok (.goto (-73), 3) := op167 (bA_at bd03_dec_X11_3_24 16 rfl rfl) (by decide +kernel)
theorem dX11_teach_129 : decode cX11_teach 129 = .ok (.iload 5, 2) := op21 (bA_at bd03_dec_X11_3_24 17 rfl rfl) rfl
theorem dX11_teach_131 : decode cX11_teach 131 = .ok (.ireturn, 1) := op172 (bA_at bd03_dec_X11_3_24 18 rfl rfl)
theorem bd03_dec_X11_3_25 : ([(0, [42]), (1, [3]), (2, [181, 0, 97]), (5, [27]), (6, [3]), (7, [6]), (8, [184, 0, 109]), (11, [153, 0, 12]), (14, [42]), (15, [180, 0, 23]), (18, [27]), (19, [46]), (20, [167, 0, 5]), (23, [16, 254]), (25, [172])] : List (Nat × List UInt8)).all (fun x => prB x.2 ((cX11_count.data.toList.drop 0).drop x.1)) = true := by decide +kernel
theorem dX11_count_0 : decode cX11_count 0 = .ok (.aload_n 0, 1) := op42 (bA_at bd03_dec_X11_3_25 0 rfl rfl)
theorem dX11_count_1 : decode cX11_count 1 = .ok (.iconst 0, 1) := op3 (bA_at bd03_dec_X11_3_25 1 rfl rfl)
theorem dX11_count_2 : decode cX11_count 2 = .ok (.putfield 97, 3) := op181 (bA_at bd03_dec_X11_3_25 2 rfl rfl) rfl
theorem dX11_count_5 : decode cX11_count 5 = .ok (.iload_n 1, 1) := op27 (bA_at bd03_dec_X11_3_25 3 rfl rfl)
theorem dX11_count_6 : decode cX11_count 6 = .ok (.iconst 0, 1) := op3 (bA_at bd03_dec_X11_3_25 4 rfl rfl)
theorem dX11_count_7 : decode cX11_count 7 = .ok (.iconst 3, 1) := op6 (bA_at bd03_dec_X11_3_25 5 rfl rfl)
theorem dX11_count_8 : decode cX11_count 8 = .ok (.invokestatic 109, 3) := op184 (bA_at bd03_dec_X11_3_25 6 rfl rfl) rfl
theorem dX11_count_11 : decode cX11_count 11 = .ok (.ifCond .eq 12, 3) := op153 (bA_at bd03_dec_X11_3_25 7 rfl rfl) (by decide +kernel)
theorem dX11_count_14 : decode cX11_count 14 = .ok (.aload_n 0, 1) := op42 (bA_at bd03_dec_X11_3_25 8 rfl rfl)
theorem dX11_count_15 : decode cX11_count 15 = .ok (.getfield 23, 3) := op180 (bA_at bd03_dec_X11_3_25 9 rfl rfl) rfl
theorem dX11_count_18 : decode cX11_count 18 = .ok (.iload_n 1, 1) := op27 (bA_at bd03_dec_X11_3_25 10 rfl rfl)
theorem dX11_count_19 : decode cX11_count 19 = .ok (.iaload, 1) := op46 (bA_at bd03_dec_X11_3_25 11 rfl rfl)
theorem dX11_count_20 : decode cX11_count 20 = .ok (.goto 5, 3) := op167 (bA_at bd03_dec_X11_3_25 12 rfl rfl) (by decide +kernel)
theorem dX11_count_23 : decode cX11_count 23 = .ok (.bipush (-2), 2) := op16 (bA_at bd03_dec_X11_3_25 13 rfl rfl) (by decide +kernel)
theorem dX11_count_25 : decode cX11_count 25 = .ok (.ireturn, 1) := op172 (bA_at bd03_dec_X11_3_25 14 rfl rfl)
theorem bd03_dec_X11_3_26 : ([(0, [42]), (1, [3]), (2, [181, 0, 97]), (5, [27]), (6, [3]), (7, [5]), (8, [184, 0, 109]), (11, [154, 0, 5]), (14, [3]), (15, [172]), (16, [42]), (17, [3]), (18, [27]), (19, [4]), (20, [96]), (21, [182, 2, 16]), (24, [42]), (25, [180, 0, 94]), (28, [27]), (29, [4]), (30, [84]), (31, [4]), (32, [172])] : List (Nat × List UInt8)).all (fun x => prB x.2 ((cX11_image.data.toList.drop 0).drop x.1)) = true := by decide +kernel
theorem dX11_image_0 : decode cX11_image 0 = .ok (.aload_n 0, 1) := op42 (bA_at bd03_dec_X11_3_26 0 rfl rfl)
theorem dX11_image_1 : decode cX11_image 1 = .ok (.iconst 0, 1) := op3 (bA_at bd03_dec_X11_3_26 1 rfl rfl)
theorem dX11_image_2 : decode cX11_image 2 = .ok (.putfield 97, 3) := op181 (bA_at bd03_dec_X11_3_26 2 rfl rfl) rfl
theorem dX11_image_5 : decode cX11_image 5 = .ok (.iload_n 1, 1) := op27 (bA_at bd03_dec_X11_3_26 3 rfl rfl)
theorem dX11_image_6 : decode cX11_image 6 = .ok (.iconst 0, 1) := op3 (bA_at bd03_dec_X11_3_26 4 rfl rfl)
theorem dX11_image_7 : decode cX11_image 7 = .ok (.iconst 2, 1) := op5 (bA_at bd03_dec_X11_3_26 5 rfl rfl)
theorem dX11_image_8 : decode cX11_image 8 = .ok (.invokestatic 109, 3) := op184 (bA_at bd03_dec_X11_3_26 6 rfl rfl) rfl
theorem dX11_image_11 : decode cX11_image 11 = .ok (.ifCond .ne 5, 3) := op154 (bA_at bd03_dec_X11_3_26 7 rfl rfl) (by decide +kernel)
theorem dX11_image_14 : decode cX11_image 14 = .ok (.iconst 0, 1) := op3 (bA_at bd03_dec_X11_3_26 8 rfl rfl)
theorem dX11_image_15 : decode cX11_image 15 = .ok (.ireturn, 1) := op172 (bA_at bd03_dec_X11_3_26 9 rfl rfl)
theorem dX11_image_16 : decode cX11_image 16 = .ok (.aload_n 0, 1) := op42 (bA_at bd03_dec_X11_3_26 10 rfl rfl)
theorem dX11_image_17 : decode cX11_image 17 = .ok (.iconst 0, 1) := op3 (bA_at bd03_dec_X11_3_26 11 rfl rfl)
theorem dX11_image_18 : decode cX11_image 18 = .ok (.iload_n 1, 1) := op27 (bA_at bd03_dec_X11_3_26 12 rfl rfl)
theorem dX11_image_19 : decode cX11_image 19 = .ok (.iconst 1, 1) := op4 (bA_at bd03_dec_X11_3_26 13 rfl rfl)
theorem dX11_image_20 : decode cX11_image 20 = .ok (.iadd, 1) := op96 (bA_at bd03_dec_X11_3_26 14 rfl rfl)
theorem dX11_image_21 : decode cX11_image 21 = .ok (.invokevirtual 528, 3) := op182 (bA_at bd03_dec_X11_3_26 15 rfl rfl) rfl
theorem dX11_image_24 : decode cX11_image 24 = .ok (.aload_n 0, 1) := op42 (bA_at bd03_dec_X11_3_26 16 rfl rfl)
theorem dX11_image_25 : decode cX11_image 25 = .ok (.getfield 94, 3) := op180 (bA_at bd03_dec_X11_3_26 17 rfl rfl) rfl
theorem dX11_image_28 : decode cX11_image 28 = .ok (.iload_n 1, 1) := op27 (bA_at bd03_dec_X11_3_26 18 rfl rfl)
theorem dX11_image_29 : decode cX11_image 29 = .ok (.iconst 1, 1) := op4 (bA_at bd03_dec_X11_3_26 19 rfl rfl)
theorem dX11_image_30 : decode cX11_image 30 = .ok (.bastore, 1) := op84 (bA_at bd03_dec_X11_3_26 20 rfl rfl)
theorem dX11_image_31 : decode cX11_image 31 = .ok (.iconst 1, 1) := op4 (bA_at bd03_dec_X11_3_26 21 rfl rfl)
theorem dX11_image_32 : decode cX11_image 32 = .ok (.ireturn, 1) := op172 (bA_at bd03_dec_X11_3_26 22 rfl rfl)
theorem bd03_dec_X11_3_27 : ([(0, [42]), (1, [3]), (2, [181, 0, 97]), (5, [27]), (6, [3]), (7, [5]), (8, [184, 0, 109]), (11, [153, 0, 12]), (14, [42]), (15, [180, 0, 94]), (18, [27]), (19, [51]), (20, [154, 0, 5]), (23, [3]), (24, [172]), (25, [42]), (26, [27]), (27, [4]), (28, [96]), (29, [3]), (30, [182, 2, 16]), (33, [4]), (34, [172])] : List (Nat × List UInt8)).all (fun x => prB x.2 ((cX11_again.data.toList.drop 0).drop x.1)) = true := by decide +kernel
theorem dX11_again_0 : decode cX11_again 0 = .ok (.aload_n 0, 1) := op42 (bA_at bd03_dec_X11_3_27 0 rfl rfl)
theorem dX11_again_1 : decode cX11_again 1 = .ok (.iconst 0, 1) := op3 (bA_at bd03_dec_X11_3_27 1 rfl rfl)
theorem dX11_again_2 : decode cX11_again 2 = .ok (.putfield 97, 3) := op181 (bA_at bd03_dec_X11_3_27 2 rfl rfl) rfl
theorem dX11_again_5 : decode cX11_again 5 = .ok (.iload_n 1, 1) := op27 (bA_at bd03_dec_X11_3_27 3 rfl rfl)
theorem dX11_again_6 : decode cX11_again 6 = .ok (.iconst 0, 1) := op3 (bA_at bd03_dec_X11_3_27 4 rfl rfl)
theorem dX11_again_7 : decode cX11_again 7 = .ok (.iconst 2, 1) := op5 (bA_at bd03_dec_X11_3_27 5 rfl rfl)
theorem dX11_again_8 : decode cX11_again 8 = .ok (.invokestatic 109, 3) := op184 (bA_at bd03_dec_X11_3_27 6 rfl rfl) rfl
theorem dX11_again_11 : decode cX11_again 11 = .ok (.ifCond .eq 12, 3) := op153 (bA_at bd03_dec_X11_3_27 7 rfl rfl) (by decide +kernel)
theorem dX11_again_14 : decode cX11_again 14 = .ok (.aload_n 0, 1) := op42 (bA_at bd03_dec_X11_3_27 8 rfl rfl)
theorem dX11_again_15 : decode cX11_again 15 = .ok (.getfield 94, 3) := op180 (bA_at bd03_dec_X11_3_27 9 rfl rfl) rfl
theorem dX11_again_18 : decode cX11_again 18 = .ok (.iload_n 1, 1) := op27 (bA_at bd03_dec_X11_3_27 10 rfl rfl)
theorem dX11_again_19 : decode cX11_again 19 = .ok (.baload, 1) := op51 (bA_at bd03_dec_X11_3_27 11 rfl rfl)
theorem dX11_again_20 : decode cX11_again 20 = .ok (.ifCond .ne 5, 3) := op154 (bA_at bd03_dec_X11_3_27 12 rfl rfl) (by decide +kernel)
theorem dX11_again_23 : decode cX11_again 23 = .ok (.iconst 0, 1) := op3 (bA_at bd03_dec_X11_3_27 13 rfl rfl)
theorem dX11_again_24 : decode cX11_again 24 = .ok (.ireturn, 1) := op172 (bA_at bd03_dec_X11_3_27 14 rfl rfl)
theorem dX11_again_25 : decode cX11_again 25 = .ok (.aload_n 0, 1) := op42 (bA_at bd03_dec_X11_3_27 15 rfl rfl)
theorem dX11_again_26 : decode cX11_again 26 = .ok (.iload_n 1, 1) := op27 (bA_at bd03_dec_X11_3_27 16 rfl rfl)
theorem dX11_again_27 : decode cX11_again 27 = .ok (.iconst 1, 1) := op4 (bA_at bd03_dec_X11_3_27 17 rfl rfl)
theorem dX11_again_28 : decode cX11_again 28 = .ok (.iadd, 1) := op96 (bA_at bd03_dec_X11_3_27 18 rfl rfl)
theorem dX11_again_29 : decode cX11_again 29 = .ok (.iconst 0, 1) := op3 (bA_at bd03_dec_X11_3_27 19 rfl rfl)
theorem dX11_again_30 : decode cX11_again 30 = .ok (.invokevirtual 528, 3) := op182 (bA_at bd03_dec_X11_3_27 20 rfl rfl) rfl
theorem dX11_again_33 : decode cX11_again 33 = .ok (.iconst 1, 1) := op4 (bA_at bd03_dec_X11_3_27 21 rfl rfl)
theorem dX11_again_34 : decode cX11_again 34 = .ok (.ireturn, 1) := op172 (bA_at bd03_dec_X11_3_27 22 rfl rfl)
end
section
theorem bd03_dec_X2_0_0 : ([(0, [42]), (1, [43]), (2, [180, 0, 43]), (5, [181, 0, 43]), (8, [42]), (9, [43]), (10, [180, 0, 46]), (13, [181, 0, 46]), (16, [42]), (17, [43]), (18, [180, 0, 49]), (21, [181, 0, 49]), (24, [42]), (25, [43]), (26, [180, 0, 52]), (29, [181, 0, 52]), (32, [42]), (33, [43]), (34, [180, 0, 55]), (37, [181, 0, 55]), (40, [42]), (41, [43]), (42, [180, 0, 9]), (45, [181, 0, 9]), (48, [42]), (49, [43]), (50, [180, 0, 15]), (53, [181, 0, 15]), (56, [43]), (57, [180, 0, 18]), (60, [3]), (61, [42]), (62, [180, 0, 18]), (65, [3]), (66, [16, 9]), (68, [184, 0, 64]), (71, [43]), (72, [180, 0, 22]), (75, [3]), (76, [42]), (77, [180, 0, 22]), (80, [3]), (81, [16, 9]), (83, [184, 0, 64]), (86, [43]), (87, [180, 0, 25]), (90, [3]), (91, [42]), (92, [180, 0, 25]), (95, [3])] : List (Nat × List UInt8)).all (fun x => prB x.2 ((cX2_copyFrom.data.toList.drop 0).drop x.1)) = true := by decide +kernel
theorem dX2_copyFrom_0 : decode cX2_copyFrom 0 = .ok (.aload_n 0, 1) := op42 (bA_at bd03_dec_X2_0_0 0 rfl rfl)
theorem dX2_copyFrom_1 : decode cX2_copyFrom 1 = .ok (.aload_n 1, 1) := op43 (bA_at bd03_dec_X2_0_0 1 rfl rfl)
theorem dX2_copyFrom_2 : decode cX2_copyFrom 2 = .ok (.getfield 43, 3) := op180 (bA_at bd03_dec_X2_0_0 2 rfl rfl) rfl
theorem dX2_copyFrom_5 : decode cX2_copyFrom 5 = .ok (.putfield 43, 3) := op181 (bA_at bd03_dec_X2_0_0 3 rfl rfl) rfl
theorem dX2_copyFrom_8 : decode cX2_copyFrom 8 = .ok (.aload_n 0, 1) := op42 (bA_at bd03_dec_X2_0_0 4 rfl rfl)
theorem dX2_copyFrom_9 : decode cX2_copyFrom 9 = .ok (.aload_n 1, 1) := op43 (bA_at bd03_dec_X2_0_0 5 rfl rfl)
theorem dX2_copyFrom_10 : decode cX2_copyFrom 10 = .ok (.getfield 46, 3) := op180 (bA_at bd03_dec_X2_0_0 6 rfl rfl) rfl
theorem dX2_copyFrom_13 : decode cX2_copyFrom 13 = .ok (.putfield 46, 3) := op181 (bA_at bd03_dec_X2_0_0 7 rfl rfl) rfl
theorem dX2_copyFrom_16 : decode cX2_copyFrom 16 = .ok (.aload_n 0, 1) := op42 (bA_at bd03_dec_X2_0_0 8 rfl rfl)
theorem dX2_copyFrom_17 : decode cX2_copyFrom 17 = .ok (.aload_n 1, 1) := op43 (bA_at bd03_dec_X2_0_0 9 rfl rfl)
theorem dX2_copyFrom_18 : decode cX2_copyFrom 18 = .ok (.getfield 49, 3) := op180 (bA_at bd03_dec_X2_0_0 10 rfl rfl) rfl
theorem dX2_copyFrom_21 : decode cX2_copyFrom 21 = .ok (.putfield 49, 3) := op181 (bA_at bd03_dec_X2_0_0 11 rfl rfl) rfl
theorem dX2_copyFrom_24 : decode cX2_copyFrom 24 = .ok (.aload_n 0, 1) := op42 (bA_at bd03_dec_X2_0_0 12 rfl rfl)
theorem dX2_copyFrom_25 : decode cX2_copyFrom 25 = .ok (.aload_n 1, 1) := op43 (bA_at bd03_dec_X2_0_0 13 rfl rfl)
theorem dX2_copyFrom_26 : decode cX2_copyFrom 26 = .ok (.getfield 52, 3) := op180 (bA_at bd03_dec_X2_0_0 14 rfl rfl) rfl
theorem dX2_copyFrom_29 : decode cX2_copyFrom 29 = .ok (.putfield 52, 3) := op181 (bA_at bd03_dec_X2_0_0 15 rfl rfl) rfl
theorem dX2_copyFrom_32 : decode cX2_copyFrom 32 = .ok (.aload_n 0, 1) := op42 (bA_at bd03_dec_X2_0_0 16 rfl rfl)
theorem dX2_copyFrom_33 : decode cX2_copyFrom 33 = .ok (.aload_n 1, 1) := op43 (bA_at bd03_dec_X2_0_0 17 rfl rfl)
theorem dX2_copyFrom_34 : decode cX2_copyFrom 34 = .ok (.getfield 55, 3) := op180 (bA_at bd03_dec_X2_0_0 18 rfl rfl) rfl
theorem dX2_copyFrom_37 : decode cX2_copyFrom 37 = .ok (.putfield 55, 3) := op181 (bA_at bd03_dec_X2_0_0 19 rfl rfl) rfl
theorem dX2_copyFrom_40 : decode cX2_copyFrom 40 = .ok (.aload_n 0, 1) := op42 (bA_at bd03_dec_X2_0_0 20 rfl rfl)
theorem dX2_copyFrom_41 : decode cX2_copyFrom 41 = .ok (.aload_n 1, 1) := op43 (bA_at bd03_dec_X2_0_0 21 rfl rfl)
theorem dX2_copyFrom_42 : decode cX2_copyFrom 42 = .ok (.getfield 9, 3) := op180 (bA_at bd03_dec_X2_0_0 22 rfl rfl) rfl
theorem dX2_copyFrom_45 : decode cX2_copyFrom 45 = .ok (.putfield 9, 3) := op181 (bA_at bd03_dec_X2_0_0 23 rfl rfl) rfl
theorem dX2_copyFrom_48 : decode cX2_copyFrom 48 = .ok (.aload_n 0, 1) := op42 (bA_at bd03_dec_X2_0_0 24 rfl rfl)
theorem dX2_copyFrom_49 : decode cX2_copyFrom 49 = .ok (.aload_n 1, 1) := op43 (bA_at bd03_dec_X2_0_0 25 rfl rfl)
theorem dX2_copyFrom_50 : decode cX2_copyFrom 50 = .ok (.getfield 15, 3) := op180 (bA_at bd03_dec_X2_0_0 26 rfl rfl) rfl
theorem dX2_copyFrom_53 : decode cX2_copyFrom 53 = .ok (.putfield 15, 3) := op181 (bA_at bd03_dec_X2_0_0 27 rfl rfl) rfl
theorem dX2_copyFrom_56 : decode cX2_copyFrom 56 = .ok (.aload_n 1, 1) := op43 (bA_at bd03_dec_X2_0_0 28 rfl rfl)
theorem dX2_copyFrom_57 : decode cX2_copyFrom 57 = .ok (.getfield 18, 3) := op180 (bA_at bd03_dec_X2_0_0 29 rfl rfl) rfl
theorem dX2_copyFrom_60 : decode cX2_copyFrom 60 = .ok (.iconst 0, 1) := op3 (bA_at bd03_dec_X2_0_0 30 rfl rfl)
theorem dX2_copyFrom_61 : decode cX2_copyFrom 61 = .ok (.aload_n 0, 1) := op42 (bA_at bd03_dec_X2_0_0 31 rfl rfl)
theorem dX2_copyFrom_62 : decode cX2_copyFrom 62 = .ok (.getfield 18, 3) := op180 (bA_at bd03_dec_X2_0_0 32 rfl rfl) rfl
theorem dX2_copyFrom_65 : decode cX2_copyFrom 65 = .ok (.iconst 0, 1) := op3 (bA_at bd03_dec_X2_0_0 33 rfl rfl)
theorem dX2_copyFrom_66 : decode cX2_copyFrom 66 = .ok (.bipush 9, 2) := op16 (bA_at bd03_dec_X2_0_0 34 rfl rfl) (by decide +kernel)
theorem dX2_copyFrom_68 : decode cX2_copyFrom 68 = .ok (.invokestatic 64, 3) := op184 (bA_at bd03_dec_X2_0_0 35 rfl rfl) rfl
theorem dX2_copyFrom_71 : decode cX2_copyFrom 71 = .ok (.aload_n 1, 1) := op43 (bA_at bd03_dec_X2_0_0 36 rfl rfl)
theorem dX2_copyFrom_72 : decode cX2_copyFrom 72 = .ok (.getfield 22, 3) := op180 (bA_at bd03_dec_X2_0_0 37 rfl rfl) rfl
theorem dX2_copyFrom_75 : decode cX2_copyFrom 75 = .ok (.iconst 0, 1) := op3 (bA_at bd03_dec_X2_0_0 38 rfl rfl)
theorem dX2_copyFrom_76 : decode cX2_copyFrom 76 = .ok (.aload_n 0, 1) := op42 (bA_at bd03_dec_X2_0_0 39 rfl rfl)
theorem dX2_copyFrom_77 : decode cX2_copyFrom 77 = .ok (.getfield 22, 3) := op180 (bA_at bd03_dec_X2_0_0 40 rfl rfl) rfl
theorem dX2_copyFrom_80 : decode cX2_copyFrom 80 = .ok (.iconst 0, 1) := op3 (bA_at bd03_dec_X2_0_0 41 rfl rfl)
theorem dX2_copyFrom_81 : decode cX2_copyFrom 81 = .ok (.bipush 9, 2) := op16 (bA_at bd03_dec_X2_0_0 42 rfl rfl) (by decide +kernel)
theorem dX2_copyFrom_83 : decode cX2_copyFrom 83 = .ok (.invokestatic 64, 3) := op184 (bA_at bd03_dec_X2_0_0 43 rfl rfl) rfl
theorem dX2_copyFrom_86 : decode cX2_copyFrom 86 = .ok (.aload_n 1, 1) := op43 (bA_at bd03_dec_X2_0_0 44 rfl rfl)
theorem dX2_copyFrom_87 : decode cX2_copyFrom 87 = .ok (.getfield 25, 3) := op180 (bA_at bd03_dec_X2_0_0 45 rfl rfl) rfl
theorem dX2_copyFrom_90 : decode cX2_copyFrom 90 = .ok (.iconst 0, 1) := op3 (bA_at bd03_dec_X2_0_0 46 rfl rfl)
theorem dX2_copyFrom_91 : decode cX2_copyFrom 91 = .ok (.aload_n 0, 1) := op42 (bA_at bd03_dec_X2_0_0 47 rfl rfl)
theorem dX2_copyFrom_92 : decode cX2_copyFrom 92 = .ok (.getfield 25, 3) := op180 (bA_at bd03_dec_X2_0_0 48 rfl rfl) rfl
theorem dX2_copyFrom_95 : decode cX2_copyFrom 95 = .ok (.iconst 0, 1) := op3 (bA_at bd03_dec_X2_0_0 49 rfl rfl)
theorem bd03_dec_X2_0_1 : ([(0, [16, 81]), (2, [184, 0, 64]), (5, [43]), (6, [180, 0, 28]), (9, [3]), (10, [42]), (11, [180, 0, 28]), (14, [3]), (15, [7]), (16, [184, 0, 64]), (19, [43]), (20, [180, 0, 31]), (23, [3]), (24, [42]), (25, [180, 0, 31]), (28, [3]), (29, [7]), (30, [184, 0, 64]), (33, [43]), (34, [180, 0, 34]), (37, [3]), (38, [42]), (39, [180, 0, 34]), (42, [3]), (43, [16, 6]), (45, [184, 0, 64]), (48, [43]), (49, [180, 0, 37]), (52, [3]), (53, [42]), (54, [180, 0, 37]), (57, [3]), (58, [16, 6]), (60, [184, 0, 64]), (63, [43]), (64, [180, 0, 40]), (67, [3]), (68, [42]), (69, [180, 0, 40]), (72, [3]), (73, [16, 6]), (75, [184, 0, 64]), (78, [177])] : List (Nat × List UInt8)).all (fun x => prB x.2 ((cX2_copyFrom.data.toList.drop 96).drop x.1)) = true := by decide +kernel
theorem dX2_copyFrom_96 : decode cX2_copyFrom 96 = .ok (.bipush 81, 2) := op16 (bA_at bd03_dec_X2_0_1 0 rfl rfl) (by decide +kernel)
theorem dX2_copyFrom_98 : decode cX2_copyFrom 98 = .ok (.invokestatic 64, 3) := op184 (bA_at bd03_dec_X2_0_1 1 rfl rfl) rfl
theorem dX2_copyFrom_101 : decode cX2_copyFrom 101 = .ok (.aload_n 1, 1) := op43 (bA_at bd03_dec_X2_0_1 2 rfl rfl)
theorem dX2_copyFrom_102 : decode cX2_copyFrom 102 = .ok (.getfield 28, 3) := op180 (bA_at bd03_dec_X2_0_1 3 rfl rfl) rfl
theorem dX2_copyFrom_105 : decode cX2_copyFrom 105 = .ok (.iconst 0, 1) := op3 (bA_at bd03_dec_X2_0_1 4 rfl rfl)
theorem dX2_copyFrom_106 : decode cX2_copyFrom 106 = .ok (.aload_n 0, 1) := op42 (bA_at bd03_dec_X2_0_1 5 rfl rfl)
theorem dX2_copyFrom_107 : decode cX2_copyFrom 107 = .ok (.getfield 28, 3) := op180 (bA_at bd03_dec_X2_0_1 6 rfl rfl) rfl
theorem dX2_copyFrom_110 : decode cX2_copyFrom 110 = .ok (.iconst 0, 1) := op3 (bA_at bd03_dec_X2_0_1 7 rfl rfl)
theorem dX2_copyFrom_111 : decode cX2_copyFrom 111 = .ok (.iconst 4, 1) := op7 (bA_at bd03_dec_X2_0_1 8 rfl rfl)
theorem dX2_copyFrom_112 : decode cX2_copyFrom 112 = .ok (.invokestatic 64, 3) := op184 (bA_at bd03_dec_X2_0_1 9 rfl rfl) rfl
theorem dX2_copyFrom_115 : decode cX2_copyFrom 115 = .ok (.aload_n 1, 1) := op43 (bA_at bd03_dec_X2_0_1 10 rfl rfl)
theorem dX2_copyFrom_116 : decode cX2_copyFrom 116 = .ok (.getfield 31, 3) := op180 (bA_at bd03_dec_X2_0_1 11 rfl rfl) rfl
theorem dX2_copyFrom_119 : decode cX2_copyFrom 119 = .ok (.iconst 0, 1) := op3 (bA_at bd03_dec_X2_0_1 12 rfl rfl)
theorem dX2_copyFrom_120 : decode cX2_copyFrom 120 = .ok (.aload_n 0, 1) := op42 (bA_at bd03_dec_X2_0_1 13 rfl rfl)
theorem dX2_copyFrom_121 : decode cX2_copyFrom 121 = .ok (.getfield 31, 3) := op180 (bA_at bd03_dec_X2_0_1 14 rfl rfl) rfl
theorem dX2_copyFrom_124 : decode cX2_copyFrom 124 = .ok (.iconst 0, 1) := op3 (bA_at bd03_dec_X2_0_1 15 rfl rfl)
theorem dX2_copyFrom_125 : decode cX2_copyFrom 125 = .ok (.iconst 4, 1) := op7 (bA_at bd03_dec_X2_0_1 16 rfl rfl)
theorem dX2_copyFrom_126 : decode cX2_copyFrom 126 = .ok (.invokestatic 64, 3) := op184 (bA_at bd03_dec_X2_0_1 17 rfl rfl) rfl
theorem dX2_copyFrom_129 : decode cX2_copyFrom 129 = .ok (.aload_n 1, 1) := op43 (bA_at bd03_dec_X2_0_1 18 rfl rfl)
theorem dX2_copyFrom_130 : decode cX2_copyFrom 130 = .ok (.getfield 34, 3) := op180 (bA_at bd03_dec_X2_0_1 19 rfl rfl) rfl
theorem dX2_copyFrom_133 : decode cX2_copyFrom 133 = .ok (.iconst 0, 1) := op3 (bA_at bd03_dec_X2_0_1 20 rfl rfl)
theorem dX2_copyFrom_134 : decode cX2_copyFrom 134 = .ok (.aload_n 0, 1) := op42 (bA_at bd03_dec_X2_0_1 21 rfl rfl)
theorem dX2_copyFrom_135 : decode cX2_copyFrom 135 = .ok (.getfield 34, 3) := op180 (bA_at bd03_dec_X2_0_1 22 rfl rfl) rfl
theorem dX2_copyFrom_138 : decode cX2_copyFrom 138 = .ok (.iconst 0, 1) := op3 (bA_at bd03_dec_X2_0_1 23 rfl rfl)
theorem dX2_copyFrom_139 : decode cX2_copyFrom 139 = .ok (.bipush 6, 2) := op16 (bA_at bd03_dec_X2_0_1 24 rfl rfl) (by decide +kernel)
theorem dX2_copyFrom_141 : decode cX2_copyFrom 141 = .ok (.invokestatic 64, 3) := op184 (bA_at bd03_dec_X2_0_1 25 rfl rfl) rfl
theorem dX2_copyFrom_144 : decode cX2_copyFrom 144 = .ok (.aload_n 1, 1) := op43 (bA_at bd03_dec_X2_0_1 26 rfl rfl)
theorem dX2_copyFrom_145 : decode cX2_copyFrom 145 = .ok (.getfield 37, 3) := op180 (bA_at bd03_dec_X2_0_1 27 rfl rfl) rfl
theorem dX2_copyFrom_148 : decode cX2_copyFrom 148 = .ok (.iconst 0, 1) := op3 (bA_at bd03_dec_X2_0_1 28 rfl rfl)
theorem dX2_copyFrom_149 : decode cX2_copyFrom 149 = .ok (.aload_n 0, 1) := op42 (bA_at bd03_dec_X2_0_1 29 rfl rfl)
theorem dX2_copyFrom_150 : decode cX2_copyFrom 150 = .ok (.getfield 37, 3) := op180 (bA_at bd03_dec_X2_0_1 30 rfl rfl) rfl
theorem dX2_copyFrom_153 : decode cX2_copyFrom 153 = .ok (.iconst 0, 1) := op3 (bA_at bd03_dec_X2_0_1 31 rfl rfl)
theorem dX2_copyFrom_154 : decode cX2_copyFrom 154 = .ok (.bipush 6, 2) := op16 (bA_at bd03_dec_X2_0_1 32 rfl rfl) (by decide +kernel)
theorem dX2_copyFrom_156 : decode cX2_copyFrom 156 = .ok (.invokestatic 64, 3) := op184 (bA_at bd03_dec_X2_0_1 33 rfl rfl) rfl
theorem dX2_copyFrom_159 : decode cX2_copyFrom 159 = .ok (.aload_n 1, 1) := op43 (bA_at bd03_dec_X2_0_1 34 rfl rfl)
theorem dX2_copyFrom_160 : decode cX2_copyFrom 160 = .ok (.getfield 40, 3) := op180 (bA_at bd03_dec_X2_0_1 35 rfl rfl) rfl
theorem dX2_copyFrom_163 : decode cX2_copyFrom 163 = .ok (.iconst 0, 1) := op3 (bA_at bd03_dec_X2_0_1 36 rfl rfl)
theorem dX2_copyFrom_164 : decode cX2_copyFrom 164 = .ok (.aload_n 0, 1) := op42 (bA_at bd03_dec_X2_0_1 37 rfl rfl)
theorem dX2_copyFrom_165 : decode cX2_copyFrom 165 = .ok (.getfield 40, 3) := op180 (bA_at bd03_dec_X2_0_1 38 rfl rfl) rfl
theorem dX2_copyFrom_168 : decode cX2_copyFrom 168 = .ok (.iconst 0, 1) := op3 (bA_at bd03_dec_X2_0_1 39 rfl rfl)
theorem dX2_copyFrom_169 : decode cX2_copyFrom 169 = .ok (.bipush 6, 2) := op16 (bA_at bd03_dec_X2_0_1 40 rfl rfl) (by decide +kernel)
theorem dX2_copyFrom_171 : decode cX2_copyFrom 171 = .ok (.invokestatic 64, 3) := op184 (bA_at bd03_dec_X2_0_1 41 rfl rfl) rfl
theorem dX2_copyFrom_174 : decode cX2_copyFrom 174 = .ok (.return_, 1) := op177 (bA_at bd03_dec_X2_0_1 42 rfl rfl)
theorem bd03_dec_X2_0_2 : ([(0, [27]), (1, [155, 0, 15]), (4, [27]), (5, [42]), (6, [180, 0, 43]), (9, [162, 0, 7]), (12, [4]), (13, [167, 0, 4]), (16, [3]), (17, [172])] : List (Nat × List UInt8)).all (fun x => prB x.2 ((cX2_hasHut.data.toList.drop 0).drop x.1)) = true := by decide +kernel
theorem dX2_hasHut_0 : decode cX2_hasHut 0 = .ok (.iload_n 1, 1) := op27 (bA_at bd03_dec_X2_0_2 0 rfl rfl)
theorem dX2_hasHut_1 : decode cX2_hasHut 1 = .ok (.ifCond .lt 15, 3) := op155 (bA_at bd03_dec_X2_0_2 1 rfl rfl) (by decide +kernel)
theorem dX2_hasHut_4 : decode cX2_hasHut 4 = .ok (.iload_n 1, 1) := op27 (bA_at bd03_dec_X2_0_2 2 rfl rfl)
theorem dX2_hasHut_5 : decode cX2_hasHut 5 = .ok (.aload_n 0, 1) := op42 (bA_at bd03_dec_X2_0_2 3 rfl rfl)
theorem dX2_hasHut_6 : decode cX2_hasHut 6 = .ok (.getfield 43, 3) := op180 (bA_at bd03_dec_X2_0_2 4 rfl rfl) rfl
theorem dX2_hasHut_9 : decode cX2_hasHut 9 = .ok (.if_icmp .ge 7, 3) := op162 (bA_at bd03_dec_X2_0_2 5 rfl rfl) (by decide +kernel)
theorem dX2_hasHut_12 : decode cX2_hasHut 12 = .ok (.iconst 1, 1) := op4 (bA_at bd03_dec_X2_0_2 6 rfl rfl)
theorem dX2_hasHut_13 : decode cX2_hasHut 13 = .ok (.goto 4, 3) := op167 (bA_at bd03_dec_X2_0_2 7 rfl rfl) (by decide +kernel)
theorem dX2_hasHut_16 : decode cX2_hasHut 16 = .ok (.iconst 0, 1) := op3 (bA_at bd03_dec_X2_0_2 8 rfl rfl)
theorem dX2_hasHut_17 : decode cX2_hasHut 17 = .ok (.ireturn, 1) := op172 (bA_at bd03_dec_X2_0_2 9 rfl rfl)
theorem bd03_dec_X2_0_3 : ([(0, [27]), (1, [155, 0, 15]), (4, [27]), (5, [42]), (6, [180, 0, 46]), (9, [162, 0, 7]), (12, [4]), (13, [167, 0, 4]), (16, [3]), (17, [172])] : List (Nat × List UInt8)).all (fun x => prB x.2 ((cX2_hasSinger.data.toList.drop 0).drop x.1)) = true := by decide +kernel
theorem dX2_hasSinger_0 : decode cX2_hasSinger 0 = .ok (.iload_n 1, 1) := op27 (bA_at bd03_dec_X2_0_3 0 rfl rfl)
theorem dX2_hasSinger_1 : decode cX2_hasSinger 1 = .ok (.ifCond .lt 15, 3) := op155 (bA_at bd03_dec_X2_0_3 1 rfl rfl) (by decide +kernel)
theorem dX2_hasSinger_4 : decode cX2_hasSinger 4 = .ok (.iload_n 1, 1) := op27 (bA_at bd03_dec_X2_0_3 2 rfl rfl)
theorem dX2_hasSinger_5 : decode cX2_hasSinger 5 = .ok (.aload_n 0, 1) := op42 (bA_at bd03_dec_X2_0_3 3 rfl rfl)
theorem dX2_hasSinger_6 : decode cX2_hasSinger 6 = .ok (.getfield 46, 3) := op180 (bA_at bd03_dec_X2_0_3 4 rfl rfl) rfl
theorem dX2_hasSinger_9 : decode cX2_hasSinger 9 = .ok (.if_icmp .ge 7, 3) := op162 (bA_at bd03_dec_X2_0_3 5 rfl rfl) (by decide +kernel)
theorem dX2_hasSinger_12 : decode cX2_hasSinger 12 = .ok (.iconst 1, 1) := op4 (bA_at bd03_dec_X2_0_3 6 rfl rfl)
theorem dX2_hasSinger_13 : decode cX2_hasSinger 13 = .ok (.goto 4, 3) := op167 (bA_at bd03_dec_X2_0_3 7 rfl rfl) (by decide +kernel)
theorem dX2_hasSinger_16 : decode cX2_hasSinger 16 = .ok (.iconst 0, 1) := op3 (bA_at bd03_dec_X2_0_3 8 rfl rfl)
theorem dX2_hasSinger_17 : decode cX2_hasSinger 17 = .ok (.ireturn, 1) := op172 (bA_at bd03_dec_X2_0_3 9 rfl rfl)
theorem bd03_dec_X2_0_4 : ([(0, [42]), (1, [180, 0, 52]), (4, [27]), (5, [122]), (6, [4]), (7, [126]), (8, [153, 0, 7]), (11, [4]), (12, [167, 0, 4]), (15, [3]), (16, [172])] : List (Nat × List UInt8)).all (fun x => prB x.2 ((cX2_isDam.data.toList.drop 0).drop x.1)) = true := by decide +kernel
theorem dX2_isDam_0 : decode cX2_isDam 0 = .ok (.aload_n 0, 1) := op42 (bA_at bd03_dec_X2_0_4 0 rfl rfl)
theorem dX2_isDam_1 : decode cX2_isDam 1 = .ok (.getfield 52, 3) := op180 (bA_at bd03_dec_X2_0_4 1 rfl rfl) rfl
theorem dX2_isDam_4 : decode cX2_isDam 4 = .ok (.iload_n 1, 1) := op27 (bA_at bd03_dec_X2_0_4 2 rfl rfl)
theorem dX2_isDam_5 : decode cX2_isDam 5 = .ok (.ishr, 1) := op122 (bA_at bd03_dec_X2_0_4 3 rfl rfl)
theorem dX2_isDam_6 : decode cX2_isDam 6 = .ok (.iconst 1, 1) := op4 (bA_at bd03_dec_X2_0_4 4 rfl rfl)
theorem dX2_isDam_7 : decode cX2_isDam 7 = .ok (.iand, 1) := op126 (bA_at bd03_dec_X2_0_4 5 rfl rfl)
theorem dX2_isDam_8 : decode cX2_isDam 8 = .ok (.ifCond .eq 7, 3) := op153 (bA_at bd03_dec_X2_0_4 6 rfl rfl) (by decide +kernel)
theorem dX2_isDam_11 : decode cX2_isDam 11 = .ok (.iconst 1, 1) := op4 (bA_at bd03_dec_X2_0_4 7 rfl rfl)
theorem dX2_isDam_12 : decode cX2_isDam 12 = .ok (.goto 4, 3) := op167 (bA_at bd03_dec_X2_0_4 8 rfl rfl) (by decide +kernel)
theorem dX2_isDam_15 : decode cX2_isDam 15 = .ok (.iconst 0, 1) := op3 (bA_at bd03_dec_X2_0_4 9 rfl rfl)
theorem dX2_isDam_16 : decode cX2_isDam 16 = .ok (.ireturn, 1) := op172 (bA_at bd03_dec_X2_0_4 10 rfl rfl)
theorem bd03_dec_X2_0_5 : ([(0, [42]), (1, [27]), (2, [182, 0, 70]), (5, [153, 0, 15]), (8, [42]), (9, [27]), (10, [182, 0, 74]), (13, [154, 0, 7]), (16, [4]), (17, [167, 0, 4]), (20, [3]), (21, [172])] : List (Nat × List UInt8)).all (fun x => prB x.2 ((cX2_isOpen.data.toList.drop 0).drop x.1)) = true := by decide +kernel
theorem dX2_isOpen_0 : decode cX2_isOpen 0 = .ok (.aload_n 0, 1) := op42 (bA_at bd03_dec_X2_0_5 0 rfl rfl)
theorem dX2_isOpen_1 : decode cX2_isOpen 1 = .ok (.iload_n 1, 1) := op27 (bA_at bd03_dec_X2_0_5 1 rfl rfl)
theorem dX2_isOpen_2 : decode cX2_isOpen 2 = .ok (.invokevirtual 70, 3) := op182 (bA_at bd03_dec_X2_0_5 2 rfl rfl) rfl
theorem dX2_isOpen_5 : decode cX2_isOpen 5 = .ok (.ifCond .eq 15, 3) := op153 (bA_at bd03_dec_X2_0_5 3 rfl rfl) (by decide +kernel)
theorem dX2_isOpen_8 : decode cX2_isOpen 8 = .ok (.aload_n 0, 1) := op42 (bA_at bd03_dec_X2_0_5 4 rfl rfl)
theorem dX2_isOpen_9 : decode cX2_isOpen 9 = .ok (.iload_n 1, 1) := op27 (bA_at bd03_dec_X2_0_5 5 rfl rfl)
theorem dX2_isOpen_10 : decode cX2_isOpen 10 = .ok (.invokevirtual 74, 3) := op182 (bA_at bd03_dec_X2_0_5 6 rfl rfl) rfl
theorem dX2_isOpen_13 : decode cX2_isOpen 13 = .ok (.ifCond .ne 7, 3) := op154 (bA_at bd03_dec_X2_0_5 7 rfl rfl) (by decide +kernel)
theorem dX2_isOpen_16 : decode cX2_isOpen 16 = .ok (.iconst 1, 1) := op4 (bA_at bd03_dec_X2_0_5 8 rfl rfl)
theorem dX2_isOpen_17 : decode cX2_isOpen 17 = .ok (.goto 4, 3) := op167 (bA_at bd03_dec_X2_0_5 9 rfl rfl) (by decide +kernel)
theorem dX2_isOpen_20 : decode cX2_isOpen 20 = .ok (.iconst 0, 1) := op3 (bA_at bd03_dec_X2_0_5 10 rfl rfl)
theorem dX2_isOpen_21 : decode cX2_isOpen 21 = .ok (.ireturn, 1) := op172 (bA_at bd03_dec_X2_0_5 11 rfl rfl)
theorem bd03_dec_X2_0_6 : ([(0, [42]), (1, [180, 0, 25]), (4, [27]), (5, [16, 9]), (7, [104]), (8, [28]), (9, [96]), (10, [46]), (11, [158, 0, 38]), (14, [42]), (15, [180, 0, 18]), (18, [28]), (19, [46]), (20, [42]), (21, [180, 0, 18]), (24, [27]), (25, [46]), (26, [162, 0, 23]), (29, [42]), (30, [27]), (31, [182, 0, 74]), (34, [154, 0, 15]), (37, [42]), (38, [28]), (39, [182, 0, 74]), (42, [154, 0, 7]), (45, [4]), (46, [167, 0, 4]), (49, [3]), (50, [172])] : List (Nat × List UInt8)).all (fun x => prB x.2 ((cX2_leads.data.toList.drop 0).drop x.1)) = true := by decide +kernel
theorem dX2_leads_0 : decode cX2_leads 0 = .ok (.aload_n 0, 1) := op42 (bA_at bd03_dec_X2_0_6 0 rfl rfl)
theorem dX2_leads_1 : decode cX2_leads 1 = .ok (.getfield 25, 3) := op180 (bA_at bd03_dec_X2_0_6 1 rfl rfl) rfl
theorem dX2_leads_4 : decode cX2_leads 4 = .ok (.iload_n 1, 1) := op27 (bA_at bd03_dec_X2_0_6 2 rfl rfl)
theorem dX2_leads_5 : decode cX2_leads 5 = .ok (.bipush 9, 2) := op16 (bA_at bd03_dec_X2_0_6 3 rfl rfl) (by decide +kernel)
theorem dX2_leads_7 : decode cX2_leads 7 = .ok (.imul, 1) := op104 (bA_at bd03_dec_X2_0_6 4 rfl rfl)
theorem dX2_leads_8 : decode cX2_leads 8 = .ok (.iload_n 2, 1) := op28 (bA_at bd03_dec_X2_0_6 5 rfl rfl)
theorem dX2_leads_9 : decode cX2_leads 9 = .ok (.iadd, 1) := op96 (bA_at bd03_dec_X2_0_6 6 rfl rfl)
theorem dX2_leads_10 : decode cX2_leads 10 = .ok (.iaload, 1) := op46 (bA_at bd03_dec_X2_0_6 7 rfl rfl)
theorem dX2_leads_11 : decode cX2_leads 11 = .ok (.ifCond .le 38, 3) := op158 (bA_at bd03_dec_X2_0_6 8 rfl rfl) (by decide +kernel)
theorem dX2_leads_14 : decode cX2_leads 14 = .ok (.aload_n 0, 1) := op42 (bA_at bd03_dec_X2_0_6 9 rfl rfl)
theorem dX2_leads_15 : decode cX2_leads 15 = .ok (.getfield 18, 3) := op180 (bA_at bd03_dec_X2_0_6 10 rfl rfl) rfl
theorem dX2_leads_18 : decode cX2_leads 18 = .ok (.iload_n 2, 1) := op28 (bA_at bd03_dec_X2_0_6 11 rfl rfl)
theorem dX2_leads_19 : decode cX2_leads 19 = .ok (.iaload, 1) := op46 (bA_at bd03_dec_X2_0_6 12 rfl rfl)
theorem dX2_leads_20 : decode cX2_leads 20 = .ok (.aload_n 0, 1) := op42 (bA_at bd03_dec_X2_0_6 13 rfl rfl)
theorem dX2_leads_21 : decode cX2_leads 21 = .ok (.getfield 18, 3) := op180 (bA_at bd03_dec_X2_0_6 14 rfl rfl) rfl
theorem dX2_leads_24 : decode cX2_leads 24 = .ok (.iload_n 1, 1) := op27 (bA_at bd03_dec_X2_0_6 15 rfl rfl)
theorem dX2_leads_25 : decode cX2_leads 25 = .ok (.iaload, 1) := op46 (bA_at bd03_dec_X2_0_6 16 rfl rfl)
theorem dX2_leads_26 : decode cX2_leads 26 = .ok (.if_icmp .ge 23, 3) := op162 (bA_at bd03_dec_X2_0_6 17 rfl rfl) (by decide +kernel)
theorem dX2_leads_29 : decode cX2_leads 29 = .ok (.aload_n 0, 1) := op42 (bA_at bd03_dec_X2_0_6 18 rfl rfl)
theorem dX2_leads_30 : decode cX2_leads 30 = .ok (.iload_n 1, 1) := op27 (bA_at bd03_dec_X2_0_6 19 rfl rfl)
theorem dX2_leads_31 : decode cX2_leads 31 = .ok (.invokevirtual 74, 3) := op182 (bA_at bd03_dec_X2_0_6 20 rfl rfl) rfl
theorem dX2_leads_34 : decode cX2_leads 34 = .ok (.ifCond .ne 15, 3) := op154 (bA_at bd03_dec_X2_0_6 21 rfl rfl) (by decide +kernel)
theorem dX2_leads_37 : decode cX2_leads 37 = .ok (.aload_n 0, 1) := op42 (bA_at bd03_dec_X2_0_6 22 rfl rfl)
theorem dX2_leads_38 : decode cX2_leads 38 = .ok (.iload_n 2, 1) := op28 (bA_at bd03_dec_X2_0_6 23 rfl rfl)
theorem dX2_leads_39 : decode cX2_leads 39 = .ok (.invokevirtual 74, 3) := op182 (bA_at bd03_dec_X2_0_6 24 rfl rfl) rfl
theorem dX2_leads_42 : decode cX2_leads 42 = .ok (.ifCond .ne 7, 3) := op154 (bA_at bd03_dec_X2_0_6 25 rfl rfl) (by decide +kernel)
theorem dX2_leads_45 : decode cX2_leads 45 = .ok (.iconst 1, 1) := op4 (bA_at bd03_dec_X2_0_6 26 rfl rfl)
theorem dX2_leads_46 : decode cX2_leads 46 = .ok (.goto 4, 3) := op167 (bA_at bd03_dec_X2_0_6 27 rfl rfl) (by decide +kernel)
theorem dX2_leads_49 : decode cX2_leads 49 = .ok (.iconst 0, 1) := op3 (bA_at bd03_dec_X2_0_6 28 rfl rfl)
theorem dX2_leads_50 : decode cX2_leads 50 = .ok (.ireturn, 1) := op172 (bA_at bd03_dec_X2_0_6 29 rfl rfl)
theorem bd03_dec_X2_0_7 : ([(0, [42]), (1, [27]), (2, [182, 0, 74]), (5, [153, 0, 7]), (8, [3]), (9, [167, 0, 6]), (12, [4]), (13, [27]), (14, [120]), (15, [61]), (16, [3]), (17, [62]), (18, [29]), (19, [42]), (20, [180, 0, 55]), (23, [162, 0, 43]), (26, [42]), (27, [180, 0, 28]), (30, [29]), (31, [46]), (32, [27]), (33, [160, 0, 27]), (36, [42]), (37, [42]), (38, [180, 0, 31]), (41, [29]), (42, [46]), (43, [182, 0, 74]), (46, [154, 0, 14]), (49, [28]), (50, [4]), (51, [42]), (52, [180, 0, 31]), (55, [29]), (56, [46]), (57, [120]), (58, [128]), (59, [61]), (60, [132, 3, 1]), (63, [167, 255, 211]), (66, [28]), (67, [172])] : List (Nat × List UInt8)).all (fun x => prB x.2 ((cX2_earshot.data.toList.drop 0).drop x.1)) = true := by decide +kernel
theorem dX2_earshot_0 : decode cX2_earshot 0 = .ok (.aload_n 0, 1) := op42 (bA_at bd03_dec_X2_0_7 0 rfl rfl)
theorem dX2_earshot_1 : decode cX2_earshot 1 = .ok (.iload_n 1, 1) := op27 (bA_at bd03_dec_X2_0_7 1 rfl rfl)
theorem dX2_earshot_2 : decode cX2_earshot 2 = .ok (.invokevirtual 74, 3) := op182 (bA_at bd03_dec_X2_0_7 2 rfl rfl) rfl
theorem dX2_earshot_5 : decode cX2_earshot 5 = .ok (.ifCond .eq 7, 3) := op153 (bA_at bd03_dec_X2_0_7 3 rfl rfl) (by decide +kernel)
theorem dX2_earshot_8 : decode cX2_earshot 8 = .ok (.iconst 0, 1) := op3 (bA_at bd03_dec_X2_0_7 4 rfl rfl)
theorem dX2_earshot_9 : decode cX2_earshot 9 = .ok (.goto 6, 3) := op167 (bA_at bd03_dec_X2_0_7 5 rfl rfl) (by decide +kernel)
theorem dX2_earshot_12 : decode cX2_earshot 12 = .ok (.iconst 1, 1) := op4 (bA_at bd03_dec_X2_0_7 6 rfl rfl)
theorem dX2_earshot_13 : decode cX2_earshot 13 = .ok (.iload_n 1, 1) := op27 (bA_at bd03_dec_X2_0_7 7 rfl rfl)
theorem dX2_earshot_14 : decode cX2_earshot 14 = .ok (.ishl, 1) := op120 (bA_at bd03_dec_X2_0_7 8 rfl rfl)
theorem dX2_earshot_15 : decode cX2_earshot 15 = .ok (.istore_n 2, 1) := op61 (bA_at bd03_dec_X2_0_7 9 rfl rfl)
theorem dX2_earshot_16 : decode cX2_earshot 16 = .ok (.iconst 0, 1) := op3 (bA_at bd03_dec_X2_0_7 10 rfl rfl)
theorem dX2_earshot_17 : decode cX2_earshot 17 = .ok (.istore_n 3, 1) := op62 (bA_at bd03_dec_X2_0_7 11 rfl rfl)
theorem dX2_earshot_18 : decode cX2_earshot 18 = .ok (.iload_n 3, 1) := op29 (bA_at bd03_dec_X2_0_7 12 rfl rfl)
theorem dX2_earshot_19 : decode cX2_earshot 19 = .ok (.aload_n 0, 1) := op42 (bA_at bd03_dec_X2_0_7 13 rfl rfl)
theorem dX2_earshot_20 : decode cX2_earshot 20 = .ok (.getfield 55, 3) := op180 (bA_at bd03_dec_X2_0_7 14 rfl rfl) rfl
theorem dX2_earshot_23 : decode cX2_earshot 23 = .ok (.if_icmp .ge 43, 3) := op162 (bA_at bd03_dec_X2_0_7 15 rfl rfl) (by decide +kernel)
theorem dX2_earshot_26 : decode cX2_earshot 26 = .ok (.aload_n 0, 1) := op42 (bA_at bd03_dec_X2_0_7 16 rfl rfl)
theorem dX2_earshot_27 : decode cX2_earshot 27 = .ok (.getfield 28, 3) := op180 (bA_at bd03_dec_X2_0_7 17 rfl rfl) rfl
theorem dX2_earshot_30 : decode cX2_earshot 30 = .ok (.iload_n 3, 1) := op29 (bA_at bd03_dec_X2_0_7 18 rfl rfl)
theorem dX2_earshot_31 : decode cX2_earshot 31 = .ok (.iaload, 1) := op46 (bA_at bd03_dec_X2_0_7 19 rfl rfl)
theorem dX2_earshot_32 : decode cX2_earshot 32 = .ok (.iload_n 1, 1) := op27 (bA_at bd03_dec_X2_0_7 20 rfl rfl)
theorem dX2_earshot_33 : decode cX2_earshot 33 = .ok (.if_icmp .ne 27, 3) := op160 (bA_at bd03_dec_X2_0_7 21 rfl rfl) (by decide +kernel)
theorem dX2_earshot_36 : decode cX2_earshot 36 = .ok (.aload_n 0, 1) := op42 (bA_at bd03_dec_X2_0_7 22 rfl rfl)
theorem dX2_earshot_37 : decode cX2_earshot 37 = .ok (.aload_n 0, 1) := op42 (bA_at bd03_dec_X2_0_7 23 rfl rfl)
theorem dX2_earshot_38 : decode cX2_earshot 38 = .ok (.getfield 31, 3) := op180 (bA_at bd03_dec_X2_0_7 24 rfl rfl) rfl
theorem dX2_earshot_41 : decode cX2_earshot 41 = .ok (.iload_n 3, 1) := op29 (bA_at bd03_dec_X2_0_7 25 rfl rfl)
theorem dX2_earshot_42 : decode cX2_earshot 42 = .ok (.iaload, 1) := op46 (bA_at bd03_dec_X2_0_7 26 rfl rfl)
theorem dX2_earshot_43 : decode cX2_earshot 43 = .ok (.invokevirtual 74, 3) := op182 (bA_at bd03_dec_X2_0_7 27 rfl rfl) rfl
theorem dX2_earshot_46 : decode cX2_earshot 46 = .ok (.ifCond .ne 14, 3) := op154 (bA_at bd03_dec_X2_0_7 28 rfl rfl) (by decide +kernel)
theorem dX2_earshot_49 : decode cX2_earshot 49 = .ok (.iload_n 2, 1) := op28 (bA_at bd03_dec_X2_0_7 29 rfl rfl)
theorem dX2_earshot_50 : decode cX2_earshot 50 = .ok (.iconst 1, 1) := op4 (bA_at bd03_dec_X2_0_7 30 rfl rfl)
theorem dX2_earshot_51 : decode cX2_earshot 51 = .ok (.aload_n 0, 1) := op42 (bA_at bd03_dec_X2_0_7 31 rfl rfl)
theorem dX2_earshot_52 : decode cX2_earshot 52 = .ok (.getfield 31, 3) := op180 (bA_at bd03_dec_X2_0_7 32 rfl rfl) rfl
theorem dX2_earshot_55 : decode cX2_earshot 55 = .ok (.iload_n 3, 1) := op29 (bA_at bd03_dec_X2_0_7 33 rfl rfl)
theorem dX2_earshot_56 : decode cX2_earshot 56 = .ok (.iaload, 1) := op46 (bA_at bd03_dec_X2_0_7 34 rfl rfl)
theorem dX2_earshot_57 : decode cX2_earshot 57 = .ok (.ishl, 1) := op120 (bA_at bd03_dec_X2_0_7 35 rfl rfl)
theorem dX2_earshot_58 : decode cX2_earshot 58 = .ok (.ior, 1) := op128 (bA_at bd03_dec_X2_0_7 36 rfl rfl)
theorem dX2_earshot_59 : decode cX2_earshot 59 = .ok (.istore_n 2, 1) := op61 (bA_at bd03_dec_X2_0_7 37 rfl rfl)
theorem dX2_earshot_60 : decode cX2_earshot 60 = .ok (.iinc 3 1, 3) := op132 (bA_at bd03_dec_X2_0_7 38 rfl rfl) rfl (by decide +kernel)
theorem dX2_earshot_63 : decode cX2_earshot 63 = .ok (.goto (-45), 3) := op167 (bA_at bd03_dec_X2_0_7 39 rfl rfl) (by decide +kernel)
theorem dX2_earshot_66 : decode cX2_earshot 66 = .ok (.iload_n 2, 1) := op28 (bA_at bd03_dec_X2_0_7 40 rfl rfl)
theorem dX2_earshot_67 : decode cX2_earshot 67 = .ok (.ireturn, 1) := op172 (bA_at bd03_dec_X2_0_7 41 rfl rfl)
theorem bd03_dec_X2_0_8 : ([(0, [2]), (1, [61]), (2, [3]), (3, [62]), (4, [29]), (5, [42]), (6, [180, 0, 43]), (9, [162, 0, 39]), (12, [27]), (13, [29]), (14, [184, 0, 77]), (17, [153, 0, 25]), (20, [28]), (21, [2]), (22, [159, 0, 18]), (25, [42]), (26, [180, 0, 18]), (29, [29]), (30, [46]), (31, [42]), (32, [180, 0, 18]), (35, [28]), (36, [46]), (37, [164, 0, 5]), (40, [29]), (41, [61]), (42, [132, 3, 1]), (45, [167, 255, 215]), (48, [28]), (49, [172])] : List (Nat × List UInt8)).all (fun x => prB x.2 ((cX2_highest.data.toList.drop 0).drop x.1)) = true := by decide +kernel
theorem dX2_highest_0 : decode cX2_highest 0 = .ok (.iconst (-1), 1) := op2 (bA_at bd03_dec_X2_0_8 0 rfl rfl)
theorem dX2_highest_1 : decode cX2_highest 1 = .ok (.istore_n 2, 1) := op61 (bA_at bd03_dec_X2_0_8 1 rfl rfl)
theorem dX2_highest_2 : decode cX2_highest 2 = .ok (.iconst 0, 1) := op3 (bA_at bd03_dec_X2_0_8 2 rfl rfl)
theorem dX2_highest_3 : decode cX2_highest 3 = .ok (.istore_n 3, 1) := op62 (bA_at bd03_dec_X2_0_8 3 rfl rfl)
theorem dX2_highest_4 : decode cX2_highest 4 = .ok (.iload_n 3, 1) := op29 (bA_at bd03_dec_X2_0_8 4 rfl rfl)
theorem dX2_highest_5 : decode cX2_highest 5 = .ok (.aload_n 0, 1) := op42 (bA_at bd03_dec_X2_0_8 5 rfl rfl)
theorem dX2_highest_6 : decode cX2_highest 6 = .ok (.getfield 43, 3) := op180 (bA_at bd03_dec_X2_0_8 6 rfl rfl) rfl
theorem dX2_highest_9 : decode cX2_highest 9 = .ok (.if_icmp .ge 39, 3) := op162 (bA_at bd03_dec_X2_0_8 7 rfl rfl) (by decide +kernel)
theorem dX2_highest_12 : decode cX2_highest 12 = .ok (.iload_n 1, 1) := op27 (bA_at bd03_dec_X2_0_8 8 rfl rfl)
theorem dX2_highest_13 : decode cX2_highest 13 = .ok (.iload_n 3, 1) := op29 (bA_at bd03_dec_X2_0_8 9 rfl rfl)
theorem dX2_highest_14 : decode cX2_highest 14 = .ok (.invokestatic 77, 3) := op184 (bA_at bd03_dec_X2_0_8 10 rfl rfl) rfl
theorem dX2_highest_17 : decode cX2_highest 17 = .ok (.ifCond .eq 25, 3) := op153 (bA_at bd03_dec_X2_0_8 11 rfl rfl) (by decide +kernel)
theorem dX2_highest_20 : decode cX2_highest 20 = .ok (.iload_n 2, 1) := op28 (bA_at bd03_dec_X2_0_8 12 rfl rfl)
theorem dX2_highest_21 : decode cX2_highest 21 = .ok (.iconst (-1), 1) := op2 (bA_at bd03_dec_X2_0_8 13 rfl rfl)
theorem dX2_highest_22 : decode cX2_highest 22 = .ok (.if_icmp .eq 18, 3) := op159 (bA_at bd03_dec_X2_0_8 14 rfl rfl) (by decide +kernel)
theorem dX2_highest_25 : decode cX2_highest 25 = .ok (.aload_n 0, 1) := op42 (bA_at bd03_dec_X2_0_8 15 rfl rfl)
theorem dX2_highest_26 : decode cX2_highest 26 = .ok (.getfield 18, 3) := op180 (bA_at bd03_dec_X2_0_8 16 rfl rfl) rfl
theorem dX2_highest_29 : decode cX2_highest 29 = .ok (.iload_n 3, 1) := op29 (bA_at bd03_dec_X2_0_8 17 rfl rfl)
theorem dX2_highest_30 : decode cX2_highest 30 = .ok (.iaload, 1) := op46 (bA_at bd03_dec_X2_0_8 18 rfl rfl)
theorem dX2_highest_31 : decode cX2_highest 31 = .ok (.aload_n 0, 1) := op42 (bA_at bd03_dec_X2_0_8 19 rfl rfl)
theorem dX2_highest_32 : decode cX2_highest 32 = .ok (.getfield 18, 3) := op180 (bA_at bd03_dec_X2_0_8 20 rfl rfl) rfl
theorem dX2_highest_35 : decode cX2_highest 35 = .ok (.iload_n 2, 1) := op28 (bA_at bd03_dec_X2_0_8 21 rfl rfl)
theorem dX2_highest_36 : decode cX2_highest 36 = .ok (.iaload, 1) := op46 (bA_at bd03_dec_X2_0_8 22 rfl rfl)
theorem dX2_highest_37 : decode cX2_highest 37 = .ok (.if_icmp .le 5, 3) := op164 (bA_at bd03_dec_X2_0_8 23 rfl rfl) (by decide +kernel)
theorem dX2_highest_40 : decode cX2_highest 40 = .ok (.iload_n 3, 1) := op29 (bA_at bd03_dec_X2_0_8 24 rfl rfl)
theorem dX2_highest_41 : decode cX2_highest 41 = .ok (.istore_n 2, 1) := op61 (bA_at bd03_dec_X2_0_8 25 rfl rfl)
theorem dX2_highest_42 : decode cX2_highest 42 = .ok (.iinc 3 1, 3) := op132 (bA_at bd03_dec_X2_0_8 26 rfl rfl) rfl (by decide +kernel)
theorem dX2_highest_45 : decode cX2_highest 45 = .ok (.goto (-41), 3) := op167 (bA_at bd03_dec_X2_0_8 27 rfl rfl) (by decide +kernel)
theorem dX2_highest_48 : decode cX2_highest 48 = .ok (.iload_n 2, 1) := op28 (bA_at bd03_dec_X2_0_8 28 rfl rfl)
theorem dX2_highest_49 : decode cX2_highest 49 = .ok (.ireturn, 1) := op172 (bA_at bd03_dec_X2_0_8 29 rfl rfl)
theorem bd03_dec_X2_0_9 : ([(0, [27]), (1, [155, 0, 10]), (4, [27]), (5, [17, 0, 141]), (8, [161, 0, 5]), (11, [2]), (12, [172]), (13, [27]), (14, [16, 60]), (16, [161, 0, 51]), (19, [27]), (20, [16, 60]), (22, [100]), (23, [16, 9]), (25, [108]), (26, [61]), (27, [27]), (28, [16, 60]), (30, [100]), (31, [16, 9]), (33, [112]), (34, [62]), (35, [42]), (36, [28]), (37, [182, 0, 70]), (40, [153, 0, 25]), (43, [42]), (44, [29]), (45, [182, 0, 70]), (48, [153, 0, 17]), (51, [42]), (52, [180, 0, 25]), (55, [28]), (56, [16, 9]), (58, [104]), (59, [29]), (60, [96]), (61, [46]), (62, [167, 0, 4]), (65, [2]), (66, [172]), (67, [27]), (68, [16, 10]), (70, [162, 0, 9]), (73, [42]), (74, [27]), (75, [182, 0, 81]), (78, [172]), (79, [27]), (80, [16, 10])] : List (Nat × List UInt8)).all (fun x => prB x.2 ((cX2_look.data.toList.drop 0).drop x.1)) = true := by decide +kernel
theorem dX2_look_0 : decode cX2_look 0 = .ok (.iload_n 1, 1) := op27 (bA_at bd03_dec_X2_0_9 0 rfl rfl)
theorem dX2_look_1 : decode cX2_look 1 = .ok (.ifCond .lt 10, 3) := op155 (bA_at bd03_dec_X2_0_9 1 rfl rfl) (by decide +kernel)
theorem dX2_look_4 : decode cX2_look 4 = .ok (.iload_n 1, 1) := op27 (bA_at bd03_dec_X2_0_9 2 rfl rfl)
theorem dX2_look_5 : decode cX2_look 5 = .ok (.sipush 141, 3) := op17 (bA_at bd03_dec_X2_0_9 3 rfl rfl) (by decide +kernel)
theorem dX2_look_8 : decode cX2_look 8 = .ok (.if_icmp .lt 5, 3) := op161 (bA_at bd03_dec_X2_0_9 4 rfl rfl) (by decide +kernel)
theorem dX2_look_11 : decode cX2_look 11 = .ok (.iconst (-1), 1) := op2 (bA_at bd03_dec_X2_0_9 5 rfl rfl)
theorem dX2_look_12 : decode cX2_look 12 = .ok (.ireturn, 1) := op172 (bA_at bd03_dec_X2_0_9 6 rfl rfl)
theorem dX2_look_13 : decode cX2_look 13 = .ok (.iload_n 1, 1) := op27 (bA_at bd03_dec_X2_0_9 7 rfl rfl)
theorem dX2_look_14 : decode cX2_look 14 = .ok (.bipush 60, 2) := op16 (bA_at bd03_dec_X2_0_9 8 rfl rfl) (by decide +kernel)
theorem dX2_look_16 : decode cX2_look 16 = .ok (.if_icmp .lt 51, 3) := op161 (bA_at bd03_dec_X2_0_9 9 rfl rfl) (by decide +kernel)
theorem dX2_look_19 : decode cX2_look 19 = .ok (.iload_n 1, 1) := op27 (bA_at bd03_dec_X2_0_9 10 rfl rfl)
theorem dX2_look_20 : decode cX2_look 20 = .ok (.bipush 60, 2) := op16 (bA_at bd03_dec_X2_0_9 11 rfl rfl) (by decide +kernel)
theorem dX2_look_22 : decode cX2_look 22 = .ok (.isub, 1) := op100 (bA_at bd03_dec_X2_0_9 12 rfl rfl)
theorem dX2_look_23 : decode cX2_look 23 = .ok (.bipush 9, 2) := op16 (bA_at bd03_dec_X2_0_9 13 rfl rfl) (by decide +kernel)
theorem dX2_look_25 : decode cX2_look 25 = .ok (.idiv, 1) := op108 (bA_at bd03_dec_X2_0_9 14 rfl rfl)
theorem dX2_look_26 : decode cX2_look 26 = .ok (.istore_n 2, 1) := op61 (bA_at bd03_dec_X2_0_9 15 rfl rfl)
theorem dX2_look_27 : decode cX2_look 27 = .ok (.iload_n 1, 1) := op27 (bA_at bd03_dec_X2_0_9 16 rfl rfl)
theorem dX2_look_28 : decode cX2_look 28 = .ok (.bipush 60, 2) := op16 (bA_at bd03_dec_X2_0_9 17 rfl rfl) (by decide +kernel)
theorem dX2_look_30 : decode cX2_look 30 = .ok (.isub, 1) := op100 (bA_at bd03_dec_X2_0_9 18 rfl rfl)
theorem dX2_look_31 : decode cX2_look 31 = .ok (.bipush 9, 2) := op16 (bA_at bd03_dec_X2_0_9 19 rfl rfl) (by decide +kernel)
theorem dX2_look_33 : decode cX2_look 33 = .ok (.irem, 1) := op112 (bA_at bd03_dec_X2_0_9 20 rfl rfl)
theorem dX2_look_34 : decode cX2_look 34 = .ok (.istore_n 3, 1) := op62 (bA_at bd03_dec_X2_0_9 21 rfl rfl)
theorem dX2_look_35 : decode cX2_look 35 = .ok (.aload_n 0, 1) := op42 (bA_at bd03_dec_X2_0_9 22 rfl rfl)
theorem dX2_look_36 : decode cX2_look 36 = .ok (.iload_n 2, 1) := op28 (bA_at bd03_dec_X2_0_9 23 rfl rfl)
theorem dX2_look_37 : decode cX2_look 37 = .ok (.invokevirtual 70, 3) := op182 (bA_at bd03_dec_X2_0_9 24 rfl rfl) rfl
theorem dX2_look_40 : decode cX2_look 40 = .ok (.ifCond .eq 25, 3) := op153 (bA_at bd03_dec_X2_0_9 25 rfl rfl) (by decide +kernel)
theorem dX2_look_43 : decode cX2_look 43 = .ok (.aload_n 0, 1) := op42 (bA_at bd03_dec_X2_0_9 26 rfl rfl)
theorem dX2_look_44 : decode cX2_look 44 = .ok (.iload_n 3, 1) := op29 (bA_at bd03_dec_X2_0_9 27 rfl rfl)
theorem dX2_look_45 : decode cX2_look 45 = .ok (.invokevirtual 70, 3) := op182 (bA_at bd03_dec_X2_0_9 28 rfl rfl) rfl
theorem dX2_look_48 : decode cX2_look 48 = .ok (.ifCond .eq 17, 3) := op153 (bA_at bd03_dec_X2_0_9 29 rfl rfl) (by decide +kernel)
theorem dX2_look_51 : decode cX2_look 51 = .ok (.aload_n 0, 1) := op42 (bA_at bd03_dec_X2_0_9 30 rfl rfl)
theorem dX2_look_52 : decode cX2_look 52 = .ok (.getfield 25, 3) := op180 (bA_at bd03_dec_X2_0_9 31 rfl rfl) rfl
theorem dX2_look_55 : decode cX2_look 55 = .ok (.iload_n 2, 1) := op28 (bA_at bd03_dec_X2_0_9 32 rfl rfl)
theorem dX2_look_56 : decode cX2_look 56 = .ok (.bipush 9, 2) := op16 (bA_at bd03_dec_X2_0_9 33 rfl rfl) (by decide +kernel)
theorem dX2_look_58 : decode cX2_look 58 = .ok (.imul, 1) := op104 (bA_at bd03_dec_X2_0_9 34 rfl rfl)
theorem dX2_look_59 : decode cX2_look 59 = .ok (.iload_n 3, 1) := op29 (bA_at bd03_dec_X2_0_9 35 rfl rfl)
theorem dX2_look_60 : decode cX2_look 60 = .ok (.iadd, 1) := op96 (bA_at bd03_dec_X2_0_9 36 rfl rfl)
theorem dX2_look_61 : decode cX2_look 61 = .ok (.iaload, 1) := op46 (bA_at bd03_dec_X2_0_9 37 rfl rfl)
theorem dX2_look_62 : decode cX2_look 62 = .ok (.goto 4, 3) := op167 (bA_at bd03_dec_X2_0_9 38 rfl rfl) (by decide +kernel)
theorem dX2_look_65 : decode cX2_look 65 = .ok (.iconst (-1), 1) := op2 (bA_at bd03_dec_X2_0_9 39 rfl rfl)
theorem dX2_look_66 : decode cX2_look 66 = .ok (.ireturn, 1) := op172 (bA_at bd03_dec_X2_0_9 40 rfl rfl)
theorem dX2_look_67 : decode cX2_look 67 = .ok (.iload_n 1, 1) := op27 (bA_at bd03_dec_X2_0_9 41 rfl rfl)
theorem dX2_look_68 : decode cX2_look 68 = .ok (.bipush 10, 2) := op16 (bA_at bd03_dec_X2_0_9 42 rfl rfl) (by decide +kernel)
theorem dX2_look_70 : decode cX2_look 70 = .ok (.if_icmp .ge 9, 3) := op162 (bA_at bd03_dec_X2_0_9 43 rfl rfl) (by decide +kernel)
theorem dX2_look_73 : decode cX2_look 73 = .ok (.aload_n 0, 1) := op42 (bA_at bd03_dec_X2_0_9 44 rfl rfl)
theorem dX2_look_74 : decode cX2_look 74 = .ok (.iload_n 1, 1) := op27 (bA_at bd03_dec_X2_0_9 45 rfl rfl)
theorem dX2_look_75 : decode cX2_look 75 = .ok (.invokevirtual 81, 3) := op182 (bA_at bd03_dec_X2_0_9 46 rfl rfl) rfl
theorem dX2_look_78 : decode cX2_look 78 = .ok (.ireturn, 1) := op172 (bA_at bd03_dec_X2_0_9 47 rfl rfl)
theorem dX2_look_79 : decode cX2_look 79 = .ok (.iload_n 1, 1) := op27 (bA_at bd03_dec_X2_0_9 48 rfl rfl)
theorem dX2_look_80 : decode cX2_look 80 = .ok (.bipush 10, 2) := op16 (bA_at bd03_dec_X2_0_9 49 rfl rfl) (by decide +kernel)
theorem bd03_dec_X2_0_10 : ([(0, [112]), (1, [61]), (2, [27]), (3, [16, 30]), (5, [162, 0, 15]), (8, [42]), (9, [27]), (10, [16, 10]), (12, [108]), (13, [28]), (14, [182, 0, 85]), (17, [167, 0, 12]), (20, [42]), (21, [27]), (22, [16, 10]), (24, [108]), (25, [28]), (26, [182, 0, 89]), (29, [172])] : List (Nat × List UInt8)).all (fun x => prB x.2 ((cX2_look.data.toList.drop 82).drop x.1)) = true := by decide +kernel
theorem dX2_look_82 : decode cX2_look 82 = .ok (.irem, 1) := op112 (bA_at bd03_dec_X2_0_10 0 rfl rfl)
theorem dX2_look_83 : decode cX2_look 83 = .ok (.istore_n 2, 1) := op61 (bA_at bd03_dec_X2_0_10 1 rfl rfl)
theorem dX2_look_84 : decode cX2_look 84 = .ok (.iload_n 1, 1) := op27 (bA_at bd03_dec_X2_0_10 2 rfl rfl)
theorem dX2_look_85 : decode cX2_look 85 = .ok (.bipush 30, 2) := op16 (bA_at bd03_dec_X2_0_10 3 rfl rfl) (by decide +kernel)
theorem dX2_look_87 : decode cX2_look 87 = .ok (.if_icmp .ge 15, 3) := op162 (bA_at bd03_dec_X2_0_10 4 rfl rfl) (by decide +kernel)
theorem dX2_look_90 : decode cX2_look 90 = .ok (.aload_n 0, 1) := op42 (bA_at bd03_dec_X2_0_10 5 rfl rfl)
theorem dX2_look_91 : decode cX2_look 91 = .ok (.iload_n 1, 1) := op27 (bA_at bd03_dec_X2_0_10 6 rfl rfl)
theorem dX2_look_92 : decode cX2_look 92 = .ok (.bipush 10, 2) := op16 (bA_at bd03_dec_X2_0_10 7 rfl rfl) (by decide +kernel)
theorem dX2_look_94 : decode cX2_look 94 = .ok (.idiv, 1) := op108 (bA_at bd03_dec_X2_0_10 8 rfl rfl)
theorem dX2_look_95 : decode cX2_look 95 = .ok (.iload_n 2, 1) := op28 (bA_at bd03_dec_X2_0_10 9 rfl rfl)
theorem dX2_look_96 : decode cX2_look 96 = .ok (.invokevirtual 85, 3) := op182 (bA_at bd03_dec_X2_0_10 10 rfl rfl) rfl
theorem dX2_look_99 : decode cX2_look 99 = .ok (.goto 12, 3) := op167 (bA_at bd03_dec_X2_0_10 11 rfl rfl) (by decide +kernel)
theorem dX2_look_102 : decode cX2_look 102 = .ok (.aload_n 0, 1) := op42 (bA_at bd03_dec_X2_0_10 12 rfl rfl)
theorem dX2_look_103 : decode cX2_look 103 = .ok (.iload_n 1, 1) := op27 (bA_at bd03_dec_X2_0_10 13 rfl rfl)
theorem dX2_look_104 : decode cX2_look 104 = .ok (.bipush 10, 2) := op16 (bA_at bd03_dec_X2_0_10 14 rfl rfl) (by decide +kernel)
theorem dX2_look_106 : decode cX2_look 106 = .ok (.idiv, 1) := op108 (bA_at bd03_dec_X2_0_10 15 rfl rfl)
theorem dX2_look_107 : decode cX2_look 107 = .ok (.iload_n 2, 1) := op28 (bA_at bd03_dec_X2_0_10 16 rfl rfl)
theorem dX2_look_108 : decode cX2_look 108 = .ok (.invokevirtual 89, 3) := op182 (bA_at bd03_dec_X2_0_10 17 rfl rfl) rfl
theorem dX2_look_111 : decode cX2_look 111 = .ok (.ireturn, 1) := op172 (bA_at bd03_dec_X2_0_10 18 rfl rfl)
theorem dX2_lookWhole_1 : decode cX2_lookWhole 1 = .ok (.tableswitch 78 0 6 #[43, 48, 53, 58, 63, 68, 73], 43) := by decide +kernel
theorem bd03_dec_X2_0_11 : ([(0, [27]), (44, [42]), (45, [180, 0, 43]), (48, [172]), (49, [42]), (50, [180, 0, 46]), (53, [172]), (54, [42]), (55, [180, 0, 49]), (58, [172]), (59, [42]), (60, [180, 0, 52]), (63, [172]), (64, [42]), (65, [180, 0, 55]), (68, [172]), (69, [42]), (70, [180, 0, 9]), (73, [172]), (74, [42]), (75, [180, 0, 15]), (78, [172]), (79, [2]), (80, [172])] : List (Nat × List UInt8)).all (fun x => prB x.2 ((cX2_lookWhole.data.toList.drop 0).drop x.1)) = true := by decide +kernel
theorem dX2_lookWhole_0 : decode cX2_lookWhole 0 = .ok (.iload_n 1, 1) := op27 (bA_at bd03_dec_X2_0_11 0 rfl rfl)
theorem dX2_lookWhole_44 : decode cX2_lookWhole 44 = .ok (.aload_n 0, 1) := op42 (bA_at bd03_dec_X2_0_11 1 rfl rfl)
theorem dX2_lookWhole_45 : decode cX2_lookWhole 45 = .ok (.getfield 43, 3) := op180 (bA_at bd03_dec_X2_0_11 2 rfl rfl) rfl
theorem dX2_lookWhole_48 : decode cX2_lookWhole 48 = .ok (.ireturn, 1) := op172 (bA_at bd03_dec_X2_0_11 3 rfl rfl)
theorem dX2_lookWhole_49 : decode cX2_lookWhole 49 = .ok (.aload_n 0, 1) := op42 (bA_at bd03_dec_X2_0_11 4 rfl rfl)
theorem dX2_lookWhole_50 : decode cX2_lookWhole 50 = .ok (.getfield 46, 3) := op180 (bA_at bd03_dec_X2_0_11 5 rfl rfl) rfl
theorem dX2_lookWhole_53 : decode cX2_lookWhole 53 = .ok (.ireturn, 1) := op172 (bA_at bd03_dec_X2_0_11 6 rfl rfl)
theorem dX2_lookWhole_54 : decode cX2_lookWhole 54 = .ok (.aload_n 0, 1) := op42 (bA_at bd03_dec_X2_0_11 7 rfl rfl)
theorem dX2_lookWhole_55 : decode cX2_lookWhole 55 = .ok (.getfield 49, 3) := op180 (bA_at bd03_dec_X2_0_11 8 rfl rfl) rfl
theorem dX2_lookWhole_58 : decode cX2_lookWhole 58 = .ok (.ireturn, 1) := op172 (bA_at bd03_dec_X2_0_11 9 rfl rfl)
theorem dX2_lookWhole_59 : decode cX2_lookWhole 59 = .ok (.aload_n 0, 1) := op42 (bA_at bd03_dec_X2_0_11 10 rfl rfl)
theorem dX2_lookWhole_60 : decode cX2_lookWhole 60 = .ok (.getfield 52, 3) := op180 (bA_at bd03_dec_X2_0_11 11 rfl rfl) rfl
theorem dX2_lookWhole_63 : decode cX2_lookWhole 63 = .ok (.ireturn, 1) := op172 (bA_at bd03_dec_X2_0_11 12 rfl rfl)
theorem dX2_lookWhole_64 : decode cX2_lookWhole 64 = .ok (.aload_n 0, 1) := op42 (bA_at bd03_dec_X2_0_11 13 rfl rfl)
theorem dX2_lookWhole_65 : decode cX2_lookWhole 65 = .ok (.getfield 55, 3) := op180 (bA_at bd03_dec_X2_0_11 14 rfl rfl) rfl
theorem dX2_lookWhole_68 : decode cX2_lookWhole 68 = .ok (.ireturn, 1) := op172 (bA_at bd03_dec_X2_0_11 15 rfl rfl)
theorem dX2_lookWhole_69 : decode cX2_lookWhole 69 = .ok (.aload_n 0, 1) := op42 (bA_at bd03_dec_X2_0_11 16 rfl rfl)
theorem dX2_lookWhole_70 : decode cX2_lookWhole 70 = .ok (.getfield 9, 3) := op180 (bA_at bd03_dec_X2_0_11 17 rfl rfl) rfl
theorem dX2_lookWhole_73 : decode cX2_lookWhole 73 = .ok (.ireturn, 1) := op172 (bA_at bd03_dec_X2_0_11 18 rfl rfl)
theorem dX2_lookWhole_74 : decode cX2_lookWhole 74 = .ok (.aload_n 0, 1) := op42 (bA_at bd03_dec_X2_0_11 19 rfl rfl)
theorem dX2_lookWhole_75 : decode cX2_lookWhole 75 = .ok (.getfield 15, 3) := op180 (bA_at bd03_dec_X2_0_11 20 rfl rfl) rfl
theorem dX2_lookWhole_78 : decode cX2_lookWhole 78 = .ok (.ireturn, 1) := op172 (bA_at bd03_dec_X2_0_11 21 rfl rfl)
theorem dX2_lookWhole_79 : decode cX2_lookWhole 79 = .ok (.iconst (-1), 1) := op2 (bA_at bd03_dec_X2_0_11 22 rfl rfl)
theorem dX2_lookWhole_80 : decode cX2_lookWhole 80 = .ok (.ireturn, 1) := op172 (bA_at bd03_dec_X2_0_11 23 rfl rfl)
theorem bd03_dec_X2_0_12 : ([(0, [42]), (1, [28]), (2, [182, 0, 70]), (5, [154, 0, 5]), (8, [2]), (9, [172]), (10, [27]), (11, [4]), (12, [160, 0, 12]), (15, [42]), (16, [180, 0, 18]), (19, [28]), (20, [46]), (21, [167, 0, 9]), (24, [42]), (25, [180, 0, 22]), (28, [28]), (29, [46]), (30, [172])] : List (Nat × List UInt8)).all (fun x => prB x.2 ((cX2_lookHut.data.toList.drop 0).drop x.1)) = true := by decide +kernel
theorem dX2_lookHut_0 : decode cX2_lookHut 0 = .ok (.aload_n 0, 1) := op42 (bA_at bd03_dec_X2_0_12 0 rfl rfl)
theorem dX2_lookHut_1 : decode cX2_lookHut 1 = .ok (.iload_n 2, 1) := op28 (bA_at bd03_dec_X2_0_12 1 rfl rfl)
theorem dX2_lookHut_2 : decode cX2_lookHut 2 = .ok (.invokevirtual 70, 3) := op182 (bA_at bd03_dec_X2_0_12 2 rfl rfl) rfl
theorem dX2_lookHut_5 : decode cX2_lookHut 5 = .ok (.ifCond .ne 5, 3) := op154 (bA_at bd03_dec_X2_0_12 3 rfl rfl) (by decide +kernel)
theorem dX2_lookHut_8 : decode cX2_lookHut 8 = .ok (.iconst (-1), 1) := op2 (bA_at bd03_dec_X2_0_12 4 rfl rfl)
theorem dX2_lookHut_9 : decode cX2_lookHut 9 = .ok (.ireturn, 1) := op172 (bA_at bd03_dec_X2_0_12 5 rfl rfl)
theorem dX2_lookHut_10 : decode cX2_lookHut 10 = .ok (.iload_n 1, 1) := op27 (bA_at bd03_dec_X2_0_12 6 rfl rfl)
theorem dX2_lookHut_11 : decode cX2_lookHut 11 = .ok (.iconst 1, 1) := op4 (bA_at bd03_dec_X2_0_12 7 rfl rfl)
theorem dX2_lookHut_12 : decode cX2_lookHut 12 = .ok (.if_icmp .ne 12, 3) := op160 (bA_at bd03_dec_X2_0_12 8 rfl rfl) (by decide +kernel)
theorem dX2_lookHut_15 : decode cX2_lookHut 15 = .ok (.aload_n 0, 1) := op42 (bA_at bd03_dec_X2_0_12 9 rfl rfl)
theorem dX2_lookHut_16 : decode cX2_lookHut 16 = .ok (.getfield 18, 3) := op180 (bA_at bd03_dec_X2_0_12 10 rfl rfl) rfl
theorem dX2_lookHut_19 : decode cX2_lookHut 19 = .ok (.iload_n 2, 1) := op28 (bA_at bd03_dec_X2_0_12 11 rfl rfl)
theorem dX2_lookHut_20 : decode cX2_lookHut 20 = .ok (.iaload, 1) := op46 (bA_at bd03_dec_X2_0_12 12 rfl rfl)
theorem dX2_lookHut_21 : decode cX2_lookHut 21 = .ok (.goto 9, 3) := op167 (bA_at bd03_dec_X2_0_12 13 rfl rfl) (by decide +kernel)
theorem dX2_lookHut_24 : decode cX2_lookHut 24 = .ok (.aload_n 0, 1) := op42 (bA_at bd03_dec_X2_0_12 14 rfl rfl)
theorem dX2_lookHut_25 : decode cX2_lookHut 25 = .ok (.getfield 22, 3) := op180 (bA_at bd03_dec_X2_0_12 15 rfl rfl) rfl
theorem dX2_lookHut_28 : decode cX2_lookHut 28 = .ok (.iload_n 2, 1) := op28 (bA_at bd03_dec_X2_0_12 16 rfl rfl)
theorem dX2_lookHut_29 : decode cX2_lookHut 29 = .ok (.iaload, 1) := op46 (bA_at bd03_dec_X2_0_12 17 rfl rfl)
theorem dX2_lookHut_30 : decode cX2_lookHut 30 = .ok (.ireturn, 1) := op172 (bA_at bd03_dec_X2_0_12 18 rfl rfl)
theorem bd03_dec_X2_0_13 : ([(0, [42]), (1, [28]), (2, [182, 0, 92]), (5, [154, 0, 5]), (8, [2]), (9, [172]), (10, [27]), (11, [6]), (12, [160, 0, 10]), (15, [42]), (16, [180, 0, 34]), (19, [28]), (20, [46]), (21, [172]), (22, [27]), (23, [7]), (24, [160, 0, 12]), (27, [42]), (28, [180, 0, 37]), (31, [28]), (32, [46]), (33, [167, 0, 9]), (36, [42]), (37, [180, 0, 40]), (40, [28]), (41, [46]), (42, [172])] : List (Nat × List UInt8)).all (fun x => prB x.2 ((cX2_lookSinger.data.toList.drop 0).drop x.1)) = true := by decide +kernel
theorem dX2_lookSinger_0 : decode cX2_lookSinger 0 = .ok (.aload_n 0, 1) := op42 (bA_at bd03_dec_X2_0_13 0 rfl rfl)
theorem dX2_lookSinger_1 : decode cX2_lookSinger 1 = .ok (.iload_n 2, 1) := op28 (bA_at bd03_dec_X2_0_13 1 rfl rfl)
theorem dX2_lookSinger_2 : decode cX2_lookSinger 2 = .ok (.invokevirtual 92, 3) := op182 (bA_at bd03_dec_X2_0_13 2 rfl rfl) rfl
theorem dX2_lookSinger_5 : decode cX2_lookSinger 5 = .ok (.ifCond .ne 5, 3) := op154 (bA_at bd03_dec_X2_0_13 3 rfl rfl) (by decide +kernel)
theorem dX2_lookSinger_8 : decode cX2_lookSinger 8 = .ok (.iconst (-1), 1) := op2 (bA_at bd03_dec_X2_0_13 4 rfl rfl)
theorem dX2_lookSinger_9 : decode cX2_lookSinger 9 = .ok (.ireturn, 1) := op172 (bA_at bd03_dec_X2_0_13 5 rfl rfl)
theorem dX2_lookSinger_10 : decode cX2_lookSinger 10 = .ok (.iload_n 1, 1) := op27 (bA_at bd03_dec_X2_0_13 6 rfl rfl)
theorem dX2_lookSinger_11 : decode cX2_lookSinger 11 = .ok (.iconst 3, 1) := op6 (bA_at bd03_dec_X2_0_13 7 rfl rfl)
theorem dX2_lookSinger_12 : decode cX2_lookSinger 12 = .ok (.if_icmp .ne 10, 3) := op160 (bA_at bd03_dec_X2_0_13 8 rfl rfl) (by decide +kernel)
theorem dX2_lookSinger_15 : decode cX2_lookSinger 15 = .ok (.aload_n 0, 1) := op42 (bA_at bd03_dec_X2_0_13 9 rfl rfl)
theorem dX2_lookSinger_16 : decode cX2_lookSinger 16 = .ok (.getfield 34, 3) := op180 (bA_at bd03_dec_X2_0_13 10 rfl rfl) rfl
theorem dX2_lookSinger_19 : decode cX2_lookSinger 19 = .ok (.iload_n 2, 1) := op28 (bA_at bd03_dec_X2_0_13 11 rfl rfl)
theorem dX2_lookSinger_20 : decode cX2_lookSinger 20 = .ok (.iaload, 1) := op46 (bA_at bd03_dec_X2_0_13 12 rfl rfl)
theorem dX2_lookSinger_21 : decode cX2_lookSinger 21 = .ok (.ireturn, 1) := op172 (bA_at bd03_dec_X2_0_13 13 rfl rfl)
theorem dX2_lookSinger_22 : decode cX2_lookSinger 22 = .ok (.iload_n 1, 1) := op27 (bA_at bd03_dec_X2_0_13 14 rfl rfl)
theorem dX2_lookSinger_23 : decode cX2_lookSinger 23 = .ok (.iconst 4, 1) := op7 (bA_at bd03_dec_X2_0_13 15 rfl rfl)
theorem dX2_lookSinger_24 : decode cX2_lookSinger 24 = .ok (.if_icmp .ne 12, 3) := op160 (bA_at bd03_dec_X2_0_13 16 rfl rfl) (by decide +kernel)
theorem dX2_lookSinger_27 : decode cX2_lookSinger 27 = .ok (.aload_n 0, 1) := op42 (bA_at bd03_dec_X2_0_13 17 rfl rfl)
theorem dX2_lookSinger_28 : decode cX2_lookSinger 28 = .ok (.getfield 37, 3) := op180 (bA_at bd03_dec_X2_0_13 18 rfl rfl) rfl
theorem dX2_lookSinger_31 : decode cX2_lookSinger 31 = .ok (.iload_n 2, 1) := op28 (bA_at bd03_dec_X2_0_13 19 rfl rfl)
theorem dX2_lookSinger_32 : decode cX2_lookSinger 32 = .ok (.iaload, 1) := op46 (bA_at bd03_dec_X2_0_13 20 rfl rfl)
theorem dX2_lookSinger_33 : decode cX2_lookSinger 33 = .ok (.goto 9, 3) := op167 (bA_at bd03_dec_X2_0_13 21 rfl rfl) (by decide +kernel)
theorem dX2_lookSinger_36 : decode cX2_lookSinger 36 = .ok (.aload_n 0, 1) := op42 (bA_at bd03_dec_X2_0_13 22 rfl rfl)
theorem dX2_lookSinger_37 : decode cX2_lookSinger 37 = .ok (.getfield 40, 3) := op180 (bA_at bd03_dec_X2_0_13 23 rfl rfl) rfl
theorem dX2_lookSinger_40 : decode cX2_lookSinger 40 = .ok (.iload_n 2, 1) := op28 (bA_at bd03_dec_X2_0_13 24 rfl rfl)
theorem dX2_lookSinger_41 : decode cX2_lookSinger 41 = .ok (.iaload, 1) := op46 (bA_at bd03_dec_X2_0_13 25 rfl rfl)
theorem dX2_lookSinger_42 : decode cX2_lookSinger 42 = .ok (.ireturn, 1) := op172 (bA_at bd03_dec_X2_0_13 26 rfl rfl)
end
section
theorem bd03_dec_X3_0_0 : ([(0, [42]), (1, [43]), (2, [182, 0, 27]), (5, [3]), (6, [54, 4]), (8, [21, 4]), (10, [29]), (11, [162, 0, 50]), (14, [21, 4]), (16, [44]), (17, [180, 0, 31]), (20, [162, 0, 41]), (23, [42]), (24, [43]), (25, [44]), (26, [180, 0, 37]), (29, [21, 4]), (31, [46]), (32, [44]), (33, [180, 0, 40]), (36, [21, 4]), (38, [46]), (39, [44]), (40, [180, 0, 43]), (43, [21, 4]), (45, [46]), (46, [182, 0, 46]), (49, [154, 0, 6]), (52, [21, 4]), (54, [172]), (55, [132, 4, 1]), (58, [167, 255, 206]), (61, [29]), (62, [172])] : List (Nat × List UInt8)).all (fun x => prB x.2 ((cX3_play.data.toList.drop 0).drop x.1)) = true := by decide +kernel
theorem dX3_play_0 : decode cX3_play 0 = .ok (.aload_n 0, 1) := op42 (bA_at bd03_dec_X3_0_0 0 rfl rfl)
theorem dX3_play_1 : decode cX3_play 1 = .ok (.aload_n 1, 1) := op43 (bA_at bd03_dec_X3_0_0 1 rfl rfl)
theorem dX3_play_2 : decode cX3_play 2 = .ok (.invokevirtual 27, 3) := op182 (bA_at bd03_dec_X3_0_0 2 rfl rfl) rfl
theorem dX3_play_5 : decode cX3_play 5 = .ok (.iconst 0, 1) := op3 (bA_at bd03_dec_X3_0_0 3 rfl rfl)
theorem dX3_play_6 : decode cX3_play 6 = .ok (.istore 4, 2) := op54 (bA_at bd03_dec_X3_0_0 4 rfl rfl) rfl
theorem dX3_play_8 : decode cX3_play 8 = .ok (.iload 4, 2) := op21 (bA_at bd03_dec_X3_0_0 5 rfl rfl) rfl
theorem dX3_play_10 : decode cX3_play 10 = .ok (.iload_n 3, 1) := op29 (bA_at bd03_dec_X3_0_0 6 rfl rfl)
theorem dX3_play_11 : decode cX3_play 11 = .ok (.if_icmp .ge 50, 3) := op162 (bA_at bd03_dec_X3_0_0 7 rfl rfl) (by decide +kernel)
theorem dX3_play_14 : decode cX3_play 14 = .ok (.iload 4, 2) := op21 (bA_at bd03_dec_X3_0_0 8 rfl rfl) rfl
theorem dX3_play_16 : decode cX3_play 16 = .ok (.aload_n 2, 1) := op44 (bA_at bd03_dec_X3_0_0 9 rfl rfl)
theorem dX3_play_17 : decode cX3_play 17 = .ok (.getfield 31, 3) := op180 (bA_at bd03_dec_X3_0_0 10 rfl rfl) rfl
theorem dX3_play_20 : decode cX3_play 20 = .ok (.if_icmp .ge 41, 3) := op162 (bA_at bd03_dec_X3_0_0 11 rfl rfl) (by decide +kernel)
theorem dX3_play_23 : decode cX3_play 23 = .ok (.aload_n 0, 1) := op42 (bA_at bd03_dec_X3_0_0 12 rfl rfl)
theorem dX3_play_24 : decode cX3_play 24 = .ok (.aload_n 1, 1) := op43 (bA_at bd03_dec_X3_0_0 13 rfl rfl)
theorem dX3_play_25 : decode cX3_play 25 = .ok (.aload_n 2, 1) := op44 (bA_at bd03_dec_X3_0_0 14 rfl rfl)
theorem dX3_play_26 : decode cX3_play 26 = .ok (.getfield 37, 3) := op180 (bA_at bd03_dec_X3_0_0 15 rfl rfl) rfl
theorem dX3_play_29 : decode cX3_play 29 = .ok (.iload 4, 2) := op21 (bA_at bd03_dec_X3_0_0 16 rfl rfl) rfl
theorem dX3_play_31 : decode cX3_play 31 = .ok (.iaload, 1) := op46 (bA_at bd03_dec_X3_0_0 17 rfl rfl)
theorem dX3_play_32 : decode cX3_play 32 = .ok (.aload_n 2, 1) := op44 (bA_at bd03_dec_X3_0_0 18 rfl rfl)
theorem dX3_play_33 : decode cX3_play 33 = .ok (.getfield 40, 3) := op180 (bA_at bd03_dec_X3_0_0 19 rfl rfl) rfl
theorem dX3_play_36 : decode cX3_play 36 = .ok (.iload 4, 2) := op21 (bA_at bd03_dec_X3_0_0 20 rfl rfl) rfl
theorem dX3_play_38 : decode cX3_play 38 = .ok (.iaload, 1) := op46 (bA_at bd03_dec_X3_0_0 21 rfl rfl)
theorem dX3_play_39 : decode cX3_play 39 = .ok (.aload_n 2, 1) := op44 (bA_at bd03_dec_X3_0_0 22 rfl rfl)
theorem dX3_play_40 : decode cX3_play 40 = .ok (.getfield 43, 3) := op180 (bA_at bd03_dec_X3_0_0 23 rfl rfl) rfl
theorem dX3_play_43 : decode cX3_play 43 = .ok (.iload 4, 2) := op21 (bA_at bd03_dec_X3_0_0 24 rfl rfl) rfl
theorem dX3_play_45 : decode cX3_play 45 = .ok (.iaload, 1) := op46 (bA_at bd03_dec_X3_0_0 25 rfl rfl)
theorem dX3_play_46 : decode cX3_play 46 = .ok (.invokevirtual 46, 3) := op182 (bA_at bd03_dec_X3_0_0 26 rfl rfl) rfl
theorem dX3_play_49 : decode cX3_play 49 = .ok (.ifCond .ne 6, 3) := op154 (bA_at bd03_dec_X3_0_0 27 rfl rfl) (by decide +kernel)
theorem dX3_play_52 : decode cX3_play 52 = .ok (.iload 4, 2) := op21 (bA_at bd03_dec_X3_0_0 28 rfl rfl) rfl
theorem dX3_play_54 : decode cX3_play 54 = .ok (.ireturn, 1) := op172 (bA_at bd03_dec_X3_0_0 29 rfl rfl)
theorem dX3_play_55 : decode cX3_play 55 = .ok (.iinc 4 1, 3) := op132 (bA_at bd03_dec_X3_0_0 30 rfl rfl) rfl (by decide +kernel)
theorem dX3_play_58 : decode cX3_play 58 = .ok (.goto (-50), 3) := op167 (bA_at bd03_dec_X3_0_0 31 rfl rfl) (by decide +kernel)
theorem dX3_play_61 : decode cX3_play 61 = .ok (.iload_n 3, 1) := op29 (bA_at bd03_dec_X3_0_0 32 rfl rfl)
theorem dX3_play_62 : decode cX3_play 62 = .ok (.ireturn, 1) := op172 (bA_at bd03_dec_X3_0_0 33 rfl rfl)
theorem bd03_dec_X3_0_1 : ([(0, [42]), (1, [43]), (2, [182, 0, 27]), (5, [42]), (6, [28]), (7, [181, 0, 50]), (10, [3]), (11, [54, 4]), (13, [21, 4]), (15, [29]), (16, [162, 0, 83]), (19, [42]), (20, [43]), (21, [180, 0, 53]), (24, [182, 0, 58]), (27, [54, 5]), (29, [42]), (30, [16, 8]), (32, [182, 0, 58]), (35, [5]), (36, [163, 0, 23]), (39, [42]), (40, [43]), (41, [6]), (42, [21, 5]), (44, [42]), (45, [43]), (46, [180, 0, 62]), (49, [182, 0, 58]), (52, [182, 0, 46]), (55, [87]), (56, [167, 0, 37]), (59, [42]), (60, [8]), (61, [182, 0, 58]), (64, [54, 6]), (66, [42]), (67, [43]), (68, [42]), (69, [180, 0, 64]), (72, [21, 6]), (74, [184, 0, 67]), (77, [153, 0, 7]), (80, [4]), (81, [167, 0, 4]), (84, [3]), (85, [21, 5]), (87, [21, 6]), (89, [182, 0, 46]), (92, [87])] : List (Nat × List UInt8)).all (fun x => prB x.2 ((cX3_draw.data.toList.drop 0).drop x.1)) = true := by decide +kernel
theorem dX3_draw_0 : decode cX3_draw 0 = .ok (.aload_n 0, 1) := op42 (bA_at bd03_dec_X3_0_1 0 rfl rfl)
theorem dX3_draw_1 : decode cX3_draw 1 = .ok (.aload_n 1, 1) := op43 (bA_at bd03_dec_X3_0_1 1 rfl rfl)
theorem dX3_draw_2 : decode cX3_draw 2 = .ok (.invokevirtual 27, 3) := op182 (bA_at bd03_dec_X3_0_1 2 rfl rfl) rfl
theorem dX3_draw_5 : decode cX3_draw 5 = .ok (.aload_n 0, 1) := op42 (bA_at bd03_dec_X3_0_1 3 rfl rfl)
theorem dX3_draw_6 : decode cX3_draw 6 = .ok (.iload_n 2, 1) := op28 (bA_at bd03_dec_X3_0_1 4 rfl rfl)
theorem dX3_draw_7 : decode cX3_draw 7 = .ok (.putfield 50, 3) := op181 (bA_at bd03_dec_X3_0_1 5 rfl rfl) rfl
theorem dX3_draw_10 : decode cX3_draw 10 = .ok (.iconst 0, 1) := op3 (bA_at bd03_dec_X3_0_1 6 rfl rfl)
theorem dX3_draw_11 : decode cX3_draw 11 = .ok (.istore 4, 2) := op54 (bA_at bd03_dec_X3_0_1 7 rfl rfl) rfl
theorem dX3_draw_13 : decode cX3_draw 13 = .ok (.iload 4, 2) := op21 (bA_at bd03_dec_X3_0_1 8 rfl rfl) rfl
theorem dX3_draw_15 : decode cX3_draw 15 = .ok (.iload_n 3, 1) := op29 (bA_at bd03_dec_X3_0_1 9 rfl rfl)
theorem dX3_draw_16 : decode cX3_draw 16 = .ok (.if_icmp .ge 83, 3) := op162 (bA_at bd03_dec_X3_0_1 10 rfl rfl) (by decide +kernel)
theorem dX3_draw_19 : decode cX3_draw 19 = .ok (.aload_n 0, 1) := op42 (bA_at bd03_dec_X3_0_1 11 rfl rfl)
theorem dX3_draw_20 : decode cX3_draw 20 = .ok (.aload_n 1, 1) := op43 (bA_at bd03_dec_X3_0_1 12 rfl rfl)
theorem dX3_draw_21 : decode cX3_draw 21 = .ok (.getfield 53, 3) := op180 (bA_at bd03_dec_X3_0_1 13 rfl rfl) rfl
theorem dX3_draw_24 : decode cX3_draw 24 = .ok (.invokevirtual 58, 3) := op182 (bA_at bd03_dec_X3_0_1 14 rfl rfl) rfl
theorem dX3_draw_27 : decode cX3_draw 27 = .ok (.istore 5, 2) := op54 (bA_at bd03_dec_X3_0_1 15 rfl rfl) rfl
theorem dX3_draw_29 : decode cX3_draw 29 = .ok (.aload_n 0, 1) := op42 (bA_at bd03_dec_X3_0_1 16 rfl rfl)
theorem dX3_draw_30 : decode cX3_draw 30 = .ok (.bipush 8, 2) := op16 (bA_at bd03_dec_X3_0_1 17 rfl rfl) (by decide +kernel)
theorem dX3_draw_32 : decode cX3_draw 32 = .ok (.invokevirtual 58, 3) := op182 (bA_at bd03_dec_X3_0_1 18 rfl rfl) rfl
theorem dX3_draw_35 : decode cX3_draw 35 = .ok (.iconst 2, 1) := op5 (bA_at bd03_dec_X3_0_1 19 rfl rfl)
theorem dX3_draw_36 : decode cX3_draw 36 = .ok (.if_icmp .gt 23, 3) := op163 (bA_at bd03_dec_X3_0_1 20 rfl rfl) (by decide +kernel)
theorem dX3_draw_39 : decode cX3_draw 39 = .ok (.aload_n 0, 1) := op42 (bA_at bd03_dec_X3_0_1 21 rfl rfl)
theorem dX3_draw_40 : decode cX3_draw 40 = .ok (.aload_n 1, 1) := op43 (bA_at bd03_dec_X3_0_1 22 rfl rfl)
theorem dX3_draw_41 : decode cX3_draw 41 = .ok (.iconst 3, 1) := op6 (bA_at bd03_dec_X3_0_1 23 rfl rfl)
theorem dX3_draw_42 : decode cX3_draw 42 = .ok (.iload 5, 2) := op21 (bA_at bd03_dec_X3_0_1 24 rfl rfl) rfl
theorem dX3_draw_44 : decode cX3_draw 44 = .ok (.aload_n 0, 1) := op42 (bA_at bd03_dec_X3_0_1 25 rfl rfl)
theorem dX3_draw_45 : decode cX3_draw 45 = .ok (.aload_n 1, 1) := op43 (bA_at bd03_dec_X3_0_1 26 rfl rfl)
theorem dX3_draw_46 : decode cX3_draw 46 = .ok (.getfield 62, 3) := op180 (bA_at bd03_dec_X3_0_1 27 rfl rfl) rfl
theorem dX3_draw_49 : decode cX3_draw 49 = .ok (.invokevirtual 58, 3) := op182 (bA_at bd03_dec_X3_0_1 28 rfl rfl) rfl
theorem dX3_draw_52 : decode cX3_draw 52 = .ok (.invokevirtual 46, 3) := op182 (bA_at bd03_dec_X3_0_1 29 rfl rfl) rfl
theorem dX3_draw_55 : decode cX3_draw 55 = .ok (.pop, 1) := op87 (bA_at bd03_dec_X3_0_1 30 rfl rfl)
theorem dX3_draw_56 : decode cX3_draw 56 = .ok (.goto 37, 3) := op167 (bA_at bd03_dec_X3_0_1 31 rfl rfl) (by decide +kernel)
theorem dX3_draw_59 : decode cX3_draw 59 = .ok (.aload_n 0, 1) := op42 (bA_at bd03_dec_X3_0_1 32 rfl rfl)
theorem dX3_draw_60 : decode cX3_draw 60 = .ok (.iconst 5, 1) := op8 (bA_at bd03_dec_X3_0_1 33 rfl rfl)
theorem dX3_draw_61 : decode cX3_draw 61 = .ok (.invokevirtual 58, 3) := op182 (bA_at bd03_dec_X3_0_1 34 rfl rfl) rfl
theorem dX3_draw_64 : decode cX3_draw 64 = .ok (.istore 6, 2) := op54 (bA_at bd03_dec_X3_0_1 35 rfl rfl) rfl
theorem dX3_draw_66 : decode cX3_draw 66 = .ok (.aload_n 0, 1) := op42 (bA_at bd03_dec_X3_0_1 36 rfl rfl)
theorem dX3_draw_67 : decode cX3_draw 67 = .ok (.aload_n 1, 1) := op43 (bA_at bd03_dec_X3_0_1 37 rfl rfl)
theorem dX3_draw_68 : decode cX3_draw 68 = .ok (.aload_n 0, 1) := op42 (bA_at bd03_dec_X3_0_1 38 rfl rfl)
theorem dX3_draw_69 : decode cX3_draw 69 = .ok (.getfield 64, 3) := op180 (bA_at bd03_dec_X3_0_1 39 rfl rfl) rfl
theorem dX3_draw_72 : decode cX3_draw 72 = .ok (.iload 6, 2) := op21 (bA_at bd03_dec_X3_0_1 40 rfl rfl) rfl
theorem dX3_draw_74 : decode cX3_draw 74 = .ok (.invokestatic 67, 3) := op184 (bA_at bd03_dec_X3_0_1 41 rfl rfl) rfl
theorem dX3_draw_77 : decode cX3_draw 77 = .ok (.ifCond .eq 7, 3) := op153 (bA_at bd03_dec_X3_0_1 42 rfl rfl) (by decide +kernel)
theorem dX3_draw_80 : decode cX3_draw 80 = .ok (.iconst 1, 1) := op4 (bA_at bd03_dec_X3_0_1 43 rfl rfl)
theorem dX3_draw_81 : decode cX3_draw 81 = .ok (.goto 4, 3) := op167 (bA_at bd03_dec_X3_0_1 44 rfl rfl) (by decide +kernel)
theorem dX3_draw_84 : decode cX3_draw 84 = .ok (.iconst 0, 1) := op3 (bA_at bd03_dec_X3_0_1 45 rfl rfl)
theorem dX3_draw_85 : decode cX3_draw 85 = .ok (.iload 5, 2) := op21 (bA_at bd03_dec_X3_0_1 46 rfl rfl) rfl
theorem dX3_draw_87 : decode cX3_draw 87 = .ok (.iload 6, 2) := op21 (bA_at bd03_dec_X3_0_1 47 rfl rfl) rfl
theorem dX3_draw_89 : decode cX3_draw 89 = .ok (.invokevirtual 46, 3) := op182 (bA_at bd03_dec_X3_0_1 48 rfl rfl) rfl
theorem dX3_draw_92 : decode cX3_draw 92 = .ok (.pop, 1) := op87 (bA_at bd03_dec_X3_0_1 49 rfl rfl)
theorem bd03_dec_X3_0_2 : ([(0, [132, 4, 1]), (3, [167, 255, 173]), (6, [177])] : List (Nat × List UInt8)).all (fun x => prB x.2 ((cX3_draw.data.toList.drop 93).drop x.1)) = true := by decide +kernel
theorem dX3_draw_93 : decode cX3_draw 93 = .ok (.iinc 4 1, 3) := op132 (bA_at bd03_dec_X3_0_2 0 rfl rfl) rfl (by decide +kernel)
theorem dX3_draw_96 : decode cX3_draw 96 = .ok (.goto (-83), 3) := op167 (bA_at bd03_dec_X3_0_2 1 rfl rfl) (by decide +kernel)
theorem dX3_draw_99 : decode cX3_draw 99 = .ok (.return_, 1) := op177 (bA_at bd03_dec_X3_0_2 2 rfl rfl)
theorem bd03_dec_X3_0_3 : ([(0, [42]), (1, [42]), (2, [180, 0, 50]), (5, [18, 71]), (7, [104]), (8, [17, 48, 57]), (11, [96]), (12, [181, 0, 50]), (15, [27]), (16, [158, 0, 15]), (19, [42]), (20, [180, 0, 50]), (23, [16, 16]), (25, [124]), (26, [27]), (27, [112]), (28, [167, 0, 4]), (31, [3]), (32, [172])] : List (Nat × List UInt8)).all (fun x => prB x.2 ((cX3_below.data.toList.drop 0).drop x.1)) = true := by decide +kernel
theorem dX3_below_0 : decode cX3_below 0 = .ok (.aload_n 0, 1) := op42 (bA_at bd03_dec_X3_0_3 0 rfl rfl)
theorem dX3_below_1 : decode cX3_below 1 = .ok (.aload_n 0, 1) := op42 (bA_at bd03_dec_X3_0_3 1 rfl rfl)
theorem dX3_below_2 : decode cX3_below 2 = .ok (.getfield 50, 3) := op180 (bA_at bd03_dec_X3_0_3 2 rfl rfl) rfl
theorem dX3_below_5 : decode cX3_below 5 = .ok (.ldc 71, 2) := op18 (bA_at bd03_dec_X3_0_3 3 rfl rfl) rfl
theorem dX3_below_7 : decode cX3_below 7 = .ok (.imul, 1) := op104 (bA_at bd03_dec_X3_0_3 4 rfl rfl)
theorem dX3_below_8 : decode cX3_below 8 = .ok (.sipush 12345, 3) := op17 (bA_at bd03_dec_X3_0_3 5 rfl rfl) (by decide +kernel)
theorem dX3_below_11 : decode cX3_below 11 = .ok (.iadd, 1) := op96 (bA_at bd03_dec_X3_0_3 6 rfl rfl)
theorem dX3_below_12 : decode cX3_below 12 = .ok (.putfield 50, 3) := op181 (bA_at bd03_dec_X3_0_3 7 rfl rfl) rfl
theorem dX3_below_15 : decode cX3_below 15 = .ok (.iload_n 1, 1) := op27 (bA_at bd03_dec_X3_0_3 8 rfl rfl)
theorem dX3_below_16 : decode cX3_below 16 = .ok (.ifCond .le 15, 3) := op158 (bA_at bd03_dec_X3_0_3 9 rfl rfl) (by decide +kernel)
theorem dX3_below_19 : decode cX3_below 19 = .ok (.aload_n 0, 1) := op42 (bA_at bd03_dec_X3_0_3 10 rfl rfl)
theorem dX3_below_20 : decode cX3_below 20 = .ok (.getfield 50, 3) := op180 (bA_at bd03_dec_X3_0_3 11 rfl rfl) rfl
theorem dX3_below_23 : decode cX3_below 23 = .ok (.bipush 16, 2) := op16 (bA_at bd03_dec_X3_0_3 12 rfl rfl) (by decide +kernel)
theorem dX3_below_25 : decode cX3_below 25 = .ok (.iushr, 1) := op124 (bA_at bd03_dec_X3_0_3 13 rfl rfl)
theorem dX3_below_26 : decode cX3_below 26 = .ok (.iload_n 1, 1) := op27 (bA_at bd03_dec_X3_0_3 14 rfl rfl)
theorem dX3_below_27 : decode cX3_below 27 = .ok (.irem, 1) := op112 (bA_at bd03_dec_X3_0_3 15 rfl rfl)
theorem dX3_below_28 : decode cX3_below 28 = .ok (.goto 4, 3) := op167 (bA_at bd03_dec_X3_0_3 16 rfl rfl) (by decide +kernel)
theorem dX3_below_31 : decode cX3_below 31 = .ok (.iconst 0, 1) := op3 (bA_at bd03_dec_X3_0_3 17 rfl rfl)
theorem dX3_below_32 : decode cX3_below 32 = .ok (.ireturn, 1) := op172 (bA_at bd03_dec_X3_0_3 18 rfl rfl)
theorem bd03_dec_X3_0_4 : ([(0, [42]), (1, [3]), (2, [181, 0, 72]), (5, [42]), (6, [3]), (7, [181, 0, 75]), (10, [42]), (11, [3]), (12, [181, 0, 64]), (15, [42]), (16, [3]), (17, [181, 0, 78]), (20, [43]), (21, [180, 0, 81]), (24, [3]), (25, [42]), (26, [180, 0, 9]), (29, [3]), (30, [16, 6]), (32, [184, 0, 84]), (35, [43]), (36, [180, 0, 90]), (39, [3]), (40, [42]), (41, [180, 0, 15]), (44, [3]), (45, [16, 6]), (47, [184, 0, 84]), (50, [42]), (51, [180, 0, 18]), (54, [2]), (55, [184, 0, 91]), (58, [42]), (59, [180, 0, 21]), (62, [3]), (63, [184, 0, 91]), (66, [177])] : List (Nat × List UInt8)).all (fun x => prB x.2 ((cX3_start.data.toList.drop 0).drop x.1)) = true := by decide +kernel
theorem dX3_start_0 : decode cX3_start 0 = .ok (.aload_n 0, 1) := op42 (bA_at bd03_dec_X3_0_4 0 rfl rfl)
theorem dX3_start_1 : decode cX3_start 1 = .ok (.iconst 0, 1) := op3 (bA_at bd03_dec_X3_0_4 1 rfl rfl)
theorem dX3_start_2 : decode cX3_start 2 = .ok (.putfield 72, 3) := op181 (bA_at bd03_dec_X3_0_4 2 rfl rfl) rfl
theorem dX3_start_5 : decode cX3_start 5 = .ok (.aload_n 0, 1) := op42 (bA_at bd03_dec_X3_0_4 3 rfl rfl)
theorem dX3_start_6 : decode cX3_start 6 = .ok (.iconst 0, 1) := op3 (bA_at bd03_dec_X3_0_4 4 rfl rfl)
theorem dX3_start_7 : decode cX3_start 7 = .ok (.putfield 75, 3) := op181 (bA_at bd03_dec_X3_0_4 5 rfl rfl) rfl
theorem dX3_start_10 : decode cX3_start 10 = .ok (.aload_n 0, 1) := op42 (bA_at bd03_dec_X3_0_4 6 rfl rfl)
theorem dX3_start_11 : decode cX3_start 11 = .ok (.iconst 0, 1) := op3 (bA_at bd03_dec_X3_0_4 7 rfl rfl)
theorem dX3_start_12 : decode cX3_start 12 = .ok (.putfield 64, 3) := op181 (bA_at bd03_dec_X3_0_4 8 rfl rfl) rfl
theorem dX3_start_15 : decode cX3_start 15 = .ok (.aload_n 0, 1) := op42 (bA_at bd03_dec_X3_0_4 9 rfl rfl)
theorem dX3_start_16 : decode cX3_start 16 = .ok (.iconst 0, 1) := op3 (bA_at bd03_dec_X3_0_4 10 rfl rfl)
theorem dX3_start_17 : decode cX3_start 17 = .ok (.putfield 78, 3) := op181 (bA_at bd03_dec_X3_0_4 11 rfl rfl) rfl
theorem dX3_start_20 : decode cX3_start 20 = .ok (.aload_n 1, 1) := op43 (bA_at bd03_dec_X3_0_4 12 rfl rfl)
theorem dX3_start_21 : decode cX3_start 21 = .ok (.getfield 81, 3) := op180 (bA_at bd03_dec_X3_0_4 13 rfl rfl) rfl
theorem dX3_start_24 : decode cX3_start 24 = .ok (.iconst 0, 1) := op3 (bA_at bd03_dec_X3_0_4 14 rfl rfl)
theorem dX3_start_25 : decode cX3_start 25 = .ok (.aload_n 0, 1) := op42 (bA_at bd03_dec_X3_0_4 15 rfl rfl)
theorem dX3_start_26 : decode cX3_start 26 = .ok (.getfield 9, 3) := op180 (bA_at bd03_dec_X3_0_4 16 rfl rfl) rfl
theorem dX3_start_29 : decode cX3_start 29 = .ok (.iconst 0, 1) := op3 (bA_at bd03_dec_X3_0_4 17 rfl rfl)
theorem dX3_start_30 : decode cX3_start 30 = .ok (.bipush 6, 2) := op16 (bA_at bd03_dec_X3_0_4 18 rfl rfl) (by decide +kernel)
theorem dX3_start_32 : decode cX3_start 32 = .ok (.invokestatic 84, 3) := op184 (bA_at bd03_dec_X3_0_4 19 rfl rfl) rfl
theorem dX3_start_35 : decode cX3_start 35 = .ok (.aload_n 1, 1) := op43 (bA_at bd03_dec_X3_0_4 20 rfl rfl)
theorem dX3_start_36 : decode cX3_start 36 = .ok (.getfield 90, 3) := op180 (bA_at bd03_dec_X3_0_4 21 rfl rfl) rfl
theorem dX3_start_39 : decode cX3_start 39 = .ok (.iconst 0, 1) := op3 (bA_at bd03_dec_X3_0_4 22 rfl rfl)
theorem dX3_start_40 : decode cX3_start 40 = .ok (.aload_n 0, 1) := op42 (bA_at bd03_dec_X3_0_4 23 rfl rfl)
theorem dX3_start_41 : decode cX3_start 41 = .ok (.getfield 15, 3) := op180 (bA_at bd03_dec_X3_0_4 24 rfl rfl) rfl
theorem dX3_start_44 : decode cX3_start 44 = .ok (.iconst 0, 1) := op3 (bA_at bd03_dec_X3_0_4 25 rfl rfl)
theorem dX3_start_45 : decode cX3_start 45 = .ok (.bipush 6, 2) := op16 (bA_at bd03_dec_X3_0_4 26 rfl rfl) (by decide +kernel)
theorem dX3_start_47 : decode cX3_start 47 = .ok (.invokestatic 84, 3) := op184 (bA_at bd03_dec_X3_0_4 27 rfl rfl) rfl
theorem dX3_start_50 : decode cX3_start 50 = .ok (.aload_n 0, 1) := op42 (bA_at bd03_dec_X3_0_4 28 rfl rfl)
theorem dX3_start_51 : decode cX3_start 51 = .ok (.getfield 18, 3) := op180 (bA_at bd03_dec_X3_0_4 29 rfl rfl) rfl
theorem dX3_start_54 : decode cX3_start 54 = .ok (.iconst (-1), 1) := op2 (bA_at bd03_dec_X3_0_4 30 rfl rfl)
theorem dX3_start_55 : decode cX3_start 55 = .ok (.invokestatic 91, 3) := op184 (bA_at bd03_dec_X3_0_4 31 rfl rfl) rfl
theorem dX3_start_58 : decode cX3_start 58 = .ok (.aload_n 0, 1) := op42 (bA_at bd03_dec_X3_0_4 32 rfl rfl)
theorem dX3_start_59 : decode cX3_start 59 = .ok (.getfield 21, 3) := op180 (bA_at bd03_dec_X3_0_4 33 rfl rfl) rfl
theorem dX3_start_62 : decode cX3_start 62 = .ok (.iconst 0, 1) := op3 (bA_at bd03_dec_X3_0_4 34 rfl rfl)
theorem dX3_start_63 : decode cX3_start 63 = .ok (.invokestatic 91, 3) := op184 (bA_at bd03_dec_X3_0_4 35 rfl rfl) rfl
theorem dX3_start_66 : decode cX3_start 66 = .ok (.return_, 1) := op177 (bA_at bd03_dec_X3_0_4 36 rfl rfl)
theorem dX3_act_11 : decode cX3_act 11 = .ok (.tableswitch 47 3 5 #[25, 34, 41], 25) := by decide +kernel
theorem bd03_dec_X3_0_5 : ([(0, [43]), (1, [29]), (2, [182, 0, 97]), (5, [154, 0, 5]), (8, [3]), (9, [172]), (10, [28]), (36, [42]), (37, [43]), (38, [29]), (39, [21, 4]), (41, [182, 0, 101]), (44, [172]), (45, [42]), (46, [43]), (47, [29]), (48, [182, 0, 105]), (51, [172]), (52, [42]), (53, [29]), (54, [182, 0, 109]), (57, [172]), (58, [42]), (59, [43]), (60, [28]), (61, [29]), (62, [21, 4]), (64, [182, 0, 112]), (67, [172])] : List (Nat × List UInt8)).all (fun x => prB x.2 ((cX3_act.data.toList.drop 0).drop x.1)) = true := by decide +kernel
theorem dX3_act_0 : decode cX3_act 0 = .ok (.aload_n 1, 1) := op43 (bA_at bd03_dec_X3_0_5 0 rfl rfl)
theorem dX3_act_1 : decode cX3_act 1 = .ok (.iload_n 3, 1) := op29 (bA_at bd03_dec_X3_0_5 1 rfl rfl)
theorem dX3_act_2 : decode cX3_act 2 = .ok (.invokevirtual 97, 3) := op182 (bA_at bd03_dec_X3_0_5 2 rfl rfl) rfl
theorem dX3_act_5 : decode cX3_act 5 = .ok (.ifCond .ne 5, 3) := op154 (bA_at bd03_dec_X3_0_5 3 rfl rfl) (by decide +kernel)
theorem dX3_act_8 : decode cX3_act 8 = .ok (.iconst 0, 1) := op3 (bA_at bd03_dec_X3_0_5 4 rfl rfl)
theorem dX3_act_9 : decode cX3_act 9 = .ok (.ireturn, 1) := op172 (bA_at bd03_dec_X3_0_5 5 rfl rfl)
theorem dX3_act_10 : decode cX3_act 10 = .ok (.iload_n 2, 1) := op28 (bA_at bd03_dec_X3_0_5 6 rfl rfl)
theorem dX3_act_36 : decode cX3_act 36 = .ok (.aload_n 0, 1) := op42 (bA_at bd03_dec_X3_0_5 7 rfl rfl)
theorem dX3_act_37 : decode cX3_act 37 = .ok (.aload_n 1, 1) := op43 (bA_at bd03_dec_X3_0_5 8 rfl rfl)
theorem dX3_act_38 : decode cX3_act 38 = .ok (.iload_n 3, 1) := op29 (bA_at bd03_dec_X3_0_5 9 rfl rfl)
theorem dX3_act_39 : decode cX3_act 39 = .ok (.iload 4, 2) := op21 (bA_at bd03_dec_X3_0_5 10 rfl rfl) rfl
theorem dX3_act_41 : decode cX3_act 41 = .ok (.invokevirtual 101, 3) := op182 (bA_at bd03_dec_X3_0_5 11 rfl rfl) rfl
theorem dX3_act_44 : decode cX3_act 44 = .ok (.ireturn, 1) := op172 (bA_at bd03_dec_X3_0_5 12 rfl rfl)
theorem dX3_act_45 : decode cX3_act 45 = .ok (.aload_n 0, 1) := op42 (bA_at bd03_dec_X3_0_5 13 rfl rfl)
theorem dX3_act_46 : decode cX3_act 46 = .ok (.aload_n 1, 1) := op43 (bA_at bd03_dec_X3_0_5 14 rfl rfl)
theorem dX3_act_47 : decode cX3_act 47 = .ok (.iload_n 3, 1) := op29 (bA_at bd03_dec_X3_0_5 15 rfl rfl)
theorem dX3_act_48 : decode cX3_act 48 = .ok (.invokevirtual 105, 3) := op182 (bA_at bd03_dec_X3_0_5 16 rfl rfl) rfl
theorem dX3_act_51 : decode cX3_act 51 = .ok (.ireturn, 1) := op172 (bA_at bd03_dec_X3_0_5 17 rfl rfl)
theorem dX3_act_52 : decode cX3_act 52 = .ok (.aload_n 0, 1) := op42 (bA_at bd03_dec_X3_0_5 18 rfl rfl)
theorem dX3_act_53 : decode cX3_act 53 = .ok (.iload_n 3, 1) := op29 (bA_at bd03_dec_X3_0_5 19 rfl rfl)
theorem dX3_act_54 : decode cX3_act 54 = .ok (.invokevirtual 109, 3) := op182 (bA_at bd03_dec_X3_0_5 20 rfl rfl) rfl
theorem dX3_act_57 : decode cX3_act 57 = .ok (.ireturn, 1) := op172 (bA_at bd03_dec_X3_0_5 21 rfl rfl)
theorem dX3_act_58 : decode cX3_act 58 = .ok (.aload_n 0, 1) := op42 (bA_at bd03_dec_X3_0_5 22 rfl rfl)
theorem dX3_act_59 : decode cX3_act 59 = .ok (.aload_n 1, 1) := op43 (bA_at bd03_dec_X3_0_5 23 rfl rfl)
theorem dX3_act_60 : decode cX3_act 60 = .ok (.iload_n 2, 1) := op28 (bA_at bd03_dec_X3_0_5 24 rfl rfl)
theorem dX3_act_61 : decode cX3_act 61 = .ok (.iload_n 3, 1) := op29 (bA_at bd03_dec_X3_0_5 25 rfl rfl)
theorem dX3_act_62 : decode cX3_act 62 = .ok (.iload 4, 2) := op21 (bA_at bd03_dec_X3_0_5 26 rfl rfl) rfl
theorem dX3_act_64 : decode cX3_act 64 = .ok (.invokevirtual 112, 3) := op182 (bA_at bd03_dec_X3_0_5 27 rfl rfl) rfl
theorem dX3_act_67 : decode cX3_act 67 = .ok (.ireturn, 1) := op172 (bA_at bd03_dec_X3_0_5 28 rfl rfl)
theorem bd03_dec_X3_0_6 : ([(0, [42]), (1, [180, 0, 9]), (4, [28]), (5, [46]), (6, [54, 4]), (8, [43]), (9, [29]), (10, [182, 0, 115]), (13, [153, 0, 33]), (16, [42]), (17, [180, 0, 78]), (20, [28]), (21, [184, 0, 67]), (24, [154, 0, 22]), (27, [42]), (28, [43]), (29, [21, 4]), (31, [182, 0, 118]), (34, [154, 0, 12]), (37, [42]), (38, [43]), (39, [29]), (40, [182, 0, 118]), (43, [153, 0, 5]), (46, [3]), (47, [172]), (48, [43]), (49, [180, 0, 121]), (52, [21, 4]), (54, [16, 9]), (56, [104]), (57, [29]), (58, [96]), (59, [46]), (60, [54, 5]), (62, [21, 5]), (64, [154, 0, 5]), (67, [3]), (68, [172]), (69, [42]), (70, [89]), (71, [180, 0, 72]), (74, [21, 5]), (76, [96]), (77, [181, 0, 72]), (80, [42]), (81, [180, 0, 9]), (84, [28]), (85, [29]), (86, [79])] : List (Nat × List UInt8)).all (fun x => prB x.2 ((cX3_walk.data.toList.drop 0).drop x.1)) = true := by decide +kernel
theorem dX3_walk_0 : decode cX3_walk 0 = .ok (.aload_n 0, 1) := op42 (bA_at bd03_dec_X3_0_6 0 rfl rfl)
theorem dX3_walk_1 : decode cX3_walk 1 = .ok (.getfield 9, 3) := op180 (bA_at bd03_dec_X3_0_6 1 rfl rfl) rfl
theorem dX3_walk_4 : decode cX3_walk 4 = .ok (.iload_n 2, 1) := op28 (bA_at bd03_dec_X3_0_6 2 rfl rfl)
theorem dX3_walk_5 : decode cX3_walk 5 = .ok (.iaload, 1) := op46 (bA_at bd03_dec_X3_0_6 3 rfl rfl)
theorem dX3_walk_6 : decode cX3_walk 6 = .ok (.istore 4, 2) := op54 (bA_at bd03_dec_X3_0_6 4 rfl rfl) rfl
theorem dX3_walk_8 : decode cX3_walk 8 = .ok (.aload_n 1, 1) := op43 (bA_at bd03_dec_X3_0_6 5 rfl rfl)
theorem dX3_walk_9 : decode cX3_walk 9 = .ok (.iload_n 3, 1) := op29 (bA_at bd03_dec_X3_0_6 6 rfl rfl)
theorem dX3_walk_10 : decode cX3_walk 10 = .ok (.invokevirtual 115, 3) := op182 (bA_at bd03_dec_X3_0_6 7 rfl rfl) rfl
theorem dX3_walk_13 : decode cX3_walk 13 = .ok (.ifCond .eq 33, 3) := op153 (bA_at bd03_dec_X3_0_6 8 rfl rfl) (by decide +kernel)
theorem dX3_walk_16 : decode cX3_walk 16 = .ok (.aload_n 0, 1) := op42 (bA_at bd03_dec_X3_0_6 9 rfl rfl)
theorem dX3_walk_17 : decode cX3_walk 17 = .ok (.getfield 78, 3) := op180 (bA_at bd03_dec_X3_0_6 10 rfl rfl) rfl
theorem dX3_walk_20 : decode cX3_walk 20 = .ok (.iload_n 2, 1) := op28 (bA_at bd03_dec_X3_0_6 11 rfl rfl)
theorem dX3_walk_21 : decode cX3_walk 21 = .ok (.invokestatic 67, 3) := op184 (bA_at bd03_dec_X3_0_6 12 rfl rfl) rfl
theorem dX3_walk_24 : decode cX3_walk 24 = .ok (.ifCond .ne 22, 3) := op154 (bA_at bd03_dec_X3_0_6 13 rfl rfl) (by decide +kernel)
theorem dX3_walk_27 : decode cX3_walk 27 = .ok (.aload_n 0, 1) := op42 (bA_at bd03_dec_X3_0_6 14 rfl rfl)
theorem dX3_walk_28 : decode cX3_walk 28 = .ok (.aload_n 1, 1) := op43 (bA_at bd03_dec_X3_0_6 15 rfl rfl)
theorem dX3_walk_29 : decode cX3_walk 29 = .ok (.iload 4, 2) := op21 (bA_at bd03_dec_X3_0_6 16 rfl rfl) rfl
theorem dX3_walk_31 : decode cX3_walk 31 = .ok (.invokevirtual 118, 3) := op182 (bA_at bd03_dec_X3_0_6 17 rfl rfl) rfl
theorem dX3_walk_34 : decode cX3_walk 34 = .ok (.ifCond .ne 12, 3) := op154 (bA_at bd03_dec_X3_0_6 18 rfl rfl) (by decide +kernel)
theorem dX3_walk_37 : decode cX3_walk 37 = .ok (.aload_n 0, 1) := op42 (bA_at bd03_dec_X3_0_6 19 rfl rfl)
theorem dX3_walk_38 : decode cX3_walk 38 = .ok (.aload_n 1, 1) := op43 (bA_at bd03_dec_X3_0_6 20 rfl rfl)
theorem dX3_walk_39 : decode cX3_walk 39 = .ok (.iload_n 3, 1) := op29 (bA_at bd03_dec_X3_0_6 21 rfl rfl)
theorem dX3_walk_40 : decode cX3_walk 40 = .ok (.invokevirtual 118, 3) := op182 (bA_at bd03_dec_X3_0_6 22 rfl rfl) rfl
theorem dX3_walk_43 : decode cX3_walk 43 = .ok (.ifCond .eq 5, 3) := op153 (bA_at bd03_dec_X3_0_6 23 rfl rfl) (by decide +kernel)
theorem dX3_walk_46 : decode cX3_walk 46 = .ok (.iconst 0, 1) := op3 (bA_at bd03_dec_X3_0_6 24 rfl rfl)
theorem dX3_walk_47 : decode cX3_walk 47 = .ok (.ireturn, 1) := op172 (bA_at bd03_dec_X3_0_6 25 rfl rfl)
theorem dX3_walk_48 : decode cX3_walk 48 = .ok (.aload_n 1, 1) := op43 (bA_at bd03_dec_X3_0_6 26 rfl rfl)
theorem dX3_walk_49 : decode cX3_walk 49 = .ok (.getfield 121, 3) := op180 (bA_at bd03_dec_X3_0_6 27 rfl rfl) rfl
theorem dX3_walk_52 : decode cX3_walk 52 = .ok (.iload 4, 2) := op21 (bA_at bd03_dec_X3_0_6 28 rfl rfl) rfl
theorem dX3_walk_54 : decode cX3_walk 54 = .ok (.bipush 9, 2) := op16 (bA_at bd03_dec_X3_0_6 29 rfl rfl) (by decide +kernel)
theorem dX3_walk_56 : decode cX3_walk 56 = .ok (.imul, 1) := op104 (bA_at bd03_dec_X3_0_6 30 rfl rfl)
theorem dX3_walk_57 : decode cX3_walk 57 = .ok (.iload_n 3, 1) := op29 (bA_at bd03_dec_X3_0_6 31 rfl rfl)
theorem dX3_walk_58 : decode cX3_walk 58 = .ok (.iadd, 1) := op96 (bA_at bd03_dec_X3_0_6 32 rfl rfl)
theorem dX3_walk_59 : decode cX3_walk 59 = .ok (.iaload, 1) := op46 (bA_at bd03_dec_X3_0_6 33 rfl rfl)
theorem dX3_walk_60 : decode cX3_walk 60 = .ok (.istore 5, 2) := op54 (bA_at bd03_dec_X3_0_6 34 rfl rfl) rfl
theorem dX3_walk_62 : decode cX3_walk 62 = .ok (.iload 5, 2) := op21 (bA_at bd03_dec_X3_0_6 35 rfl rfl) rfl
theorem dX3_walk_64 : decode cX3_walk 64 = .ok (.ifCond .ne 5, 3) := op154 (bA_at bd03_dec_X3_0_6 36 rfl rfl) (by decide +kernel)
theorem dX3_walk_67 : decode cX3_walk 67 = .ok (.iconst 0, 1) := op3 (bA_at bd03_dec_X3_0_6 37 rfl rfl)
theorem dX3_walk_68 : decode cX3_walk 68 = .ok (.ireturn, 1) := op172 (bA_at bd03_dec_X3_0_6 38 rfl rfl)
theorem dX3_walk_69 : decode cX3_walk 69 = .ok (.aload_n 0, 1) := op42 (bA_at bd03_dec_X3_0_6 39 rfl rfl)
theorem dX3_walk_70 : decode cX3_walk 70 = .ok (.dup, 1) := op89 (bA_at bd03_dec_X3_0_6 40 rfl rfl)
theorem dX3_walk_71 : decode cX3_walk 71 = .ok (.getfield 72, 3) := op180 (bA_at bd03_dec_X3_0_6 41 rfl rfl) rfl
theorem dX3_walk_74 : decode cX3_walk 74 = .ok (.iload 5, 2) := op21 (bA_at bd03_dec_X3_0_6 42 rfl rfl) rfl
theorem dX3_walk_76 : decode cX3_walk 76 = .ok (.iadd, 1) := op96 (bA_at bd03_dec_X3_0_6 43 rfl rfl)
theorem dX3_walk_77 : decode cX3_walk 77 = .ok (.putfield 72, 3) := op181 (bA_at bd03_dec_X3_0_6 44 rfl rfl) rfl
theorem dX3_walk_80 : decode cX3_walk 80 = .ok (.aload_n 0, 1) := op42 (bA_at bd03_dec_X3_0_6 45 rfl rfl)
theorem dX3_walk_81 : decode cX3_walk 81 = .ok (.getfield 9, 3) := op180 (bA_at bd03_dec_X3_0_6 46 rfl rfl) rfl
theorem dX3_walk_84 : decode cX3_walk 84 = .ok (.iload_n 2, 1) := op28 (bA_at bd03_dec_X3_0_6 47 rfl rfl)
theorem dX3_walk_85 : decode cX3_walk 85 = .ok (.iload_n 3, 1) := op29 (bA_at bd03_dec_X3_0_6 48 rfl rfl)
theorem dX3_walk_86 : decode cX3_walk 86 = .ok (.iastore, 1) := op79 (bA_at bd03_dec_X3_0_6 49 rfl rfl)
theorem bd03_dec_X3_0_7 : ([(0, [4]), (1, [172])] : List (Nat × List UInt8)).all (fun x => prB x.2 ((cX3_walk.data.toList.drop 87).drop x.1)) = true := by decide +kernel
theorem dX3_walk_87 : decode cX3_walk 87 = .ok (.iconst 1, 1) := op4 (bA_at bd03_dec_X3_0_7 0 rfl rfl)
theorem dX3_walk_88 : decode cX3_walk 88 = .ok (.ireturn, 1) := op172 (bA_at bd03_dec_X3_0_7 1 rfl rfl)
theorem bd03_dec_X3_0_8 : ([(0, [42]), (1, [180, 0, 78]), (4, [28]), (5, [184, 0, 67]), (8, [154, 0, 17]), (11, [43]), (12, [180, 0, 124]), (15, [42]), (16, [180, 0, 9]), (19, [28]), (20, [46]), (21, [46]), (22, [154, 0, 5]), (25, [3]), (26, [172]), (27, [42]), (28, [89]), (29, [180, 0, 78]), (32, [4]), (33, [28]), (34, [120]), (35, [128]), (36, [181, 0, 78]), (39, [4]), (40, [172])] : List (Nat × List UInt8)).all (fun x => prB x.2 ((cX3_climb.data.toList.drop 0).drop x.1)) = true := by decide +kernel
theorem dX3_climb_0 : decode cX3_climb 0 = .ok (.aload_n 0, 1) := op42 (bA_at bd03_dec_X3_0_8 0 rfl rfl)
theorem dX3_climb_1 : decode cX3_climb 1 = .ok (.getfield 78, 3) := op180 (bA_at bd03_dec_X3_0_8 1 rfl rfl) rfl
theorem dX3_climb_4 : decode cX3_climb 4 = .ok (.iload_n 2, 1) := op28 (bA_at bd03_dec_X3_0_8 2 rfl rfl)
theorem dX3_climb_5 : decode cX3_climb 5 = .ok (.invokestatic 67, 3) := op184 (bA_at bd03_dec_X3_0_8 3 rfl rfl) rfl
theorem dX3_climb_8 : decode cX3_climb 8 = .ok (.ifCond .ne 17, 3) := op154 (bA_at bd03_dec_X3_0_8 4 rfl rfl) (by decide +kernel)
theorem dX3_climb_11 : decode cX3_climb 11 = .ok (.aload_n 1, 1) := op43 (bA_at bd03_dec_X3_0_8 5 rfl rfl)
theorem dX3_climb_12 : decode cX3_climb 12 = .ok (.getfield 124, 3) := op180 (bA_at bd03_dec_X3_0_8 6 rfl rfl) rfl
theorem dX3_climb_15 : decode cX3_climb 15 = .ok (.aload_n 0, 1) := op42 (bA_at bd03_dec_X3_0_8 7 rfl rfl)
theorem dX3_climb_16 : decode cX3_climb 16 = .ok (.getfield 9, 3) := op180 (bA_at bd03_dec_X3_0_8 8 rfl rfl) rfl
theorem dX3_climb_19 : decode cX3_climb 19 = .ok (.iload_n 2, 1) := op28 (bA_at bd03_dec_X3_0_8 9 rfl rfl)
theorem dX3_climb_20 : decode cX3_climb 20 = .ok (.iaload, 1) := op46 (bA_at bd03_dec_X3_0_8 10 rfl rfl)
theorem dX3_climb_21 : decode cX3_climb 21 = .ok (.iaload, 1) := op46 (bA_at bd03_dec_X3_0_8 11 rfl rfl)
theorem dX3_climb_22 : decode cX3_climb 22 = .ok (.ifCond .ne 5, 3) := op154 (bA_at bd03_dec_X3_0_8 12 rfl rfl) (by decide +kernel)
theorem dX3_climb_25 : decode cX3_climb 25 = .ok (.iconst 0, 1) := op3 (bA_at bd03_dec_X3_0_8 13 rfl rfl)
theorem dX3_climb_26 : decode cX3_climb 26 = .ok (.ireturn, 1) := op172 (bA_at bd03_dec_X3_0_8 14 rfl rfl)
theorem dX3_climb_27 : decode cX3_climb 27 = .ok (.aload_n 0, 1) := op42 (bA_at bd03_dec_X3_0_8 15 rfl rfl)
theorem dX3_climb_28 : decode cX3_climb 28 = .ok (.dup, 1) := op89 (bA_at bd03_dec_X3_0_8 16 rfl rfl)
theorem dX3_climb_29 : decode cX3_climb 29 = .ok (.getfield 78, 3) := op180 (bA_at bd03_dec_X3_0_8 17 rfl rfl) rfl
theorem dX3_climb_32 : decode cX3_climb 32 = .ok (.iconst 1, 1) := op4 (bA_at bd03_dec_X3_0_8 18 rfl rfl)
theorem dX3_climb_33 : decode cX3_climb 33 = .ok (.iload_n 2, 1) := op28 (bA_at bd03_dec_X3_0_8 19 rfl rfl)
theorem dX3_climb_34 : decode cX3_climb 34 = .ok (.ishl, 1) := op120 (bA_at bd03_dec_X3_0_8 20 rfl rfl)
theorem dX3_climb_35 : decode cX3_climb 35 = .ok (.ior, 1) := op128 (bA_at bd03_dec_X3_0_8 21 rfl rfl)
theorem dX3_climb_36 : decode cX3_climb 36 = .ok (.putfield 78, 3) := op181 (bA_at bd03_dec_X3_0_8 22 rfl rfl) rfl
theorem dX3_climb_39 : decode cX3_climb 39 = .ok (.iconst 1, 1) := op4 (bA_at bd03_dec_X3_0_8 23 rfl rfl)
theorem dX3_climb_40 : decode cX3_climb 40 = .ok (.ireturn, 1) := op172 (bA_at bd03_dec_X3_0_8 24 rfl rfl)
theorem bd03_dec_X3_0_9 : ([(0, [42]), (1, [180, 0, 78]), (4, [27]), (5, [184, 0, 67]), (8, [154, 0, 5]), (11, [3]), (12, [172]), (13, [42]), (14, [89]), (15, [180, 0, 78]), (18, [4]), (19, [27]), (20, [120]), (21, [2]), (22, [130]), (23, [126]), (24, [181, 0, 78]), (27, [4]), (28, [172])] : List (Nat × List UInt8)).all (fun x => prB x.2 ((cX3_descend.data.toList.drop 0).drop x.1)) = true := by decide +kernel
theorem dX3_descend_0 : decode cX3_descend 0 = .ok (.aload_n 0, 1) := op42 (bA_at bd03_dec_X3_0_9 0 rfl rfl)
theorem dX3_descend_1 : decode cX3_descend 1 = .ok (.getfield 78, 3) := op180 (bA_at bd03_dec_X3_0_9 1 rfl rfl) rfl
theorem dX3_descend_4 : decode cX3_descend 4 = .ok (.iload_n 1, 1) := op27 (bA_at bd03_dec_X3_0_9 2 rfl rfl)
theorem dX3_descend_5 : decode cX3_descend 5 = .ok (.invokestatic 67, 3) := op184 (bA_at bd03_dec_X3_0_9 3 rfl rfl) rfl
theorem dX3_descend_8 : decode cX3_descend 8 = .ok (.ifCond .ne 5, 3) := op154 (bA_at bd03_dec_X3_0_9 4 rfl rfl) (by decide +kernel)
theorem dX3_descend_11 : decode cX3_descend 11 = .ok (.iconst 0, 1) := op3 (bA_at bd03_dec_X3_0_9 5 rfl rfl)
theorem dX3_descend_12 : decode cX3_descend 12 = .ok (.ireturn, 1) := op172 (bA_at bd03_dec_X3_0_9 6 rfl rfl)
theorem dX3_descend_13 : decode cX3_descend 13 = .ok (.aload_n 0, 1) := op42 (bA_at bd03_dec_X3_0_9 7 rfl rfl)
theorem dX3_descend_14 : decode cX3_descend 14 = .ok (.dup, 1) := op89 (bA_at bd03_dec_X3_0_9 8 rfl rfl)
theorem dX3_descend_15 : decode cX3_descend 15 = .ok (.getfield 78, 3) := op180 (bA_at bd03_dec_X3_0_9 9 rfl rfl) rfl
theorem dX3_descend_18 : decode cX3_descend 18 = .ok (.iconst 1, 1) := op4 (bA_at bd03_dec_X3_0_9 10 rfl rfl)
theorem dX3_descend_19 : decode cX3_descend 19 = .ok (.iload_n 1, 1) := op27 (bA_at bd03_dec_X3_0_9 11 rfl rfl)
theorem dX3_descend_20 : decode cX3_descend 20 = .ok (.ishl, 1) := op120 (bA_at bd03_dec_X3_0_9 12 rfl rfl)
theorem dX3_descend_21 : decode cX3_descend 21 = .ok (.iconst (-1), 1) := op2 (bA_at bd03_dec_X3_0_9 13 rfl rfl)
theorem dX3_descend_22 : decode cX3_descend 22 = .ok (.ixor, 1) := op130 (bA_at bd03_dec_X3_0_9 14 rfl rfl)
theorem dX3_descend_23 : decode cX3_descend 23 = .ok (.iand, 1) := op126 (bA_at bd03_dec_X3_0_9 15 rfl rfl)
theorem dX3_descend_24 : decode cX3_descend 24 = .ok (.putfield 78, 3) := op181 (bA_at bd03_dec_X3_0_9 16 rfl rfl) rfl
theorem dX3_descend_27 : decode cX3_descend 27 = .ok (.iconst 1, 1) := op4 (bA_at bd03_dec_X3_0_9 17 rfl rfl)
theorem dX3_descend_28 : decode cX3_descend 28 = .ok (.ireturn, 1) := op172 (bA_at bd03_dec_X3_0_9 18 rfl rfl)
theorem bd03_dec_X3_0_10 : ([(0, [42]), (1, [180, 0, 9]), (4, [29]), (5, [46]), (6, [54, 5]), (8, [21, 4]), (10, [155, 0, 32]), (13, [21, 4]), (15, [8]), (16, [162, 0, 26]), (19, [42]), (20, [180, 0, 15]), (23, [29]), (24, [46]), (25, [21, 4]), (27, [184, 0, 67]), (30, [153, 0, 12]), (33, [43]), (34, [21, 5]), (36, [182, 0, 127]), (39, [153, 0, 5]), (42, [3]), (43, [172]), (44, [42]), (45, [180, 0, 64]), (48, [21, 4]), (50, [184, 0, 67]), (53, [28]), (54, [154, 0, 7]), (57, [4]), (58, [167, 0, 4]), (61, [3]), (62, [160, 0, 5]), (65, [3]), (66, [172]), (67, [42]), (68, [43]), (69, [29]), (70, [182, 0, 130]), (73, [54, 6]), (75, [28]), (76, [21, 6]), (78, [42]), (79, [180, 0, 18]), (82, [21, 4]), (84, [46]), (85, [184, 0, 134]), (88, [153, 0, 24]), (91, [42]), (92, [89])] : List (Nat × List UInt8)).all (fun x => prB x.2 ((cX3_raise.data.toList.drop 0).drop x.1)) = true := by decide +kernel
theorem dX3_raise_0 : decode cX3_raise 0 = .ok (.aload_n 0, 1) := op42 (bA_at bd03_dec_X3_0_10 0 rfl rfl)
theorem dX3_raise_1 : decode cX3_raise 1 = .ok (.getfield 9, 3) := op180 (bA_at bd03_dec_X3_0_10 1 rfl rfl) rfl
theorem dX3_raise_4 : decode cX3_raise 4 = .ok (.iload_n 3, 1) := op29 (bA_at bd03_dec_X3_0_10 2 rfl rfl)
theorem dX3_raise_5 : decode cX3_raise 5 = .ok (.iaload, 1) := op46 (bA_at bd03_dec_X3_0_10 3 rfl rfl)
theorem dX3_raise_6 : decode cX3_raise 6 = .ok (.istore 5, 2) := op54 (bA_at bd03_dec_X3_0_10 4 rfl rfl) rfl
theorem dX3_raise_8 : decode cX3_raise 8 = .ok (.iload 4, 2) := op21 (bA_at bd03_dec_X3_0_10 5 rfl rfl) rfl
theorem dX3_raise_10 : decode cX3_raise 10 = .ok (.ifCond .lt 32, 3) := op155 (bA_at bd03_dec_X3_0_10 6 rfl rfl) (by decide +kernel)
theorem dX3_raise_13 : decode cX3_raise 13 = .ok (.iload 4, 2) := op21 (bA_at bd03_dec_X3_0_10 7 rfl rfl) rfl
theorem dX3_raise_15 : decode cX3_raise 15 = .ok (.iconst 5, 1) := op8 (bA_at bd03_dec_X3_0_10 8 rfl rfl)
theorem dX3_raise_16 : decode cX3_raise 16 = .ok (.if_icmp .ge 26, 3) := op162 (bA_at bd03_dec_X3_0_10 9 rfl rfl) (by decide +kernel)
theorem dX3_raise_19 : decode cX3_raise 19 = .ok (.aload_n 0, 1) := op42 (bA_at bd03_dec_X3_0_10 10 rfl rfl)
theorem dX3_raise_20 : decode cX3_raise 20 = .ok (.getfield 15, 3) := op180 (bA_at bd03_dec_X3_0_10 11 rfl rfl) rfl
theorem dX3_raise_23 : decode cX3_raise 23 = .ok (.iload_n 3, 1) := op29 (bA_at bd03_dec_X3_0_10 12 rfl rfl)
theorem dX3_raise_24 : decode cX3_raise 24 = .ok (.iaload, 1) := op46 (bA_at bd03_dec_X3_0_10 13 rfl rfl)
theorem dX3_raise_25 : decode cX3_raise 25 = .ok (.iload 4, 2) := op21 (bA_at bd03_dec_X3_0_10 14 rfl rfl) rfl
theorem dX3_raise_27 : decode cX3_raise 27 = .ok (.invokestatic 67, 3) := op184 (bA_at bd03_dec_X3_0_10 15 rfl rfl) rfl
theorem dX3_raise_30 : decode cX3_raise 30 = .ok (.ifCond .eq 12, 3) := op153 (bA_at bd03_dec_X3_0_10 16 rfl rfl) (by decide +kernel)
theorem dX3_raise_33 : decode cX3_raise 33 = .ok (.aload_n 1, 1) := op43 (bA_at bd03_dec_X3_0_10 17 rfl rfl)
theorem dX3_raise_34 : decode cX3_raise 34 = .ok (.iload 5, 2) := op21 (bA_at bd03_dec_X3_0_10 18 rfl rfl) rfl
theorem dX3_raise_36 : decode cX3_raise 36 = .ok (.invokevirtual 127, 3) := op182 (bA_at bd03_dec_X3_0_10 19 rfl rfl) rfl
theorem dX3_raise_39 : decode cX3_raise 39 = .ok (.ifCond .eq 5, 3) := op153 (bA_at bd03_dec_X3_0_10 20 rfl rfl) (by decide +kernel)
theorem dX3_raise_42 : decode cX3_raise 42 = .ok (.iconst 0, 1) := op3 (bA_at bd03_dec_X3_0_10 21 rfl rfl)
theorem dX3_raise_43 : decode cX3_raise 43 = .ok (.ireturn, 1) := op172 (bA_at bd03_dec_X3_0_10 22 rfl rfl)
theorem dX3_raise_44 : decode cX3_raise 44 = .ok (.aload_n 0, 1) := op42 (bA_at bd03_dec_X3_0_10 23 rfl rfl)
theorem dX3_raise_45 : decode cX3_raise 45 = .ok (.getfield 64, 3) := op180 (bA_at bd03_dec_X3_0_10 24 rfl rfl) rfl
theorem dX3_raise_48 : decode cX3_raise 48 = .ok (.iload 4, 2) := op21 (bA_at bd03_dec_X3_0_10 25 rfl rfl) rfl
theorem dX3_raise_50 : decode cX3_raise 50 = .ok (.invokestatic 67, 3) := op184 (bA_at bd03_dec_X3_0_10 26 rfl rfl) rfl
theorem dX3_raise_53 : decode cX3_raise 53 = .ok (.iload_n 2, 1) := op28 (bA_at bd03_dec_X3_0_10 27 rfl rfl)
theorem dX3_raise_54 : decode cX3_raise 54 = .ok (.ifCond .ne 7, 3) := op154 (bA_at bd03_dec_X3_0_10 28 rfl rfl) (by decide +kernel)
theorem dX3_raise_57 : decode cX3_raise 57 = .ok (.iconst 1, 1) := op4 (bA_at bd03_dec_X3_0_10 29 rfl rfl)
theorem dX3_raise_58 : decode cX3_raise 58 = .ok (.goto 4, 3) := op167 (bA_at bd03_dec_X3_0_10 30 rfl rfl) (by decide +kernel)
theorem dX3_raise_61 : decode cX3_raise 61 = .ok (.iconst 0, 1) := op3 (bA_at bd03_dec_X3_0_10 31 rfl rfl)
theorem dX3_raise_62 : decode cX3_raise 62 = .ok (.if_icmp .ne 5, 3) := op160 (bA_at bd03_dec_X3_0_10 32 rfl rfl) (by decide +kernel)
theorem dX3_raise_65 : decode cX3_raise 65 = .ok (.iconst 0, 1) := op3 (bA_at bd03_dec_X3_0_10 33 rfl rfl)
theorem dX3_raise_66 : decode cX3_raise 66 = .ok (.ireturn, 1) := op172 (bA_at bd03_dec_X3_0_10 34 rfl rfl)
theorem dX3_raise_67 : decode cX3_raise 67 = .ok (.aload_n 0, 1) := op42 (bA_at bd03_dec_X3_0_10 35 rfl rfl)
theorem dX3_raise_68 : decode cX3_raise 68 = .ok (.aload_n 1, 1) := op43 (bA_at bd03_dec_X3_0_10 36 rfl rfl)
theorem dX3_raise_69 : decode cX3_raise 69 = .ok (.iload_n 3, 1) := op29 (bA_at bd03_dec_X3_0_10 37 rfl rfl)
theorem dX3_raise_70 : decode cX3_raise 70 = .ok (.invokevirtual 130, 3) := op182 (bA_at bd03_dec_X3_0_10 38 rfl rfl) rfl
theorem dX3_raise_73 : decode cX3_raise 73 = .ok (.istore 6, 2) := op54 (bA_at bd03_dec_X3_0_10 39 rfl rfl) rfl
theorem dX3_raise_75 : decode cX3_raise 75 = .ok (.iload_n 2, 1) := op28 (bA_at bd03_dec_X3_0_10 40 rfl rfl)
theorem dX3_raise_76 : decode cX3_raise 76 = .ok (.iload 6, 2) := op21 (bA_at bd03_dec_X3_0_10 41 rfl rfl) rfl
theorem dX3_raise_78 : decode cX3_raise 78 = .ok (.aload_n 0, 1) := op42 (bA_at bd03_dec_X3_0_10 42 rfl rfl)
theorem dX3_raise_79 : decode cX3_raise 79 = .ok (.getfield 18, 3) := op180 (bA_at bd03_dec_X3_0_10 43 rfl rfl) rfl
theorem dX3_raise_82 : decode cX3_raise 82 = .ok (.iload 4, 2) := op21 (bA_at bd03_dec_X3_0_10 44 rfl rfl) rfl
theorem dX3_raise_84 : decode cX3_raise 84 = .ok (.iaload, 1) := op46 (bA_at bd03_dec_X3_0_10 45 rfl rfl)
theorem dX3_raise_85 : decode cX3_raise 85 = .ok (.invokestatic 134, 3) := op184 (bA_at bd03_dec_X3_0_10 46 rfl rfl) rfl
theorem dX3_raise_88 : decode cX3_raise 88 = .ok (.ifCond .eq 24, 3) := op153 (bA_at bd03_dec_X3_0_10 47 rfl rfl) (by decide +kernel)
theorem dX3_raise_91 : decode cX3_raise 91 = .ok (.aload_n 0, 1) := op42 (bA_at bd03_dec_X3_0_10 48 rfl rfl)
theorem dX3_raise_92 : decode cX3_raise 92 = .ok (.dup, 1) := op89 (bA_at bd03_dec_X3_0_10 49 rfl rfl)
theorem bd03_dec_X3_0_11 : ([(0, [180, 0, 75]), (3, [4]), (4, [96]), (5, [181, 0, 75]), (8, [42]), (9, [180, 0, 21]), (12, [21, 5]), (14, [92]), (15, [46]), (16, [4]), (17, [96]), (18, [79]), (19, [42]), (20, [89]), (21, [180, 0, 64]), (24, [4]), (25, [21, 4]), (27, [120]), (28, [128]), (29, [181, 0, 64]), (32, [42]), (33, [180, 0, 18]), (36, [21, 4]), (38, [21, 6]), (40, [79]), (41, [42]), (42, [43]), (43, [43]), (44, [21, 5]), (46, [182, 0, 138]), (49, [182, 0, 141]), (52, [54, 7]), (54, [3]), (55, [54, 8]), (57, [21, 8]), (59, [43]), (60, [180, 0, 53]), (63, [162, 0, 33]), (66, [21, 7]), (68, [21, 8]), (70, [184, 0, 67]), (73, [153, 0, 17]), (76, [42]), (77, [180, 0, 15]), (80, [21, 8]), (82, [92]), (83, [46]), (84, [4]), (85, [21, 4]), (87, [120])] : List (Nat × List UInt8)).all (fun x => prB x.2 ((cX3_raise.data.toList.drop 93).drop x.1)) = true := by decide +kernel
theorem dX3_raise_93 : decode cX3_raise 93 = .ok (.getfield 75, 3) := op180 (bA_at bd03_dec_X3_0_11 0 rfl rfl) rfl
theorem dX3_raise_96 : decode cX3_raise 96 = .ok (.iconst 1, 1) := op4 (bA_at bd03_dec_X3_0_11 1 rfl rfl)
theorem dX3_raise_97 : decode cX3_raise 97 = .ok (.iadd, 1) := op96 (bA_at bd03_dec_X3_0_11 2 rfl rfl)
theorem dX3_raise_98 : decode cX3_raise 98 = .ok (.putfield 75, 3) := op181 (bA_at bd03_dec_X3_0_11 3 rfl rfl) rfl
theorem dX3_raise_101 : decode cX3_raise 101 = .ok (.aload_n 0, 1) := op42 (bA_at bd03_dec_X3_0_11 4 rfl rfl)
theorem dX3_raise_102 : decode cX3_raise 102 = .ok (.getfield 21, 3) := op180 (bA_at bd03_dec_X3_0_11 5 rfl rfl) rfl
theorem dX3_raise_105 : decode cX3_raise 105 = .ok (.iload 5, 2) := op21 (bA_at bd03_dec_X3_0_11 6 rfl rfl) rfl
theorem dX3_raise_107 : decode cX3_raise 107 = .ok (.dup2, 1) := op92 (bA_at bd03_dec_X3_0_11 7 rfl rfl)
theorem dX3_raise_108 : decode cX3_raise 108 = .ok (.iaload, 1) := op46 (bA_at bd03_dec_X3_0_11 8 rfl rfl)
theorem dX3_raise_109 : decode cX3_raise 109 = .ok (.iconst 1, 1) := op4 (bA_at bd03_dec_X3_0_11 9 rfl rfl)
theorem dX3_raise_110 : decode cX3_raise 110 = .ok (.iadd, 1) := op96 (bA_at bd03_dec_X3_0_11 10 rfl rfl)
theorem dX3_raise_111 : decode cX3_raise 111 = .ok (.iastore, 1) := op79 (bA_at bd03_dec_X3_0_11 11 rfl rfl)
theorem dX3_raise_112 : decode cX3_raise 112 = .ok (.aload_n 0, 1) := op42 (bA_at bd03_dec_X3_0_11 12 rfl rfl)
theorem dX3_raise_113 : decode cX3_raise 113 = .ok (.dup, 1) := op89 (bA_at bd03_dec_X3_0_11 13 rfl rfl)
theorem dX3_raise_114 : decode cX3_raise 114 = .ok (.getfield 64, 3) := op180 (bA_at bd03_dec_X3_0_11 14 rfl rfl) rfl
theorem dX3_raise_117 : decode cX3_raise 117 = .ok (.iconst 1, 1) := op4 (bA_at bd03_dec_X3_0_11 15 rfl rfl)
theorem dX3_raise_118 : decode cX3_raise 118 = .ok (.iload 4, 2) := op21 (bA_at bd03_dec_X3_0_11 16 rfl rfl) rfl
theorem dX3_raise_120 : decode cX3_raise 120 = .ok (.ishl, 1) := op120 (bA_at bd03_dec_X3_0_11 17 rfl rfl)
theorem dX3_raise_121 : decode cX3_raise 121 = .ok (.ior, 1) := op128 (bA_at bd03_dec_X3_0_11 18 rfl rfl)
theorem dX3_raise_122 : decode cX3_raise 122 = .ok (.putfield 64, 3) := op181 (bA_at bd03_dec_X3_0_11 19 rfl rfl) rfl
theorem dX3_raise_125 : decode cX3_raise 125 = .ok (.aload_n 0, 1) := op42 (bA_at bd03_dec_X3_0_11 20 rfl rfl)
theorem dX3_raise_126 : decode cX3_raise 126 = .ok (.getfield 18, 3) := op180 (bA_at bd03_dec_X3_0_11 21 rfl rfl) rfl
theorem dX3_raise_129 : decode cX3_raise 129 = .ok (.iload 4, 2) := op21 (bA_at bd03_dec_X3_0_11 22 rfl rfl) rfl
theorem dX3_raise_131 : decode cX3_raise 131 = .ok (.iload 6, 2) := op21 (bA_at bd03_dec_X3_0_11 23 rfl rfl) rfl
theorem dX3_raise_133 : decode cX3_raise 133 = .ok (.iastore, 1) := op79 (bA_at bd03_dec_X3_0_11 24 rfl rfl)
theorem dX3_raise_134 : decode cX3_raise 134 = .ok (.aload_n 0, 1) := op42 (bA_at bd03_dec_X3_0_11 25 rfl rfl)
theorem dX3_raise_135 : decode cX3_raise 135 = .ok (.aload_n 1, 1) := op43 (bA_at bd03_dec_X3_0_11 26 rfl rfl)
theorem dX3_raise_136 : decode cX3_raise 136 = .ok (.aload_n 1, 1) := op43 (bA_at bd03_dec_X3_0_11 27 rfl rfl)
theorem dX3_raise_137 : decode cX3_raise 137 = .ok (.iload 5, 2) := op21 (bA_at bd03_dec_X3_0_11 28 rfl rfl) rfl
theorem dX3_raise_139 : decode cX3_raise 139 = .ok (.invokevirtual 138, 3) := op182 (bA_at bd03_dec_X3_0_11 29 rfl rfl) rfl
theorem dX3_raise_142 : decode cX3_raise 142 = .ok (.invokevirtual 141, 3) := op182 (bA_at bd03_dec_X3_0_11 30 rfl rfl) rfl
theorem dX3_raise_145 : decode cX3_raise 145 = .ok (.istore 7, 2) := op54 (bA_at bd03_dec_X3_0_11 31 rfl rfl) rfl
theorem dX3_raise_147 : decode cX3_raise 147 = .ok (.iconst 0, 1) := op3 (bA_at bd03_dec_X3_0_11 32 rfl rfl)
theorem dX3_raise_148 : decode cX3_raise 148 = .ok (.istore 8, 2) := op54 (bA_at bd03_dec_X3_0_11 33 rfl rfl) rfl
theorem dX3_raise_150 : decode cX3_raise 150 = .ok (.iload 8, 2) := op21 (bA_at bd03_dec_X3_0_11 34 rfl rfl) rfl
theorem dX3_raise_152 : decode cX3_raise 152 = .ok (.aload_n 1, 1) := op43 (bA_at bd03_dec_X3_0_11 35 rfl rfl)
theorem dX3_raise_153 : decode cX3_raise 153 = .ok (.getfield 53, 3) := op180 (bA_at bd03_dec_X3_0_11 36 rfl rfl) rfl
theorem dX3_raise_156 : decode cX3_raise 156 = .ok (.if_icmp .ge 33, 3) := op162 (bA_at bd03_dec_X3_0_11 37 rfl rfl) (by decide +kernel)
theorem dX3_raise_159 : decode cX3_raise 159 = .ok (.iload 7, 2) := op21 (bA_at bd03_dec_X3_0_11 38 rfl rfl) rfl
theorem dX3_raise_161 : decode cX3_raise 161 = .ok (.iload 8, 2) := op21 (bA_at bd03_dec_X3_0_11 39 rfl rfl) rfl
theorem dX3_raise_163 : decode cX3_raise 163 = .ok (.invokestatic 67, 3) := op184 (bA_at bd03_dec_X3_0_11 40 rfl rfl) rfl
theorem dX3_raise_166 : decode cX3_raise 166 = .ok (.ifCond .eq 17, 3) := op153 (bA_at bd03_dec_X3_0_11 41 rfl rfl) (by decide +kernel)
theorem dX3_raise_169 : decode cX3_raise 169 = .ok (.aload_n 0, 1) := op42 (bA_at bd03_dec_X3_0_11 42 rfl rfl)
theorem dX3_raise_170 : decode cX3_raise 170 = .ok (.getfield 15, 3) := op180 (bA_at bd03_dec_X3_0_11 43 rfl rfl) rfl
theorem dX3_raise_173 : decode cX3_raise 173 = .ok (.iload 8, 2) := op21 (bA_at bd03_dec_X3_0_11 44 rfl rfl) rfl
theorem dX3_raise_175 : decode cX3_raise 175 = .ok (.dup2, 1) := op92 (bA_at bd03_dec_X3_0_11 45 rfl rfl)
theorem dX3_raise_176 : decode cX3_raise 176 = .ok (.iaload, 1) := op46 (bA_at bd03_dec_X3_0_11 46 rfl rfl)
theorem dX3_raise_177 : decode cX3_raise 177 = .ok (.iconst 1, 1) := op4 (bA_at bd03_dec_X3_0_11 47 rfl rfl)
theorem dX3_raise_178 : decode cX3_raise 178 = .ok (.iload 4, 2) := op21 (bA_at bd03_dec_X3_0_11 48 rfl rfl) rfl
theorem dX3_raise_180 : decode cX3_raise 180 = .ok (.ishl, 1) := op120 (bA_at bd03_dec_X3_0_11 49 rfl rfl)
theorem bd03_dec_X3_0_12 : ([(0, [128]), (1, [79]), (2, [132, 8, 1]), (5, [167, 255, 220]), (8, [4]), (9, [172])] : List (Nat × List UInt8)).all (fun x => prB x.2 ((cX3_raise.data.toList.drop 181).drop x.1)) = true := by decide +kernel
theorem dX3_raise_181 : decode cX3_raise 181 = .ok (.ior, 1) := op128 (bA_at bd03_dec_X3_0_12 0 rfl rfl)
theorem dX3_raise_182 : decode cX3_raise 182 = .ok (.iastore, 1) := op79 (bA_at bd03_dec_X3_0_12 1 rfl rfl)
theorem dX3_raise_183 : decode cX3_raise 183 = .ok (.iinc 8 1, 3) := op132 (bA_at bd03_dec_X3_0_12 2 rfl rfl) rfl (by decide +kernel)
theorem dX3_raise_186 : decode cX3_raise 186 = .ok (.goto (-36), 3) := op167 (bA_at bd03_dec_X3_0_12 3 rfl rfl) (by decide +kernel)
theorem dX3_raise_189 : decode cX3_raise 189 = .ok (.iconst 1, 1) := op4 (bA_at bd03_dec_X3_0_12 4 rfl rfl)
theorem dX3_raise_190 : decode cX3_raise 190 = .ok (.ireturn, 1) := op172 (bA_at bd03_dec_X3_0_12 5 rfl rfl)
theorem bd03_dec_X3_0_13 : ([(0, [26]), (1, [4]), (2, [160, 0, 14]), (5, [27]), (6, [28]), (7, [161, 0, 7]), (10, [4]), (11, [167, 0, 4]), (14, [3]), (15, [172]), (16, [26]), (17, [5]), (18, [160, 0, 12]), (21, [27]), (22, [28]), (23, [164, 0, 7]), (26, [4]), (27, [167, 0, 4]), (30, [3]), (31, [172])] : List (Nat × List UInt8)).all (fun x => prB x.2 ((cX3_isWrong.data.toList.drop 0).drop x.1)) = true := by decide +kernel
theorem dX3_isWrong_0 : decode cX3_isWrong 0 = .ok (.iload_n 0, 1) := op26 (bA_at bd03_dec_X3_0_13 0 rfl rfl)
theorem dX3_isWrong_1 : decode cX3_isWrong 1 = .ok (.iconst 1, 1) := op4 (bA_at bd03_dec_X3_0_13 1 rfl rfl)
theorem dX3_isWrong_2 : decode cX3_isWrong 2 = .ok (.if_icmp .ne 14, 3) := op160 (bA_at bd03_dec_X3_0_13 2 rfl rfl) (by decide +kernel)
theorem dX3_isWrong_5 : decode cX3_isWrong 5 = .ok (.iload_n 1, 1) := op27 (bA_at bd03_dec_X3_0_13 3 rfl rfl)
theorem dX3_isWrong_6 : decode cX3_isWrong 6 = .ok (.iload_n 2, 1) := op28 (bA_at bd03_dec_X3_0_13 4 rfl rfl)
theorem dX3_isWrong_7 : decode cX3_isWrong 7 = .ok (.if_icmp .lt 7, 3) := op161 (bA_at bd03_dec_X3_0_13 5 rfl rfl) (by decide +kernel)
theorem dX3_isWrong_10 : decode cX3_isWrong 10 = .ok (.iconst 1, 1) := op4 (bA_at bd03_dec_X3_0_13 6 rfl rfl)
theorem dX3_isWrong_11 : decode cX3_isWrong 11 = .ok (.goto 4, 3) := op167 (bA_at bd03_dec_X3_0_13 7 rfl rfl) (by decide +kernel)
theorem dX3_isWrong_14 : decode cX3_isWrong 14 = .ok (.iconst 0, 1) := op3 (bA_at bd03_dec_X3_0_13 8 rfl rfl)
theorem dX3_isWrong_15 : decode cX3_isWrong 15 = .ok (.ireturn, 1) := op172 (bA_at bd03_dec_X3_0_13 9 rfl rfl)
theorem dX3_isWrong_16 : decode cX3_isWrong 16 = .ok (.iload_n 0, 1) := op26 (bA_at bd03_dec_X3_0_13 10 rfl rfl)
theorem dX3_isWrong_17 : decode cX3_isWrong 17 = .ok (.iconst 2, 1) := op5 (bA_at bd03_dec_X3_0_13 11 rfl rfl)
theorem dX3_isWrong_18 : decode cX3_isWrong 18 = .ok (.if_icmp .ne 12, 3) := op160 (bA_at bd03_dec_X3_0_13 12 rfl rfl) (by decide +kernel)
theorem dX3_isWrong_21 : decode cX3_isWrong 21 = .ok (.iload_n 1, 1) := op27 (bA_at bd03_dec_X3_0_13 13 rfl rfl)
theorem dX3_isWrong_22 : decode cX3_isWrong 22 = .ok (.iload_n 2, 1) := op28 (bA_at bd03_dec_X3_0_13 14 rfl rfl)
theorem dX3_isWrong_23 : decode cX3_isWrong 23 = .ok (.if_icmp .le 7, 3) := op164 (bA_at bd03_dec_X3_0_13 15 rfl rfl) (by decide +kernel)
theorem dX3_isWrong_26 : decode cX3_isWrong 26 = .ok (.iconst 1, 1) := op4 (bA_at bd03_dec_X3_0_13 16 rfl rfl)
theorem dX3_isWrong_27 : decode cX3_isWrong 27 = .ok (.goto 4, 3) := op167 (bA_at bd03_dec_X3_0_13 17 rfl rfl) (by decide +kernel)
theorem dX3_isWrong_30 : decode cX3_isWrong 30 = .ok (.iconst 0, 1) := op3 (bA_at bd03_dec_X3_0_13 18 rfl rfl)
theorem dX3_isWrong_31 : decode cX3_isWrong 31 = .ok (.ireturn, 1) := op172 (bA_at bd03_dec_X3_0_13 19 rfl rfl)
theorem bd03_dec_X3_0_14 : ([(0, [42]), (1, [180, 0, 21]), (4, [28]), (5, [46]), (6, [43]), (7, [180, 0, 144]), (10, [161, 0, 7]), (13, [4]), (14, [167, 0, 4]), (17, [3]), (18, [172])] : List (Nat × List UInt8)).all (fun x => prB x.2 ((cX3_isCut.data.toList.drop 0).drop x.1)) = true := by decide +kernel
theorem dX3_isCut_0 : decode cX3_isCut 0 = .ok (.aload_n 0, 1) := op42 (bA_at bd03_dec_X3_0_14 0 rfl rfl)
theorem dX3_isCut_1 : decode cX3_isCut 1 = .ok (.getfield 21, 3) := op180 (bA_at bd03_dec_X3_0_14 1 rfl rfl) rfl
theorem dX3_isCut_4 : decode cX3_isCut 4 = .ok (.iload_n 2, 1) := op28 (bA_at bd03_dec_X3_0_14 2 rfl rfl)
theorem dX3_isCut_5 : decode cX3_isCut 5 = .ok (.iaload, 1) := op46 (bA_at bd03_dec_X3_0_14 3 rfl rfl)
theorem dX3_isCut_6 : decode cX3_isCut 6 = .ok (.aload_n 1, 1) := op43 (bA_at bd03_dec_X3_0_14 4 rfl rfl)
theorem dX3_isCut_7 : decode cX3_isCut 7 = .ok (.getfield 144, 3) := op180 (bA_at bd03_dec_X3_0_14 5 rfl rfl) rfl
theorem dX3_isCut_10 : decode cX3_isCut 10 = .ok (.if_icmp .lt 7, 3) := op161 (bA_at bd03_dec_X3_0_14 6 rfl rfl) (by decide +kernel)
theorem dX3_isCut_13 : decode cX3_isCut 13 = .ok (.iconst 1, 1) := op4 (bA_at bd03_dec_X3_0_14 7 rfl rfl)
theorem dX3_isCut_14 : decode cX3_isCut 14 = .ok (.goto 4, 3) := op167 (bA_at bd03_dec_X3_0_14 8 rfl rfl) (by decide +kernel)
theorem dX3_isCut_17 : decode cX3_isCut 17 = .ok (.iconst 0, 1) := op3 (bA_at bd03_dec_X3_0_14 9 rfl rfl)
theorem dX3_isCut_18 : decode cX3_isCut 18 = .ok (.ireturn, 1) := op172 (bA_at bd03_dec_X3_0_14 10 rfl rfl)
theorem bd03_dec_X3_0_15 : ([(0, [42]), (1, [180, 0, 9]), (4, [28]), (5, [46]), (6, [62]), (7, [43]), (8, [180, 0, 147]), (11, [29]), (12, [46]), (13, [43]), (14, [180, 0, 150]), (17, [28]), (18, [46]), (19, [100]), (20, [54, 4]), (22, [42]), (23, [180, 0, 78]), (26, [28]), (27, [184, 0, 67]), (30, [153, 0, 15]), (33, [21, 4]), (35, [43]), (36, [180, 0, 124]), (39, [29]), (40, [46]), (41, [96]), (42, [167, 0, 5]), (45, [21, 4]), (47, [172])] : List (Nat × List UInt8)).all (fun x => prB x.2 ((cX3_high.data.toList.drop 0).drop x.1)) = true := by decide +kernel
theorem dX3_high_0 : decode cX3_high 0 = .ok (.aload_n 0, 1) := op42 (bA_at bd03_dec_X3_0_15 0 rfl rfl)
theorem dX3_high_1 : decode cX3_high 1 = .ok (.getfield 9, 3) := op180 (bA_at bd03_dec_X3_0_15 1 rfl rfl) rfl
theorem dX3_high_4 : decode cX3_high 4 = .ok (.iload_n 2, 1) := op28 (bA_at bd03_dec_X3_0_15 2 rfl rfl)
theorem dX3_high_5 : decode cX3_high 5 = .ok (.iaload, 1) := op46 (bA_at bd03_dec_X3_0_15 3 rfl rfl)
theorem dX3_high_6 : decode cX3_high 6 = .ok (.istore_n 3, 1) := op62 (bA_at bd03_dec_X3_0_15 4 rfl rfl)
theorem dX3_high_7 : decode cX3_high 7 = .ok (.aload_n 1, 1) := op43 (bA_at bd03_dec_X3_0_15 5 rfl rfl)
theorem dX3_high_8 : decode cX3_high 8 = .ok (.getfield 147, 3) := op180 (bA_at bd03_dec_X3_0_15 6 rfl rfl) rfl
theorem dX3_high_11 : decode cX3_high 11 = .ok (.iload_n 3, 1) := op29 (bA_at bd03_dec_X3_0_15 7 rfl rfl)
theorem dX3_high_12 : decode cX3_high 12 = .ok (.iaload, 1) := op46 (bA_at bd03_dec_X3_0_15 8 rfl rfl)
theorem dX3_high_13 : decode cX3_high 13 = .ok (.aload_n 1, 1) := op43 (bA_at bd03_dec_X3_0_15 9 rfl rfl)
theorem dX3_high_14 : decode cX3_high 14 = .ok (.getfield 150, 3) := op180 (bA_at bd03_dec_X3_0_15 10 rfl rfl) rfl
theorem dX3_high_17 : decode cX3_high 17 = .ok (.iload_n 2, 1) := op28 (bA_at bd03_dec_X3_0_15 11 rfl rfl)
theorem dX3_high_18 : decode cX3_high 18 = .ok (.iaload, 1) := op46 (bA_at bd03_dec_X3_0_15 12 rfl rfl)
theorem dX3_high_19 : decode cX3_high 19 = .ok (.isub, 1) := op100 (bA_at bd03_dec_X3_0_15 13 rfl rfl)
theorem dX3_high_20 : decode cX3_high 20 = .ok (.istore 4, 2) := op54 (bA_at bd03_dec_X3_0_15 14 rfl rfl) rfl
theorem dX3_high_22 : decode cX3_high 22 = .ok (.aload_n 0, 1) := op42 (bA_at bd03_dec_X3_0_15 15 rfl rfl)
theorem dX3_high_23 : decode cX3_high 23 = .ok (.getfield 78, 3) := op180 (bA_at bd03_dec_X3_0_15 16 rfl rfl) rfl
theorem dX3_high_26 : decode cX3_high 26 = .ok (.iload_n 2, 1) := op28 (bA_at bd03_dec_X3_0_15 17 rfl rfl)
theorem dX3_high_27 : decode cX3_high 27 = .ok (.invokestatic 67, 3) := op184 (bA_at bd03_dec_X3_0_15 18 rfl rfl) rfl
theorem dX3_high_30 : decode cX3_high 30 = .ok (.ifCond .eq 15, 3) := op153 (bA_at bd03_dec_X3_0_15 19 rfl rfl) (by decide +kernel)
theorem dX3_high_33 : decode cX3_high 33 = .ok (.iload 4, 2) := op21 (bA_at bd03_dec_X3_0_15 20 rfl rfl) rfl
theorem dX3_high_35 : decode cX3_high 35 = .ok (.aload_n 1, 1) := op43 (bA_at bd03_dec_X3_0_15 21 rfl rfl)
theorem dX3_high_36 : decode cX3_high 36 = .ok (.getfield 124, 3) := op180 (bA_at bd03_dec_X3_0_15 22 rfl rfl) rfl
theorem dX3_high_39 : decode cX3_high 39 = .ok (.iload_n 3, 1) := op29 (bA_at bd03_dec_X3_0_15 23 rfl rfl)
theorem dX3_high_40 : decode cX3_high 40 = .ok (.iaload, 1) := op46 (bA_at bd03_dec_X3_0_15 24 rfl rfl)
theorem dX3_high_41 : decode cX3_high 41 = .ok (.iadd, 1) := op96 (bA_at bd03_dec_X3_0_15 25 rfl rfl)
theorem dX3_high_42 : decode cX3_high 42 = .ok (.goto 5, 3) := op167 (bA_at bd03_dec_X3_0_15 26 rfl rfl) (by decide +kernel)
theorem dX3_high_45 : decode cX3_high 45 = .ok (.iload 4, 2) := op21 (bA_at bd03_dec_X3_0_15 27 rfl rfl) rfl
theorem dX3_high_47 : decode cX3_high 47 = .ok (.ireturn, 1) := op172 (bA_at bd03_dec_X3_0_15 28 rfl rfl)
theorem bd03_dec_X3_0_16 : ([(0, [3]), (1, [62]), (2, [3]), (3, [54, 4]), (5, [21, 4]), (7, [43]), (8, [180, 0, 53]), (11, [162, 0, 30]), (14, [28]), (15, [42]), (16, [180, 0, 9]), (19, [21, 4]), (21, [46]), (22, [184, 0, 67]), (25, [153, 0, 10]), (28, [29]), (29, [4]), (30, [21, 4]), (32, [120]), (33, [128]), (34, [62]), (35, [132, 4, 1]), (38, [167, 255, 223]), (41, [29]), (42, [172])] : List (Nat × List UInt8)).all (fun x => prB x.2 ((cX3_singersIn.data.toList.drop 0).drop x.1)) = true := by decide +kernel
theorem dX3_singersIn_0 : decode cX3_singersIn 0 = .ok (.iconst 0, 1) := op3 (bA_at bd03_dec_X3_0_16 0 rfl rfl)
theorem dX3_singersIn_1 : decode cX3_singersIn 1 = .ok (.istore_n 3, 1) := op62 (bA_at bd03_dec_X3_0_16 1 rfl rfl)
theorem dX3_singersIn_2 : decode cX3_singersIn 2 = .ok (.iconst 0, 1) := op3 (bA_at bd03_dec_X3_0_16 2 rfl rfl)
theorem dX3_singersIn_3 : decode cX3_singersIn 3 = .ok (.istore 4, 2) := op54 (bA_at bd03_dec_X3_0_16 3 rfl rfl) rfl
theorem dX3_singersIn_5 : decode cX3_singersIn 5 = .ok (.iload 4, 2) := op21 (bA_at bd03_dec_X3_0_16 4 rfl rfl) rfl
theorem dX3_singersIn_7 : decode cX3_singersIn 7 = .ok (.aload_n 1, 1) := op43 (bA_at bd03_dec_X3_0_16 5 rfl rfl)
theorem dX3_singersIn_8 : decode cX3_singersIn 8 = .ok (.getfield 53, 3) := op180 (bA_at bd03_dec_X3_0_16 6 rfl rfl) rfl
theorem dX3_singersIn_11 : decode cX3_singersIn 11 = .ok (.if_icmp .ge 30, 3) := op162 (bA_at bd03_dec_X3_0_16 7 rfl rfl) (by decide +kernel)
theorem dX3_singersIn_14 : decode cX3_singersIn 14 = .ok (.iload_n 2, 1) := op28 (bA_at bd03_dec_X3_0_16 8 rfl rfl)
theorem dX3_singersIn_15 : decode cX3_singersIn 15 = .ok (.aload_n 0, 1) := op42 (bA_at bd03_dec_X3_0_16 9 rfl rfl)
theorem dX3_singersIn_16 : decode cX3_singersIn 16 = .ok (.getfield 9, 3) := op180 (bA_at bd03_dec_X3_0_16 10 rfl rfl) rfl
theorem dX3_singersIn_19 : decode cX3_singersIn 19 = .ok (.iload 4, 2) := op21 (bA_at bd03_dec_X3_0_16 11 rfl rfl) rfl
theorem dX3_singersIn_21 : decode cX3_singersIn 21 = .ok (.iaload, 1) := op46 (bA_at bd03_dec_X3_0_16 12 rfl rfl)
theorem dX3_singersIn_22 : decode cX3_singersIn 22 = .ok (.invokestatic 67, 3) := op184 (bA_at bd03_dec_X3_0_16 13 rfl rfl) rfl
theorem dX3_singersIn_25 : decode cX3_singersIn 25 = .ok (.ifCond .eq 10, 3) := op153 (bA_at bd03_dec_X3_0_16 14 rfl rfl) (by decide +kernel)
theorem dX3_singersIn_28 : decode cX3_singersIn 28 = .ok (.iload_n 3, 1) := op29 (bA_at bd03_dec_X3_0_16 15 rfl rfl)
theorem dX3_singersIn_29 : decode cX3_singersIn 29 = .ok (.iconst 1, 1) := op4 (bA_at bd03_dec_X3_0_16 16 rfl rfl)
theorem dX3_singersIn_30 : decode cX3_singersIn 30 = .ok (.iload 4, 2) := op21 (bA_at bd03_dec_X3_0_16 17 rfl rfl) rfl
theorem dX3_singersIn_32 : decode cX3_singersIn 32 = .ok (.ishl, 1) := op120 (bA_at bd03_dec_X3_0_16 18 rfl rfl)
theorem dX3_singersIn_33 : decode cX3_singersIn 33 = .ok (.ior, 1) := op128 (bA_at bd03_dec_X3_0_16 19 rfl rfl)
theorem dX3_singersIn_34 : decode cX3_singersIn 34 = .ok (.istore_n 3, 1) := op62 (bA_at bd03_dec_X3_0_16 20 rfl rfl)
theorem dX3_singersIn_35 : decode cX3_singersIn 35 = .ok (.iinc 4 1, 3) := op132 (bA_at bd03_dec_X3_0_16 21 rfl rfl) rfl (by decide +kernel)
theorem dX3_singersIn_38 : decode cX3_singersIn 38 = .ok (.goto (-33), 3) := op167 (bA_at bd03_dec_X3_0_16 22 rfl rfl) (by decide +kernel)
theorem dX3_singersIn_41 : decode cX3_singersIn 41 = .ok (.iload_n 3, 1) := op29 (bA_at bd03_dec_X3_0_16 23 rfl rfl)
theorem dX3_singersIn_42 : decode cX3_singersIn 42 = .ok (.ireturn, 1) := op172 (bA_at bd03_dec_X3_0_16 24 rfl rfl)
theorem bd03_dec_X3_0_17 : ([(0, [3]), (1, [62]), (2, [3]), (3, [54, 4]), (5, [21, 4]), (7, [43]), (8, [180, 0, 53]), (11, [162, 0, 30]), (14, [42]), (15, [180, 0, 15]), (18, [21, 4]), (20, [46]), (21, [28]), (22, [184, 0, 67]), (25, [153, 0, 10]), (28, [29]), (29, [4]), (30, [21, 4]), (32, [120]), (33, [128]), (34, [62]), (35, [132, 4, 1]), (38, [167, 255, 223]), (41, [29]), (42, [172])] : List (Nat × List UInt8)).all (fun x => prB x.2 ((cX3_knowers.data.toList.drop 0).drop x.1)) = true := by decide +kernel
theorem dX3_knowers_0 : decode cX3_knowers 0 = .ok (.iconst 0, 1) := op3 (bA_at bd03_dec_X3_0_17 0 rfl rfl)
theorem dX3_knowers_1 : decode cX3_knowers 1 = .ok (.istore_n 3, 1) := op62 (bA_at bd03_dec_X3_0_17 1 rfl rfl)
theorem dX3_knowers_2 : decode cX3_knowers 2 = .ok (.iconst 0, 1) := op3 (bA_at bd03_dec_X3_0_17 2 rfl rfl)
theorem dX3_knowers_3 : decode cX3_knowers 3 = .ok (.istore 4, 2) := op54 (bA_at bd03_dec_X3_0_17 3 rfl rfl) rfl
theorem dX3_knowers_5 : decode cX3_knowers 5 = .ok (.iload 4, 2) := op21 (bA_at bd03_dec_X3_0_17 4 rfl rfl) rfl
theorem dX3_knowers_7 : decode cX3_knowers 7 = .ok (.aload_n 1, 1) := op43 (bA_at bd03_dec_X3_0_17 5 rfl rfl)
theorem dX3_knowers_8 : decode cX3_knowers 8 = .ok (.getfield 53, 3) := op180 (bA_at bd03_dec_X3_0_17 6 rfl rfl) rfl
theorem dX3_knowers_11 : decode cX3_knowers 11 = .ok (.if_icmp .ge 30, 3) := op162 (bA_at bd03_dec_X3_0_17 7 rfl rfl) (by decide +kernel)
theorem dX3_knowers_14 : decode cX3_knowers 14 = .ok (.aload_n 0, 1) := op42 (bA_at bd03_dec_X3_0_17 8 rfl rfl)
theorem dX3_knowers_15 : decode cX3_knowers 15 = .ok (.getfield 15, 3) := op180 (bA_at bd03_dec_X3_0_17 9 rfl rfl) rfl
theorem dX3_knowers_18 : decode cX3_knowers 18 = .ok (.iload 4, 2) := op21 (bA_at bd03_dec_X3_0_17 10 rfl rfl) rfl
theorem dX3_knowers_20 : decode cX3_knowers 20 = .ok (.iaload, 1) := op46 (bA_at bd03_dec_X3_0_17 11 rfl rfl)
theorem dX3_knowers_21 : decode cX3_knowers 21 = .ok (.iload_n 2, 1) := op28 (bA_at bd03_dec_X3_0_17 12 rfl rfl)
theorem dX3_knowers_22 : decode cX3_knowers 22 = .ok (.invokestatic 67, 3) := op184 (bA_at bd03_dec_X3_0_17 13 rfl rfl) rfl
theorem dX3_knowers_25 : decode cX3_knowers 25 = .ok (.ifCond .eq 10, 3) := op153 (bA_at bd03_dec_X3_0_17 14 rfl rfl) (by decide +kernel)
theorem dX3_knowers_28 : decode cX3_knowers 28 = .ok (.iload_n 3, 1) := op29 (bA_at bd03_dec_X3_0_17 15 rfl rfl)
theorem dX3_knowers_29 : decode cX3_knowers 29 = .ok (.iconst 1, 1) := op4 (bA_at bd03_dec_X3_0_17 16 rfl rfl)
theorem dX3_knowers_30 : decode cX3_knowers 30 = .ok (.iload 4, 2) := op21 (bA_at bd03_dec_X3_0_17 17 rfl rfl) rfl
theorem dX3_knowers_32 : decode cX3_knowers 32 = .ok (.ishl, 1) := op120 (bA_at bd03_dec_X3_0_17 18 rfl rfl)
theorem dX3_knowers_33 : decode cX3_knowers 33 = .ok (.ior, 1) := op128 (bA_at bd03_dec_X3_0_17 19 rfl rfl)
theorem dX3_knowers_34 : decode cX3_knowers 34 = .ok (.istore_n 3, 1) := op62 (bA_at bd03_dec_X3_0_17 20 rfl rfl)
theorem dX3_knowers_35 : decode cX3_knowers 35 = .ok (.iinc 4 1, 3) := op132 (bA_at bd03_dec_X3_0_17 21 rfl rfl) rfl (by decide +kernel)
theorem dX3_knowers_38 : decode cX3_knowers 38 = .ok (.goto (-33), 3) := op167 (bA_at bd03_dec_X3_0_17 22 rfl rfl) (by decide +kernel)
theorem dX3_knowers_41 : decode cX3_knowers 41 = .ok (.iload_n 3, 1) := op29 (bA_at bd03_dec_X3_0_17 23 rfl rfl)
theorem dX3_knowers_42 : decode cX3_knowers 42 = .ok (.ireturn, 1) := op172 (bA_at bd03_dec_X3_0_17 24 rfl rfl)
theorem dX3_look_23 : decode cX3_look 23 = .ok (.tableswitch 112 0 7 #[45, 52, 70, 112, 112, 112, 112, 91], 45) := by decide +kernel
theorem bd03_dec_X3_0_18 : ([(0, [28]), (1, [155, 0, 9]), (4, [28]), (5, [16, 79]), (7, [164, 0, 7]), (10, [17, 252, 24]), (13, [172]), (14, [28]), (15, [16, 10]), (17, [112]), (18, [62]), (19, [28]), (20, [16, 10]), (22, [108]), (68, [42]), (69, [43]), (70, [29]), (71, [182, 0, 153]), (74, [172]), (75, [29]), (76, [8]), (77, [162, 0, 12]), (80, [42]), (81, [180, 0, 18]), (84, [29]), (85, [46]), (86, [167, 0, 6]), (89, [17, 252, 24]), (92, [172]), (93, [29]), (94, [8]), (95, [162, 0, 15]), (98, [42]), (99, [43]), (100, [29]), (101, [182, 0, 156]), (104, [184, 0, 159]), (107, [167, 0, 6]), (110, [17, 252, 24]), (113, [172]), (114, [43]), (115, [29]), (116, [182, 0, 115]), (119, [153, 0, 12]), (122, [42]), (123, [180, 0, 21]), (126, [29]), (127, [46]), (128, [167, 0, 6])] : List (Nat × List UInt8)).all (fun x => prB x.2 ((cX3_look.data.toList.drop 0).drop x.1)) = true := by decide +kernel
theorem dX3_look_0 : decode cX3_look 0 = .ok (.iload_n 2, 1) := op28 (bA_at bd03_dec_X3_0_18 0 rfl rfl)
theorem dX3_look_1 : decode cX3_look 1 = .ok (.ifCond .lt 9, 3) := op155 (bA_at bd03_dec_X3_0_18 1 rfl rfl) (by decide +kernel)
theorem dX3_look_4 : decode cX3_look 4 = .ok (.iload_n 2, 1) := op28 (bA_at bd03_dec_X3_0_18 2 rfl rfl)
theorem dX3_look_5 : decode cX3_look 5 = .ok (.bipush 79, 2) := op16 (bA_at bd03_dec_X3_0_18 3 rfl rfl) (by decide +kernel)
theorem dX3_look_7 : decode cX3_look 7 = .ok (.if_icmp .le 7, 3) := op164 (bA_at bd03_dec_X3_0_18 4 rfl rfl) (by decide +kernel)
theorem dX3_look_10 : decode cX3_look 10 = .ok (.sipush (-1000), 3) := op17 (bA_at bd03_dec_X3_0_18 5 rfl rfl) (by decide +kernel)
theorem dX3_look_13 : decode cX3_look 13 = .ok (.ireturn, 1) := op172 (bA_at bd03_dec_X3_0_18 6 rfl rfl)
theorem dX3_look_14 : decode cX3_look 14 = .ok (.iload_n 2, 1) := op28 (bA_at bd03_dec_X3_0_18 7 rfl rfl)
theorem dX3_look_15 : decode cX3_look 15 = .ok (.bipush 10, 2) := op16 (bA_at bd03_dec_X3_0_18 8 rfl rfl) (by decide +kernel)
theorem dX3_look_17 : decode cX3_look 17 = .ok (.irem, 1) := op112 (bA_at bd03_dec_X3_0_18 9 rfl rfl)
theorem dX3_look_18 : decode cX3_look 18 = .ok (.istore_n 3, 1) := op62 (bA_at bd03_dec_X3_0_18 10 rfl rfl)
theorem dX3_look_19 : decode cX3_look 19 = .ok (.iload_n 2, 1) := op28 (bA_at bd03_dec_X3_0_18 11 rfl rfl)
theorem dX3_look_20 : decode cX3_look 20 = .ok (.bipush 10, 2) := op16 (bA_at bd03_dec_X3_0_18 12 rfl rfl) (by decide +kernel)
theorem dX3_look_22 : decode cX3_look 22 = .ok (.idiv, 1) := op108 (bA_at bd03_dec_X3_0_18 13 rfl rfl)
theorem dX3_look_68 : decode cX3_look 68 = .ok (.aload_n 0, 1) := op42 (bA_at bd03_dec_X3_0_18 14 rfl rfl)
theorem dX3_look_69 : decode cX3_look 69 = .ok (.aload_n 1, 1) := op43 (bA_at bd03_dec_X3_0_18 15 rfl rfl)
theorem dX3_look_70 : decode cX3_look 70 = .ok (.iload_n 3, 1) := op29 (bA_at bd03_dec_X3_0_18 16 rfl rfl)
theorem dX3_look_71 : decode cX3_look 71 = .ok (.invokevirtual 153, 3) := op182 (bA_at bd03_dec_X3_0_18 17 rfl rfl) rfl
theorem dX3_look_74 : decode cX3_look 74 = .ok (.ireturn, 1) := op172 (bA_at bd03_dec_X3_0_18 18 rfl rfl)
theorem dX3_look_75 : decode cX3_look 75 = .ok (.iload_n 3, 1) := op29 (bA_at bd03_dec_X3_0_18 19 rfl rfl)
theorem dX3_look_76 : decode cX3_look 76 = .ok (.iconst 5, 1) := op8 (bA_at bd03_dec_X3_0_18 20 rfl rfl)
theorem dX3_look_77 : decode cX3_look 77 = .ok (.if_icmp .ge 12, 3) := op162 (bA_at bd03_dec_X3_0_18 21 rfl rfl) (by decide +kernel)
theorem dX3_look_80 : decode cX3_look 80 = .ok (.aload_n 0, 1) := op42 (bA_at bd03_dec_X3_0_18 22 rfl rfl)
theorem dX3_look_81 : decode cX3_look 81 = .ok (.getfield 18, 3) := op180 (bA_at bd03_dec_X3_0_18 23 rfl rfl) rfl
theorem dX3_look_84 : decode cX3_look 84 = .ok (.iload_n 3, 1) := op29 (bA_at bd03_dec_X3_0_18 24 rfl rfl)
theorem dX3_look_85 : decode cX3_look 85 = .ok (.iaload, 1) := op46 (bA_at bd03_dec_X3_0_18 25 rfl rfl)
theorem dX3_look_86 : decode cX3_look 86 = .ok (.goto 6, 3) := op167 (bA_at bd03_dec_X3_0_18 26 rfl rfl) (by decide +kernel)
theorem dX3_look_89 : decode cX3_look 89 = .ok (.sipush (-1000), 3) := op17 (bA_at bd03_dec_X3_0_18 27 rfl rfl) (by decide +kernel)
theorem dX3_look_92 : decode cX3_look 92 = .ok (.ireturn, 1) := op172 (bA_at bd03_dec_X3_0_18 28 rfl rfl)
theorem dX3_look_93 : decode cX3_look 93 = .ok (.iload_n 3, 1) := op29 (bA_at bd03_dec_X3_0_18 29 rfl rfl)
theorem dX3_look_94 : decode cX3_look 94 = .ok (.iconst 5, 1) := op8 (bA_at bd03_dec_X3_0_18 30 rfl rfl)
theorem dX3_look_95 : decode cX3_look 95 = .ok (.if_icmp .ge 15, 3) := op162 (bA_at bd03_dec_X3_0_18 31 rfl rfl) (by decide +kernel)
theorem dX3_look_98 : decode cX3_look 98 = .ok (.aload_n 0, 1) := op42 (bA_at bd03_dec_X3_0_18 32 rfl rfl)
theorem dX3_look_99 : decode cX3_look 99 = .ok (.aload_n 1, 1) := op43 (bA_at bd03_dec_X3_0_18 33 rfl rfl)
theorem dX3_look_100 : decode cX3_look 100 = .ok (.iload_n 3, 1) := op29 (bA_at bd03_dec_X3_0_18 34 rfl rfl)
theorem dX3_look_101 : decode cX3_look 101 = .ok (.invokevirtual 156, 3) := op182 (bA_at bd03_dec_X3_0_18 35 rfl rfl) rfl
theorem dX3_look_104 : decode cX3_look 104 = .ok (.invokestatic 159, 3) := op184 (bA_at bd03_dec_X3_0_18 36 rfl rfl) rfl
theorem dX3_look_107 : decode cX3_look 107 = .ok (.goto 6, 3) := op167 (bA_at bd03_dec_X3_0_18 37 rfl rfl) (by decide +kernel)
theorem dX3_look_110 : decode cX3_look 110 = .ok (.sipush (-1000), 3) := op17 (bA_at bd03_dec_X3_0_18 38 rfl rfl) (by decide +kernel)
theorem dX3_look_113 : decode cX3_look 113 = .ok (.ireturn, 1) := op172 (bA_at bd03_dec_X3_0_18 39 rfl rfl)
theorem dX3_look_114 : decode cX3_look 114 = .ok (.aload_n 1, 1) := op43 (bA_at bd03_dec_X3_0_18 40 rfl rfl)
theorem dX3_look_115 : decode cX3_look 115 = .ok (.iload_n 3, 1) := op29 (bA_at bd03_dec_X3_0_18 41 rfl rfl)
theorem dX3_look_116 : decode cX3_look 116 = .ok (.invokevirtual 115, 3) := op182 (bA_at bd03_dec_X3_0_18 42 rfl rfl) rfl
theorem dX3_look_119 : decode cX3_look 119 = .ok (.ifCond .eq 12, 3) := op153 (bA_at bd03_dec_X3_0_18 43 rfl rfl) (by decide +kernel)
theorem dX3_look_122 : decode cX3_look 122 = .ok (.aload_n 0, 1) := op42 (bA_at bd03_dec_X3_0_18 44 rfl rfl)
theorem dX3_look_123 : decode cX3_look 123 = .ok (.getfield 21, 3) := op180 (bA_at bd03_dec_X3_0_18 45 rfl rfl) rfl
theorem dX3_look_126 : decode cX3_look 126 = .ok (.iload_n 3, 1) := op29 (bA_at bd03_dec_X3_0_18 46 rfl rfl)
theorem dX3_look_127 : decode cX3_look 127 = .ok (.iaload, 1) := op46 (bA_at bd03_dec_X3_0_18 47 rfl rfl)
theorem dX3_look_128 : decode cX3_look 128 = .ok (.goto 6, 3) := op167 (bA_at bd03_dec_X3_0_18 48 rfl rfl) (by decide +kernel)
theorem bd03_dec_X3_0_19 : ([(0, [17, 252, 24]), (3, [172]), (4, [43]), (5, [29]), (6, [182, 0, 97]), (9, [153, 0, 16]), (12, [42]), (13, [43]), (14, [28]), (15, [16, 10]), (17, [108]), (18, [29]), (19, [182, 0, 164]), (22, [167, 0, 6]), (25, [17, 252, 24]), (28, [172])] : List (Nat × List UInt8)).all (fun x => prB x.2 ((cX3_look.data.toList.drop 131).drop x.1)) = true := by decide +kernel
theorem dX3_look_131 : decode cX3_look 131 = .ok (.sipush (-1000), 3) := op17 (bA_at bd03_dec_X3_0_19 0 rfl rfl) (by decide +kernel)
theorem dX3_look_134 : decode cX3_look 134 = .ok (.ireturn, 1) := op172 (bA_at bd03_dec_X3_0_19 1 rfl rfl)
theorem dX3_look_135 : decode cX3_look 135 = .ok (.aload_n 1, 1) := op43 (bA_at bd03_dec_X3_0_19 2 rfl rfl)
theorem dX3_look_136 : decode cX3_look 136 = .ok (.iload_n 3, 1) := op29 (bA_at bd03_dec_X3_0_19 3 rfl rfl)
theorem dX3_look_137 : decode cX3_look 137 = .ok (.invokevirtual 97, 3) := op182 (bA_at bd03_dec_X3_0_19 4 rfl rfl) rfl
theorem dX3_look_140 : decode cX3_look 140 = .ok (.ifCond .eq 16, 3) := op153 (bA_at bd03_dec_X3_0_19 5 rfl rfl) (by decide +kernel)
theorem dX3_look_143 : decode cX3_look 143 = .ok (.aload_n 0, 1) := op42 (bA_at bd03_dec_X3_0_19 6 rfl rfl)
theorem dX3_look_144 : decode cX3_look 144 = .ok (.aload_n 1, 1) := op43 (bA_at bd03_dec_X3_0_19 7 rfl rfl)
theorem dX3_look_145 : decode cX3_look 145 = .ok (.iload_n 2, 1) := op28 (bA_at bd03_dec_X3_0_19 8 rfl rfl)
theorem dX3_look_146 : decode cX3_look 146 = .ok (.bipush 10, 2) := op16 (bA_at bd03_dec_X3_0_19 9 rfl rfl) (by decide +kernel)
theorem dX3_look_148 : decode cX3_look 148 = .ok (.idiv, 1) := op108 (bA_at bd03_dec_X3_0_19 10 rfl rfl)
theorem dX3_look_149 : decode cX3_look 149 = .ok (.iload_n 3, 1) := op29 (bA_at bd03_dec_X3_0_19 11 rfl rfl)
theorem dX3_look_150 : decode cX3_look 150 = .ok (.invokevirtual 164, 3) := op182 (bA_at bd03_dec_X3_0_19 12 rfl rfl) rfl
theorem dX3_look_153 : decode cX3_look 153 = .ok (.goto 6, 3) := op167 (bA_at bd03_dec_X3_0_19 13 rfl rfl) (by decide +kernel)
theorem dX3_look_156 : decode cX3_look 156 = .ok (.sipush (-1000), 3) := op17 (bA_at bd03_dec_X3_0_19 14 rfl rfl) (by decide +kernel)
theorem dX3_look_159 : decode cX3_look 159 = .ok (.ireturn, 1) := op172 (bA_at bd03_dec_X3_0_19 15 rfl rfl)
theorem dX3_lookWhole_1 : decode cX3_lookWhole 1 = .ok (.tableswitch 62 0 4 #[35, 40, 45, 51, 56], 35) := by decide +kernel
theorem bd03_dec_X3_0_20 : ([(0, [28]), (36, [42]), (37, [180, 0, 72]), (40, [172]), (41, [42]), (42, [180, 0, 75]), (45, [172]), (46, [42]), (47, [43]), (48, [182, 0, 168]), (51, [172]), (52, [42]), (53, [180, 0, 64]), (56, [172]), (57, [42]), (58, [43]), (59, [182, 0, 172]), (62, [172]), (63, [17, 252, 24]), (66, [172])] : List (Nat × List UInt8)).all (fun x => prB x.2 ((cX3_lookWhole.data.toList.drop 0).drop x.1)) = true := by decide +kernel
theorem dX3_lookWhole_0 : decode cX3_lookWhole 0 = .ok (.iload_n 2, 1) := op28 (bA_at bd03_dec_X3_0_20 0 rfl rfl)
theorem dX3_lookWhole_36 : decode cX3_lookWhole 36 = .ok (.aload_n 0, 1) := op42 (bA_at bd03_dec_X3_0_20 1 rfl rfl)
theorem dX3_lookWhole_37 : decode cX3_lookWhole 37 = .ok (.getfield 72, 3) := op180 (bA_at bd03_dec_X3_0_20 2 rfl rfl) rfl
theorem dX3_lookWhole_40 : decode cX3_lookWhole 40 = .ok (.ireturn, 1) := op172 (bA_at bd03_dec_X3_0_20 3 rfl rfl)
theorem dX3_lookWhole_41 : decode cX3_lookWhole 41 = .ok (.aload_n 0, 1) := op42 (bA_at bd03_dec_X3_0_20 4 rfl rfl)
theorem dX3_lookWhole_42 : decode cX3_lookWhole 42 = .ok (.getfield 75, 3) := op180 (bA_at bd03_dec_X3_0_20 5 rfl rfl) rfl
theorem dX3_lookWhole_45 : decode cX3_lookWhole 45 = .ok (.ireturn, 1) := op172 (bA_at bd03_dec_X3_0_20 6 rfl rfl)
theorem dX3_lookWhole_46 : decode cX3_lookWhole 46 = .ok (.aload_n 0, 1) := op42 (bA_at bd03_dec_X3_0_20 7 rfl rfl)
theorem dX3_lookWhole_47 : decode cX3_lookWhole 47 = .ok (.aload_n 1, 1) := op43 (bA_at bd03_dec_X3_0_20 8 rfl rfl)
theorem dX3_lookWhole_48 : decode cX3_lookWhole 48 = .ok (.invokevirtual 168, 3) := op182 (bA_at bd03_dec_X3_0_20 9 rfl rfl) rfl
theorem dX3_lookWhole_51 : decode cX3_lookWhole 51 = .ok (.ireturn, 1) := op172 (bA_at bd03_dec_X3_0_20 10 rfl rfl)
theorem dX3_lookWhole_52 : decode cX3_lookWhole 52 = .ok (.aload_n 0, 1) := op42 (bA_at bd03_dec_X3_0_20 11 rfl rfl)
theorem dX3_lookWhole_53 : decode cX3_lookWhole 53 = .ok (.getfield 64, 3) := op180 (bA_at bd03_dec_X3_0_20 12 rfl rfl) rfl
theorem dX3_lookWhole_56 : decode cX3_lookWhole 56 = .ok (.ireturn, 1) := op172 (bA_at bd03_dec_X3_0_20 13 rfl rfl)
theorem dX3_lookWhole_57 : decode cX3_lookWhole 57 = .ok (.aload_n 0, 1) := op42 (bA_at bd03_dec_X3_0_20 14 rfl rfl)
theorem dX3_lookWhole_58 : decode cX3_lookWhole 58 = .ok (.aload_n 1, 1) := op43 (bA_at bd03_dec_X3_0_20 15 rfl rfl)
theorem dX3_lookWhole_59 : decode cX3_lookWhole 59 = .ok (.invokevirtual 172, 3) := op182 (bA_at bd03_dec_X3_0_20 16 rfl rfl) rfl
theorem dX3_lookWhole_62 : decode cX3_lookWhole 62 = .ok (.ireturn, 1) := op172 (bA_at bd03_dec_X3_0_20 17 rfl rfl)
theorem dX3_lookWhole_63 : decode cX3_lookWhole 63 = .ok (.sipush (-1000), 3) := op17 (bA_at bd03_dec_X3_0_20 18 rfl rfl) (by decide +kernel)
theorem dX3_lookWhole_66 : decode cX3_lookWhole 66 = .ok (.ireturn, 1) := op172 (bA_at bd03_dec_X3_0_20 19 rfl rfl)
theorem dX3_lookSinger_1 : decode cX3_lookSinger 1 = .ok (.tableswitch 58 3 5 #[27, 34, 41], 27) := by decide +kernel
theorem bd03_dec_X3_0_21 : ([(0, [28]), (28, [42]), (29, [180, 0, 9]), (32, [29]), (33, [46]), (34, [172]), (35, [42]), (36, [180, 0, 15]), (39, [29]), (40, [46]), (41, [172]), (42, [42]), (43, [180, 0, 78]), (46, [29]), (47, [184, 0, 67]), (50, [153, 0, 7]), (53, [4]), (54, [167, 0, 4]), (57, [3]), (58, [172]), (59, [42]), (60, [43]), (61, [29]), (62, [182, 0, 130]), (65, [172])] : List (Nat × List UInt8)).all (fun x => prB x.2 ((cX3_lookSinger.data.toList.drop 0).drop x.1)) = true := by decide +kernel
theorem dX3_lookSinger_0 : decode cX3_lookSinger 0 = .ok (.iload_n 2, 1) := op28 (bA_at bd03_dec_X3_0_21 0 rfl rfl)
theorem dX3_lookSinger_28 : decode cX3_lookSinger 28 = .ok (.aload_n 0, 1) := op42 (bA_at bd03_dec_X3_0_21 1 rfl rfl)
theorem dX3_lookSinger_29 : decode cX3_lookSinger 29 = .ok (.getfield 9, 3) := op180 (bA_at bd03_dec_X3_0_21 2 rfl rfl) rfl
theorem dX3_lookSinger_32 : decode cX3_lookSinger 32 = .ok (.iload_n 3, 1) := op29 (bA_at bd03_dec_X3_0_21 3 rfl rfl)
theorem dX3_lookSinger_33 : decode cX3_lookSinger 33 = .ok (.iaload, 1) := op46 (bA_at bd03_dec_X3_0_21 4 rfl rfl)
theorem dX3_lookSinger_34 : decode cX3_lookSinger 34 = .ok (.ireturn, 1) := op172 (bA_at bd03_dec_X3_0_21 5 rfl rfl)
theorem dX3_lookSinger_35 : decode cX3_lookSinger 35 = .ok (.aload_n 0, 1) := op42 (bA_at bd03_dec_X3_0_21 6 rfl rfl)
theorem dX3_lookSinger_36 : decode cX3_lookSinger 36 = .ok (.getfield 15, 3) := op180 (bA_at bd03_dec_X3_0_21 7 rfl rfl) rfl
theorem dX3_lookSinger_39 : decode cX3_lookSinger 39 = .ok (.iload_n 3, 1) := op29 (bA_at bd03_dec_X3_0_21 8 rfl rfl)
theorem dX3_lookSinger_40 : decode cX3_lookSinger 40 = .ok (.iaload, 1) := op46 (bA_at bd03_dec_X3_0_21 9 rfl rfl)
theorem dX3_lookSinger_41 : decode cX3_lookSinger 41 = .ok (.ireturn, 1) := op172 (bA_at bd03_dec_X3_0_21 10 rfl rfl)
theorem dX3_lookSinger_42 : decode cX3_lookSinger 42 = .ok (.aload_n 0, 1) := op42 (bA_at bd03_dec_X3_0_21 11 rfl rfl)
theorem dX3_lookSinger_43 : decode cX3_lookSinger 43 = .ok (.getfield 78, 3) := op180 (bA_at bd03_dec_X3_0_21 12 rfl rfl) rfl
theorem dX3_lookSinger_46 : decode cX3_lookSinger 46 = .ok (.iload_n 3, 1) := op29 (bA_at bd03_dec_X3_0_21 13 rfl rfl)
theorem dX3_lookSinger_47 : decode cX3_lookSinger 47 = .ok (.invokestatic 67, 3) := op184 (bA_at bd03_dec_X3_0_21 14 rfl rfl) rfl
theorem dX3_lookSinger_50 : decode cX3_lookSinger 50 = .ok (.ifCond .eq 7, 3) := op153 (bA_at bd03_dec_X3_0_21 15 rfl rfl) (by decide +kernel)
theorem dX3_lookSinger_53 : decode cX3_lookSinger 53 = .ok (.iconst 1, 1) := op4 (bA_at bd03_dec_X3_0_21 16 rfl rfl)
theorem dX3_lookSinger_54 : decode cX3_lookSinger 54 = .ok (.goto 4, 3) := op167 (bA_at bd03_dec_X3_0_21 17 rfl rfl) (by decide +kernel)
theorem dX3_lookSinger_57 : decode cX3_lookSinger 57 = .ok (.iconst 0, 1) := op3 (bA_at bd03_dec_X3_0_21 18 rfl rfl)
theorem dX3_lookSinger_58 : decode cX3_lookSinger 58 = .ok (.ireturn, 1) := op172 (bA_at bd03_dec_X3_0_21 19 rfl rfl)
theorem dX3_lookSinger_59 : decode cX3_lookSinger 59 = .ok (.aload_n 0, 1) := op42 (bA_at bd03_dec_X3_0_21 20 rfl rfl)
theorem dX3_lookSinger_60 : decode cX3_lookSinger 60 = .ok (.aload_n 1, 1) := op43 (bA_at bd03_dec_X3_0_21 21 rfl rfl)
theorem dX3_lookSinger_61 : decode cX3_lookSinger 61 = .ok (.iload_n 3, 1) := op29 (bA_at bd03_dec_X3_0_21 22 rfl rfl)
theorem dX3_lookSinger_62 : decode cX3_lookSinger 62 = .ok (.invokevirtual 130, 3) := op182 (bA_at bd03_dec_X3_0_21 23 rfl rfl) rfl
theorem dX3_lookSinger_65 : decode cX3_lookSinger 65 = .ok (.ireturn, 1) := op172 (bA_at bd03_dec_X3_0_21 24 rfl rfl)
theorem bd03_dec_X3_0_22 : ([(0, [3]), (1, [61]), (2, [3]), (3, [62]), (4, [29]), (5, [43]), (6, [180, 0, 53]), (9, [162, 0, 31]), (12, [42]), (13, [180, 0, 64]), (16, [42]), (17, [180, 0, 15]), (20, [29]), (21, [46]), (22, [2]), (23, [130]), (24, [126]), (25, [154, 0, 9]), (28, [28]), (29, [4]), (30, [29]), (31, [120]), (32, [128]), (33, [61]), (34, [132, 3, 1]), (37, [167, 255, 223]), (40, [28]), (41, [172])] : List (Nat × List UInt8)).all (fun x => prB x.2 ((cX3_seers.data.toList.drop 0).drop x.1)) = true := by decide +kernel
theorem dX3_seers_0 : decode cX3_seers 0 = .ok (.iconst 0, 1) := op3 (bA_at bd03_dec_X3_0_22 0 rfl rfl)
theorem dX3_seers_1 : decode cX3_seers 1 = .ok (.istore_n 2, 1) := op61 (bA_at bd03_dec_X3_0_22 1 rfl rfl)
theorem dX3_seers_2 : decode cX3_seers 2 = .ok (.iconst 0, 1) := op3 (bA_at bd03_dec_X3_0_22 2 rfl rfl)
theorem dX3_seers_3 : decode cX3_seers 3 = .ok (.istore_n 3, 1) := op62 (bA_at bd03_dec_X3_0_22 3 rfl rfl)
theorem dX3_seers_4 : decode cX3_seers 4 = .ok (.iload_n 3, 1) := op29 (bA_at bd03_dec_X3_0_22 4 rfl rfl)
theorem dX3_seers_5 : decode cX3_seers 5 = .ok (.aload_n 1, 1) := op43 (bA_at bd03_dec_X3_0_22 5 rfl rfl)
theorem dX3_seers_6 : decode cX3_seers 6 = .ok (.getfield 53, 3) := op180 (bA_at bd03_dec_X3_0_22 6 rfl rfl) rfl
theorem dX3_seers_9 : decode cX3_seers 9 = .ok (.if_icmp .ge 31, 3) := op162 (bA_at bd03_dec_X3_0_22 7 rfl rfl) (by decide +kernel)
theorem dX3_seers_12 : decode cX3_seers 12 = .ok (.aload_n 0, 1) := op42 (bA_at bd03_dec_X3_0_22 8 rfl rfl)
theorem dX3_seers_13 : decode cX3_seers 13 = .ok (.getfield 64, 3) := op180 (bA_at bd03_dec_X3_0_22 9 rfl rfl) rfl
theorem dX3_seers_16 : decode cX3_seers 16 = .ok (.aload_n 0, 1) := op42 (bA_at bd03_dec_X3_0_22 10 rfl rfl)
theorem dX3_seers_17 : decode cX3_seers 17 = .ok (.getfield 15, 3) := op180 (bA_at bd03_dec_X3_0_22 11 rfl rfl) rfl
theorem dX3_seers_20 : decode cX3_seers 20 = .ok (.iload_n 3, 1) := op29 (bA_at bd03_dec_X3_0_22 12 rfl rfl)
theorem dX3_seers_21 : decode cX3_seers 21 = .ok (.iaload, 1) := op46 (bA_at bd03_dec_X3_0_22 13 rfl rfl)
theorem dX3_seers_22 : decode cX3_seers 22 = .ok (.iconst (-1), 1) := op2 (bA_at bd03_dec_X3_0_22 14 rfl rfl)
theorem dX3_seers_23 : decode cX3_seers 23 = .ok (.ixor, 1) := op130 (bA_at bd03_dec_X3_0_22 15 rfl rfl)
theorem dX3_seers_24 : decode cX3_seers 24 = .ok (.iand, 1) := op126 (bA_at bd03_dec_X3_0_22 16 rfl rfl)
theorem dX3_seers_25 : decode cX3_seers 25 = .ok (.ifCond .ne 9, 3) := op154 (bA_at bd03_dec_X3_0_22 17 rfl rfl) (by decide +kernel)
theorem dX3_seers_28 : decode cX3_seers 28 = .ok (.iload_n 2, 1) := op28 (bA_at bd03_dec_X3_0_22 18 rfl rfl)
theorem dX3_seers_29 : decode cX3_seers 29 = .ok (.iconst 1, 1) := op4 (bA_at bd03_dec_X3_0_22 19 rfl rfl)
theorem dX3_seers_30 : decode cX3_seers 30 = .ok (.iload_n 3, 1) := op29 (bA_at bd03_dec_X3_0_22 20 rfl rfl)
theorem dX3_seers_31 : decode cX3_seers 31 = .ok (.ishl, 1) := op120 (bA_at bd03_dec_X3_0_22 21 rfl rfl)
theorem dX3_seers_32 : decode cX3_seers 32 = .ok (.ior, 1) := op128 (bA_at bd03_dec_X3_0_22 22 rfl rfl)
theorem dX3_seers_33 : decode cX3_seers 33 = .ok (.istore_n 2, 1) := op61 (bA_at bd03_dec_X3_0_22 23 rfl rfl)
theorem dX3_seers_34 : decode cX3_seers 34 = .ok (.iinc 3 1, 3) := op132 (bA_at bd03_dec_X3_0_22 24 rfl rfl) rfl (by decide +kernel)
theorem dX3_seers_37 : decode cX3_seers 37 = .ok (.goto (-33), 3) := op167 (bA_at bd03_dec_X3_0_22 25 rfl rfl) (by decide +kernel)
theorem dX3_seers_40 : decode cX3_seers 40 = .ok (.iload_n 2, 1) := op28 (bA_at bd03_dec_X3_0_22 26 rfl rfl)
theorem dX3_seers_41 : decode cX3_seers 41 = .ok (.ireturn, 1) := op172 (bA_at bd03_dec_X3_0_22 27 rfl rfl)
theorem bd03_dec_X3_0_23 : ([(0, [42]), (1, [43]), (2, [182, 0, 175]), (5, [42]), (6, [180, 0, 64]), (9, [61]), (10, [3]), (11, [62]), (12, [29]), (13, [43]), (14, [180, 0, 53]), (17, [162, 0, 67]), (20, [42]), (21, [43]), (22, [29]), (23, [182, 0, 178]), (26, [54, 4]), (28, [3]), (29, [54, 5]), (31, [21, 5]), (33, [8]), (34, [162, 0, 44]), (37, [42]), (38, [180, 0, 15]), (41, [29]), (42, [46]), (43, [21, 5]), (45, [184, 0, 67]), (48, [153, 0, 24]), (51, [21, 4]), (53, [42]), (54, [180, 0, 18]), (57, [21, 5]), (59, [46]), (60, [162, 0, 12]), (63, [28]), (64, [4]), (65, [21, 5]), (67, [120]), (68, [2]), (69, [130]), (70, [126]), (71, [61]), (72, [132, 5, 1]), (75, [167, 255, 212]), (78, [132, 3, 1]), (81, [167, 255, 187]), (84, [28]), (85, [172])] : List (Nat × List UInt8)).all (fun x => prB x.2 ((cX3_doneFor.data.toList.drop 0).drop x.1)) = true := by decide +kernel
theorem dX3_doneFor_0 : decode cX3_doneFor 0 = .ok (.aload_n 0, 1) := op42 (bA_at bd03_dec_X3_0_23 0 rfl rfl)
theorem dX3_doneFor_1 : decode cX3_doneFor 1 = .ok (.aload_n 1, 1) := op43 (bA_at bd03_dec_X3_0_23 1 rfl rfl)
theorem dX3_doneFor_2 : decode cX3_doneFor 2 = .ok (.invokevirtual 175, 3) := op182 (bA_at bd03_dec_X3_0_23 2 rfl rfl) rfl
theorem dX3_doneFor_5 : decode cX3_doneFor 5 = .ok (.aload_n 0, 1) := op42 (bA_at bd03_dec_X3_0_23 3 rfl rfl)
theorem dX3_doneFor_6 : decode cX3_doneFor 6 = .ok (.getfield 64, 3) := op180 (bA_at bd03_dec_X3_0_23 4 rfl rfl) rfl
theorem dX3_doneFor_9 : decode cX3_doneFor 9 = .ok (.istore_n 2, 1) := op61 (bA_at bd03_dec_X3_0_23 5 rfl rfl)
theorem dX3_doneFor_10 : decode cX3_doneFor 10 = .ok (.iconst 0, 1) := op3 (bA_at bd03_dec_X3_0_23 6 rfl rfl)
theorem dX3_doneFor_11 : decode cX3_doneFor 11 = .ok (.istore_n 3, 1) := op62 (bA_at bd03_dec_X3_0_23 7 rfl rfl)
theorem dX3_doneFor_12 : decode cX3_doneFor 12 = .ok (.iload_n 3, 1) := op29 (bA_at bd03_dec_X3_0_23 8 rfl rfl)
theorem dX3_doneFor_13 : decode cX3_doneFor 13 = .ok (.aload_n 1, 1) := op43 (bA_at bd03_dec_X3_0_23 9 rfl rfl)
theorem dX3_doneFor_14 : decode cX3_doneFor 14 = .ok (.getfield 53, 3) := op180 (bA_at bd03_dec_X3_0_23 10 rfl rfl) rfl
theorem dX3_doneFor_17 : decode cX3_doneFor 17 = .ok (.if_icmp .ge 67, 3) := op162 (bA_at bd03_dec_X3_0_23 11 rfl rfl) (by decide +kernel)
theorem dX3_doneFor_20 : decode cX3_doneFor 20 = .ok (.aload_n 0, 1) := op42 (bA_at bd03_dec_X3_0_23 12 rfl rfl)
theorem dX3_doneFor_21 : decode cX3_doneFor 21 = .ok (.aload_n 1, 1) := op43 (bA_at bd03_dec_X3_0_23 13 rfl rfl)
theorem dX3_doneFor_22 : decode cX3_doneFor 22 = .ok (.iload_n 3, 1) := op29 (bA_at bd03_dec_X3_0_23 14 rfl rfl)
theorem dX3_doneFor_23 : decode cX3_doneFor 23 = .ok (.invokevirtual 178, 3) := op182 (bA_at bd03_dec_X3_0_23 15 rfl rfl) rfl
theorem dX3_doneFor_26 : decode cX3_doneFor 26 = .ok (.istore 4, 2) := op54 (bA_at bd03_dec_X3_0_23 16 rfl rfl) rfl
theorem dX3_doneFor_28 : decode cX3_doneFor 28 = .ok (.iconst 0, 1) := op3 (bA_at bd03_dec_X3_0_23 17 rfl rfl)
theorem dX3_doneFor_29 : decode cX3_doneFor 29 = .ok (.istore 5, 2) := op54 (bA_at bd03_dec_X3_0_23 18 rfl rfl) rfl
theorem dX3_doneFor_31 : decode cX3_doneFor 31 = .ok (.iload 5, 2) := op21 (bA_at bd03_dec_X3_0_23 19 rfl rfl) rfl
theorem dX3_doneFor_33 : decode cX3_doneFor 33 = .ok (.iconst 5, 1) := op8 (bA_at bd03_dec_X3_0_23 20 rfl rfl)
theorem dX3_doneFor_34 : decode cX3_doneFor 34 = .ok (.if_icmp .ge 44, 3) := op162 (bA_at bd03_dec_X3_0_23 21 rfl rfl) (by decide +kernel)
theorem dX3_doneFor_37 : decode cX3_doneFor 37 = .ok (.aload_n 0, 1) := op42 (bA_at bd03_dec_X3_0_23 22 rfl rfl)
theorem dX3_doneFor_38 : decode cX3_doneFor 38 = .ok (.getfield 15, 3) := op180 (bA_at bd03_dec_X3_0_23 23 rfl rfl) rfl
theorem dX3_doneFor_41 : decode cX3_doneFor 41 = .ok (.iload_n 3, 1) := op29 (bA_at bd03_dec_X3_0_23 24 rfl rfl)
theorem dX3_doneFor_42 : decode cX3_doneFor 42 = .ok (.iaload, 1) := op46 (bA_at bd03_dec_X3_0_23 25 rfl rfl)
theorem dX3_doneFor_43 : decode cX3_doneFor 43 = .ok (.iload 5, 2) := op21 (bA_at bd03_dec_X3_0_23 26 rfl rfl) rfl
theorem dX3_doneFor_45 : decode cX3_doneFor 45 = .ok (.invokestatic 67, 3) := op184 (bA_at bd03_dec_X3_0_23 27 rfl rfl) rfl
theorem dX3_doneFor_48 : decode cX3_doneFor 48 = .ok (.ifCond .eq 24, 3) := op153 (bA_at bd03_dec_X3_0_23 28 rfl rfl) (by decide +kernel)
theorem dX3_doneFor_51 : decode cX3_doneFor 51 = .ok (.iload 4, 2) := op21 (bA_at bd03_dec_X3_0_23 29 rfl rfl) rfl
theorem dX3_doneFor_53 : decode cX3_doneFor 53 = .ok (.aload_n 0, 1) := op42 (bA_at bd03_dec_X3_0_23 30 rfl rfl)
theorem dX3_doneFor_54 : decode cX3_doneFor 54 = .ok (.getfield 18, 3) := op180 (bA_at bd03_dec_X3_0_23 31 rfl rfl) rfl
theorem dX3_doneFor_57 : decode cX3_doneFor 57 = .ok (.iload 5, 2) := op21 (bA_at bd03_dec_X3_0_23 32 rfl rfl) rfl
theorem dX3_doneFor_59 : decode cX3_doneFor 59 = .ok (.iaload, 1) := op46 (bA_at bd03_dec_X3_0_23 33 rfl rfl)
theorem dX3_doneFor_60 : decode cX3_doneFor 60 = .ok (.if_icmp .ge 12, 3) := op162 (bA_at bd03_dec_X3_0_23 34 rfl rfl) (by decide +kernel)
theorem dX3_doneFor_63 : decode cX3_doneFor 63 = .ok (.iload_n 2, 1) := op28 (bA_at bd03_dec_X3_0_23 35 rfl rfl)
theorem dX3_doneFor_64 : decode cX3_doneFor 64 = .ok (.iconst 1, 1) := op4 (bA_at bd03_dec_X3_0_23 36 rfl rfl)
theorem dX3_doneFor_65 : decode cX3_doneFor 65 = .ok (.iload 5, 2) := op21 (bA_at bd03_dec_X3_0_23 37 rfl rfl) rfl
theorem dX3_doneFor_67 : decode cX3_doneFor 67 = .ok (.ishl, 1) := op120 (bA_at bd03_dec_X3_0_23 38 rfl rfl)
theorem dX3_doneFor_68 : decode cX3_doneFor 68 = .ok (.iconst (-1), 1) := op2 (bA_at bd03_dec_X3_0_23 39 rfl rfl)
theorem dX3_doneFor_69 : decode cX3_doneFor 69 = .ok (.ixor, 1) := op130 (bA_at bd03_dec_X3_0_23 40 rfl rfl)
theorem dX3_doneFor_70 : decode cX3_doneFor 70 = .ok (.iand, 1) := op126 (bA_at bd03_dec_X3_0_23 41 rfl rfl)
theorem dX3_doneFor_71 : decode cX3_doneFor 71 = .ok (.istore_n 2, 1) := op61 (bA_at bd03_dec_X3_0_23 42 rfl rfl)
theorem dX3_doneFor_72 : decode cX3_doneFor 72 = .ok (.iinc 5 1, 3) := op132 (bA_at bd03_dec_X3_0_23 43 rfl rfl) rfl (by decide +kernel)
theorem dX3_doneFor_75 : decode cX3_doneFor 75 = .ok (.goto (-44), 3) := op167 (bA_at bd03_dec_X3_0_23 44 rfl rfl) (by decide +kernel)
theorem dX3_doneFor_78 : decode cX3_doneFor 78 = .ok (.iinc 3 1, 3) := op132 (bA_at bd03_dec_X3_0_23 45 rfl rfl) rfl (by decide +kernel)
theorem dX3_doneFor_81 : decode cX3_doneFor 81 = .ok (.goto (-69), 3) := op167 (bA_at bd03_dec_X3_0_23 46 rfl rfl) (by decide +kernel)
theorem dX3_doneFor_84 : decode cX3_doneFor 84 = .ok (.iload_n 2, 1) := op28 (bA_at bd03_dec_X3_0_23 47 rfl rfl)
theorem dX3_doneFor_85 : decode cX3_doneFor 85 = .ok (.ireturn, 1) := op172 (bA_at bd03_dec_X3_0_23 48 rfl rfl)
theorem bd03_dec_X3_0_24 : ([(0, [3]), (1, [61]), (2, [28]), (3, [43]), (4, [180, 0, 62]), (7, [162, 0, 76]), (10, [42]), (11, [180, 0, 24]), (14, [28]), (15, [3]), (16, [79]), (17, [3]), (18, [62]), (19, [29]), (20, [43]), (21, [180, 0, 62]), (24, [162, 0, 53]), (27, [43]), (28, [180, 0, 121]), (31, [28]), (32, [16, 9]), (34, [104]), (35, [29]), (36, [96]), (37, [46]), (38, [158, 0, 33]), (41, [42]), (42, [43]), (43, [28]), (44, [182, 0, 118]), (47, [154, 0, 24]), (50, [42]), (51, [43]), (52, [29]), (53, [182, 0, 118]), (56, [154, 0, 15]), (59, [42]), (60, [180, 0, 24]), (63, [28]), (64, [92]), (65, [46]), (66, [4]), (67, [29]), (68, [120]), (69, [128]), (70, [79]), (71, [132, 3, 1]), (74, [167, 255, 201]), (77, [132, 2, 1]), (80, [167, 255, 178])] : List (Nat × List UInt8)).all (fun x => prB x.2 ((cX3_openWays.data.toList.drop 0).drop x.1)) = true := by decide +kernel
theorem dX3_openWays_0 : decode cX3_openWays 0 = .ok (.iconst 0, 1) := op3 (bA_at bd03_dec_X3_0_24 0 rfl rfl)
theorem dX3_openWays_1 : decode cX3_openWays 1 = .ok (.istore_n 2, 1) := op61 (bA_at bd03_dec_X3_0_24 1 rfl rfl)
theorem dX3_openWays_2 : decode cX3_openWays 2 = .ok (.iload_n 2, 1) := op28 (bA_at bd03_dec_X3_0_24 2 rfl rfl)
theorem dX3_openWays_3 : decode cX3_openWays 3 = .ok (.aload_n 1, 1) := op43 (bA_at bd03_dec_X3_0_24 3 rfl rfl)
theorem dX3_openWays_4 : decode cX3_openWays 4 = .ok (.getfield 62, 3) := op180 (bA_at bd03_dec_X3_0_24 4 rfl rfl) rfl
theorem dX3_openWays_7 : decode cX3_openWays 7 = .ok (.if_icmp .ge 76, 3) := op162 (bA_at bd03_dec_X3_0_24 5 rfl rfl) (by decide +kernel)
theorem dX3_openWays_10 : decode cX3_openWays 10 = .ok (.aload_n 0, 1) := op42 (bA_at bd03_dec_X3_0_24 6 rfl rfl)
theorem dX3_openWays_11 : decode cX3_openWays 11 = .ok (.getfield 24, 3) := op180 (bA_at bd03_dec_X3_0_24 7 rfl rfl) rfl
theorem dX3_openWays_14 : decode cX3_openWays 14 = .ok (.iload_n 2, 1) := op28 (bA_at bd03_dec_X3_0_24 8 rfl rfl)
theorem dX3_openWays_15 : decode cX3_openWays 15 = .ok (.iconst 0, 1) := op3 (bA_at bd03_dec_X3_0_24 9 rfl rfl)
theorem dX3_openWays_16 : decode cX3_openWays 16 = .ok (.iastore, 1) := op79 (bA_at bd03_dec_X3_0_24 10 rfl rfl)
theorem dX3_openWays_17 : decode cX3_openWays 17 = .ok (.iconst 0, 1) := op3 (bA_at bd03_dec_X3_0_24 11 rfl rfl)
theorem dX3_openWays_18 : decode cX3_openWays 18 = .ok (.istore_n 3, 1) := op62 (bA_at bd03_dec_X3_0_24 12 rfl rfl)
theorem dX3_openWays_19 : decode cX3_openWays 19 = .ok (.iload_n 3, 1) := op29 (bA_at bd03_dec_X3_0_24 13 rfl rfl)
theorem dX3_openWays_20 : decode cX3_openWays 20 = .ok (.aload_n 1, 1) := op43 (bA_at bd03_dec_X3_0_24 14 rfl rfl)
theorem dX3_openWays_21 : decode cX3_openWays 21 = .ok (.getfield 62, 3) := op180 (bA_at bd03_dec_X3_0_24 15 rfl rfl) rfl
theorem dX3_openWays_24 : decode cX3_openWays 24 = .ok (.if_icmp .ge 53, 3) := op162 (bA_at bd03_dec_X3_0_24 16 rfl rfl) (by decide +kernel)
theorem dX3_openWays_27 : decode cX3_openWays 27 = .ok (.aload_n 1, 1) := op43 (bA_at bd03_dec_X3_0_24 17 rfl rfl)
theorem dX3_openWays_28 : decode cX3_openWays 28 = .ok (.getfield 121, 3) := op180 (bA_at bd03_dec_X3_0_24 18 rfl rfl) rfl
theorem dX3_openWays_31 : decode cX3_openWays 31 = .ok (.iload_n 2, 1) := op28 (bA_at bd03_dec_X3_0_24 19 rfl rfl)
theorem dX3_openWays_32 : decode cX3_openWays 32 = .ok (.bipush 9, 2) := op16 (bA_at bd03_dec_X3_0_24 20 rfl rfl) (by decide +kernel)
theorem dX3_openWays_34 : decode cX3_openWays 34 = .ok (.imul, 1) := op104 (bA_at bd03_dec_X3_0_24 21 rfl rfl)
theorem dX3_openWays_35 : decode cX3_openWays 35 = .ok (.iload_n 3, 1) := op29 (bA_at bd03_dec_X3_0_24 22 rfl rfl)
theorem dX3_openWays_36 : decode cX3_openWays 36 = .ok (.iadd, 1) := op96 (bA_at bd03_dec_X3_0_24 23 rfl rfl)
theorem dX3_openWays_37 : decode cX3_openWays 37 = .ok (.iaload, 1) := op46 (bA_at bd03_dec_X3_0_24 24 rfl rfl)
theorem dX3_openWays_38 : decode cX3_openWays 38 = .ok (.ifCond .le 33, 3) := op158 (bA_at bd03_dec_X3_0_24 25 rfl rfl) (by decide +kernel)
theorem dX3_openWays_41 : decode cX3_openWays 41 = .ok (.aload_n 0, 1) := op42 (bA_at bd03_dec_X3_0_24 26 rfl rfl)
theorem dX3_openWays_42 : decode cX3_openWays 42 = .ok (.aload_n 1, 1) := op43 (bA_at bd03_dec_X3_0_24 27 rfl rfl)
theorem dX3_openWays_43 : decode cX3_openWays 43 = .ok (.iload_n 2, 1) := op28 (bA_at bd03_dec_X3_0_24 28 rfl rfl)
theorem dX3_openWays_44 : decode cX3_openWays 44 = .ok (.invokevirtual 118, 3) := op182 (bA_at bd03_dec_X3_0_24 29 rfl rfl) rfl
theorem dX3_openWays_47 : decode cX3_openWays 47 = .ok (.ifCond .ne 24, 3) := op154 (bA_at bd03_dec_X3_0_24 30 rfl rfl) (by decide +kernel)
theorem dX3_openWays_50 : decode cX3_openWays 50 = .ok (.aload_n 0, 1) := op42 (bA_at bd03_dec_X3_0_24 31 rfl rfl)
theorem dX3_openWays_51 : decode cX3_openWays 51 = .ok (.aload_n 1, 1) := op43 (bA_at bd03_dec_X3_0_24 32 rfl rfl)
theorem dX3_openWays_52 : decode cX3_openWays 52 = .ok (.iload_n 3, 1) := op29 (bA_at bd03_dec_X3_0_24 33 rfl rfl)
theorem dX3_openWays_53 : decode cX3_openWays 53 = .ok (.invokevirtual 118, 3) := op182 (bA_at bd03_dec_X3_0_24 34 rfl rfl) rfl
theorem dX3_openWays_56 : decode cX3_openWays 56 = .ok (.ifCond .ne 15, 3) := op154 (bA_at bd03_dec_X3_0_24 35 rfl rfl) (by decide +kernel)
theorem dX3_openWays_59 : decode cX3_openWays 59 = .ok (.aload_n 0, 1) := op42 (bA_at bd03_dec_X3_0_24 36 rfl rfl)
theorem dX3_openWays_60 : decode cX3_openWays 60 = .ok (.getfield 24, 3) := op180 (bA_at bd03_dec_X3_0_24 37 rfl rfl) rfl
theorem dX3_openWays_63 : decode cX3_openWays 63 = .ok (.iload_n 2, 1) := op28 (bA_at bd03_dec_X3_0_24 38 rfl rfl)
theorem dX3_openWays_64 : decode cX3_openWays 64 = .ok (.dup2, 1) := op92 (bA_at bd03_dec_X3_0_24 39 rfl rfl)
theorem dX3_openWays_65 : decode cX3_openWays 65 = .ok (.iaload, 1) := op46 (bA_at bd03_dec_X3_0_24 40 rfl rfl)
theorem dX3_openWays_66 : decode cX3_openWays 66 = .ok (.iconst 1, 1) := op4 (bA_at bd03_dec_X3_0_24 41 rfl rfl)
theorem dX3_openWays_67 : decode cX3_openWays 67 = .ok (.iload_n 3, 1) := op29 (bA_at bd03_dec_X3_0_24 42 rfl rfl)
theorem dX3_openWays_68 : decode cX3_openWays 68 = .ok (.ishl, 1) := op120 (bA_at bd03_dec_X3_0_24 43 rfl rfl)
theorem dX3_openWays_69 : decode cX3_openWays 69 = .ok (.ior, 1) := op128 (bA_at bd03_dec_X3_0_24 44 rfl rfl)
theorem dX3_openWays_70 : decode cX3_openWays 70 = .ok (.iastore, 1) := op79 (bA_at bd03_dec_X3_0_24 45 rfl rfl)
theorem dX3_openWays_71 : decode cX3_openWays 71 = .ok (.iinc 3 1, 3) := op132 (bA_at bd03_dec_X3_0_24 46 rfl rfl) rfl (by decide +kernel)
theorem dX3_openWays_74 : decode cX3_openWays 74 = .ok (.goto (-55), 3) := op167 (bA_at bd03_dec_X3_0_24 47 rfl rfl) (by decide +kernel)
theorem dX3_openWays_77 : decode cX3_openWays 77 = .ok (.iinc 2 1, 3) := op132 (bA_at bd03_dec_X3_0_24 48 rfl rfl) rfl (by decide +kernel)
theorem dX3_openWays_80 : decode cX3_openWays 80 = .ok (.goto (-78), 3) := op167 (bA_at bd03_dec_X3_0_24 49 rfl rfl) (by decide +kernel)
theorem bd03_dec_X3_0_25 : ([(0, [177])] : List (Nat × List UInt8)).all (fun x => prB x.2 ((cX3_openWays.data.toList.drop 83).drop x.1)) = true := by decide +kernel
theorem dX3_openWays_83 : decode cX3_openWays 83 = .ok (.return_, 1) := op177 (bA_at bd03_dec_X3_0_25 0 rfl rfl)
theorem bd03_dec_X3_0_26 : ([(0, [42]), (1, [180, 0, 9]), (4, [28]), (5, [46]), (6, [42]), (7, [180, 0, 24]), (10, [3]), (11, [184, 0, 181]), (14, [62]), (15, [17, 3, 232]), (18, [54, 4]), (20, [3]), (21, [54, 5]), (23, [21, 5]), (25, [43]), (26, [180, 0, 62]), (29, [162, 0, 48]), (32, [29]), (33, [21, 5]), (35, [184, 0, 67]), (38, [153, 0, 33]), (41, [43]), (42, [21, 5]), (44, [182, 0, 127]), (47, [154, 0, 24]), (50, [21, 4]), (52, [43]), (53, [180, 0, 147]), (56, [21, 5]), (58, [46]), (59, [43]), (60, [180, 0, 150]), (63, [28]), (64, [46]), (65, [100]), (66, [184, 0, 187]), (69, [54, 4]), (71, [132, 5, 1]), (74, [167, 255, 205]), (77, [21, 4]), (79, [172])] : List (Nat × List UInt8)).all (fun x => prB x.2 ((cX3_lowest.data.toList.drop 0).drop x.1)) = true := by decide +kernel
theorem dX3_lowest_0 : decode cX3_lowest 0 = .ok (.aload_n 0, 1) := op42 (bA_at bd03_dec_X3_0_26 0 rfl rfl)
theorem dX3_lowest_1 : decode cX3_lowest 1 = .ok (.getfield 9, 3) := op180 (bA_at bd03_dec_X3_0_26 1 rfl rfl) rfl
theorem dX3_lowest_4 : decode cX3_lowest 4 = .ok (.iload_n 2, 1) := op28 (bA_at bd03_dec_X3_0_26 2 rfl rfl)
theorem dX3_lowest_5 : decode cX3_lowest 5 = .ok (.iaload, 1) := op46 (bA_at bd03_dec_X3_0_26 3 rfl rfl)
theorem dX3_lowest_6 : decode cX3_lowest 6 = .ok (.aload_n 0, 1) := op42 (bA_at bd03_dec_X3_0_26 4 rfl rfl)
theorem dX3_lowest_7 : decode cX3_lowest 7 = .ok (.getfield 24, 3) := op180 (bA_at bd03_dec_X3_0_26 5 rfl rfl) rfl
theorem dX3_lowest_10 : decode cX3_lowest 10 = .ok (.iconst 0, 1) := op3 (bA_at bd03_dec_X3_0_26 6 rfl rfl)
theorem dX3_lowest_11 : decode cX3_lowest 11 = .ok (.invokestatic 181, 3) := op184 (bA_at bd03_dec_X3_0_26 7 rfl rfl) rfl
theorem dX3_lowest_14 : decode cX3_lowest 14 = .ok (.istore_n 3, 1) := op62 (bA_at bd03_dec_X3_0_26 8 rfl rfl)
theorem dX3_lowest_15 : decode cX3_lowest 15 = .ok (.sipush 1000, 3) := op17 (bA_at bd03_dec_X3_0_26 9 rfl rfl) (by decide +kernel)
theorem dX3_lowest_18 : decode cX3_lowest 18 = .ok (.istore 4, 2) := op54 (bA_at bd03_dec_X3_0_26 10 rfl rfl) rfl
theorem dX3_lowest_20 : decode cX3_lowest 20 = .ok (.iconst 0, 1) := op3 (bA_at bd03_dec_X3_0_26 11 rfl rfl)
theorem dX3_lowest_21 : decode cX3_lowest 21 = .ok (.istore 5, 2) := op54 (bA_at bd03_dec_X3_0_26 12 rfl rfl) rfl
theorem dX3_lowest_23 : decode cX3_lowest 23 = .ok (.iload 5, 2) := op21 (bA_at bd03_dec_X3_0_26 13 rfl rfl) rfl
theorem dX3_lowest_25 : decode cX3_lowest 25 = .ok (.aload_n 1, 1) := op43 (bA_at bd03_dec_X3_0_26 14 rfl rfl)
theorem dX3_lowest_26 : decode cX3_lowest 26 = .ok (.getfield 62, 3) := op180 (bA_at bd03_dec_X3_0_26 15 rfl rfl) rfl
theorem dX3_lowest_29 : decode cX3_lowest 29 = .ok (.if_icmp .ge 48, 3) := op162 (bA_at bd03_dec_X3_0_26 16 rfl rfl) (by decide +kernel)
theorem dX3_lowest_32 : decode cX3_lowest 32 = .ok (.iload_n 3, 1) := op29 (bA_at bd03_dec_X3_0_26 17 rfl rfl)
theorem dX3_lowest_33 : decode cX3_lowest 33 = .ok (.iload 5, 2) := op21 (bA_at bd03_dec_X3_0_26 18 rfl rfl) rfl
theorem dX3_lowest_35 : decode cX3_lowest 35 = .ok (.invokestatic 67, 3) := op184 (bA_at bd03_dec_X3_0_26 19 rfl rfl) rfl
theorem dX3_lowest_38 : decode cX3_lowest 38 = .ok (.ifCond .eq 33, 3) := op153 (bA_at bd03_dec_X3_0_26 20 rfl rfl) (by decide +kernel)
theorem dX3_lowest_41 : decode cX3_lowest 41 = .ok (.aload_n 1, 1) := op43 (bA_at bd03_dec_X3_0_26 21 rfl rfl)
theorem dX3_lowest_42 : decode cX3_lowest 42 = .ok (.iload 5, 2) := op21 (bA_at bd03_dec_X3_0_26 22 rfl rfl) rfl
theorem dX3_lowest_44 : decode cX3_lowest 44 = .ok (.invokevirtual 127, 3) := op182 (bA_at bd03_dec_X3_0_26 23 rfl rfl) rfl
theorem dX3_lowest_47 : decode cX3_lowest 47 = .ok (.ifCond .ne 24, 3) := op154 (bA_at bd03_dec_X3_0_26 24 rfl rfl) (by decide +kernel)
theorem dX3_lowest_50 : decode cX3_lowest 50 = .ok (.iload 4, 2) := op21 (bA_at bd03_dec_X3_0_26 25 rfl rfl) rfl
theorem dX3_lowest_52 : decode cX3_lowest 52 = .ok (.aload_n 1, 1) := op43 (bA_at bd03_dec_X3_0_26 26 rfl rfl)
theorem dX3_lowest_53 : decode cX3_lowest 53 = .ok (.getfield 147, 3) := op180 (bA_at bd03_dec_X3_0_26 27 rfl rfl) rfl
theorem dX3_lowest_56 : decode cX3_lowest 56 = .ok (.iload 5, 2) := op21 (bA_at bd03_dec_X3_0_26 28 rfl rfl) rfl
theorem dX3_lowest_58 : decode cX3_lowest 58 = .ok (.iaload, 1) := op46 (bA_at bd03_dec_X3_0_26 29 rfl rfl)
theorem dX3_lowest_59 : decode cX3_lowest 59 = .ok (.aload_n 1, 1) := op43 (bA_at bd03_dec_X3_0_26 30 rfl rfl)
theorem dX3_lowest_60 : decode cX3_lowest 60 = .ok (.getfield 150, 3) := op180 (bA_at bd03_dec_X3_0_26 31 rfl rfl) rfl
theorem dX3_lowest_63 : decode cX3_lowest 63 = .ok (.iload_n 2, 1) := op28 (bA_at bd03_dec_X3_0_26 32 rfl rfl)
theorem dX3_lowest_64 : decode cX3_lowest 64 = .ok (.iaload, 1) := op46 (bA_at bd03_dec_X3_0_26 33 rfl rfl)
theorem dX3_lowest_65 : decode cX3_lowest 65 = .ok (.isub, 1) := op100 (bA_at bd03_dec_X3_0_26 34 rfl rfl)
theorem dX3_lowest_66 : decode cX3_lowest 66 = .ok (.invokestatic 187, 3) := op184 (bA_at bd03_dec_X3_0_26 35 rfl rfl) rfl
theorem dX3_lowest_69 : decode cX3_lowest 69 = .ok (.istore 4, 2) := op54 (bA_at bd03_dec_X3_0_26 36 rfl rfl) rfl
theorem dX3_lowest_71 : decode cX3_lowest 71 = .ok (.iinc 5 1, 3) := op132 (bA_at bd03_dec_X3_0_26 37 rfl rfl) rfl (by decide +kernel)
theorem dX3_lowest_74 : decode cX3_lowest 74 = .ok (.goto (-51), 3) := op167 (bA_at bd03_dec_X3_0_26 38 rfl rfl) (by decide +kernel)
theorem dX3_lowest_77 : decode cX3_lowest 77 = .ok (.iload 4, 2) := op21 (bA_at bd03_dec_X3_0_26 39 rfl rfl) rfl
theorem dX3_lowest_79 : decode cX3_lowest 79 = .ok (.ireturn, 1) := op172 (bA_at bd03_dec_X3_0_26 40 rfl rfl)
theorem bd03_dec_X3_0_27 : ([(0, [2]), (1, [62]), (2, [3]), (3, [54, 4]), (5, [21, 4]), (7, [4]), (8, [43]), (9, [180, 0, 53]), (12, [120]), (13, [162, 0, 41]), (16, [21, 4]), (18, [184, 0, 159]), (21, [54, 5]), (23, [29]), (24, [2]), (25, [159, 0, 9]), (28, [21, 5]), (30, [29]), (31, [162, 0, 17]), (34, [42]), (35, [43]), (36, [28]), (37, [21, 4]), (39, [182, 0, 193]), (42, [153, 0, 6]), (45, [21, 5]), (47, [62]), (48, [132, 4, 1]), (51, [167, 255, 210]), (54, [29]), (55, [172])] : List (Nat × List UInt8)).all (fun x => prB x.2 ((cX3_fewestTimes.data.toList.drop 0).drop x.1)) = true := by decide +kernel
theorem dX3_fewestTimes_0 : decode cX3_fewestTimes 0 = .ok (.iconst (-1), 1) := op2 (bA_at bd03_dec_X3_0_27 0 rfl rfl)
theorem dX3_fewestTimes_1 : decode cX3_fewestTimes 1 = .ok (.istore_n 3, 1) := op62 (bA_at bd03_dec_X3_0_27 1 rfl rfl)
theorem dX3_fewestTimes_2 : decode cX3_fewestTimes 2 = .ok (.iconst 0, 1) := op3 (bA_at bd03_dec_X3_0_27 2 rfl rfl)
theorem dX3_fewestTimes_3 : decode cX3_fewestTimes 3 = .ok (.istore 4, 2) := op54 (bA_at bd03_dec_X3_0_27 3 rfl rfl) rfl
theorem dX3_fewestTimes_5 : decode cX3_fewestTimes 5 = .ok (.iload 4, 2) := op21 (bA_at bd03_dec_X3_0_27 4 rfl rfl) rfl
theorem dX3_fewestTimes_7 : decode cX3_fewestTimes 7 = .ok (.iconst 1, 1) := op4 (bA_at bd03_dec_X3_0_27 5 rfl rfl)
theorem dX3_fewestTimes_8 : decode cX3_fewestTimes 8 = .ok (.aload_n 1, 1) := op43 (bA_at bd03_dec_X3_0_27 6 rfl rfl)
theorem dX3_fewestTimes_9 : decode cX3_fewestTimes 9 = .ok (.getfield 53, 3) := op180 (bA_at bd03_dec_X3_0_27 7 rfl rfl) rfl
theorem dX3_fewestTimes_12 : decode cX3_fewestTimes 12 = .ok (.ishl, 1) := op120 (bA_at bd03_dec_X3_0_27 8 rfl rfl)
theorem dX3_fewestTimes_13 : decode cX3_fewestTimes 13 = .ok (.if_icmp .ge 41, 3) := op162 (bA_at bd03_dec_X3_0_27 9 rfl rfl) (by decide +kernel)
theorem dX3_fewestTimes_16 : decode cX3_fewestTimes 16 = .ok (.iload 4, 2) := op21 (bA_at bd03_dec_X3_0_27 10 rfl rfl) rfl
theorem dX3_fewestTimes_18 : decode cX3_fewestTimes 18 = .ok (.invokestatic 159, 3) := op184 (bA_at bd03_dec_X3_0_27 11 rfl rfl) rfl
theorem dX3_fewestTimes_21 : decode cX3_fewestTimes 21 = .ok (.istore 5, 2) := op54 (bA_at bd03_dec_X3_0_27 12 rfl rfl) rfl
theorem dX3_fewestTimes_23 : decode cX3_fewestTimes 23 = .ok (.iload_n 3, 1) := op29 (bA_at bd03_dec_X3_0_27 13 rfl rfl)
theorem dX3_fewestTimes_24 : decode cX3_fewestTimes 24 = .ok (.iconst (-1), 1) := op2 (bA_at bd03_dec_X3_0_27 14 rfl rfl)
theorem dX3_fewestTimes_25 : decode cX3_fewestTimes 25 = .ok (.if_icmp .eq 9, 3) := op159 (bA_at bd03_dec_X3_0_27 15 rfl rfl) (by decide +kernel)
theorem dX3_fewestTimes_28 : decode cX3_fewestTimes 28 = .ok (.iload 5, 2) := op21 (bA_at bd03_dec_X3_0_27 16 rfl rfl) rfl
theorem dX3_fewestTimes_30 : decode cX3_fewestTimes 30 = .ok (.iload_n 3, 1) := op29 (bA_at bd03_dec_X3_0_27 17 rfl rfl)
theorem dX3_fewestTimes_31 : decode cX3_fewestTimes 31 = .ok (.if_icmp .ge 17, 3) := op162 (bA_at bd03_dec_X3_0_27 18 rfl rfl) (by decide +kernel)
theorem dX3_fewestTimes_34 : decode cX3_fewestTimes 34 = .ok (.aload_n 0, 1) := op42 (bA_at bd03_dec_X3_0_27 19 rfl rfl)
theorem dX3_fewestTimes_35 : decode cX3_fewestTimes 35 = .ok (.aload_n 1, 1) := op43 (bA_at bd03_dec_X3_0_27 20 rfl rfl)
theorem dX3_fewestTimes_36 : decode cX3_fewestTimes 36 = .ok (.iload_n 2, 1) := op28 (bA_at bd03_dec_X3_0_27 21 rfl rfl)
theorem dX3_fewestTimes_37 : decode cX3_fewestTimes 37 = .ok (.iload 4, 2) := op21 (bA_at bd03_dec_X3_0_27 22 rfl rfl) rfl
theorem dX3_fewestTimes_39 : decode cX3_fewestTimes 39 = .ok (.invokevirtual 193, 3) := op182 (bA_at bd03_dec_X3_0_27 23 rfl rfl) rfl
theorem dX3_fewestTimes_42 : decode cX3_fewestTimes 42 = .ok (.ifCond .eq 6, 3) := op153 (bA_at bd03_dec_X3_0_27 24 rfl rfl) (by decide +kernel)
theorem dX3_fewestTimes_45 : decode cX3_fewestTimes 45 = .ok (.iload 5, 2) := op21 (bA_at bd03_dec_X3_0_27 25 rfl rfl) rfl
theorem dX3_fewestTimes_47 : decode cX3_fewestTimes 47 = .ok (.istore_n 3, 1) := op62 (bA_at bd03_dec_X3_0_27 26 rfl rfl)
theorem dX3_fewestTimes_48 : decode cX3_fewestTimes 48 = .ok (.iinc 4 1, 3) := op132 (bA_at bd03_dec_X3_0_27 27 rfl rfl) rfl (by decide +kernel)
theorem dX3_fewestTimes_51 : decode cX3_fewestTimes 51 = .ok (.goto (-46), 3) := op167 (bA_at bd03_dec_X3_0_27 28 rfl rfl) (by decide +kernel)
theorem dX3_fewestTimes_54 : decode cX3_fewestTimes 54 = .ok (.iload_n 3, 1) := op29 (bA_at bd03_dec_X3_0_27 29 rfl rfl)
theorem dX3_fewestTimes_55 : decode cX3_fewestTimes 55 = .ok (.ireturn, 1) := op172 (bA_at bd03_dec_X3_0_27 30 rfl rfl)
theorem bd03_dec_X3_0_28 : ([(0, [42]), (1, [43]), (2, [28]), (3, [182, 0, 156]), (6, [54, 4]), (8, [42]), (9, [180, 0, 64]), (12, [28]), (13, [184, 0, 67]), (16, [153, 0, 12]), (19, [42]), (20, [180, 0, 18]), (23, [28]), (24, [46]), (25, [167, 0, 6]), (28, [17, 3, 232]), (31, [54, 5]), (33, [29]), (34, [54, 6]), (36, [3]), (37, [54, 7]), (39, [21, 7]), (41, [16, 6]), (43, [162, 0, 101]), (46, [21, 6]), (48, [153, 0, 96]), (51, [42]), (52, [43]), (53, [21, 6]), (55, [182, 0, 196]), (58, [54, 8]), (60, [42]), (61, [43]), (62, [21, 8]), (64, [182, 0, 130]), (67, [54, 9]), (69, [21, 4]), (71, [21, 8]), (73, [184, 0, 67]), (76, [153, 0, 24]), (79, [21, 9]), (81, [21, 5]), (83, [162, 0, 17]), (86, [43]), (87, [42]), (88, [180, 0, 9]), (91, [21, 8]), (93, [46]), (94, [182, 0, 127]), (97, [153, 0, 5])] : List (Nat × List UInt8)).all (fun x => prB x.2 ((cX3_spreads.data.toList.drop 0).drop x.1)) = true := by decide +kernel
theorem dX3_spreads_0 : decode cX3_spreads 0 = .ok (.aload_n 0, 1) := op42 (bA_at bd03_dec_X3_0_28 0 rfl rfl)
theorem dX3_spreads_1 : decode cX3_spreads 1 = .ok (.aload_n 1, 1) := op43 (bA_at bd03_dec_X3_0_28 1 rfl rfl)
theorem dX3_spreads_2 : decode cX3_spreads 2 = .ok (.iload_n 2, 1) := op28 (bA_at bd03_dec_X3_0_28 2 rfl rfl)
theorem dX3_spreads_3 : decode cX3_spreads 3 = .ok (.invokevirtual 156, 3) := op182 (bA_at bd03_dec_X3_0_28 3 rfl rfl) rfl
theorem dX3_spreads_6 : decode cX3_spreads 6 = .ok (.istore 4, 2) := op54 (bA_at bd03_dec_X3_0_28 4 rfl rfl) rfl
theorem dX3_spreads_8 : decode cX3_spreads 8 = .ok (.aload_n 0, 1) := op42 (bA_at bd03_dec_X3_0_28 5 rfl rfl)
theorem dX3_spreads_9 : decode cX3_spreads 9 = .ok (.getfield 64, 3) := op180 (bA_at bd03_dec_X3_0_28 6 rfl rfl) rfl
theorem dX3_spreads_12 : decode cX3_spreads 12 = .ok (.iload_n 2, 1) := op28 (bA_at bd03_dec_X3_0_28 7 rfl rfl)
theorem dX3_spreads_13 : decode cX3_spreads 13 = .ok (.invokestatic 67, 3) := op184 (bA_at bd03_dec_X3_0_28 8 rfl rfl) rfl
theorem dX3_spreads_16 : decode cX3_spreads 16 = .ok (.ifCond .eq 12, 3) := op153 (bA_at bd03_dec_X3_0_28 9 rfl rfl) (by decide +kernel)
theorem dX3_spreads_19 : decode cX3_spreads 19 = .ok (.aload_n 0, 1) := op42 (bA_at bd03_dec_X3_0_28 10 rfl rfl)
theorem dX3_spreads_20 : decode cX3_spreads 20 = .ok (.getfield 18, 3) := op180 (bA_at bd03_dec_X3_0_28 11 rfl rfl) rfl
theorem dX3_spreads_23 : decode cX3_spreads 23 = .ok (.iload_n 2, 1) := op28 (bA_at bd03_dec_X3_0_28 12 rfl rfl)
theorem dX3_spreads_24 : decode cX3_spreads 24 = .ok (.iaload, 1) := op46 (bA_at bd03_dec_X3_0_28 13 rfl rfl)
theorem dX3_spreads_25 : decode cX3_spreads 25 = .ok (.goto 6, 3) := op167 (bA_at bd03_dec_X3_0_28 14 rfl rfl) (by decide +kernel)
theorem dX3_spreads_28 : decode cX3_spreads 28 = .ok (.sipush 1000, 3) := op17 (bA_at bd03_dec_X3_0_28 15 rfl rfl) (by decide +kernel)
theorem dX3_spreads_31 : decode cX3_spreads 31 = .ok (.istore 5, 2) := op54 (bA_at bd03_dec_X3_0_28 16 rfl rfl) rfl
theorem dX3_spreads_33 : decode cX3_spreads 33 = .ok (.iload_n 3, 1) := op29 (bA_at bd03_dec_X3_0_28 17 rfl rfl)
theorem dX3_spreads_34 : decode cX3_spreads 34 = .ok (.istore 6, 2) := op54 (bA_at bd03_dec_X3_0_28 18 rfl rfl) rfl
theorem dX3_spreads_36 : decode cX3_spreads 36 = .ok (.iconst 0, 1) := op3 (bA_at bd03_dec_X3_0_28 19 rfl rfl)
theorem dX3_spreads_37 : decode cX3_spreads 37 = .ok (.istore 7, 2) := op54 (bA_at bd03_dec_X3_0_28 20 rfl rfl) rfl
theorem dX3_spreads_39 : decode cX3_spreads 39 = .ok (.iload 7, 2) := op21 (bA_at bd03_dec_X3_0_28 21 rfl rfl) rfl
theorem dX3_spreads_41 : decode cX3_spreads 41 = .ok (.bipush 6, 2) := op16 (bA_at bd03_dec_X3_0_28 22 rfl rfl) (by decide +kernel)
theorem dX3_spreads_43 : decode cX3_spreads 43 = .ok (.if_icmp .ge 101, 3) := op162 (bA_at bd03_dec_X3_0_28 23 rfl rfl) (by decide +kernel)
theorem dX3_spreads_46 : decode cX3_spreads 46 = .ok (.iload 6, 2) := op21 (bA_at bd03_dec_X3_0_28 24 rfl rfl) rfl
theorem dX3_spreads_48 : decode cX3_spreads 48 = .ok (.ifCond .eq 96, 3) := op153 (bA_at bd03_dec_X3_0_28 25 rfl rfl) (by decide +kernel)
theorem dX3_spreads_51 : decode cX3_spreads 51 = .ok (.aload_n 0, 1) := op42 (bA_at bd03_dec_X3_0_28 26 rfl rfl)
theorem dX3_spreads_52 : decode cX3_spreads 52 = .ok (.aload_n 1, 1) := op43 (bA_at bd03_dec_X3_0_28 27 rfl rfl)
theorem dX3_spreads_53 : decode cX3_spreads 53 = .ok (.iload 6, 2) := op21 (bA_at bd03_dec_X3_0_28 28 rfl rfl) rfl
theorem dX3_spreads_55 : decode cX3_spreads 55 = .ok (.invokevirtual 196, 3) := op182 (bA_at bd03_dec_X3_0_28 29 rfl rfl) rfl
theorem dX3_spreads_58 : decode cX3_spreads 58 = .ok (.istore 8, 2) := op54 (bA_at bd03_dec_X3_0_28 30 rfl rfl) rfl
theorem dX3_spreads_60 : decode cX3_spreads 60 = .ok (.aload_n 0, 1) := op42 (bA_at bd03_dec_X3_0_28 31 rfl rfl)
theorem dX3_spreads_61 : decode cX3_spreads 61 = .ok (.aload_n 1, 1) := op43 (bA_at bd03_dec_X3_0_28 32 rfl rfl)
theorem dX3_spreads_62 : decode cX3_spreads 62 = .ok (.iload 8, 2) := op21 (bA_at bd03_dec_X3_0_28 33 rfl rfl) rfl
theorem dX3_spreads_64 : decode cX3_spreads 64 = .ok (.invokevirtual 130, 3) := op182 (bA_at bd03_dec_X3_0_28 34 rfl rfl) rfl
theorem dX3_spreads_67 : decode cX3_spreads 67 = .ok (.istore 9, 2) := op54 (bA_at bd03_dec_X3_0_28 35 rfl rfl) rfl
theorem dX3_spreads_69 : decode cX3_spreads 69 = .ok (.iload 4, 2) := op21 (bA_at bd03_dec_X3_0_28 36 rfl rfl) rfl
theorem dX3_spreads_71 : decode cX3_spreads 71 = .ok (.iload 8, 2) := op21 (bA_at bd03_dec_X3_0_28 37 rfl rfl) rfl
theorem dX3_spreads_73 : decode cX3_spreads 73 = .ok (.invokestatic 67, 3) := op184 (bA_at bd03_dec_X3_0_28 38 rfl rfl) rfl
theorem dX3_spreads_76 : decode cX3_spreads 76 = .ok (.ifCond .eq 24, 3) := op153 (bA_at bd03_dec_X3_0_28 39 rfl rfl) (by decide +kernel)
theorem dX3_spreads_79 : decode cX3_spreads 79 = .ok (.iload 9, 2) := op21 (bA_at bd03_dec_X3_0_28 40 rfl rfl) rfl
theorem dX3_spreads_81 : decode cX3_spreads 81 = .ok (.iload 5, 2) := op21 (bA_at bd03_dec_X3_0_28 41 rfl rfl) rfl
theorem dX3_spreads_83 : decode cX3_spreads 83 = .ok (.if_icmp .ge 17, 3) := op162 (bA_at bd03_dec_X3_0_28 42 rfl rfl) (by decide +kernel)
theorem dX3_spreads_86 : decode cX3_spreads 86 = .ok (.aload_n 1, 1) := op43 (bA_at bd03_dec_X3_0_28 43 rfl rfl)
theorem dX3_spreads_87 : decode cX3_spreads 87 = .ok (.aload_n 0, 1) := op42 (bA_at bd03_dec_X3_0_28 44 rfl rfl)
theorem dX3_spreads_88 : decode cX3_spreads 88 = .ok (.getfield 9, 3) := op180 (bA_at bd03_dec_X3_0_28 45 rfl rfl) rfl
theorem dX3_spreads_91 : decode cX3_spreads 91 = .ok (.iload 8, 2) := op21 (bA_at bd03_dec_X3_0_28 46 rfl rfl) rfl
theorem dX3_spreads_93 : decode cX3_spreads 93 = .ok (.iaload, 1) := op46 (bA_at bd03_dec_X3_0_28 47 rfl rfl)
theorem dX3_spreads_94 : decode cX3_spreads 94 = .ok (.invokevirtual 127, 3) := op182 (bA_at bd03_dec_X3_0_28 48 rfl rfl) rfl
theorem dX3_spreads_97 : decode cX3_spreads 97 = .ok (.ifCond .eq 5, 3) := op153 (bA_at bd03_dec_X3_0_28 49 rfl rfl) (by decide +kernel)
theorem bd03_dec_X3_0_29 : ([(0, [3]), (1, [172]), (2, [21, 9]), (4, [54, 5]), (6, [21, 4]), (8, [42]), (9, [43]), (10, [43]), (11, [42]), (12, [180, 0, 9]), (15, [21, 8]), (17, [46]), (18, [182, 0, 138]), (21, [182, 0, 141]), (24, [128]), (25, [54, 4]), (27, [21, 6]), (29, [4]), (30, [21, 8]), (32, [120]), (33, [2]), (34, [130]), (35, [126]), (36, [54, 6]), (38, [132, 7, 1]), (41, [167, 255, 154]), (44, [21, 4]), (46, [184, 0, 159]), (49, [43]), (50, [180, 0, 53]), (53, [160, 0, 7]), (56, [4]), (57, [167, 0, 4]), (60, [3]), (61, [172])] : List (Nat × List UInt8)).all (fun x => prB x.2 ((cX3_spreads.data.toList.drop 100).drop x.1)) = true := by decide +kernel
theorem dX3_spreads_100 : decode cX3_spreads 100 = .ok (.iconst 0, 1) := op3 (bA_at bd03_dec_X3_0_29 0 rfl rfl)
theorem dX3_spreads_101 : decode cX3_spreads 101 = .ok (.ireturn, 1) := op172 (bA_at bd03_dec_X3_0_29 1 rfl rfl)
theorem dX3_spreads_102 : decode cX3_spreads 102 = .ok (.iload 9, 2) := op21 (bA_at bd03_dec_X3_0_29 2 rfl rfl) rfl
theorem dX3_spreads_104 : decode cX3_spreads 104 = .ok (.istore 5, 2) := op54 (bA_at bd03_dec_X3_0_29 3 rfl rfl) rfl
theorem dX3_spreads_106 : decode cX3_spreads 106 = .ok (.iload 4, 2) := op21 (bA_at bd03_dec_X3_0_29 4 rfl rfl) rfl
theorem dX3_spreads_108 : decode cX3_spreads 108 = .ok (.aload_n 0, 1) := op42 (bA_at bd03_dec_X3_0_29 5 rfl rfl)
theorem dX3_spreads_109 : decode cX3_spreads 109 = .ok (.aload_n 1, 1) := op43 (bA_at bd03_dec_X3_0_29 6 rfl rfl)
theorem dX3_spreads_110 : decode cX3_spreads 110 = .ok (.aload_n 1, 1) := op43 (bA_at bd03_dec_X3_0_29 7 rfl rfl)
theorem dX3_spreads_111 : decode cX3_spreads 111 = .ok (.aload_n 0, 1) := op42 (bA_at bd03_dec_X3_0_29 8 rfl rfl)
theorem dX3_spreads_112 : decode cX3_spreads 112 = .ok (.getfield 9, 3) := op180 (bA_at bd03_dec_X3_0_29 9 rfl rfl) rfl
theorem dX3_spreads_115 : decode cX3_spreads 115 = .ok (.iload 8, 2) := op21 (bA_at bd03_dec_X3_0_29 10 rfl rfl) rfl
theorem dX3_spreads_117 : decode cX3_spreads 117 = .ok (.iaload, 1) := op46 (bA_at bd03_dec_X3_0_29 11 rfl rfl)
theorem dX3_spreads_118 : decode cX3_spreads 118 = .ok (.invokevirtual 138, 3) := op182 (bA_at bd03_dec_X3_0_29 12 rfl rfl) rfl
theorem dX3_spreads_121 : decode cX3_spreads 121 = .ok (.invokevirtual 141, 3) := op182 (bA_at bd03_dec_X3_0_29 13 rfl rfl) rfl
theorem dX3_spreads_124 : decode cX3_spreads 124 = .ok (.ior, 1) := op128 (bA_at bd03_dec_X3_0_29 14 rfl rfl)
theorem dX3_spreads_125 : decode cX3_spreads 125 = .ok (.istore 4, 2) := op54 (bA_at bd03_dec_X3_0_29 15 rfl rfl) rfl
theorem dX3_spreads_127 : decode cX3_spreads 127 = .ok (.iload 6, 2) := op21 (bA_at bd03_dec_X3_0_29 16 rfl rfl) rfl
theorem dX3_spreads_129 : decode cX3_spreads 129 = .ok (.iconst 1, 1) := op4 (bA_at bd03_dec_X3_0_29 17 rfl rfl)
theorem dX3_spreads_130 : decode cX3_spreads 130 = .ok (.iload 8, 2) := op21 (bA_at bd03_dec_X3_0_29 18 rfl rfl) rfl
theorem dX3_spreads_132 : decode cX3_spreads 132 = .ok (.ishl, 1) := op120 (bA_at bd03_dec_X3_0_29 19 rfl rfl)
theorem dX3_spreads_133 : decode cX3_spreads 133 = .ok (.iconst (-1), 1) := op2 (bA_at bd03_dec_X3_0_29 20 rfl rfl)
theorem dX3_spreads_134 : decode cX3_spreads 134 = .ok (.ixor, 1) := op130 (bA_at bd03_dec_X3_0_29 21 rfl rfl)
theorem dX3_spreads_135 : decode cX3_spreads 135 = .ok (.iand, 1) := op126 (bA_at bd03_dec_X3_0_29 22 rfl rfl)
theorem dX3_spreads_136 : decode cX3_spreads 136 = .ok (.istore 6, 2) := op54 (bA_at bd03_dec_X3_0_29 23 rfl rfl) rfl
theorem dX3_spreads_138 : decode cX3_spreads 138 = .ok (.iinc 7 1, 3) := op132 (bA_at bd03_dec_X3_0_29 24 rfl rfl) rfl (by decide +kernel)
theorem dX3_spreads_141 : decode cX3_spreads 141 = .ok (.goto (-102), 3) := op167 (bA_at bd03_dec_X3_0_29 25 rfl rfl) (by decide +kernel)
theorem dX3_spreads_144 : decode cX3_spreads 144 = .ok (.iload 4, 2) := op21 (bA_at bd03_dec_X3_0_29 26 rfl rfl) rfl
theorem dX3_spreads_146 : decode cX3_spreads 146 = .ok (.invokestatic 159, 3) := op184 (bA_at bd03_dec_X3_0_29 27 rfl rfl) rfl
theorem dX3_spreads_149 : decode cX3_spreads 149 = .ok (.aload_n 1, 1) := op43 (bA_at bd03_dec_X3_0_29 28 rfl rfl)
theorem dX3_spreads_150 : decode cX3_spreads 150 = .ok (.getfield 53, 3) := op180 (bA_at bd03_dec_X3_0_29 29 rfl rfl) rfl
theorem dX3_spreads_153 : decode cX3_spreads 153 = .ok (.if_icmp .ne 7, 3) := op160 (bA_at bd03_dec_X3_0_29 30 rfl rfl) (by decide +kernel)
theorem dX3_spreads_156 : decode cX3_spreads 156 = .ok (.iconst 1, 1) := op4 (bA_at bd03_dec_X3_0_29 31 rfl rfl)
theorem dX3_spreads_157 : decode cX3_spreads 157 = .ok (.goto 4, 3) := op167 (bA_at bd03_dec_X3_0_29 32 rfl rfl) (by decide +kernel)
theorem dX3_spreads_160 : decode cX3_spreads 160 = .ok (.iconst 0, 1) := op3 (bA_at bd03_dec_X3_0_29 33 rfl rfl)
theorem dX3_spreads_161 : decode cX3_spreads 161 = .ok (.ireturn, 1) := op172 (bA_at bd03_dec_X3_0_29 34 rfl rfl)
theorem bd03_dec_X3_0_30 : ([(0, [3]), (1, [62]), (2, [17, 252, 24]), (5, [54, 4]), (7, [3]), (8, [54, 5]), (10, [21, 5]), (12, [43]), (13, [180, 0, 53]), (16, [162, 0, 42]), (19, [28]), (20, [21, 5]), (22, [184, 0, 67]), (25, [153, 0, 27]), (28, [42]), (29, [43]), (30, [21, 5]), (32, [182, 0, 130]), (35, [21, 4]), (37, [164, 0, 15]), (40, [21, 5]), (42, [62]), (43, [42]), (44, [43]), (45, [21, 5]), (47, [182, 0, 130]), (50, [54, 4]), (52, [132, 5, 1]), (55, [167, 255, 211]), (58, [29]), (59, [172])] : List (Nat × List UInt8)).all (fun x => prB x.2 ((cX3_highestOf.data.toList.drop 0).drop x.1)) = true := by decide +kernel
theorem dX3_highestOf_0 : decode cX3_highestOf 0 = .ok (.iconst 0, 1) := op3 (bA_at bd03_dec_X3_0_30 0 rfl rfl)
theorem dX3_highestOf_1 : decode cX3_highestOf 1 = .ok (.istore_n 3, 1) := op62 (bA_at bd03_dec_X3_0_30 1 rfl rfl)
theorem dX3_highestOf_2 : decode cX3_highestOf 2 = .ok (.sipush (-1000), 3) := op17 (bA_at bd03_dec_X3_0_30 2 rfl rfl) (by decide +kernel)
theorem dX3_highestOf_5 : decode cX3_highestOf 5 = .ok (.istore 4, 2) := op54 (bA_at bd03_dec_X3_0_30 3 rfl rfl) rfl
theorem dX3_highestOf_7 : decode cX3_highestOf 7 = .ok (.iconst 0, 1) := op3 (bA_at bd03_dec_X3_0_30 4 rfl rfl)
theorem dX3_highestOf_8 : decode cX3_highestOf 8 = .ok (.istore 5, 2) := op54 (bA_at bd03_dec_X3_0_30 5 rfl rfl) rfl
theorem dX3_highestOf_10 : decode cX3_highestOf 10 = .ok (.iload 5, 2) := op21 (bA_at bd03_dec_X3_0_30 6 rfl rfl) rfl
theorem dX3_highestOf_12 : decode cX3_highestOf 12 = .ok (.aload_n 1, 1) := op43 (bA_at bd03_dec_X3_0_30 7 rfl rfl)
theorem dX3_highestOf_13 : decode cX3_highestOf 13 = .ok (.getfield 53, 3) := op180 (bA_at bd03_dec_X3_0_30 8 rfl rfl) rfl
theorem dX3_highestOf_16 : decode cX3_highestOf 16 = .ok (.if_icmp .ge 42, 3) := op162 (bA_at bd03_dec_X3_0_30 9 rfl rfl) (by decide +kernel)
theorem dX3_highestOf_19 : decode cX3_highestOf 19 = .ok (.iload_n 2, 1) := op28 (bA_at bd03_dec_X3_0_30 10 rfl rfl)
theorem dX3_highestOf_20 : decode cX3_highestOf 20 = .ok (.iload 5, 2) := op21 (bA_at bd03_dec_X3_0_30 11 rfl rfl) rfl
theorem dX3_highestOf_22 : decode cX3_highestOf 22 = .ok (.invokestatic 67, 3) := op184 (bA_at bd03_dec_X3_0_30 12 rfl rfl) rfl
theorem dX3_highestOf_25 : decode cX3_highestOf 25 = .ok (.ifCond .eq 27, 3) := op153 (bA_at bd03_dec_X3_0_30 13 rfl rfl) (by decide +kernel)
theorem dX3_highestOf_28 : decode cX3_highestOf 28 = .ok (.aload_n 0, 1) := op42 (bA_at bd03_dec_X3_0_30 14 rfl rfl)
theorem dX3_highestOf_29 : decode cX3_highestOf 29 = .ok (.aload_n 1, 1) := op43 (bA_at bd03_dec_X3_0_30 15 rfl rfl)
theorem dX3_highestOf_30 : decode cX3_highestOf 30 = .ok (.iload 5, 2) := op21 (bA_at bd03_dec_X3_0_30 16 rfl rfl) rfl
theorem dX3_highestOf_32 : decode cX3_highestOf 32 = .ok (.invokevirtual 130, 3) := op182 (bA_at bd03_dec_X3_0_30 17 rfl rfl) rfl
theorem dX3_highestOf_35 : decode cX3_highestOf 35 = .ok (.iload 4, 2) := op21 (bA_at bd03_dec_X3_0_30 18 rfl rfl) rfl
theorem dX3_highestOf_37 : decode cX3_highestOf 37 = .ok (.if_icmp .le 15, 3) := op164 (bA_at bd03_dec_X3_0_30 19 rfl rfl) (by decide +kernel)
theorem dX3_highestOf_40 : decode cX3_highestOf 40 = .ok (.iload 5, 2) := op21 (bA_at bd03_dec_X3_0_30 20 rfl rfl) rfl
theorem dX3_highestOf_42 : decode cX3_highestOf 42 = .ok (.istore_n 3, 1) := op62 (bA_at bd03_dec_X3_0_30 21 rfl rfl)
theorem dX3_highestOf_43 : decode cX3_highestOf 43 = .ok (.aload_n 0, 1) := op42 (bA_at bd03_dec_X3_0_30 22 rfl rfl)
theorem dX3_highestOf_44 : decode cX3_highestOf 44 = .ok (.aload_n 1, 1) := op43 (bA_at bd03_dec_X3_0_30 23 rfl rfl)
theorem dX3_highestOf_45 : decode cX3_highestOf 45 = .ok (.iload 5, 2) := op21 (bA_at bd03_dec_X3_0_30 24 rfl rfl) rfl
theorem dX3_highestOf_47 : decode cX3_highestOf 47 = .ok (.invokevirtual 130, 3) := op182 (bA_at bd03_dec_X3_0_30 25 rfl rfl) rfl
theorem dX3_highestOf_50 : decode cX3_highestOf 50 = .ok (.istore 4, 2) := op54 (bA_at bd03_dec_X3_0_30 26 rfl rfl) rfl
theorem dX3_highestOf_52 : decode cX3_highestOf 52 = .ok (.iinc 5 1, 3) := op132 (bA_at bd03_dec_X3_0_30 27 rfl rfl) rfl (by decide +kernel)
theorem dX3_highestOf_55 : decode cX3_highestOf 55 = .ok (.goto (-45), 3) := op167 (bA_at bd03_dec_X3_0_30 28 rfl rfl) (by decide +kernel)
theorem dX3_highestOf_58 : decode cX3_highestOf 58 = .ok (.iload_n 3, 1) := op29 (bA_at bd03_dec_X3_0_30 29 rfl rfl)
theorem dX3_highestOf_59 : decode cX3_highestOf 59 = .ok (.ireturn, 1) := op172 (bA_at bd03_dec_X3_0_30 30 rfl rfl)
end
section
theorem bd03_dec_X6_0_0 : ([(0, [42]), (1, [43]), (2, [180, 0, 21]), (5, [181, 0, 21]), (8, [43]), (9, [180, 0, 9]), (12, [3]), (13, [42]), (14, [180, 0, 9]), (17, [3]), (18, [42]), (19, [180, 0, 21]), (22, [184, 0, 25]), (25, [43]), (26, [180, 0, 15]), (29, [3]), (30, [42]), (31, [180, 0, 15]), (34, [3]), (35, [42]), (36, [180, 0, 21]), (39, [184, 0, 25]), (42, [43]), (43, [180, 0, 18]), (46, [3]), (47, [42]), (48, [180, 0, 18]), (51, [3]), (52, [42]), (53, [180, 0, 21]), (56, [184, 0, 25]), (59, [177])] : List (Nat × List UInt8)).all (fun x => prB x.2 ((cX6_copyFrom.data.toList.drop 0).drop x.1)) = true := by decide +kernel
theorem dX6_copyFrom_0 : decode cX6_copyFrom 0 = .ok (.aload_n 0, 1) := op42 (bA_at bd03_dec_X6_0_0 0 rfl rfl)
theorem dX6_copyFrom_1 : decode cX6_copyFrom 1 = .ok (.aload_n 1, 1) := op43 (bA_at bd03_dec_X6_0_0 1 rfl rfl)
theorem dX6_copyFrom_2 : decode cX6_copyFrom 2 = .ok (.getfield 21, 3) := op180 (bA_at bd03_dec_X6_0_0 2 rfl rfl) rfl
theorem dX6_copyFrom_5 : decode cX6_copyFrom 5 = .ok (.putfield 21, 3) := op181 (bA_at bd03_dec_X6_0_0 3 rfl rfl) rfl
theorem dX6_copyFrom_8 : decode cX6_copyFrom 8 = .ok (.aload_n 1, 1) := op43 (bA_at bd03_dec_X6_0_0 4 rfl rfl)
theorem dX6_copyFrom_9 : decode cX6_copyFrom 9 = .ok (.getfield 9, 3) := op180 (bA_at bd03_dec_X6_0_0 5 rfl rfl) rfl
theorem dX6_copyFrom_12 : decode cX6_copyFrom 12 = .ok (.iconst 0, 1) := op3 (bA_at bd03_dec_X6_0_0 6 rfl rfl)
theorem dX6_copyFrom_13 : decode cX6_copyFrom 13 = .ok (.aload_n 0, 1) := op42 (bA_at bd03_dec_X6_0_0 7 rfl rfl)
theorem dX6_copyFrom_14 : decode cX6_copyFrom 14 = .ok (.getfield 9, 3) := op180 (bA_at bd03_dec_X6_0_0 8 rfl rfl) rfl
theorem dX6_copyFrom_17 : decode cX6_copyFrom 17 = .ok (.iconst 0, 1) := op3 (bA_at bd03_dec_X6_0_0 9 rfl rfl)
theorem dX6_copyFrom_18 : decode cX6_copyFrom 18 = .ok (.aload_n 0, 1) := op42 (bA_at bd03_dec_X6_0_0 10 rfl rfl)
theorem dX6_copyFrom_19 : decode cX6_copyFrom 19 = .ok (.getfield 21, 3) := op180 (bA_at bd03_dec_X6_0_0 11 rfl rfl) rfl
theorem dX6_copyFrom_22 : decode cX6_copyFrom 22 = .ok (.invokestatic 25, 3) := op184 (bA_at bd03_dec_X6_0_0 12 rfl rfl) rfl
theorem dX6_copyFrom_25 : decode cX6_copyFrom 25 = .ok (.aload_n 1, 1) := op43 (bA_at bd03_dec_X6_0_0 13 rfl rfl)
theorem dX6_copyFrom_26 : decode cX6_copyFrom 26 = .ok (.getfield 15, 3) := op180 (bA_at bd03_dec_X6_0_0 14 rfl rfl) rfl
theorem dX6_copyFrom_29 : decode cX6_copyFrom 29 = .ok (.iconst 0, 1) := op3 (bA_at bd03_dec_X6_0_0 15 rfl rfl)
theorem dX6_copyFrom_30 : decode cX6_copyFrom 30 = .ok (.aload_n 0, 1) := op42 (bA_at bd03_dec_X6_0_0 16 rfl rfl)
theorem dX6_copyFrom_31 : decode cX6_copyFrom 31 = .ok (.getfield 15, 3) := op180 (bA_at bd03_dec_X6_0_0 17 rfl rfl) rfl
theorem dX6_copyFrom_34 : decode cX6_copyFrom 34 = .ok (.iconst 0, 1) := op3 (bA_at bd03_dec_X6_0_0 18 rfl rfl)
theorem dX6_copyFrom_35 : decode cX6_copyFrom 35 = .ok (.aload_n 0, 1) := op42 (bA_at bd03_dec_X6_0_0 19 rfl rfl)
theorem dX6_copyFrom_36 : decode cX6_copyFrom 36 = .ok (.getfield 21, 3) := op180 (bA_at bd03_dec_X6_0_0 20 rfl rfl) rfl
theorem dX6_copyFrom_39 : decode cX6_copyFrom 39 = .ok (.invokestatic 25, 3) := op184 (bA_at bd03_dec_X6_0_0 21 rfl rfl) rfl
theorem dX6_copyFrom_42 : decode cX6_copyFrom 42 = .ok (.aload_n 1, 1) := op43 (bA_at bd03_dec_X6_0_0 22 rfl rfl)
theorem dX6_copyFrom_43 : decode cX6_copyFrom 43 = .ok (.getfield 18, 3) := op180 (bA_at bd03_dec_X6_0_0 23 rfl rfl) rfl
theorem dX6_copyFrom_46 : decode cX6_copyFrom 46 = .ok (.iconst 0, 1) := op3 (bA_at bd03_dec_X6_0_0 24 rfl rfl)
theorem dX6_copyFrom_47 : decode cX6_copyFrom 47 = .ok (.aload_n 0, 1) := op42 (bA_at bd03_dec_X6_0_0 25 rfl rfl)
theorem dX6_copyFrom_48 : decode cX6_copyFrom 48 = .ok (.getfield 18, 3) := op180 (bA_at bd03_dec_X6_0_0 26 rfl rfl) rfl
theorem dX6_copyFrom_51 : decode cX6_copyFrom 51 = .ok (.iconst 0, 1) := op3 (bA_at bd03_dec_X6_0_0 27 rfl rfl)
theorem dX6_copyFrom_52 : decode cX6_copyFrom 52 = .ok (.aload_n 0, 1) := op42 (bA_at bd03_dec_X6_0_0 28 rfl rfl)
theorem dX6_copyFrom_53 : decode cX6_copyFrom 53 = .ok (.getfield 21, 3) := op180 (bA_at bd03_dec_X6_0_0 29 rfl rfl) rfl
theorem dX6_copyFrom_56 : decode cX6_copyFrom 56 = .ok (.invokestatic 25, 3) := op184 (bA_at bd03_dec_X6_0_0 30 rfl rfl) rfl
theorem dX6_copyFrom_59 : decode cX6_copyFrom 59 = .ok (.return_, 1) := op177 (bA_at bd03_dec_X6_0_0 31 rfl rfl)
theorem bd03_dec_X6_0_1 : ([(0, [3]), (1, [61]), (2, [28]), (3, [42]), (4, [180, 0, 21]), (7, [162, 0, 21]), (10, [42]), (11, [180, 0, 15]), (14, [28]), (15, [46]), (16, [27]), (17, [161, 0, 5]), (20, [3]), (21, [172]), (22, [132, 2, 1]), (25, [167, 255, 233]), (28, [4]), (29, [172])] : List (Nat × List UInt8)).all (fun x => prB x.2 ((cX6_staysWithin.data.toList.drop 0).drop x.1)) = true := by decide +kernel
theorem dX6_staysWithin_0 : decode cX6_staysWithin 0 = .ok (.iconst 0, 1) := op3 (bA_at bd03_dec_X6_0_1 0 rfl rfl)
theorem dX6_staysWithin_1 : decode cX6_staysWithin 1 = .ok (.istore_n 2, 1) := op61 (bA_at bd03_dec_X6_0_1 1 rfl rfl)
theorem dX6_staysWithin_2 : decode cX6_staysWithin 2 = .ok (.iload_n 2, 1) := op28 (bA_at bd03_dec_X6_0_1 2 rfl rfl)
theorem dX6_staysWithin_3 : decode cX6_staysWithin 3 = .ok (.aload_n 0, 1) := op42 (bA_at bd03_dec_X6_0_1 3 rfl rfl)
theorem dX6_staysWithin_4 : decode cX6_staysWithin 4 = .ok (.getfield 21, 3) := op180 (bA_at bd03_dec_X6_0_1 4 rfl rfl) rfl
theorem dX6_staysWithin_7 : decode cX6_staysWithin 7 = .ok (.if_icmp .ge 21, 3) := op162 (bA_at bd03_dec_X6_0_1 5 rfl rfl) (by decide +kernel)
theorem dX6_staysWithin_10 : decode cX6_staysWithin 10 = .ok (.aload_n 0, 1) := op42 (bA_at bd03_dec_X6_0_1 6 rfl rfl)
theorem dX6_staysWithin_11 : decode cX6_staysWithin 11 = .ok (.getfield 15, 3) := op180 (bA_at bd03_dec_X6_0_1 7 rfl rfl) rfl
theorem dX6_staysWithin_14 : decode cX6_staysWithin 14 = .ok (.iload_n 2, 1) := op28 (bA_at bd03_dec_X6_0_1 8 rfl rfl)
theorem dX6_staysWithin_15 : decode cX6_staysWithin 15 = .ok (.iaload, 1) := op46 (bA_at bd03_dec_X6_0_1 9 rfl rfl)
theorem dX6_staysWithin_16 : decode cX6_staysWithin 16 = .ok (.iload_n 1, 1) := op27 (bA_at bd03_dec_X6_0_1 10 rfl rfl)
theorem dX6_staysWithin_17 : decode cX6_staysWithin 17 = .ok (.if_icmp .lt 5, 3) := op161 (bA_at bd03_dec_X6_0_1 11 rfl rfl) (by decide +kernel)
theorem dX6_staysWithin_20 : decode cX6_staysWithin 20 = .ok (.iconst 0, 1) := op3 (bA_at bd03_dec_X6_0_1 12 rfl rfl)
theorem dX6_staysWithin_21 : decode cX6_staysWithin 21 = .ok (.ireturn, 1) := op172 (bA_at bd03_dec_X6_0_1 13 rfl rfl)
theorem dX6_staysWithin_22 : decode cX6_staysWithin 22 = .ok (.iinc 2 1, 3) := op132 (bA_at bd03_dec_X6_0_1 14 rfl rfl) rfl (by decide +kernel)
theorem dX6_staysWithin_25 : decode cX6_staysWithin 25 = .ok (.goto (-23), 3) := op167 (bA_at bd03_dec_X6_0_1 15 rfl rfl) (by decide +kernel)
theorem dX6_staysWithin_28 : decode cX6_staysWithin 28 = .ok (.iconst 1, 1) := op4 (bA_at bd03_dec_X6_0_1 16 rfl rfl)
theorem dX6_staysWithin_29 : decode cX6_staysWithin 29 = .ok (.ireturn, 1) := op172 (bA_at bd03_dec_X6_0_1 17 rfl rfl)
theorem dX6_look_1 : decode cX6_look 1 = .ok (.tableswitch 48 0 2 #[27, 34, 41], 27) := by decide +kernel
theorem bd03_dec_X6_0_2 : ([(0, [28]), (28, [42]), (29, [180, 0, 9]), (32, [27]), (33, [46]), (34, [172]), (35, [42]), (36, [180, 0, 15]), (39, [27]), (40, [46]), (41, [172]), (42, [42]), (43, [180, 0, 18]), (46, [27]), (47, [46]), (48, [172]), (49, [16, 254]), (51, [172])] : List (Nat × List UInt8)).all (fun x => prB x.2 ((cX6_look.data.toList.drop 0).drop x.1)) = true := by decide +kernel
theorem dX6_look_0 : decode cX6_look 0 = .ok (.iload_n 2, 1) := op28 (bA_at bd03_dec_X6_0_2 0 rfl rfl)
theorem dX6_look_28 : decode cX6_look 28 = .ok (.aload_n 0, 1) := op42 (bA_at bd03_dec_X6_0_2 1 rfl rfl)
theorem dX6_look_29 : decode cX6_look 29 = .ok (.getfield 9, 3) := op180 (bA_at bd03_dec_X6_0_2 2 rfl rfl) rfl
theorem dX6_look_32 : decode cX6_look 32 = .ok (.iload_n 1, 1) := op27 (bA_at bd03_dec_X6_0_2 3 rfl rfl)
theorem dX6_look_33 : decode cX6_look 33 = .ok (.iaload, 1) := op46 (bA_at bd03_dec_X6_0_2 4 rfl rfl)
theorem dX6_look_34 : decode cX6_look 34 = .ok (.ireturn, 1) := op172 (bA_at bd03_dec_X6_0_2 5 rfl rfl)
theorem dX6_look_35 : decode cX6_look 35 = .ok (.aload_n 0, 1) := op42 (bA_at bd03_dec_X6_0_2 6 rfl rfl)
theorem dX6_look_36 : decode cX6_look 36 = .ok (.getfield 15, 3) := op180 (bA_at bd03_dec_X6_0_2 7 rfl rfl) rfl
theorem dX6_look_39 : decode cX6_look 39 = .ok (.iload_n 1, 1) := op27 (bA_at bd03_dec_X6_0_2 8 rfl rfl)
theorem dX6_look_40 : decode cX6_look 40 = .ok (.iaload, 1) := op46 (bA_at bd03_dec_X6_0_2 9 rfl rfl)
theorem dX6_look_41 : decode cX6_look 41 = .ok (.ireturn, 1) := op172 (bA_at bd03_dec_X6_0_2 10 rfl rfl)
theorem dX6_look_42 : decode cX6_look 42 = .ok (.aload_n 0, 1) := op42 (bA_at bd03_dec_X6_0_2 11 rfl rfl)
theorem dX6_look_43 : decode cX6_look 43 = .ok (.getfield 18, 3) := op180 (bA_at bd03_dec_X6_0_2 12 rfl rfl) rfl
theorem dX6_look_46 : decode cX6_look 46 = .ok (.iload_n 1, 1) := op27 (bA_at bd03_dec_X6_0_2 13 rfl rfl)
theorem dX6_look_47 : decode cX6_look 47 = .ok (.iaload, 1) := op46 (bA_at bd03_dec_X6_0_2 14 rfl rfl)
theorem dX6_look_48 : decode cX6_look 48 = .ok (.ireturn, 1) := op172 (bA_at bd03_dec_X6_0_2 15 rfl rfl)
theorem dX6_look_49 : decode cX6_look 49 = .ok (.bipush (-2), 2) := op16 (bA_at bd03_dec_X6_0_2 16 rfl rfl) (by decide +kernel)
theorem dX6_look_51 : decode cX6_look 51 = .ok (.ireturn, 1) := op172 (bA_at bd03_dec_X6_0_2 17 rfl rfl)
end
