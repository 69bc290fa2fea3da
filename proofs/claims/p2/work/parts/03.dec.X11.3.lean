theorem dX11_trade_99 : decode cX11_trade 99 = .ok (.iload 4, 2) := by decide +kernel
theorem dX11_trade_101 : decode cX11_trade 101 = .ok (.ifCond .eq 13, 3) := by decide +kernel
theorem dX11_trade_104 : decode cX11_trade 104 = .ok (.aload_n 0, 1) := by decide +kernel
theorem dX11_trade_105 : decode cX11_trade 105 = .ok (.iload_n 1, 1) := by decide +kernel
theorem dX11_trade_106 : decode cX11_trade 106 = .ok (.iload_n 2, 1) := by decide +kernel
theorem dX11_trade_107 : decode cX11_trade 107 = .ok (.iload_n 3, 1) := by decide +kernel
theorem dX11_trade_108 : decode cX11_trade 108 = .ok (.invokevirtual 511, 3) := by decide +kernel
theorem dX11_trade_111 : decode cX11_trade 111 = .ok (.goto 22, 3) := by decide +kernel
theorem dX11_trade_114 : decode cX11_trade 114 = .ok (.aload_n 0, 1) := by decide +kernel
theorem dX11_trade_115 : decode cX11_trade 115 = .ok (.getfield 88, 3) := by decide +kernel
theorem dX11_trade_118 : decode cX11_trade 118 = .ok (.bipush 61, 2) := by decide +kernel
theorem dX11_trade_120 : decode cX11_trade 120 = .ok (.iload_n 1, 1) := by decide +kernel
theorem dX11_trade_121 : decode cX11_trade 121 = .ok (.imul, 1) := by decide +kernel
theorem dX11_trade_122 : decode cX11_trade 122 = .ok (.iload_n 2, 1) := by decide +kernel
theorem dX11_trade_123 : decode cX11_trade 123 = .ok (.iadd, 1) := by decide +kernel
theorem dX11_trade_124 : decode cX11_trade 124 = .ok (.baload, 1) := by decide +kernel
theorem dX11_trade_125 : decode cX11_trade 125 = .ok (.ifCond .eq 7, 3) := by decide +kernel
theorem dX11_trade_128 : decode cX11_trade 128 = .ok (.iconst 1, 1) := by decide +kernel
theorem dX11_trade_129 : decode cX11_trade 129 = .ok (.goto 4, 3) := by decide +kernel
theorem dX11_trade_132 : decode cX11_trade 132 = .ok (.iconst 0, 1) := by decide +kernel
theorem dX11_trade_133 : decode cX11_trade 133 = .ok (.ireturn, 1) := by decide +kernel
theorem dX11_odds_0 : decode cX11_odds 0 = .ok (.aload_n 0, 1) := by decide +kernel
theorem dX11_odds_1 : decode cX11_odds 1 = .ok (.iconst 0, 1) := by decide +kernel
theorem dX11_odds_2 : decode cX11_odds 2 = .ok (.putfield 97, 3) := by decide +kernel
theorem dX11_odds_5 : decode cX11_odds 5 = .ok (.iload_n 3, 1) := by decide +kernel
theorem dX11_odds_6 : decode cX11_odds 6 = .ok (.iconst 0, 1) := by decide +kernel
theorem dX11_odds_7 : decode cX11_odds 7 = .ok (.iconst 2, 1) := by decide +kernel
theorem dX11_odds_8 : decode cX11_odds 8 = .ok (.invokestatic 109, 3) := by decide +kernel
theorem dX11_odds_11 : decode cX11_odds 11 = .ok (.ifCond .eq 12, 3) := by decide +kernel
theorem dX11_odds_14 : decode cX11_odds 14 = .ok (.aload_n 0, 1) := by decide +kernel
theorem dX11_odds_15 : decode cX11_odds 15 = .ok (.iload_n 1, 1) := by decide +kernel
theorem dX11_odds_16 : decode cX11_odds 16 = .ok (.iload_n 2, 1) := by decide +kernel
theorem dX11_odds_17 : decode cX11_odds 17 = .ok (.invokevirtual 383, 3) := by decide +kernel
theorem dX11_odds_20 : decode cX11_odds 20 = .ok (.ifCond .ne 7, 3) := by decide +kernel
theorem dX11_odds_23 : decode cX11_odds 23 = .ok (.ldc2_w 503, 3) := by decide +kernel
theorem dX11_odds_26 : decode cX11_odds 26 = .ok (.lreturn, 1) := by decide +kernel
theorem dX11_odds_27 : decode cX11_odds 27 = .ok (.aload_n 0, 1) := by decide +kernel
theorem dX11_odds_28 : decode cX11_odds 28 = .ok (.aload_n 0, 1) := by decide +kernel
theorem dX11_odds_29 : decode cX11_odds 29 = .ok (.invokevirtual 334, 3) := by decide +kernel
theorem dX11_odds_32 : decode cX11_odds 32 = .ok (.invokevirtual 386, 3) := by decide +kernel
theorem dX11_odds_35 : decode cX11_odds 35 = .ok (.pop, 1) := by decide +kernel
theorem dX11_odds_36 : decode cX11_odds 36 = .ok (.iload_n 3, 1) := by decide +kernel
theorem dX11_odds_37 : decode cX11_odds 37 = .ok (.iconst 2, 1) := by decide +kernel
theorem dX11_odds_38 : decode cX11_odds 38 = .ok (.if_icmp .ne 19, 3) := by decide +kernel
theorem dX11_odds_41 : decode cX11_odds 41 = .ok (.aload_n 0, 1) := by decide +kernel
theorem dX11_odds_42 : decode cX11_odds 42 = .ok (.getfield 346, 3) := by decide +kernel
theorem dX11_odds_45 : decode cX11_odds 45 = .ok (.bipush 10, 2) := by decide +kernel
theorem dX11_odds_47 : decode cX11_odds 47 = .ok (.aload_n 0, 1) := by decide +kernel
theorem dX11_odds_48 : decode cX11_odds 48 = .ok (.bipush 6, 2) := by decide +kernel
theorem dX11_odds_50 : decode cX11_odds 50 = .ok (.invokevirtual 303, 3) := by decide +kernel
theorem dX11_odds_53 : decode cX11_odds 53 = .ok (.isub, 1) := by decide +kernel
theorem dX11_odds_54 : decode cX11_odds 54 = .ok (.imul, 1) := by decide +kernel
theorem dX11_odds_55 : decode cX11_odds 55 = .ok (.i2l, 1) := by decide +kernel
theorem dX11_odds_56 : decode cX11_odds 56 = .ok (.lreturn, 1) := by decide +kernel
theorem dX11_odds_57 : decode cX11_odds 57 = .ok (.aload_n 0, 1) := by decide +kernel
theorem dX11_odds_58 : decode cX11_odds 58 = .ok (.getfield 346, 3) := by decide +kernel
theorem dX11_odds_61 : decode cX11_odds 61 = .ok (.bipush 18, 2) := by decide +kernel
theorem dX11_odds_63 : decode cX11_odds 63 = .ok (.if_icmp .le 7, 3) := by decide +kernel
theorem dX11_odds_66 : decode cX11_odds 66 = .ok (.ldc2_w 503, 3) := by decide +kernel
theorem dX11_odds_69 : decode cX11_odds 69 = .ok (.lreturn, 1) := by decide +kernel
theorem dX11_odds_70 : decode cX11_odds 70 = .ok (.aload_n 0, 1) := by decide +kernel
theorem dX11_odds_71 : decode cX11_odds 71 = .ok (.bipush 6, 2) := by decide +kernel
theorem dX11_odds_73 : decode cX11_odds 73 = .ok (.invokevirtual 303, 3) := by decide +kernel
theorem dX11_odds_76 : decode cX11_odds 76 = .ok (.ifCond .eq 14, 3) := by decide +kernel
theorem dX11_odds_79 : decode cX11_odds 79 = .ok (.aload_n 0, 1) := by decide +kernel
theorem dX11_odds_80 : decode cX11_odds 80 = .ok (.bipush 6, 2) := by decide +kernel
theorem dX11_odds_82 : decode cX11_odds 82 = .ok (.invokevirtual 303, 3) := by decide +kernel
theorem dX11_odds_85 : decode cX11_odds 85 = .ok (.bipush 10, 2) := by decide +kernel
theorem dX11_odds_87 : decode cX11_odds 87 = .ok (.if_icmp .ne 8, 3) := by decide +kernel
theorem dX11_odds_90 : decode cX11_odds 90 = .ok (.bipush 10, 2) := by decide +kernel
theorem dX11_odds_92 : decode cX11_odds 92 = .ok (.goto 33, 3) := by decide +kernel
theorem dX11_odds_95 : decode cX11_odds 95 = .ok (.aload_n 0, 1) := by decide +kernel
theorem dX11_odds_96 : decode cX11_odds 96 = .ok (.bipush 6, 2) := by decide +kernel
theorem dX11_odds_98 : decode cX11_odds 98 = .ok (.invokevirtual 303, 3) := by decide +kernel
theorem dX11_odds_101 : decode cX11_odds 101 = .ok (.iconst 5, 1) := by decide +kernel
theorem dX11_odds_102 : decode cX11_odds 102 = .ok (.if_icmp .ne 7, 3) := by decide +kernel
theorem dX11_odds_105 : decode cX11_odds 105 = .ok (.iconst 5, 1) := by decide +kernel
theorem dX11_odds_106 : decode cX11_odds 106 = .ok (.goto 19, 3) := by decide +kernel
theorem dX11_odds_109 : decode cX11_odds 109 = .ok (.aload_n 0, 1) := by decide +kernel
theorem dX11_odds_110 : decode cX11_odds 110 = .ok (.bipush 6, 2) := by decide +kernel
theorem dX11_odds_112 : decode cX11_odds 112 = .ok (.invokevirtual 303, 3) := by decide +kernel
theorem dX11_odds_115 : decode cX11_odds 115 = .ok (.iconst 2, 1) := by decide +kernel
theorem dX11_odds_116 : decode cX11_odds 116 = .ok (.irem, 1) := by decide +kernel
theorem dX11_odds_117 : decode cX11_odds 117 = .ok (.ifCond .ne 7, 3) := by decide +kernel
theorem dX11_odds_120 : decode cX11_odds 120 = .ok (.iconst 2, 1) := by decide +kernel
theorem dX11_odds_121 : decode cX11_odds 121 = .ok (.goto 4, 3) := by decide +kernel
theorem dX11_odds_124 : decode cX11_odds 124 = .ok (.iconst 1, 1) := by decide +kernel
theorem dX11_odds_125 : decode cX11_odds 125 = .ok (.istore 4, 2) := by decide +kernel
theorem dX11_odds_127 : decode cX11_odds 127 = .ok (.lconst 1, 1) := by decide +kernel
theorem dX11_odds_128 : decode cX11_odds 128 = .ok (.lstore 5, 2) := by decide +kernel
theorem dX11_odds_130 : decode cX11_odds 130 = .ok (.lconst 1, 1) := by decide +kernel
theorem dX11_odds_131 : decode cX11_odds 131 = .ok (.lstore 7, 2) := by decide +kernel
theorem dX11_odds_133 : decode cX11_odds 133 = .ok (.iconst 0, 1) := by decide +kernel
theorem dX11_odds_134 : decode cX11_odds 134 = .ok (.istore 9, 2) := by decide +kernel
theorem dX11_odds_136 : decode cX11_odds 136 = .ok (.iload 9, 2) := by decide +kernel
theorem dX11_odds_138 : decode cX11_odds 138 = .ok (.aload_n 0, 1) := by decide +kernel
theorem dX11_odds_139 : decode cX11_odds 139 = .ok (.getfield 346, 3) := by decide +kernel
theorem dX11_odds_142 : decode cX11_odds 142 = .ok (.if_icmp .ge 35, 3) := by decide +kernel
theorem dX11_odds_145 : decode cX11_odds 145 = .ok (.lload 5, 2) := by decide +kernel
theorem dX11_odds_147 : decode cX11_odds 147 = .ok (.aload_n 0, 1) := by decide +kernel
theorem dX11_odds_148 : decode cX11_odds 148 = .ok (.bipush 6, 2) := by decide +kernel
theorem dX11_odds_150 : decode cX11_odds 150 = .ok (.invokevirtual 303, 3) := by decide +kernel
theorem dX11_odds_153 : decode cX11_odds 153 = .ok (.iload 4, 2) := by decide +kernel
theorem dX11_odds_155 : decode cX11_odds 155 = .ok (.idiv, 1) := by decide +kernel
theorem dX11_odds_156 : decode cX11_odds 156 = .ok (.i2l, 1) := by decide +kernel
theorem dX11_odds_157 : decode cX11_odds 157 = .ok (.lmul, 1) := by decide +kernel
theorem dX11_odds_158 : decode cX11_odds 158 = .ok (.lstore 5, 2) := by decide +kernel
theorem dX11_odds_160 : decode cX11_odds 160 = .ok (.lload 7, 2) := by decide +kernel
theorem dX11_odds_162 : decode cX11_odds 162 = .ok (.bipush 10, 2) := by decide +kernel
theorem dX11_odds_164 : decode cX11_odds 164 = .ok (.iload 4, 2) := by decide +kernel
theorem dX11_odds_166 : decode cX11_odds 166 = .ok (.idiv, 1) := by decide +kernel
theorem dX11_odds_167 : decode cX11_odds 167 = .ok (.i2l, 1) := by decide +kernel
theorem dX11_odds_168 : decode cX11_odds 168 = .ok (.lmul, 1) := by decide +kernel
theorem dX11_odds_169 : decode cX11_odds 169 = .ok (.lstore 7, 2) := by decide +kernel
theorem dX11_odds_171 : decode cX11_odds 171 = .ok (.iinc 9 1, 3) := by decide +kernel
theorem dX11_odds_174 : decode cX11_odds 174 = .ok (.goto (-38), 3) := by decide +kernel
theorem dX11_odds_177 : decode cX11_odds 177 = .ok (.iload_n 3, 1) := by decide +kernel
theorem dX11_odds_178 : decode cX11_odds 178 = .ok (.ifCond .ne 8, 3) := by decide +kernel
theorem dX11_odds_181 : decode cX11_odds 181 = .ok (.lload 5, 2) := by decide +kernel
theorem dX11_odds_183 : decode cX11_odds 183 = .ok (.goto 5, 3) := by decide +kernel
theorem dX11_odds_186 : decode cX11_odds 186 = .ok (.lload 7, 2) := by decide +kernel
theorem dX11_odds_188 : decode cX11_odds 188 = .ok (.lreturn, 1) := by decide +kernel
theorem dX11_draw_0 : decode cX11_draw 0 = .ok (.aload_n 0, 1) := by decide +kernel
theorem dX11_draw_1 : decode cX11_draw 1 = .ok (.aload_n 0, 1) := by decide +kernel
theorem dX11_draw_2 : decode cX11_draw 2 = .ok (.getfield 515, 3) := by decide +kernel
theorem dX11_draw_5 : decode cX11_draw 5 = .ok (.ldc_w 518, 3) := by decide +kernel
theorem dX11_draw_8 : decode cX11_draw 8 = .ok (.imul, 1) := by decide +kernel
theorem dX11_draw_9 : decode cX11_draw 9 = .ok (.sipush 12345, 3) := by decide +kernel
theorem dX11_draw_12 : decode cX11_draw 12 = .ok (.iadd, 1) := by decide +kernel
theorem dX11_draw_13 : decode cX11_draw 13 = .ok (.putfield 515, 3) := by decide +kernel
theorem dX11_draw_16 : decode cX11_draw 16 = .ok (.aload_n 0, 1) := by decide +kernel
theorem dX11_draw_17 : decode cX11_draw 17 = .ok (.getfield 515, 3) := by decide +kernel
theorem dX11_draw_20 : decode cX11_draw 20 = .ok (.bipush 16, 2) := by decide +kernel
theorem dX11_draw_22 : decode cX11_draw 22 = .ok (.iushr, 1) := by decide +kernel
theorem dX11_draw_23 : decode cX11_draw 23 = .ok (.iload_n 1, 1) := by decide +kernel
theorem dX11_draw_24 : decode cX11_draw 24 = .ok (.irem, 1) := by decide +kernel
theorem dX11_draw_25 : decode cX11_draw 25 = .ok (.ireturn, 1) := by decide +kernel
theorem dX11_drawDeed_0 : decode cX11_drawDeed 0 = .ok (.aload_n 0, 1) := by decide +kernel
theorem dX11_drawDeed_1 : decode cX11_drawDeed 1 = .ok (.aload_n 0, 1) := by decide +kernel
theorem dX11_drawDeed_2 : decode cX11_drawDeed 2 = .ok (.getfield 310, 3) := by decide +kernel
theorem dX11_drawDeed_5 : decode cX11_drawDeed 5 = .ok (.invokevirtual 519, 3) := by decide +kernel
theorem dX11_drawDeed_8 : decode cX11_drawDeed 8 = .ok (.istore_n 1, 1) := by decide +kernel
theorem dX11_drawDeed_9 : decode cX11_drawDeed 9 = .ok (.aload_n 0, 1) := by decide +kernel
theorem dX11_drawDeed_10 : decode cX11_drawDeed 10 = .ok (.bipush 8, 2) := by decide +kernel
theorem dX11_drawDeed_12 : decode cX11_drawDeed 12 = .ok (.invokevirtual 519, 3) := by decide +kernel
theorem dX11_drawDeed_15 : decode cX11_drawDeed 15 = .ok (.iconst 3, 1) := by decide +kernel
theorem dX11_drawDeed_16 : decode cX11_drawDeed 16 = .ok (.if_icmp .ge 18, 3) := by decide +kernel
theorem dX11_drawDeed_19 : decode cX11_drawDeed 19 = .ok (.aload_n 0, 1) := by decide +kernel
theorem dX11_drawDeed_20 : decode cX11_drawDeed 20 = .ok (.iload_n 1, 1) := by decide +kernel
theorem dX11_drawDeed_21 : decode cX11_drawDeed 21 = .ok (.aload_n 0, 1) := by decide +kernel
theorem dX11_drawDeed_22 : decode cX11_drawDeed 22 = .ok (.aload_n 0, 1) := by decide +kernel
theorem dX11_drawDeed_23 : decode cX11_drawDeed 23 = .ok (.getfield 307, 3) := by decide +kernel
theorem dX11_drawDeed_26 : decode cX11_drawDeed 26 = .ok (.invokevirtual 519, 3) := by decide +kernel
theorem dX11_drawDeed_29 : decode cX11_drawDeed 29 = .ok (.invokevirtual 374, 3) := by decide +kernel
theorem dX11_drawDeed_32 : decode cX11_drawDeed 32 = .ok (.pop, 1) := by decide +kernel
theorem dX11_drawDeed_33 : decode cX11_drawDeed 33 = .ok (.return_, 1) := by decide +kernel
theorem dX11_drawDeed_34 : decode cX11_drawDeed 34 = .ok (.aload_n 0, 1) := by decide +kernel
theorem dX11_drawDeed_35 : decode cX11_drawDeed 35 = .ok (.iconst 5, 1) := by decide +kernel
theorem dX11_drawDeed_36 : decode cX11_drawDeed 36 = .ok (.invokevirtual 519, 3) := by decide +kernel
theorem dX11_drawDeed_39 : decode cX11_drawDeed 39 = .ok (.istore_n 2, 1) := by decide +kernel
theorem dX11_drawDeed_40 : decode cX11_drawDeed 40 = .ok (.aload_n 0, 1) := by decide +kernel
theorem dX11_drawDeed_41 : decode cX11_drawDeed 41 = .ok (.iload_n 1, 1) := by decide +kernel
theorem dX11_drawDeed_42 : decode cX11_drawDeed 42 = .ok (.iload_n 2, 1) := by decide +kernel
theorem dX11_drawDeed_43 : decode cX11_drawDeed 43 = .ok (.invokevirtual 364, 3) := by decide +kernel
theorem dX11_drawDeed_46 : decode cX11_drawDeed 46 = .ok (.ifCond .eq 12, 3) := by decide +kernel
theorem dX11_drawDeed_49 : decode cX11_drawDeed 49 = .ok (.aload_n 0, 1) := by decide +kernel
theorem dX11_drawDeed_50 : decode cX11_drawDeed 50 = .ok (.iload_n 1, 1) := by decide +kernel
theorem dX11_drawDeed_51 : decode cX11_drawDeed 51 = .ok (.iload_n 2, 1) := by decide +kernel
theorem dX11_drawDeed_52 : decode cX11_drawDeed 52 = .ok (.invokevirtual 358, 3) := by decide +kernel
theorem dX11_drawDeed_55 : decode cX11_drawDeed 55 = .ok (.goto 19, 3) := by decide +kernel
theorem dX11_drawDeed_58 : decode cX11_drawDeed 58 = .ok (.aload_n 0, 1) := by decide +kernel
theorem dX11_drawDeed_59 : decode cX11_drawDeed 59 = .ok (.iload_n 1, 1) := by decide +kernel
theorem dX11_drawDeed_60 : decode cX11_drawDeed 60 = .ok (.iload_n 2, 1) := by decide +kernel
theorem dX11_drawDeed_61 : decode cX11_drawDeed 61 = .ok (.invokevirtual 367, 3) := by decide +kernel
theorem dX11_drawDeed_64 : decode cX11_drawDeed 64 = .ok (.ifCond .eq 10, 3) := by decide +kernel
theorem dX11_drawDeed_67 : decode cX11_drawDeed 67 = .ok (.aload_n 0, 1) := by decide +kernel
theorem dX11_drawDeed_68 : decode cX11_drawDeed 68 = .ok (.iload_n 1, 1) := by decide +kernel
theorem dX11_drawDeed_69 : decode cX11_drawDeed 69 = .ok (.iload_n 2, 1) := by decide +kernel
theorem dX11_drawDeed_70 : decode cX11_drawDeed 70 = .ok (.iconst 0, 1) := by decide +kernel
theorem dX11_drawDeed_71 : decode cX11_drawDeed 71 = .ok (.invokevirtual 370, 3) := by decide +kernel
theorem dX11_drawDeed_74 : decode cX11_drawDeed 74 = .ok (.return_, 1) := by decide +kernel
theorem dX11_drawn_0 : decode cX11_drawn 0 = .ok (.aload_n 0, 1) := by decide +kernel
theorem dX11_drawn_1 : decode cX11_drawn 1 = .ok (.iconst 0, 1) := by decide +kernel
theorem dX11_drawn_2 : decode cX11_drawn 2 = .ok (.putfield 97, 3) := by decide +kernel
theorem dX11_drawn_5 : decode cX11_drawn 5 = .ok (.iload_n 3, 1) := by decide +kernel
theorem dX11_drawn_6 : decode cX11_drawn 6 = .ok (.iconst 0, 1) := by decide +kernel
theorem dX11_drawn_7 : decode cX11_drawn 7 = .ok (.bipush 60, 2) := by decide +kernel
theorem dX11_drawn_9 : decode cX11_drawn 9 = .ok (.invokestatic 109, 3) := by decide +kernel
theorem dX11_drawn_12 : decode cX11_drawn 12 = .ok (.ifCond .eq 18, 3) := by decide +kernel
theorem dX11_drawn_15 : decode cX11_drawn 15 = .ok (.aload_n 0, 1) := by decide +kernel
theorem dX11_drawn_16 : decode cX11_drawn 16 = .ok (.iload_n 1, 1) := by decide +kernel
theorem dX11_drawn_17 : decode cX11_drawn 17 = .ok (.invokevirtual 313, 3) := by decide +kernel
theorem dX11_drawn_20 : decode cX11_drawn 20 = .ok (.ifCond .eq 10, 3) := by decide +kernel
theorem dX11_drawn_23 : decode cX11_drawn 23 = .ok (.aload_n 0, 1) := by decide +kernel
theorem dX11_drawn_24 : decode cX11_drawn 24 = .ok (.getfield 310, 3) := by decide +kernel
theorem dX11_drawn_27 : decode cX11_drawn 27 = .ok (.ifCond .ne 7, 3) := by decide +kernel
theorem dX11_drawn_30 : decode cX11_drawn 30 = .ok (.sipush (-1000), 3) := by decide +kernel
theorem dX11_drawn_33 : decode cX11_drawn 33 = .ok (.ireturn, 1) := by decide +kernel
theorem dX11_drawn_34 : decode cX11_drawn 34 = .ok (.aload_n 0, 1) := by decide +kernel
theorem dX11_drawn_35 : decode cX11_drawn 35 = .ok (.iload_n 2, 1) := by decide +kernel
theorem dX11_drawn_36 : decode cX11_drawn 36 = .ok (.putfield 515, 3) := by decide +kernel
theorem dX11_drawn_39 : decode cX11_drawn 39 = .ok (.aload_n 0, 1) := by decide +kernel
theorem dX11_drawn_40 : decode cX11_drawn 40 = .ok (.invokevirtual 377, 3) := by decide +kernel
theorem dX11_drawn_43 : decode cX11_drawn 43 = .ok (.iconst 0, 1) := by decide +kernel
theorem dX11_drawn_44 : decode cX11_drawn 44 = .ok (.istore 5, 2) := by decide +kernel
theorem dX11_drawn_46 : decode cX11_drawn 46 = .ok (.iload 5, 2) := by decide +kernel
theorem dX11_drawn_48 : decode cX11_drawn 48 = .ok (.iload_n 3, 1) := by decide +kernel
theorem dX11_drawn_49 : decode cX11_drawn 49 = .ok (.if_icmp .ge 13, 3) := by decide +kernel
theorem dX11_drawn_52 : decode cX11_drawn 52 = .ok (.aload_n 0, 1) := by decide +kernel
theorem dX11_drawn_53 : decode cX11_drawn 53 = .ok (.invokevirtual 522, 3) := by decide +kernel
theorem dX11_drawn_56 : decode cX11_drawn 56 = .ok (.iinc 5 1, 3) := by decide +kernel
theorem dX11_drawn_59 : decode cX11_drawn 59 = .ok (.goto (-13), 3) := by decide +kernel
theorem dX11_drawn_62 : decode cX11_drawn 62 = .ok (.aload_n 0, 1) := by decide +kernel
theorem dX11_drawn_63 : decode cX11_drawn 63 = .ok (.iload 4, 2) := by decide +kernel
theorem dX11_drawn_65 : decode cX11_drawn 65 = .ok (.invokevirtual 407, 3) := by decide +kernel
theorem dX11_drawn_68 : decode cX11_drawn 68 = .ok (.ireturn, 1) := by decide +kernel
theorem dX11_psalm_0 : decode cX11_psalm 0 = .ok (.aload_n 0, 1) := by decide +kernel
theorem dX11_psalm_1 : decode cX11_psalm 1 = .ok (.iconst 0, 1) := by decide +kernel
theorem dX11_psalm_2 : decode cX11_psalm 2 = .ok (.putfield 97, 3) := by decide +kernel
theorem dX11_psalm_5 : decode cX11_psalm 5 = .ok (.aload_n 0, 1) := by decide +kernel
theorem dX11_psalm_6 : decode cX11_psalm 6 = .ok (.iload_n 1, 1) := by decide +kernel
theorem dX11_psalm_7 : decode cX11_psalm 7 = .ok (.invokevirtual 313, 3) := by decide +kernel
theorem dX11_psalm_10 : decode cX11_psalm 10 = .ok (.ifCond .eq 31, 3) := by decide +kernel
theorem dX11_psalm_13 : decode cX11_psalm 13 = .ok (.aload_n 0, 1) := by decide +kernel
theorem dX11_psalm_14 : decode cX11_psalm 14 = .ok (.iload_n 2, 1) := by decide +kernel
theorem dX11_psalm_15 : decode cX11_psalm 15 = .ok (.invokevirtual 316, 3) := by decide +kernel
theorem dX11_psalm_18 : decode cX11_psalm 18 = .ok (.ifCond .eq 23, 3) := by decide +kernel
theorem dX11_psalm_21 : decode cX11_psalm 21 = .ok (.iload_n 3, 1) := by decide +kernel
theorem dX11_psalm_22 : decode cX11_psalm 22 = .ok (.iconst 0, 1) := by decide +kernel
theorem dX11_psalm_23 : decode cX11_psalm 23 = .ok (.bipush 99, 2) := by decide +kernel
theorem dX11_psalm_25 : decode cX11_psalm 25 = .ok (.invokestatic 109, 3) := by decide +kernel
theorem dX11_psalm_28 : decode cX11_psalm 28 = .ok (.ifCond .eq 13, 3) := by decide +kernel
theorem dX11_psalm_31 : decode cX11_psalm 31 = .ok (.iload 4, 2) := by decide +kernel
theorem dX11_psalm_33 : decode cX11_psalm 33 = .ok (.iconst 0, 1) := by decide +kernel
theorem dX11_psalm_34 : decode cX11_psalm 34 = .ok (.iconst 2, 1) := by decide +kernel
theorem dX11_psalm_35 : decode cX11_psalm 35 = .ok (.invokestatic 109, 3) := by decide +kernel
theorem dX11_psalm_38 : decode cX11_psalm 38 = .ok (.ifCond .ne 6, 3) := by decide +kernel
theorem dX11_psalm_41 : decode cX11_psalm 41 = .ok (.bipush (-2), 2) := by decide +kernel
theorem dX11_psalm_43 : decode cX11_psalm 43 = .ok (.ireturn, 1) := by decide +kernel
theorem dX11_psalm_44 : decode cX11_psalm 44 = .ok (.iconst 0, 1) := by decide +kernel
theorem dX11_psalm_45 : decode cX11_psalm 45 = .ok (.istore 5, 2) := by decide +kernel
theorem dX11_psalm_47 : decode cX11_psalm 47 = .ok (.iconst (-1), 1) := by decide +kernel
theorem dX11_psalm_48 : decode cX11_psalm 48 = .ok (.istore 6, 2) := by decide +kernel
theorem dX11_psalm_50 : decode cX11_psalm 50 = .ok (.ldc_w 410, 3) := by decide +kernel
theorem dX11_psalm_53 : decode cX11_psalm 53 = .ok (.istore 7, 2) := by decide +kernel
theorem dX11_psalm_55 : decode cX11_psalm 55 = .ok (.iconst 0, 1) := by decide +kernel
theorem dX11_psalm_56 : decode cX11_psalm 56 = .ok (.istore 8, 2) := by decide +kernel
theorem dX11_psalm_58 : decode cX11_psalm 58 = .ok (.iload 8, 2) := by decide +kernel
theorem dX11_psalm_60 : decode cX11_psalm 60 = .ok (.aload_n 0, 1) := by decide +kernel
theorem dX11_psalm_61 : decode cX11_psalm 61 = .ok (.getfield 307, 3) := by decide +kernel
theorem dX11_psalm_64 : decode cX11_psalm 64 = .ok (.if_icmp .ge 78, 3) := by decide +kernel
theorem dX11_psalm_67 : decode cX11_psalm 67 = .ok (.aload_n 0, 1) := by decide +kernel
theorem dX11_psalm_68 : decode cX11_psalm 68 = .ok (.iload 8, 2) := by decide +kernel
theorem dX11_psalm_70 : decode cX11_psalm 70 = .ok (.iconst 0, 1) := by decide +kernel
theorem dX11_psalm_71 : decode cX11_psalm 71 = .ok (.invokevirtual 414, 3) := by decide +kernel
theorem dX11_psalm_74 : decode cX11_psalm 74 = .ok (.aload_n 0, 1) := by decide +kernel
theorem dX11_psalm_75 : decode cX11_psalm 75 = .ok (.getfield 59, 3) := by decide +kernel
theorem dX11_psalm_78 : decode cX11_psalm 78 = .ok (.iload_n 2, 1) := by decide +kernel
theorem dX11_psalm_79 : decode cX11_psalm 79 = .ok (.iaload, 1) := by decide +kernel
theorem dX11_psalm_80 : decode cX11_psalm 80 = .ok (.iload_n 3, 1) := by decide +kernel
theorem dX11_psalm_81 : decode cX11_psalm 81 = .ok (.if_icmp .gt 55, 3) := by decide +kernel
theorem dX11_psalm_84 : decode cX11_psalm 84 = .ok (.iload 5, 2) := by decide +kernel
theorem dX11_psalm_86 : decode cX11_psalm 86 = .ok (.iconst 1, 1) := by decide +kernel
theorem dX11_psalm_87 : decode cX11_psalm 87 = .ok (.iload 8, 2) := by decide +kernel
theorem dX11_psalm_89 : decode cX11_psalm 89 = .ok (.ishl, 1) := by decide +kernel
theorem dX11_psalm_90 : decode cX11_psalm 90 = .ok (.ior, 1) := by decide +kernel
theorem dX11_psalm_91 : decode cX11_psalm 91 = .ok (.istore 5, 2) := by decide +kernel
theorem dX11_psalm_93 : decode cX11_psalm 93 = .ok (.iload 6, 2) := by decide +kernel
theorem dX11_psalm_95 : decode cX11_psalm 95 = .ok (.iconst (-1), 1) := by decide +kernel
theorem dX11_psalm_96 : decode cX11_psalm 96 = .ok (.if_icmp .eq 18, 3) := by decide +kernel
theorem dX11_psalm_99 : decode cX11_psalm 99 = .ok (.aload_n 0, 1) := by decide +kernel
theorem dX11_psalm_100 : decode cX11_psalm 100 = .ok (.iload 8, 2) := by decide +kernel
theorem dX11_psalm_102 : decode cX11_psalm 102 = .ok (.invokevirtual 322, 3) := by decide +kernel
theorem dX11_psalm_105 : decode cX11_psalm 105 = .ok (.aload_n 0, 1) := by decide +kernel
theorem dX11_psalm_106 : decode cX11_psalm 106 = .ok (.iload 6, 2) := by decide +kernel
theorem dX11_psalm_108 : decode cX11_psalm 108 = .ok (.invokevirtual 322, 3) := by decide +kernel
theorem dX11_psalm_111 : decode cX11_psalm 111 = .ok (.if_icmp .le 8, 3) := by decide +kernel
theorem dX11_psalm_114 : decode cX11_psalm 114 = .ok (.iload 8, 2) := by decide +kernel
theorem dX11_psalm_116 : decode cX11_psalm 116 = .ok (.goto 5, 3) := by decide +kernel
theorem dX11_psalm_119 : decode cX11_psalm 119 = .ok (.iload 6, 2) := by decide +kernel
theorem dX11_psalm_121 : decode cX11_psalm 121 = .ok (.istore 6, 2) := by decide +kernel
theorem dX11_psalm_123 : decode cX11_psalm 123 = .ok (.iload 7, 2) := by decide +kernel
theorem dX11_psalm_125 : decode cX11_psalm 125 = .ok (.aload_n 0, 1) := by decide +kernel
theorem dX11_psalm_126 : decode cX11_psalm 126 = .ok (.getfield 59, 3) := by decide +kernel
theorem dX11_psalm_129 : decode cX11_psalm 129 = .ok (.iload_n 2, 1) := by decide +kernel
theorem dX11_psalm_130 : decode cX11_psalm 130 = .ok (.iaload, 1) := by decide +kernel
theorem dX11_psalm_131 : decode cX11_psalm 131 = .ok (.invokestatic 411, 3) := by decide +kernel
theorem dX11_psalm_134 : decode cX11_psalm 134 = .ok (.istore 7, 2) := by decide +kernel
theorem dX11_psalm_136 : decode cX11_psalm 136 = .ok (.iinc 8 1, 3) := by decide +kernel
theorem dX11_psalm_139 : decode cX11_psalm 139 = .ok (.goto (-81), 3) := by decide +kernel
theorem dX11_psalm_142 : decode cX11_psalm 142 = .ok (.iload 4, 2) := by decide +kernel
theorem dX11_psalm_144 : decode cX11_psalm 144 = .ok (.ifCond .ne 8, 3) := by decide +kernel
theorem dX11_psalm_147 : decode cX11_psalm 147 = .ok (.iload 5, 2) := by decide +kernel
theorem dX11_psalm_149 : decode cX11_psalm 149 = .ok (.goto 27, 3) := by decide +kernel
theorem dX11_psalm_152 : decode cX11_psalm 152 = .ok (.iload 4, 2) := by decide +kernel
theorem dX11_psalm_154 : decode cX11_psalm 154 = .ok (.iconst 1, 1) := by decide +kernel
theorem dX11_psalm_155 : decode cX11_psalm 155 = .ok (.if_icmp .ne 8, 3) := by decide +kernel
theorem dX11_psalm_158 : decode cX11_psalm 158 = .ok (.iload 6, 2) := by decide +kernel
theorem dX11_psalm_160 : decode cX11_psalm 160 = .ok (.goto 16, 3) := by decide +kernel
theorem dX11_psalm_163 : decode cX11_psalm 163 = .ok (.iload 5, 2) := by decide +kernel
theorem dX11_psalm_165 : decode cX11_psalm 165 = .ok (.ifCond .ne 7, 3) := by decide +kernel
theorem dX11_psalm_168 : decode cX11_psalm 168 = .ok (.iconst (-1), 1) := by decide +kernel
theorem dX11_psalm_169 : decode cX11_psalm 169 = .ok (.goto 7, 3) := by decide +kernel
theorem dX11_psalm_172 : decode cX11_psalm 172 = .ok (.iload_n 3, 1) := by decide +kernel
theorem dX11_psalm_173 : decode cX11_psalm 173 = .ok (.iload 7, 2) := by decide +kernel
theorem dX11_psalm_175 : decode cX11_psalm 175 = .ok (.isub, 1) := by decide +kernel
theorem dX11_psalm_176 : decode cX11_psalm 176 = .ok (.ireturn, 1) := by decide +kernel
theorem dX11_meet_0 : decode cX11_meet 0 = .ok (.aload_n 0, 1) := by decide +kernel
theorem dX11_meet_1 : decode cX11_meet 1 = .ok (.iconst 0, 1) := by decide +kernel
theorem dX11_meet_2 : decode cX11_meet 2 = .ok (.putfield 97, 3) := by decide +kernel
theorem dX11_meet_5 : decode cX11_meet 5 = .ok (.aload_n 0, 1) := by decide +kernel
theorem dX11_meet_6 : decode cX11_meet 6 = .ok (.iload_n 1, 1) := by decide +kernel
theorem dX11_meet_7 : decode cX11_meet 7 = .ok (.invokevirtual 313, 3) := by decide +kernel
theorem dX11_meet_10 : decode cX11_meet 10 = .ok (.ifCond .eq 24, 3) := by decide +kernel
theorem dX11_meet_13 : decode cX11_meet 13 = .ok (.aload_n 0, 1) := by decide +kernel
theorem dX11_meet_14 : decode cX11_meet 14 = .ok (.iload_n 2, 1) := by decide +kernel
theorem dX11_meet_15 : decode cX11_meet 15 = .ok (.invokevirtual 325, 3) := by decide +kernel
theorem dX11_meet_18 : decode cX11_meet 18 = .ok (.ifCond .eq 16, 3) := by decide +kernel
theorem dX11_meet_21 : decode cX11_meet 21 = .ok (.aload_n 0, 1) := by decide +kernel
theorem dX11_meet_22 : decode cX11_meet 22 = .ok (.iload_n 3, 1) := by decide +kernel
theorem dX11_meet_23 : decode cX11_meet 23 = .ok (.invokevirtual 325, 3) := by decide +kernel
theorem dX11_meet_26 : decode cX11_meet 26 = .ok (.ifCond .eq 8, 3) := by decide +kernel
theorem dX11_meet_29 : decode cX11_meet 29 = .ok (.iload_n 2, 1) := by decide +kernel
theorem dX11_meet_30 : decode cX11_meet 30 = .ok (.iload_n 3, 1) := by decide +kernel
theorem dX11_meet_31 : decode cX11_meet 31 = .ok (.if_icmp .ne 5, 3) := by decide +kernel
theorem dX11_meet_34 : decode cX11_meet 34 = .ok (.iconst (-1), 1) := by decide +kernel
theorem dX11_meet_35 : decode cX11_meet 35 = .ok (.ireturn, 1) := by decide +kernel
theorem dX11_meet_36 : decode cX11_meet 36 = .ok (.aload_n 0, 1) := by decide +kernel
theorem dX11_meet_37 : decode cX11_meet 37 = .ok (.invokevirtual 454, 3) := by decide +kernel
theorem dX11_meet_40 : decode cX11_meet 40 = .ok (.iconst (-1), 1) := by decide +kernel
theorem dX11_meet_41 : decode cX11_meet 41 = .ok (.istore 5, 2) := by decide +kernel
theorem dX11_meet_43 : decode cX11_meet 43 = .ok (.ldc_w 410, 3) := by decide +kernel
theorem dX11_meet_46 : decode cX11_meet 46 = .ok (.istore 6, 2) := by decide +kernel
theorem dX11_meet_48 : decode cX11_meet 48 = .ok (.iconst 0, 1) := by decide +kernel
theorem dX11_meet_49 : decode cX11_meet 49 = .ok (.istore 7, 2) := by decide +kernel
theorem dX11_meet_51 : decode cX11_meet 51 = .ok (.iload 7, 2) := by decide +kernel
theorem dX11_meet_53 : decode cX11_meet 53 = .ok (.aload_n 0, 1) := by decide +kernel
theorem dX11_meet_54 : decode cX11_meet 54 = .ok (.getfield 307, 3) := by decide +kernel
theorem dX11_meet_57 : decode cX11_meet 57 = .ok (.if_icmp .ge 77, 3) := by decide +kernel
theorem dX11_meet_60 : decode cX11_meet 60 = .ok (.aload_n 0, 1) := by decide +kernel
theorem dX11_meet_61 : decode cX11_meet 61 = .ok (.getfield 78, 3) := by decide +kernel
theorem dX11_meet_64 : decode cX11_meet 64 = .ok (.bipush 9, 2) := by decide +kernel
theorem dX11_meet_66 : decode cX11_meet 66 = .ok (.aload_n 0, 1) := by decide +kernel
theorem dX11_meet_67 : decode cX11_meet 67 = .ok (.bipush 25, 2) := by decide +kernel
theorem dX11_meet_69 : decode cX11_meet 69 = .ok (.iload_n 2, 1) := by decide +kernel
theorem dX11_meet_70 : decode cX11_meet 70 = .ok (.iadd, 1) := by decide +kernel
theorem dX11_meet_71 : decode cX11_meet 71 = .ok (.invokevirtual 303, 3) := by decide +kernel
theorem dX11_meet_74 : decode cX11_meet 74 = .ok (.imul, 1) := by decide +kernel
theorem dX11_meet_75 : decode cX11_meet 75 = .ok (.iload 7, 2) := by decide +kernel
theorem dX11_meet_77 : decode cX11_meet 77 = .ok (.iadd, 1) := by decide +kernel
theorem dX11_meet_78 : decode cX11_meet 78 = .ok (.iaload, 1) := by decide +kernel
theorem dX11_meet_79 : decode cX11_meet 79 = .ok (.aload_n 0, 1) := by decide +kernel
theorem dX11_meet_80 : decode cX11_meet 80 = .ok (.getfield 78, 3) := by decide +kernel
theorem dX11_meet_83 : decode cX11_meet 83 = .ok (.bipush 9, 2) := by decide +kernel
theorem dX11_meet_85 : decode cX11_meet 85 = .ok (.aload_n 0, 1) := by decide +kernel
theorem dX11_meet_86 : decode cX11_meet 86 = .ok (.bipush 25, 2) := by decide +kernel
theorem dX11_meet_88 : decode cX11_meet 88 = .ok (.iload_n 3, 1) := by decide +kernel
theorem dX11_meet_89 : decode cX11_meet 89 = .ok (.iadd, 1) := by decide +kernel
theorem dX11_meet_90 : decode cX11_meet 90 = .ok (.invokevirtual 303, 3) := by decide +kernel
theorem dX11_meet_93 : decode cX11_meet 93 = .ok (.imul, 1) := by decide +kernel
theorem dX11_meet_94 : decode cX11_meet 94 = .ok (.iload 7, 2) := by decide +kernel
theorem dX11_meet_96 : decode cX11_meet 96 = .ok (.iadd, 1) := by decide +kernel
theorem dX11_meet_97 : decode cX11_meet 97 = .ok (.iaload, 1) := by decide +kernel
theorem dX11_meet_98 : decode cX11_meet 98 = .ok (.invokestatic 171, 3) := by decide +kernel
theorem dX11_meet_101 : decode cX11_meet 101 = .ok (.istore 8, 2) := by decide +kernel
theorem dX11_meet_103 : decode cX11_meet 103 = .ok (.iload 8, 2) := by decide +kernel
theorem dX11_meet_105 : decode cX11_meet 105 = .ok (.iload 6, 2) := by decide +kernel
theorem dX11_meet_107 : decode cX11_meet 107 = .ok (.if_icmp .ge 8, 3) := by decide +kernel
theorem dX11_meet_110 : decode cX11_meet 110 = .ok (.iload 7, 2) := by decide +kernel
theorem dX11_meet_112 : decode cX11_meet 112 = .ok (.goto 5, 3) := by decide +kernel
theorem dX11_meet_115 : decode cX11_meet 115 = .ok (.iload 5, 2) := by decide +kernel
theorem dX11_meet_117 : decode cX11_meet 117 = .ok (.istore 5, 2) := by decide +kernel
theorem dX11_meet_119 : decode cX11_meet 119 = .ok (.iload 6, 2) := by decide +kernel
theorem dX11_meet_121 : decode cX11_meet 121 = .ok (.iload 8, 2) := by decide +kernel
theorem dX11_meet_123 : decode cX11_meet 123 = .ok (.invokestatic 411, 3) := by decide +kernel
theorem dX11_meet_126 : decode cX11_meet 126 = .ok (.istore 6, 2) := by decide +kernel
theorem dX11_meet_128 : decode cX11_meet 128 = .ok (.iinc 7 1, 3) := by decide +kernel
theorem dX11_meet_131 : decode cX11_meet 131 = .ok (.goto (-80), 3) := by decide +kernel
theorem dX11_meet_134 : decode cX11_meet 134 = .ok (.iload 5, 2) := by decide +kernel
theorem dX11_meet_136 : decode cX11_meet 136 = .ok (.iconst (-1), 1) := by decide +kernel
theorem dX11_meet_137 : decode cX11_meet 137 = .ok (.if_icmp .eq 8, 3) := by decide +kernel
theorem dX11_meet_140 : decode cX11_meet 140 = .ok (.iload 4, 2) := by decide +kernel
theorem dX11_meet_142 : decode cX11_meet 142 = .ok (.ifCond .ne 8, 3) := by decide +kernel
theorem dX11_meet_145 : decode cX11_meet 145 = .ok (.iload 5, 2) := by decide +kernel
theorem dX11_meet_147 : decode cX11_meet 147 = .ok (.goto 5, 3) := by decide +kernel
theorem dX11_meet_150 : decode cX11_meet 150 = .ok (.iload 6, 2) := by decide +kernel
theorem dX11_meet_152 : decode cX11_meet 152 = .ok (.ireturn, 1) := by decide +kernel
theorem dX11_carry_0 : decode cX11_carry 0 = .ok (.aload_n 0, 1) := by decide +kernel
theorem dX11_carry_1 : decode cX11_carry 1 = .ok (.iconst 0, 1) := by decide +kernel
theorem dX11_carry_2 : decode cX11_carry 2 = .ok (.putfield 97, 3) := by decide +kernel
theorem dX11_carry_5 : decode cX11_carry 5 = .ok (.aload_n 0, 1) := by decide +kernel
theorem dX11_carry_6 : decode cX11_carry 6 = .ok (.iload_n 1, 1) := by decide +kernel
theorem dX11_carry_7 : decode cX11_carry 7 = .ok (.invokevirtual 313, 3) := by decide +kernel
theorem dX11_carry_10 : decode cX11_carry 10 = .ok (.ifCond .eq 11, 3) := by decide +kernel
theorem dX11_carry_13 : decode cX11_carry 13 = .ok (.aload_n 0, 1) := by decide +kernel
theorem dX11_carry_14 : decode cX11_carry 14 = .ok (.iload_n 2, 1) := by decide +kernel
theorem dX11_carry_15 : decode cX11_carry 15 = .ok (.invokevirtual 325, 3) := by decide +kernel
theorem dX11_carry_18 : decode cX11_carry 18 = .ok (.ifCond .ne 5, 3) := by decide +kernel
theorem dX11_carry_21 : decode cX11_carry 21 = .ok (.iconst (-1), 1) := by decide +kernel
theorem dX11_carry_22 : decode cX11_carry 22 = .ok (.ireturn, 1) := by decide +kernel
theorem dX11_carry_23 : decode cX11_carry 23 = .ok (.aload_n 0, 1) := by decide +kernel
theorem dX11_carry_24 : decode cX11_carry 24 = .ok (.invokevirtual 454, 3) := by decide +kernel
theorem dX11_carry_27 : decode cX11_carry 27 = .ok (.iconst (-1), 1) := by decide +kernel
theorem dX11_carry_28 : decode cX11_carry 28 = .ok (.istore 4, 2) := by decide +kernel
theorem dX11_carry_30 : decode cX11_carry 30 = .ok (.ldc_w 410, 3) := by decide +kernel
theorem dX11_carry_33 : decode cX11_carry 33 = .ok (.istore 5, 2) := by decide +kernel
theorem dX11_carry_35 : decode cX11_carry 35 = .ok (.iconst 0, 1) := by decide +kernel
theorem dX11_carry_36 : decode cX11_carry 36 = .ok (.istore 6, 2) := by decide +kernel
theorem dX11_carry_38 : decode cX11_carry 38 = .ok (.iload 6, 2) := by decide +kernel
theorem dX11_carry_40 : decode cX11_carry 40 = .ok (.aload_n 0, 1) := by decide +kernel
theorem dX11_carry_41 : decode cX11_carry 41 = .ok (.getfield 307, 3) := by decide +kernel
theorem dX11_carry_44 : decode cX11_carry 44 = .ok (.if_icmp .ge 82, 3) := by decide +kernel
theorem dX11_carry_47 : decode cX11_carry 47 = .ok (.aload_n 0, 1) := by decide +kernel
theorem dX11_carry_48 : decode cX11_carry 48 = .ok (.iload 6, 2) := by decide +kernel
theorem dX11_carry_50 : decode cX11_carry 50 = .ok (.iconst 0, 1) := by decide +kernel
theorem dX11_carry_51 : decode cX11_carry 51 = .ok (.invokevirtual 414, 3) := by decide +kernel
theorem dX11_carry_54 : decode cX11_carry 54 = .ok (.aload_n 0, 1) := by decide +kernel
theorem dX11_carry_55 : decode cX11_carry 55 = .ok (.iload 6, 2) := by decide +kernel
theorem dX11_carry_57 : decode cX11_carry 57 = .ok (.invokevirtual 355, 3) := by decide +kernel
theorem dX11_carry_60 : decode cX11_carry 60 = .ok (.ifCond .eq 9, 3) := by decide +kernel
theorem dX11_carry_63 : decode cX11_carry 63 = .ok (.ldc_w 410, 3) := by decide +kernel
theorem dX11_carry_66 : decode cX11_carry 66 = .ok (.goto 27, 3) := by decide +kernel
theorem dX11_carry_69 : decode cX11_carry 69 = .ok (.aload_n 0, 1) := by decide +kernel
theorem dX11_carry_70 : decode cX11_carry 70 = .ok (.getfield 78, 3) := by decide +kernel
theorem dX11_carry_73 : decode cX11_carry 73 = .ok (.bipush 9, 2) := by decide +kernel
theorem dX11_carry_75 : decode cX11_carry 75 = .ok (.aload_n 0, 1) := by decide +kernel
theorem dX11_carry_76 : decode cX11_carry 76 = .ok (.bipush 25, 2) := by decide +kernel
theorem dX11_carry_78 : decode cX11_carry 78 = .ok (.iload_n 2, 1) := by decide +kernel
theorem dX11_carry_79 : decode cX11_carry 79 = .ok (.iadd, 1) := by decide +kernel
theorem dX11_carry_80 : decode cX11_carry 80 = .ok (.invokevirtual 303, 3) := by decide +kernel
theorem dX11_carry_83 : decode cX11_carry 83 = .ok (.imul, 1) := by decide +kernel
theorem dX11_carry_84 : decode cX11_carry 84 = .ok (.iload 6, 2) := by decide +kernel
theorem dX11_carry_86 : decode cX11_carry 86 = .ok (.iadd, 1) := by decide +kernel
theorem dX11_carry_87 : decode cX11_carry 87 = .ok (.iaload, 1) := by decide +kernel
theorem dX11_carry_88 : decode cX11_carry 88 = .ok (.aload_n 0, 1) := by decide +kernel
theorem dX11_carry_89 : decode cX11_carry 89 = .ok (.invokevirtual 426, 3) := by decide +kernel
theorem dX11_carry_92 : decode cX11_carry 92 = .ok (.iadd, 1) := by decide +kernel
theorem dX11_carry_93 : decode cX11_carry 93 = .ok (.istore 7, 2) := by decide +kernel
theorem dX11_carry_95 : decode cX11_carry 95 = .ok (.iload 7, 2) := by decide +kernel
theorem dX11_carry_97 : decode cX11_carry 97 = .ok (.iload 5, 2) := by decide +kernel
theorem dX11_carry_99 : decode cX11_carry 99 = .ok (.if_icmp .ge 8, 3) := by decide +kernel
theorem dX11_carry_102 : decode cX11_carry 102 = .ok (.iload 6, 2) := by decide +kernel
theorem dX11_carry_104 : decode cX11_carry 104 = .ok (.goto 5, 3) := by decide +kernel
theorem dX11_carry_107 : decode cX11_carry 107 = .ok (.iload 4, 2) := by decide +kernel
theorem dX11_carry_109 : decode cX11_carry 109 = .ok (.istore 4, 2) := by decide +kernel
theorem dX11_carry_111 : decode cX11_carry 111 = .ok (.iload 5, 2) := by decide +kernel
theorem dX11_carry_113 : decode cX11_carry 113 = .ok (.iload 7, 2) := by decide +kernel
theorem dX11_carry_115 : decode cX11_carry 115 = .ok (.invokestatic 411, 3) := by decide +kernel
theorem dX11_carry_118 : decode cX11_carry 118 = .ok (.istore 5, 2) := by decide +kernel
theorem dX11_carry_120 : decode cX11_carry 120 = .ok (.iinc 6 1, 3) := by decide +kernel
theorem dX11_carry_123 : decode cX11_carry 123 = .ok (.goto (-85), 3) := by decide +kernel
theorem dX11_carry_126 : decode cX11_carry 126 = .ok (.iload 4, 2) := by decide +kernel
theorem dX11_carry_128 : decode cX11_carry 128 = .ok (.iconst (-1), 1) := by decide +kernel
theorem dX11_carry_129 : decode cX11_carry 129 = .ok (.if_icmp .eq 7, 3) := by decide +kernel
theorem dX11_carry_132 : decode cX11_carry 132 = .ok (.iload_n 3, 1) := by decide +kernel
theorem dX11_carry_133 : decode cX11_carry 133 = .ok (.ifCond .ne 8, 3) := by decide +kernel
theorem dX11_carry_136 : decode cX11_carry 136 = .ok (.iload 4, 2) := by decide +kernel
theorem dX11_carry_138 : decode cX11_carry 138 = .ok (.goto 5, 3) := by decide +kernel
theorem dX11_carry_141 : decode cX11_carry 141 = .ok (.iload 5, 2) := by decide +kernel
theorem dX11_carry_143 : decode cX11_carry 143 = .ok (.ireturn, 1) := by decide +kernel
theorem dX11_join_0 : decode cX11_join 0 = .ok (.aload_n 0, 1) := by decide +kernel
theorem dX11_join_1 : decode cX11_join 1 = .ok (.iconst 0, 1) := by decide +kernel
theorem dX11_join_2 : decode cX11_join 2 = .ok (.putfield 97, 3) := by decide +kernel
theorem dX11_join_5 : decode cX11_join 5 = .ok (.aload_n 0, 1) := by decide +kernel
theorem dX11_join_6 : decode cX11_join 6 = .ok (.iload_n 1, 1) := by decide +kernel
theorem dX11_join_7 : decode cX11_join 7 = .ok (.invokevirtual 313, 3) := by decide +kernel
theorem dX11_join_10 : decode cX11_join 10 = .ok (.ifCond .eq 19, 3) := by decide +kernel
theorem dX11_join_13 : decode cX11_join 13 = .ok (.aload_n 0, 1) := by decide +kernel
theorem dX11_join_14 : decode cX11_join 14 = .ok (.iload_n 2, 1) := by decide +kernel
theorem dX11_join_15 : decode cX11_join 15 = .ok (.invokevirtual 316, 3) := by decide +kernel
theorem dX11_join_18 : decode cX11_join 18 = .ok (.ifCond .eq 11, 3) := by decide +kernel
theorem dX11_join_21 : decode cX11_join 21 = .ok (.aload_n 0, 1) := by decide +kernel
theorem dX11_join_22 : decode cX11_join 22 = .ok (.iload_n 3, 1) := by decide +kernel
theorem dX11_join_23 : decode cX11_join 23 = .ok (.invokevirtual 316, 3) := by decide +kernel
theorem dX11_join_26 : decode cX11_join 26 = .ok (.ifCond .ne 5, 3) := by decide +kernel
theorem dX11_join_29 : decode cX11_join 29 = .ok (.iconst (-1), 1) := by decide +kernel
theorem dX11_join_30 : decode cX11_join 30 = .ok (.ireturn, 1) := by decide +kernel
theorem dX11_join_31 : decode cX11_join 31 = .ok (.aload_n 0, 1) := by decide +kernel
theorem dX11_join_32 : decode cX11_join 32 = .ok (.iload_n 2, 1) := by decide +kernel
theorem dX11_join_33 : decode cX11_join 33 = .ok (.iconst 0, 1) := by decide +kernel
theorem dX11_join_34 : decode cX11_join 34 = .ok (.invokevirtual 414, 3) := by decide +kernel
theorem dX11_join_37 : decode cX11_join 37 = .ok (.iconst 0, 1) := by decide +kernel
theorem dX11_join_38 : decode cX11_join 38 = .ok (.istore 5, 2) := by decide +kernel
theorem dX11_join_40 : decode cX11_join 40 = .ok (.iload 5, 2) := by decide +kernel
theorem dX11_join_42 : decode cX11_join 42 = .ok (.aload_n 0, 1) := by decide +kernel
theorem dX11_join_43 : decode cX11_join 43 = .ok (.getfield 307, 3) := by decide +kernel
theorem dX11_join_46 : decode cX11_join 46 = .ok (.if_icmp .ge 23, 3) := by decide +kernel
theorem dX11_join_49 : decode cX11_join 49 = .ok (.aload_n 0, 1) := by decide +kernel
theorem dX11_join_50 : decode cX11_join 50 = .ok (.getfield 91, 3) := by decide +kernel
theorem dX11_join_53 : decode cX11_join 53 = .ok (.iload 5, 2) := by decide +kernel
theorem dX11_join_55 : decode cX11_join 55 = .ok (.aload_n 0, 1) := by decide +kernel
theorem dX11_join_56 : decode cX11_join 56 = .ok (.getfield 59, 3) := by decide +kernel
theorem dX11_join_59 : decode cX11_join 59 = .ok (.iload 5, 2) := by decide +kernel
theorem dX11_join_61 : decode cX11_join 61 = .ok (.iaload, 1) := by decide +kernel
theorem dX11_join_62 : decode cX11_join 62 = .ok (.iastore, 1) := by decide +kernel
theorem dX11_join_63 : decode cX11_join 63 = .ok (.iinc 5 1, 3) := by decide +kernel
theorem dX11_join_66 : decode cX11_join 66 = .ok (.goto (-26), 3) := by decide +kernel
theorem dX11_join_69 : decode cX11_join 69 = .ok (.aload_n 0, 1) := by decide +kernel
theorem dX11_join_70 : decode cX11_join 70 = .ok (.iload_n 3, 1) := by decide +kernel
theorem dX11_join_71 : decode cX11_join 71 = .ok (.iconst 0, 1) := by decide +kernel
theorem dX11_join_72 : decode cX11_join 72 = .ok (.invokevirtual 414, 3) := by decide +kernel
theorem dX11_join_75 : decode cX11_join 75 = .ok (.iconst (-1), 1) := by decide +kernel
theorem dX11_join_76 : decode cX11_join 76 = .ok (.istore 5, 2) := by decide +kernel
theorem dX11_join_78 : decode cX11_join 78 = .ok (.ldc_w 410, 3) := by decide +kernel
theorem dX11_join_81 : decode cX11_join 81 = .ok (.istore 6, 2) := by decide +kernel
theorem dX11_join_83 : decode cX11_join 83 = .ok (.iconst 0, 1) := by decide +kernel
theorem dX11_join_84 : decode cX11_join 84 = .ok (.istore 7, 2) := by decide +kernel
theorem dX11_join_86 : decode cX11_join 86 = .ok (.iload 7, 2) := by decide +kernel
theorem dX11_join_88 : decode cX11_join 88 = .ok (.aload_n 0, 1) := by decide +kernel
theorem dX11_join_89 : decode cX11_join 89 = .ok (.getfield 307, 3) := by decide +kernel
theorem dX11_join_92 : decode cX11_join 92 = .ok (.if_icmp .ge 53, 3) := by decide +kernel
theorem dX11_join_95 : decode cX11_join 95 = .ok (.aload_n 0, 1) := by decide +kernel
theorem dX11_join_96 : decode cX11_join 96 = .ok (.getfield 59, 3) := by decide +kernel
theorem dX11_join_99 : decode cX11_join 99 = .ok (.iload 7, 2) := by decide +kernel
theorem dX11_join_101 : decode cX11_join 101 = .ok (.iaload, 1) := by decide +kernel
theorem dX11_join_102 : decode cX11_join 102 = .ok (.aload_n 0, 1) := by decide +kernel
theorem dX11_join_103 : decode cX11_join 103 = .ok (.getfield 91, 3) := by decide +kernel
theorem dX11_join_106 : decode cX11_join 106 = .ok (.iload 7, 2) := by decide +kernel
theorem dX11_join_108 : decode cX11_join 108 = .ok (.iaload, 1) := by decide +kernel
theorem dX11_join_109 : decode cX11_join 109 = .ok (.invokestatic 171, 3) := by decide +kernel
theorem dX11_join_112 : decode cX11_join 112 = .ok (.istore 8, 2) := by decide +kernel
theorem dX11_join_114 : decode cX11_join 114 = .ok (.iload 8, 2) := by decide +kernel
theorem dX11_join_116 : decode cX11_join 116 = .ok (.iload 6, 2) := by decide +kernel
theorem dX11_join_118 : decode cX11_join 118 = .ok (.if_icmp .ge 8, 3) := by decide +kernel
theorem dX11_join_121 : decode cX11_join 121 = .ok (.iload 7, 2) := by decide +kernel
theorem dX11_join_123 : decode cX11_join 123 = .ok (.goto 5, 3) := by decide +kernel
theorem dX11_join_126 : decode cX11_join 126 = .ok (.iload 5, 2) := by decide +kernel
theorem dX11_join_128 : decode cX11_join 128 = .ok (.istore 5, 2) := by decide +kernel
theorem dX11_join_130 : decode cX11_join 130 = .ok (.iload 6, 2) := by decide +kernel
theorem dX11_join_132 : decode cX11_join 132 = .ok (.iload 8, 2) := by decide +kernel
theorem dX11_join_134 : decode cX11_join 134 = .ok (.invokestatic 411, 3) := by decide +kernel
theorem dX11_join_137 : decode cX11_join 137 = .ok (.istore 6, 2) := by decide +kernel
theorem dX11_join_139 : decode cX11_join 139 = .ok (.iinc 7 1, 3) := by decide +kernel
theorem dX11_join_142 : decode cX11_join 142 = .ok (.goto (-56), 3) := by decide +kernel
theorem dX11_join_145 : decode cX11_join 145 = .ok (.iload 5, 2) := by decide +kernel
theorem dX11_join_147 : decode cX11_join 147 = .ok (.iconst (-1), 1) := by decide +kernel
theorem dX11_join_148 : decode cX11_join 148 = .ok (.if_icmp .eq 8, 3) := by decide +kernel
theorem dX11_join_151 : decode cX11_join 151 = .ok (.iload 4, 2) := by decide +kernel
theorem dX11_join_153 : decode cX11_join 153 = .ok (.ifCond .ne 8, 3) := by decide +kernel
theorem dX11_join_156 : decode cX11_join 156 = .ok (.iload 5, 2) := by decide +kernel
theorem dX11_join_158 : decode cX11_join 158 = .ok (.goto 5, 3) := by decide +kernel
theorem dX11_join_161 : decode cX11_join 161 = .ok (.iload 6, 2) := by decide +kernel
theorem dX11_join_163 : decode cX11_join 163 = .ok (.ireturn, 1) := by decide +kernel
theorem dX11_slopes_0 : decode cX11_slopes 0 = .ok (.aload_n 0, 1) := by decide +kernel
theorem dX11_slopes_1 : decode cX11_slopes 1 = .ok (.iconst 0, 1) := by decide +kernel
theorem dX11_slopes_2 : decode cX11_slopes 2 = .ok (.putfield 97, 3) := by decide +kernel
theorem dX11_slopes_5 : decode cX11_slopes 5 = .ok (.aload_n 0, 1) := by decide +kernel
theorem dX11_slopes_6 : decode cX11_slopes 6 = .ok (.iload_n 1, 1) := by decide +kernel
theorem dX11_slopes_7 : decode cX11_slopes 7 = .ok (.invokevirtual 313, 3) := by decide +kernel
theorem dX11_slopes_10 : decode cX11_slopes 10 = .ok (.ifCond .eq 12, 3) := by decide +kernel
theorem dX11_slopes_13 : decode cX11_slopes 13 = .ok (.iload_n 2, 1) := by decide +kernel
theorem dX11_slopes_14 : decode cX11_slopes 14 = .ok (.iconst 0, 1) := by decide +kernel
theorem dX11_slopes_15 : decode cX11_slopes 15 = .ok (.iconst 3, 1) := by decide +kernel
theorem dX11_slopes_16 : decode cX11_slopes 16 = .ok (.invokestatic 109, 3) := by decide +kernel
theorem dX11_slopes_19 : decode cX11_slopes 19 = .ok (.ifCond .ne 5, 3) := by decide +kernel
theorem dX11_slopes_22 : decode cX11_slopes 22 = .ok (.iconst (-1), 1) := by decide +kernel
theorem dX11_slopes_23 : decode cX11_slopes 23 = .ok (.ireturn, 1) := by decide +kernel
theorem dX11_slopes_24 : decode cX11_slopes 24 = .ok (.iconst 0, 1) := by decide +kernel
theorem dX11_slopes_25 : decode cX11_slopes 25 = .ok (.istore_n 3, 1) := by decide +kernel
theorem dX11_slopes_26 : decode cX11_slopes 26 = .ok (.iconst 0, 1) := by decide +kernel
theorem dX11_slopes_27 : decode cX11_slopes 27 = .ok (.istore 4, 2) := by decide +kernel
theorem dX11_slopes_29 : decode cX11_slopes 29 = .ok (.iconst 0, 1) := by decide +kernel
theorem dX11_slopes_30 : decode cX11_slopes 30 = .ok (.istore 5, 2) := by decide +kernel
theorem dX11_slopes_32 : decode cX11_slopes 32 = .ok (.iconst 0, 1) := by decide +kernel
theorem dX11_slopes_33 : decode cX11_slopes 33 = .ok (.istore 6, 2) := by decide +kernel
theorem dX11_slopes_35 : decode cX11_slopes 35 = .ok (.iconst 0, 1) := by decide +kernel
theorem dX11_slopes_36 : decode cX11_slopes 36 = .ok (.istore 7, 2) := by decide +kernel
theorem dX11_slopes_38 : decode cX11_slopes 38 = .ok (.iload 7, 2) := by decide +kernel
theorem dX11_slopes_40 : decode cX11_slopes 40 = .ok (.aload_n 0, 1) := by decide +kernel
theorem dX11_slopes_41 : decode cX11_slopes 41 = .ok (.getfield 307, 3) := by decide +kernel
theorem dX11_slopes_44 : decode cX11_slopes 44 = .ok (.if_icmp .ge 112, 3) := by decide +kernel
theorem dX11_slopes_47 : decode cX11_slopes 47 = .ok (.aload_n 0, 1) := by decide +kernel
theorem dX11_slopes_48 : decode cX11_slopes 48 = .ok (.iload 7, 2) := by decide +kernel
theorem dX11_slopes_50 : decode cX11_slopes 50 = .ok (.iconst 0, 1) := by decide +kernel
theorem dX11_slopes_51 : decode cX11_slopes 51 = .ok (.invokevirtual 414, 3) := by decide +kernel
theorem dX11_slopes_54 : decode cX11_slopes 54 = .ok (.aload_n 0, 1) := by decide +kernel
theorem dX11_slopes_55 : decode cX11_slopes 55 = .ok (.ldc_w 450, 3) := by decide +kernel
theorem dX11_slopes_58 : decode cX11_slopes 58 = .ok (.invokevirtual 423, 3) := by decide +kernel
theorem dX11_slopes_61 : decode cX11_slopes 61 = .ok (.iconst 1, 1) := by decide +kernel
theorem dX11_slopes_62 : decode cX11_slopes 62 = .ok (.iload 7, 2) := by decide +kernel
theorem dX11_slopes_64 : decode cX11_slopes 64 = .ok (.ishl, 1) := by decide +kernel
theorem dX11_slopes_65 : decode cX11_slopes 65 = .ok (.iconst (-1), 1) := by decide +kernel
theorem dX11_slopes_66 : decode cX11_slopes 66 = .ok (.ixor, 1) := by decide +kernel
theorem dX11_slopes_67 : decode cX11_slopes 67 = .ok (.iand, 1) := by decide +kernel
theorem dX11_slopes_68 : decode cX11_slopes 68 = .ok (.istore 8, 2) := by decide +kernel
theorem dX11_slopes_70 : decode cX11_slopes 70 = .ok (.iload_n 3, 1) := by decide +kernel
theorem dX11_slopes_71 : decode cX11_slopes 71 = .ok (.iload 8, 2) := by decide +kernel
theorem dX11_slopes_73 : decode cX11_slopes 73 = .ok (.ior, 1) := by decide +kernel
theorem dX11_slopes_74 : decode cX11_slopes 74 = .ok (.istore_n 3, 1) := by decide +kernel
theorem dX11_slopes_75 : decode cX11_slopes 75 = .ok (.iload 4, 2) := by decide +kernel
theorem dX11_slopes_77 : decode cX11_slopes 77 = .ok (.iload 8, 2) := by decide +kernel
theorem dX11_slopes_79 : decode cX11_slopes 79 = .ok (.ifCond .ne 19, 3) := by decide +kernel
theorem dX11_slopes_82 : decode cX11_slopes 82 = .ok (.aload_n 0, 1) := by decide +kernel
theorem dX11_slopes_83 : decode cX11_slopes 83 = .ok (.iload 7, 2) := by decide +kernel
theorem dX11_slopes_85 : decode cX11_slopes 85 = .ok (.invokevirtual 355, 3) := by decide +kernel
theorem dX11_slopes_88 : decode cX11_slopes 88 = .ok (.ifCond .ne 10, 3) := by decide +kernel
theorem dX11_slopes_91 : decode cX11_slopes 91 = .ok (.iconst 1, 1) := by decide +kernel
theorem dX11_slopes_92 : decode cX11_slopes 92 = .ok (.iload 7, 2) := by decide +kernel
theorem dX11_slopes_94 : decode cX11_slopes 94 = .ok (.ishl, 1) := by decide +kernel
theorem dX11_slopes_95 : decode cX11_slopes 95 = .ok (.goto 4, 3) := by decide +kernel
theorem dX11_slopes_98 : decode cX11_slopes 98 = .ok (.iconst 0, 1) := by decide +kernel
theorem dX11_slopes_99 : decode cX11_slopes 99 = .ok (.ior, 1) := by decide +kernel
theorem dX11_slopes_100 : decode cX11_slopes 100 = .ok (.istore 4, 2) := by decide +kernel
theorem dX11_slopes_102 : decode cX11_slopes 102 = .ok (.iload 5, 2) := by decide +kernel
theorem dX11_slopes_104 : decode cX11_slopes 104 = .ok (.iload 8, 2) := by decide +kernel
theorem dX11_slopes_106 : decode cX11_slopes 106 = .ok (.invokestatic 429, 3) := by decide +kernel
theorem dX11_slopes_109 : decode cX11_slopes 109 = .ok (.iadd, 1) := by decide +kernel
theorem dX11_slopes_110 : decode cX11_slopes 110 = .ok (.istore 5, 2) := by decide +kernel
theorem dX11_slopes_112 : decode cX11_slopes 112 = .ok (.aload_n 0, 1) := by decide +kernel
theorem dX11_slopes_113 : decode cX11_slopes 113 = .ok (.iload 7, 2) := by decide +kernel
theorem dX11_slopes_115 : decode cX11_slopes 115 = .ok (.invokevirtual 447, 3) := by decide +kernel
theorem dX11_slopes_118 : decode cX11_slopes 118 = .ok (.iconst 0, 1) := by decide +kernel
theorem dX11_slopes_119 : decode cX11_slopes 119 = .ok (.istore 9, 2) := by decide +kernel
theorem dX11_slopes_121 : decode cX11_slopes 121 = .ok (.iload 9, 2) := by decide +kernel
theorem dX11_slopes_123 : decode cX11_slopes 123 = .ok (.aload_n 0, 1) := by decide +kernel
theorem dX11_slopes_124 : decode cX11_slopes 124 = .ok (.getfield 307, 3) := by decide +kernel
theorem dX11_slopes_127 : decode cX11_slopes 127 = .ok (.if_icmp .ge 23, 3) := by decide +kernel
theorem dX11_slopes_130 : decode cX11_slopes 130 = .ok (.iload 6, 2) := by decide +kernel
theorem dX11_slopes_132 : decode cX11_slopes 132 = .ok (.aload_n 0, 1) := by decide +kernel
theorem dX11_slopes_133 : decode cX11_slopes 133 = .ok (.getfield 68, 3) := by decide +kernel
theorem dX11_slopes_136 : decode cX11_slopes 136 = .ok (.iload 9, 2) := by decide +kernel
theorem dX11_slopes_138 : decode cX11_slopes 138 = .ok (.iaload, 1) := by decide +kernel
theorem dX11_slopes_139 : decode cX11_slopes 139 = .ok (.invokestatic 171, 3) := by decide +kernel
theorem dX11_slopes_142 : decode cX11_slopes 142 = .ok (.istore 6, 2) := by decide +kernel
theorem dX11_slopes_144 : decode cX11_slopes 144 = .ok (.iinc 9 1, 3) := by decide +kernel
theorem dX11_slopes_147 : decode cX11_slopes 147 = .ok (.goto (-26), 3) := by decide +kernel
theorem dX11_slopes_150 : decode cX11_slopes 150 = .ok (.iinc 7 1, 3) := by decide +kernel
theorem dX11_slopes_153 : decode cX11_slopes 153 = .ok (.goto (-115), 3) := by decide +kernel
theorem dX11_slopes_156 : decode cX11_slopes 156 = .ok (.iload_n 2, 1) := by decide +kernel
theorem dX11_slopes_157 : decode cX11_slopes 157 = .ok (.ifCond .ne 14, 3) := by decide +kernel
theorem dX11_slopes_160 : decode cX11_slopes 160 = .ok (.aload_n 0, 1) := by decide +kernel
theorem dX11_slopes_161 : decode cX11_slopes 161 = .ok (.invokevirtual 435, 3) := by decide +kernel
theorem dX11_slopes_164 : decode cX11_slopes 164 = .ok (.iload_n 3, 1) := by decide +kernel
theorem dX11_slopes_165 : decode cX11_slopes 165 = .ok (.iconst (-1), 1) := by decide +kernel
theorem dX11_slopes_166 : decode cX11_slopes 166 = .ok (.ixor, 1) := by decide +kernel
theorem dX11_slopes_167 : decode cX11_slopes 167 = .ok (.iand, 1) := by decide +kernel
theorem dX11_slopes_168 : decode cX11_slopes 168 = .ok (.goto 25, 3) := by decide +kernel
theorem dX11_slopes_171 : decode cX11_slopes 171 = .ok (.iload_n 2, 1) := by decide +kernel
theorem dX11_slopes_172 : decode cX11_slopes 172 = .ok (.iconst 1, 1) := by decide +kernel
theorem dX11_slopes_173 : decode cX11_slopes 173 = .ok (.if_icmp .ne 8, 3) := by decide +kernel
theorem dX11_slopes_176 : decode cX11_slopes 176 = .ok (.iload 4, 2) := by decide +kernel
theorem dX11_slopes_178 : decode cX11_slopes 178 = .ok (.goto 15, 3) := by decide +kernel
theorem dX11_slopes_181 : decode cX11_slopes 181 = .ok (.iload_n 2, 1) := by decide +kernel
theorem dX11_slopes_182 : decode cX11_slopes 182 = .ok (.iconst 2, 1) := by decide +kernel
theorem dX11_slopes_183 : decode cX11_slopes 183 = .ok (.if_icmp .ne 8, 3) := by decide +kernel
theorem dX11_slopes_186 : decode cX11_slopes 186 = .ok (.iload 5, 2) := by decide +kernel
theorem dX11_slopes_188 : decode cX11_slopes 188 = .ok (.goto 5, 3) := by decide +kernel
theorem dX11_slopes_191 : decode cX11_slopes 191 = .ok (.iload 6, 2) := by decide +kernel
theorem dX11_slopes_193 : decode cX11_slopes 193 = .ok (.ireturn, 1) := by decide +kernel
theorem dX11_flood_0 : decode cX11_flood 0 = .ok (.aload_n 0, 1) := by decide +kernel
theorem dX11_flood_1 : decode cX11_flood 1 = .ok (.iconst 0, 1) := by decide +kernel
theorem dX11_flood_2 : decode cX11_flood 2 = .ok (.putfield 97, 3) := by decide +kernel
theorem dX11_flood_5 : decode cX11_flood 5 = .ok (.aload_n 0, 1) := by decide +kernel
theorem dX11_flood_6 : decode cX11_flood 6 = .ok (.iload_n 1, 1) := by decide +kernel
theorem dX11_flood_7 : decode cX11_flood 7 = .ok (.invokevirtual 313, 3) := by decide +kernel
theorem dX11_flood_10 : decode cX11_flood 10 = .ok (.ifCond .eq 40, 3) := by decide +kernel
theorem dX11_flood_13 : decode cX11_flood 13 = .ok (.aload_n 0, 1) := by decide +kernel
theorem dX11_flood_14 : decode cX11_flood 14 = .ok (.iload_n 2, 1) := by decide +kernel
theorem dX11_flood_15 : decode cX11_flood 15 = .ok (.invokevirtual 316, 3) := by decide +kernel
theorem dX11_flood_18 : decode cX11_flood 18 = .ok (.ifCond .eq 32, 3) := by decide +kernel
theorem dX11_flood_21 : decode cX11_flood 21 = .ok (.aload_n 0, 1) := by decide +kernel
theorem dX11_flood_22 : decode cX11_flood 22 = .ok (.iload_n 3, 1) := by decide +kernel
theorem dX11_flood_23 : decode cX11_flood 23 = .ok (.invokevirtual 316, 3) := by decide +kernel
theorem dX11_flood_26 : decode cX11_flood 26 = .ok (.ifCond .eq 24, 3) := by decide +kernel
theorem dX11_flood_29 : decode cX11_flood 29 = .ok (.iload_n 2, 1) := by decide +kernel
theorem dX11_flood_30 : decode cX11_flood 30 = .ok (.iload_n 3, 1) := by decide +kernel
theorem dX11_flood_31 : decode cX11_flood 31 = .ok (.if_icmp .eq 19, 3) := by decide +kernel
theorem dX11_flood_34 : decode cX11_flood 34 = .ok (.aload_n 0, 1) := by decide +kernel
theorem dX11_flood_35 : decode cX11_flood 35 = .ok (.iload_n 2, 1) := by decide +kernel
theorem dX11_flood_36 : decode cX11_flood 36 = .ok (.invokevirtual 355, 3) := by decide +kernel
theorem dX11_flood_39 : decode cX11_flood 39 = .ok (.ifCond .ne 11, 3) := by decide +kernel
theorem dX11_flood_42 : decode cX11_flood 42 = .ok (.aload_n 0, 1) := by decide +kernel
theorem dX11_flood_43 : decode cX11_flood 43 = .ok (.iload_n 3, 1) := by decide +kernel
theorem dX11_flood_44 : decode cX11_flood 44 = .ok (.invokevirtual 355, 3) := by decide +kernel
theorem dX11_flood_47 : decode cX11_flood 47 = .ok (.ifCond .eq 5, 3) := by decide +kernel
theorem dX11_flood_50 : decode cX11_flood 50 = .ok (.iconst (-1), 1) := by decide +kernel
theorem dX11_flood_51 : decode cX11_flood 51 = .ok (.ireturn, 1) := by decide +kernel
theorem dX11_flood_52 : decode cX11_flood 52 = .ok (.iconst (-1), 1) := by decide +kernel
theorem dX11_flood_53 : decode cX11_flood 53 = .ok (.istore 5, 2) := by decide +kernel
theorem dX11_flood_55 : decode cX11_flood 55 = .ok (.iconst 0, 1) := by decide +kernel
theorem dX11_flood_56 : decode cX11_flood 56 = .ok (.istore 6, 2) := by decide +kernel
theorem dX11_flood_58 : decode cX11_flood 58 = .ok (.iload 6, 2) := by decide +kernel
theorem dX11_flood_60 : decode cX11_flood 60 = .ok (.iconst 1, 1) := by decide +kernel
theorem dX11_flood_61 : decode cX11_flood 61 = .ok (.aload_n 0, 1) := by decide +kernel
theorem dX11_flood_62 : decode cX11_flood 62 = .ok (.getfield 307, 3) := by decide +kernel
theorem dX11_flood_65 : decode cX11_flood 65 = .ok (.ishl, 1) := by decide +kernel
theorem dX11_flood_66 : decode cX11_flood 66 = .ok (.if_icmp .ge 86, 3) := by decide +kernel
theorem dX11_flood_69 : decode cX11_flood 69 = .ok (.aload_n 0, 1) := by decide +kernel
theorem dX11_flood_70 : decode cX11_flood 70 = .ok (.iload_n 2, 1) := by decide +kernel
theorem dX11_flood_71 : decode cX11_flood 71 = .ok (.iload 6, 2) := by decide +kernel
theorem dX11_flood_73 : decode cX11_flood 73 = .ok (.invokevirtual 414, 3) := by decide +kernel
theorem dX11_flood_76 : decode cX11_flood 76 = .ok (.iload 6, 2) := by decide +kernel
theorem dX11_flood_78 : decode cX11_flood 78 = .ok (.iload_n 2, 1) := by decide +kernel
theorem dX11_flood_79 : decode cX11_flood 79 = .ok (.invokestatic 101, 3) := by decide +kernel
theorem dX11_flood_82 : decode cX11_flood 82 = .ok (.ifCond .ne 28, 3) := by decide +kernel
theorem dX11_flood_85 : decode cX11_flood 85 = .ok (.iload 6, 2) := by decide +kernel
theorem dX11_flood_87 : decode cX11_flood 87 = .ok (.iload_n 3, 1) := by decide +kernel
theorem dX11_flood_88 : decode cX11_flood 88 = .ok (.invokestatic 101, 3) := by decide +kernel
theorem dX11_flood_91 : decode cX11_flood 91 = .ok (.ifCond .ne 19, 3) := by decide +kernel
theorem dX11_flood_94 : decode cX11_flood 94 = .ok (.aload_n 0, 1) := by decide +kernel
theorem dX11_flood_95 : decode cX11_flood 95 = .ok (.getfield 59, 3) := by decide +kernel
theorem dX11_flood_98 : decode cX11_flood 98 = .ok (.iload_n 3, 1) := by decide +kernel
theorem dX11_flood_99 : decode cX11_flood 99 = .ok (.iaload, 1) := by decide +kernel
theorem dX11_flood_100 : decode cX11_flood 100 = .ok (.ldc_w 410, 3) := by decide +kernel
theorem dX11_flood_103 : decode cX11_flood 103 = .ok (.if_icmp .lt 7, 3) := by decide +kernel
theorem dX11_flood_106 : decode cX11_flood 106 = .ok (.iconst 1, 1) := by decide +kernel
theorem dX11_flood_107 : decode cX11_flood 107 = .ok (.goto 4, 3) := by decide +kernel
theorem dX11_flood_110 : decode cX11_flood 110 = .ok (.iconst 0, 1) := by decide +kernel
theorem dX11_flood_111 : decode cX11_flood 111 = .ok (.istore 7, 2) := by decide +kernel
theorem dX11_flood_113 : decode cX11_flood 113 = .ok (.iload 7, 2) := by decide +kernel
theorem dX11_flood_115 : decode cX11_flood 115 = .ok (.ifCond .eq 27, 3) := by decide +kernel
theorem dX11_flood_118 : decode cX11_flood 118 = .ok (.iload 5, 2) := by decide +kernel
theorem dX11_flood_120 : decode cX11_flood 120 = .ok (.iconst (-1), 1) := by decide +kernel
theorem dX11_flood_121 : decode cX11_flood 121 = .ok (.if_icmp .eq 16, 3) := by decide +kernel
theorem dX11_flood_124 : decode cX11_flood 124 = .ok (.iload 6, 2) := by decide +kernel
theorem dX11_flood_126 : decode cX11_flood 126 = .ok (.invokestatic 429, 3) := by decide +kernel
theorem dX11_flood_129 : decode cX11_flood 129 = .ok (.iload 5, 2) := by decide +kernel
theorem dX11_flood_131 : decode cX11_flood 131 = .ok (.invokestatic 429, 3) := by decide +kernel
theorem dX11_flood_134 : decode cX11_flood 134 = .ok (.if_icmp .ge 8, 3) := by decide +kernel
theorem dX11_flood_137 : decode cX11_flood 137 = .ok (.iload 6, 2) := by decide +kernel
theorem dX11_flood_139 : decode cX11_flood 139 = .ok (.goto 5, 3) := by decide +kernel
theorem dX11_flood_142 : decode cX11_flood 142 = .ok (.iload 5, 2) := by decide +kernel
theorem dX11_flood_144 : decode cX11_flood 144 = .ok (.istore 5, 2) := by decide +kernel
theorem dX11_flood_146 : decode cX11_flood 146 = .ok (.iinc 6 1, 3) := by decide +kernel
theorem dX11_flood_149 : decode cX11_flood 149 = .ok (.goto (-91), 3) := by decide +kernel
theorem dX11_flood_152 : decode cX11_flood 152 = .ok (.iload 5, 2) := by decide +kernel
theorem dX11_flood_154 : decode cX11_flood 154 = .ok (.iconst (-1), 1) := by decide +kernel
theorem dX11_flood_155 : decode cX11_flood 155 = .ok (.if_icmp .eq 8, 3) := by decide +kernel
theorem dX11_flood_158 : decode cX11_flood 158 = .ok (.iload 4, 2) := by decide +kernel
theorem dX11_flood_160 : decode cX11_flood 160 = .ok (.ifCond .eq 8, 3) := by decide +kernel
theorem dX11_flood_163 : decode cX11_flood 163 = .ok (.iload 5, 2) := by decide +kernel
theorem dX11_flood_165 : decode cX11_flood 165 = .ok (.goto 8, 3) := by decide +kernel
theorem dX11_flood_168 : decode cX11_flood 168 = .ok (.iload 5, 2) := by decide +kernel
theorem dX11_flood_170 : decode cX11_flood 170 = .ok (.invokestatic 429, 3) := by decide +kernel
theorem dX11_flood_173 : decode cX11_flood 173 = .ok (.ireturn, 1) := by decide +kernel
theorem dX11_taught_0 : decode cX11_taught 0 = .ok (.iconst 0, 1) := by decide +kernel
theorem dX11_taught_1 : decode cX11_taught 1 = .ok (.istore_n 3, 1) := by decide +kernel
theorem dX11_taught_2 : decode cX11_taught 2 = .ok (.aload_n 0, 1) := by decide +kernel
theorem dX11_taught_3 : decode cX11_taught 3 = .ok (.getfield 340, 3) := by decide +kernel
theorem dX11_taught_6 : decode cX11_taught 6 = .ok (.iload_n 2, 1) := by decide +kernel
theorem dX11_taught_7 : decode cX11_taught 7 = .ok (.invokestatic 101, 3) := by decide +kernel
theorem dX11_taught_10 : decode cX11_taught 10 = .ok (.ifCond .eq 12, 3) := by decide +kernel
theorem dX11_taught_13 : decode cX11_taught 13 = .ok (.aload_n 0, 1) := by decide +kernel
theorem dX11_taught_14 : decode cX11_taught 14 = .ok (.getfield 56, 3) := by decide +kernel
theorem dX11_taught_17 : decode cX11_taught 17 = .ok (.iload_n 2, 1) := by decide +kernel
theorem dX11_taught_18 : decode cX11_taught 18 = .ok (.iaload, 1) := by decide +kernel
theorem dX11_taught_19 : decode cX11_taught 19 = .ok (.goto 6, 3) := by decide +kernel
theorem dX11_taught_22 : decode cX11_taught 22 = .ok (.ldc_w 410, 3) := by decide +kernel
theorem dX11_taught_25 : decode cX11_taught 25 = .ok (.istore 4, 2) := by decide +kernel
theorem dX11_taught_27 : decode cX11_taught 27 = .ok (.iload_n 1, 1) := by decide +kernel
theorem dX11_taught_28 : decode cX11_taught 28 = .ok (.istore 5, 2) := by decide +kernel
theorem dX11_taught_30 : decode cX11_taught 30 = .ok (.iconst 0, 1) := by decide +kernel
theorem dX11_taught_31 : decode cX11_taught 31 = .ok (.istore 6, 2) := by decide +kernel
theorem dX11_taught_33 : decode cX11_taught 33 = .ok (.iload 6, 2) := by decide +kernel
theorem dX11_taught_35 : decode cX11_taught 35 = .ok (.aload_n 0, 1) := by decide +kernel
theorem dX11_taught_36 : decode cX11_taught 36 = .ok (.getfield 310, 3) := by decide +kernel
theorem dX11_taught_39 : decode cX11_taught 39 = .ok (.if_icmp .ge 34, 3) := by decide +kernel
theorem dX11_taught_42 : decode cX11_taught 42 = .ok (.iload_n 3, 1) := by decide +kernel
theorem dX11_taught_43 : decode cX11_taught 43 = .ok (.aload_n 0, 1) := by decide +kernel
theorem dX11_taught_44 : decode cX11_taught 44 = .ok (.getfield 47, 3) := by decide +kernel
theorem dX11_taught_47 : decode cX11_taught 47 = .ok (.iload 6, 2) := by decide +kernel
theorem dX11_taught_49 : decode cX11_taught 49 = .ok (.iaload, 1) := by decide +kernel
theorem dX11_taught_50 : decode cX11_taught 50 = .ok (.iload_n 2, 1) := by decide +kernel
theorem dX11_taught_51 : decode cX11_taught 51 = .ok (.invokestatic 101, 3) := by decide +kernel
theorem dX11_taught_54 : decode cX11_taught 54 = .ok (.ifCond .eq 10, 3) := by decide +kernel
theorem dX11_taught_57 : decode cX11_taught 57 = .ok (.iconst 1, 1) := by decide +kernel
theorem dX11_taught_58 : decode cX11_taught 58 = .ok (.iload 6, 2) := by decide +kernel
theorem dX11_taught_60 : decode cX11_taught 60 = .ok (.ishl, 1) := by decide +kernel
theorem dX11_taught_61 : decode cX11_taught 61 = .ok (.goto 4, 3) := by decide +kernel
theorem dX11_taught_64 : decode cX11_taught 64 = .ok (.iconst 0, 1) := by decide +kernel
theorem dX11_taught_65 : decode cX11_taught 65 = .ok (.ior, 1) := by decide +kernel
theorem dX11_taught_66 : decode cX11_taught 66 = .ok (.istore_n 3, 1) := by decide +kernel
theorem dX11_taught_67 : decode cX11_taught 67 = .ok (.iinc 6 1, 3) := by decide +kernel
theorem dX11_taught_70 : decode cX11_taught 70 = .ok (.goto (-37), 3) := by decide +kernel
theorem dX11_taught_73 : decode cX11_taught 73 = .ok (.iload 5, 2) := by decide +kernel
theorem dX11_taught_75 : decode cX11_taught 75 = .ok (.ifCond .eq 179, 3) := by decide +kernel
theorem dX11_taught_78 : decode cX11_taught 78 = .ok (.iconst (-1), 1) := by decide +kernel
theorem dX11_taught_79 : decode cX11_taught 79 = .ok (.istore 6, 2) := by decide +kernel
theorem dX11_taught_81 : decode cX11_taught 81 = .ok (.iconst 0, 1) := by decide +kernel
theorem dX11_taught_82 : decode cX11_taught 82 = .ok (.istore 7, 2) := by decide +kernel
theorem dX11_taught_84 : decode cX11_taught 84 = .ok (.iload 7, 2) := by decide +kernel
theorem dX11_taught_86 : decode cX11_taught 86 = .ok (.aload_n 0, 1) := by decide +kernel
theorem dX11_taught_87 : decode cX11_taught 87 = .ok (.getfield 310, 3) := by decide +kernel
theorem dX11_taught_90 : decode cX11_taught 90 = .ok (.if_icmp .ge 49, 3) := by decide +kernel
theorem dX11_taught_93 : decode cX11_taught 93 = .ok (.iload 5, 2) := by decide +kernel
theorem dX11_taught_95 : decode cX11_taught 95 = .ok (.iload 7, 2) := by decide +kernel
theorem dX11_taught_97 : decode cX11_taught 97 = .ok (.invokestatic 101, 3) := by decide +kernel
theorem dX11_taught_100 : decode cX11_taught 100 = .ok (.ifCond .eq 29, 3) := by decide +kernel
theorem dX11_taught_103 : decode cX11_taught 103 = .ok (.iload 6, 2) := by decide +kernel
theorem dX11_taught_105 : decode cX11_taught 105 = .ok (.iconst (-1), 1) := by decide +kernel
theorem dX11_taught_106 : decode cX11_taught 106 = .ok (.if_icmp .eq 18, 3) := by decide +kernel
theorem dX11_taught_109 : decode cX11_taught 109 = .ok (.aload_n 0, 1) := by decide +kernel
theorem dX11_taught_110 : decode cX11_taught 110 = .ok (.iload 7, 2) := by decide +kernel
theorem dX11_taught_112 : decode cX11_taught 112 = .ok (.invokevirtual 352, 3) := by decide +kernel
theorem dX11_taught_115 : decode cX11_taught 115 = .ok (.aload_n 0, 1) := by decide +kernel
theorem dX11_taught_116 : decode cX11_taught 116 = .ok (.iload 6, 2) := by decide +kernel
theorem dX11_taught_118 : decode cX11_taught 118 = .ok (.invokevirtual 352, 3) := by decide +kernel
theorem dX11_taught_121 : decode cX11_taught 121 = .ok (.if_icmp .le 8, 3) := by decide +kernel
theorem dX11_taught_124 : decode cX11_taught 124 = .ok (.iload 7, 2) := by decide +kernel
theorem dX11_taught_126 : decode cX11_taught 126 = .ok (.goto 5, 3) := by decide +kernel
theorem dX11_taught_129 : decode cX11_taught 129 = .ok (.iload 6, 2) := by decide +kernel
theorem dX11_taught_131 : decode cX11_taught 131 = .ok (.istore 6, 2) := by decide +kernel
theorem dX11_taught_133 : decode cX11_taught 133 = .ok (.iinc 7 1, 3) := by decide +kernel
theorem dX11_taught_136 : decode cX11_taught 136 = .ok (.goto (-52), 3) := by decide +kernel
theorem dX11_taught_139 : decode cX11_taught 139 = .ok (.iload_n 3, 1) := by decide +kernel
theorem dX11_taught_140 : decode cX11_taught 140 = .ok (.iload 6, 2) := by decide +kernel
theorem dX11_taught_142 : decode cX11_taught 142 = .ok (.invokestatic 101, 3) := by decide +kernel
theorem dX11_taught_145 : decode cX11_taught 145 = .ok (.ifCond .eq 28, 3) := by decide +kernel
theorem dX11_taught_148 : decode cX11_taught 148 = .ok (.aload_n 0, 1) := by decide +kernel
theorem dX11_taught_149 : decode cX11_taught 149 = .ok (.iload 6, 2) := by decide +kernel
theorem dX11_taught_151 : decode cX11_taught 151 = .ok (.invokevirtual 352, 3) := by decide +kernel
theorem dX11_taught_154 : decode cX11_taught 154 = .ok (.iload 4, 2) := by decide +kernel
theorem dX11_taught_156 : decode cX11_taught 156 = .ok (.if_icmp .ge 17, 3) := by decide +kernel
theorem dX11_taught_159 : decode cX11_taught 159 = .ok (.aload_n 0, 1) := by decide +kernel
theorem dX11_taught_160 : decode cX11_taught 160 = .ok (.aload_n 0, 1) := by decide +kernel
theorem dX11_taught_161 : decode cX11_taught 161 = .ok (.getfield 44, 3) := by decide +kernel
theorem dX11_taught_164 : decode cX11_taught 164 = .ok (.iload 6, 2) := by decide +kernel
theorem dX11_taught_166 : decode cX11_taught 166 = .ok (.iaload, 1) := by decide +kernel
theorem dX11_taught_167 : decode cX11_taught 167 = .ok (.invokevirtual 355, 3) := by decide +kernel
theorem dX11_taught_170 : decode cX11_taught 170 = .ok (.ifCond .eq 5, 3) := by decide +kernel
theorem dX11_taught_173 : decode cX11_taught 173 = .ok (.iconst (-1), 1) := by decide +kernel
theorem dX11_taught_174 : decode cX11_taught 174 = .ok (.ireturn, 1) := by decide +kernel
theorem dX11_taught_175 : decode cX11_taught 175 = .ok (.aload_n 0, 1) := by decide +kernel
theorem dX11_taught_176 : decode cX11_taught 176 = .ok (.iload 6, 2) := by decide +kernel
theorem dX11_taught_178 : decode cX11_taught 178 = .ok (.invokevirtual 352, 3) := by decide +kernel
theorem dX11_taught_181 : decode cX11_taught 181 = .ok (.istore 4, 2) := by decide +kernel
theorem dX11_taught_183 : decode cX11_taught 183 = .ok (.iload 5, 2) := by decide +kernel
theorem dX11_taught_185 : decode cX11_taught 185 = .ok (.iconst 1, 1) := by decide +kernel
theorem dX11_taught_186 : decode cX11_taught 186 = .ok (.iload 6, 2) := by decide +kernel
theorem dX11_taught_188 : decode cX11_taught 188 = .ok (.ishl, 1) := by decide +kernel
theorem dX11_taught_189 : decode cX11_taught 189 = .ok (.iconst (-1), 1) := by decide +kernel
theorem dX11_taught_190 : decode cX11_taught 190 = .ok (.ixor, 1) := by decide +kernel
theorem dX11_taught_191 : decode cX11_taught 191 = .ok (.iand, 1) := by decide +kernel
theorem dX11_taught_192 : decode cX11_taught 192 = .ok (.istore 5, 2) := by decide +kernel
theorem dX11_taught_194 : decode cX11_taught 194 = .ok (.aload_n 0, 1) := by decide +kernel
theorem dX11_taught_195 : decode cX11_taught 195 = .ok (.aload_n 0, 1) := by decide +kernel
theorem dX11_taught_196 : decode cX11_taught 196 = .ok (.getfield 44, 3) := by decide +kernel
theorem dX11_taught_199 : decode cX11_taught 199 = .ok (.iload 6, 2) := by decide +kernel
theorem dX11_taught_201 : decode cX11_taught 201 = .ok (.iaload, 1) := by decide +kernel
theorem dX11_taught_202 : decode cX11_taught 202 = .ok (.invokevirtual 349, 3) := by decide +kernel
theorem dX11_taught_205 : decode cX11_taught 205 = .ok (.istore 7, 2) := by decide +kernel
theorem dX11_taught_207 : decode cX11_taught 207 = .ok (.iconst 0, 1) := by decide +kernel
theorem dX11_taught_208 : decode cX11_taught 208 = .ok (.istore 8, 2) := by decide +kernel
theorem dX11_taught_210 : decode cX11_taught 210 = .ok (.iload 8, 2) := by decide +kernel
theorem dX11_taught_212 : decode cX11_taught 212 = .ok (.aload_n 0, 1) := by decide +kernel
theorem dX11_taught_213 : decode cX11_taught 213 = .ok (.getfield 310, 3) := by decide +kernel
theorem dX11_taught_216 : decode cX11_taught 216 = .ok (.if_icmp .ge 35, 3) := by decide +kernel
theorem dX11_taught_219 : decode cX11_taught 219 = .ok (.iload_n 3, 1) := by decide +kernel
theorem dX11_taught_220 : decode cX11_taught 220 = .ok (.iload 7, 2) := by decide +kernel
theorem dX11_taught_222 : decode cX11_taught 222 = .ok (.aload_n 0, 1) := by decide +kernel
theorem dX11_taught_223 : decode cX11_taught 223 = .ok (.getfield 44, 3) := by decide +kernel
theorem dX11_taught_226 : decode cX11_taught 226 = .ok (.iload 8, 2) := by decide +kernel
theorem dX11_taught_228 : decode cX11_taught 228 = .ok (.iaload, 1) := by decide +kernel
theorem dX11_taught_229 : decode cX11_taught 229 = .ok (.invokestatic 101, 3) := by decide +kernel
theorem dX11_taught_232 : decode cX11_taught 232 = .ok (.ifCond .eq 10, 3) := by decide +kernel
theorem dX11_taught_235 : decode cX11_taught 235 = .ok (.iconst 1, 1) := by decide +kernel
theorem dX11_taught_236 : decode cX11_taught 236 = .ok (.iload 8, 2) := by decide +kernel
theorem dX11_taught_238 : decode cX11_taught 238 = .ok (.ishl, 1) := by decide +kernel
theorem dX11_taught_239 : decode cX11_taught 239 = .ok (.goto 4, 3) := by decide +kernel
theorem dX11_taught_242 : decode cX11_taught 242 = .ok (.iconst 0, 1) := by decide +kernel
theorem dX11_taught_243 : decode cX11_taught 243 = .ok (.ior, 1) := by decide +kernel
theorem dX11_taught_244 : decode cX11_taught 244 = .ok (.istore_n 3, 1) := by decide +kernel
theorem dX11_taught_245 : decode cX11_taught 245 = .ok (.iinc 8 1, 3) := by decide +kernel
theorem dX11_taught_248 : decode cX11_taught 248 = .ok (.goto (-38), 3) := by decide +kernel
theorem dX11_taught_251 : decode cX11_taught 251 = .ok (.goto (-178), 3) := by decide +kernel
theorem dX11_taught_254 : decode cX11_taught 254 = .ok (.iload_n 3, 1) := by decide +kernel
theorem dX11_taught_255 : decode cX11_taught 255 = .ok (.ireturn, 1) := by decide +kernel
theorem dX11_teach_0 : decode cX11_teach 0 = .ok (.aload_n 0, 1) := by decide +kernel
theorem dX11_teach_1 : decode cX11_teach 1 = .ok (.iconst 0, 1) := by decide +kernel
theorem dX11_teach_2 : decode cX11_teach 2 = .ok (.putfield 97, 3) := by decide +kernel
theorem dX11_teach_5 : decode cX11_teach 5 = .ok (.aload_n 0, 1) := by decide +kernel
theorem dX11_teach_6 : decode cX11_teach 6 = .ok (.iload_n 1, 1) := by decide +kernel
theorem dX11_teach_7 : decode cX11_teach 7 = .ok (.iload_n 2, 1) := by decide +kernel
theorem dX11_teach_8 : decode cX11_teach 8 = .ok (.invokevirtual 383, 3) := by decide +kernel
theorem dX11_teach_11 : decode cX11_teach 11 = .ok (.ifCond .eq 34, 3) := by decide +kernel
theorem dX11_teach_14 : decode cX11_teach 14 = .ok (.iload_n 3, 1) := by decide +kernel
theorem dX11_teach_15 : decode cX11_teach 15 = .ok (.iconst 0, 1) := by decide +kernel
theorem dX11_teach_16 : decode cX11_teach 16 = .ok (.aload_n 0, 1) := by decide +kernel
theorem dX11_teach_17 : decode cX11_teach 17 = .ok (.invokevirtual 334, 3) := by decide +kernel
theorem dX11_teach_20 : decode cX11_teach 20 = .ok (.invokestatic 109, 3) := by decide +kernel
theorem dX11_teach_23 : decode cX11_teach 23 = .ok (.ifCond .eq 22, 3) := by decide +kernel
theorem dX11_teach_26 : decode cX11_teach 26 = .ok (.aload_n 0, 1) := by decide +kernel
theorem dX11_teach_27 : decode cX11_teach 27 = .ok (.iload_n 3, 1) := by decide +kernel
theorem dX11_teach_28 : decode cX11_teach 28 = .ok (.invokevirtual 386, 3) := by decide +kernel
theorem dX11_teach_31 : decode cX11_teach 31 = .ok (.iload_n 3, 1) := by decide +kernel
theorem dX11_teach_32 : decode cX11_teach 32 = .ok (.if_icmp .lt 13, 3) := by decide +kernel
theorem dX11_teach_35 : decode cX11_teach 35 = .ok (.iload 4, 2) := by decide +kernel
theorem dX11_teach_37 : decode cX11_teach 37 = .ok (.iconst 0, 1) := by decide +kernel
theorem dX11_teach_38 : decode cX11_teach 38 = .ok (.iconst 4, 1) := by decide +kernel
theorem dX11_teach_39 : decode cX11_teach 39 = .ok (.invokestatic 109, 3) := by decide +kernel
theorem dX11_teach_42 : decode cX11_teach 42 = .ok (.ifCond .ne 5, 3) := by decide +kernel
theorem dX11_teach_45 : decode cX11_teach 45 = .ok (.iconst (-1), 1) := by decide +kernel
theorem dX11_teach_46 : decode cX11_teach 46 = .ok (.ireturn, 1) := by decide +kernel
theorem dX11_teach_47 : decode cX11_teach 47 = .ok (.iconst (-1), 1) := by decide +kernel
theorem dX11_teach_48 : decode cX11_teach 48 = .ok (.istore 5, 2) := by decide +kernel
theorem dX11_teach_50 : decode cX11_teach 50 = .ok (.iconst 0, 1) := by decide +kernel
theorem dX11_teach_51 : decode cX11_teach 51 = .ok (.istore 6, 2) := by decide +kernel
theorem dX11_teach_53 : decode cX11_teach 53 = .ok (.iload 6, 2) := by decide +kernel
theorem dX11_teach_55 : decode cX11_teach 55 = .ok (.iconst 1, 1) := by decide +kernel
theorem dX11_teach_56 : decode cX11_teach 56 = .ok (.aload_n 0, 1) := by decide +kernel
theorem dX11_teach_57 : decode cX11_teach 57 = .ok (.getfield 310, 3) := by decide +kernel
theorem dX11_teach_60 : decode cX11_teach 60 = .ok (.ishl, 1) := by decide +kernel
theorem dX11_teach_61 : decode cX11_teach 61 = .ok (.if_icmp .ge 68, 3) := by decide +kernel
theorem dX11_teach_64 : decode cX11_teach 64 = .ok (.aload_n 0, 1) := by decide +kernel
theorem dX11_teach_65 : decode cX11_teach 65 = .ok (.iload 6, 2) := by decide +kernel
theorem dX11_teach_67 : decode cX11_teach 67 = .ok (.iload 4, 2) := by decide +kernel
theorem dX11_teach_69 : decode cX11_teach 69 = .ok (.invokevirtual 525, 3) := by decide +kernel
theorem dX11_teach_72 : decode cX11_teach 72 = .ok (.iconst 1, 1) := by decide +kernel
theorem dX11_teach_73 : decode cX11_teach 73 = .ok (.aload_n 0, 1) := by decide +kernel
theorem dX11_teach_74 : decode cX11_teach 74 = .ok (.getfield 310, 3) := by decide +kernel
theorem dX11_teach_77 : decode cX11_teach 77 = .ok (.ishl, 1) := by decide +kernel
theorem dX11_teach_78 : decode cX11_teach 78 = .ok (.iconst 1, 1) := by decide +kernel
theorem dX11_teach_79 : decode cX11_teach 79 = .ok (.isub, 1) := by decide +kernel
theorem dX11_teach_80 : decode cX11_teach 80 = .ok (.if_icmp .ne 7, 3) := by decide +kernel
theorem dX11_teach_83 : decode cX11_teach 83 = .ok (.iconst 1, 1) := by decide +kernel
theorem dX11_teach_84 : decode cX11_teach 84 = .ok (.goto 4, 3) := by decide +kernel
theorem dX11_teach_87 : decode cX11_teach 87 = .ok (.iconst 0, 1) := by decide +kernel
theorem dX11_teach_88 : decode cX11_teach 88 = .ok (.istore 7, 2) := by decide +kernel
theorem dX11_teach_90 : decode cX11_teach 90 = .ok (.iload 7, 2) := by decide +kernel
theorem dX11_teach_92 : decode cX11_teach 92 = .ok (.ifCond .eq 27, 3) := by decide +kernel
theorem dX11_teach_95 : decode cX11_teach 95 = .ok (.iload 5, 2) := by decide +kernel
theorem dX11_teach_97 : decode cX11_teach 97 = .ok (.iconst (-1), 1) := by decide +kernel
theorem dX11_teach_98 : decode cX11_teach 98 = .ok (.if_icmp .eq 13, 3) := by decide +kernel
theorem dX11_teach_101 : decode cX11_teach 101 = .ok (.iload 6, 2) := by decide +kernel
theorem dX11_teach_103 : decode cX11_teach 103 = .ok (.invokestatic 429, 3) := by decide +kernel
theorem dX11_teach_106 : decode cX11_teach 106 = .ok (.iload 5, 2) := by decide +kernel
theorem dX11_teach_108 : decode cX11_teach 108 = .ok (.if_icmp .ge 11, 3) := by decide +kernel
theorem dX11_teach_111 : decode cX11_teach 111 = .ok (.iload 6, 2) := by decide +kernel
theorem dX11_teach_113 : decode cX11_teach 113 = .ok (.invokestatic 429, 3) := by decide +kernel
theorem dX11_teach_116 : decode cX11_teach 116 = .ok (.goto 5, 3) := by decide +kernel
theorem dX11_teach_119 : decode cX11_teach 119 = .ok (.iload 5, 2) := by decide +kernel
theorem dX11_teach_121 : decode cX11_teach 121 = .ok (.istore 5, 2) := by decide +kernel
theorem dX11_teach_123 : decode cX11_teach 123 = .ok (.iinc 6 1, 3) := by decide +kernel
theorem dX11_teach_126 : decode cX11_teach 126 = .ok (.goto (-73), 3) := by decide +kernel
theorem dX11_teach_129 : decode cX11_teach 129 = .ok (.iload 5, 2) := by decide +kernel
theorem dX11_teach_131 : decode cX11_teach 131 = .ok (.ireturn, 1) := by decide +kernel
theorem dX11_count_0 : decode cX11_count 0 = .ok (.aload_n 0, 1) := by decide +kernel
theorem dX11_count_1 : decode cX11_count 1 = .ok (.iconst 0, 1) := by decide +kernel
theorem dX11_count_2 : decode cX11_count 2 = .ok (.putfield 97, 3) := by decide +kernel
theorem dX11_count_5 : decode cX11_count 5 = .ok (.iload_n 1, 1) := by decide +kernel
theorem dX11_count_6 : decode cX11_count 6 = .ok (.iconst 0, 1) := by decide +kernel
theorem dX11_count_7 : decode cX11_count 7 = .ok (.iconst 3, 1) := by decide +kernel
theorem dX11_count_8 : decode cX11_count 8 = .ok (.invokestatic 109, 3) := by decide +kernel
theorem dX11_count_11 : decode cX11_count 11 = .ok (.ifCond .eq 12, 3) := by decide +kernel
theorem dX11_count_14 : decode cX11_count 14 = .ok (.aload_n 0, 1) := by decide +kernel
theorem dX11_count_15 : decode cX11_count 15 = .ok (.getfield 23, 3) := by decide +kernel
theorem dX11_count_18 : decode cX11_count 18 = .ok (.iload_n 1, 1) := by decide +kernel
theorem dX11_count_19 : decode cX11_count 19 = .ok (.iaload, 1) := by decide +kernel
theorem dX11_count_20 : decode cX11_count 20 = .ok (.goto 5, 3) := by decide +kernel
theorem dX11_count_23 : decode cX11_count 23 = .ok (.bipush (-2), 2) := by decide +kernel
theorem dX11_count_25 : decode cX11_count 25 = .ok (.ireturn, 1) := by decide +kernel
theorem dX11_image_0 : decode cX11_image 0 = .ok (.aload_n 0, 1) := by decide +kernel
theorem dX11_image_1 : decode cX11_image 1 = .ok (.iconst 0, 1) := by decide +kernel
theorem dX11_image_2 : decode cX11_image 2 = .ok (.putfield 97, 3) := by decide +kernel
theorem dX11_image_5 : decode cX11_image 5 = .ok (.iload_n 1, 1) := by decide +kernel
theorem dX11_image_6 : decode cX11_image 6 = .ok (.iconst 0, 1) := by decide +kernel
theorem dX11_image_7 : decode cX11_image 7 = .ok (.iconst 2, 1) := by decide +kernel
theorem dX11_image_8 : decode cX11_image 8 = .ok (.invokestatic 109, 3) := by decide +kernel
theorem dX11_image_11 : decode cX11_image 11 = .ok (.ifCond .ne 5, 3) := by decide +kernel
theorem dX11_image_14 : decode cX11_image 14 = .ok (.iconst 0, 1) := by decide +kernel
theorem dX11_image_15 : decode cX11_image 15 = .ok (.ireturn, 1) := by decide +kernel
theorem dX11_image_16 : decode cX11_image 16 = .ok (.aload_n 0, 1) := by decide +kernel
theorem dX11_image_17 : decode cX11_image 17 = .ok (.iconst 0, 1) := by decide +kernel
theorem dX11_image_18 : decode cX11_image 18 = .ok (.iload_n 1, 1) := by decide +kernel
theorem dX11_image_19 : decode cX11_image 19 = .ok (.iconst 1, 1) := by decide +kernel
theorem dX11_image_20 : decode cX11_image 20 = .ok (.iadd, 1) := by decide +kernel
theorem dX11_image_21 : decode cX11_image 21 = .ok (.invokevirtual 528, 3) := by decide +kernel
theorem dX11_image_24 : decode cX11_image 24 = .ok (.aload_n 0, 1) := by decide +kernel
theorem dX11_image_25 : decode cX11_image 25 = .ok (.getfield 94, 3) := by decide +kernel
theorem dX11_image_28 : decode cX11_image 28 = .ok (.iload_n 1, 1) := by decide +kernel
theorem dX11_image_29 : decode cX11_image 29 = .ok (.iconst 1, 1) := by decide +kernel
theorem dX11_image_30 : decode cX11_image 30 = .ok (.bastore, 1) := by decide +kernel
theorem dX11_image_31 : decode cX11_image 31 = .ok (.iconst 1, 1) := by decide +kernel
theorem dX11_image_32 : decode cX11_image 32 = .ok (.ireturn, 1) := by decide +kernel
theorem dX11_again_0 : decode cX11_again 0 = .ok (.aload_n 0, 1) := by decide +kernel
theorem dX11_again_1 : decode cX11_again 1 = .ok (.iconst 0, 1) := by decide +kernel
theorem dX11_again_2 : decode cX11_again 2 = .ok (.putfield 97, 3) := by decide +kernel
theorem dX11_again_5 : decode cX11_again 5 = .ok (.iload_n 1, 1) := by decide +kernel
theorem dX11_again_6 : decode cX11_again 6 = .ok (.iconst 0, 1) := by decide +kernel
theorem dX11_again_7 : decode cX11_again 7 = .ok (.iconst 2, 1) := by decide +kernel
theorem dX11_again_8 : decode cX11_again 8 = .ok (.invokestatic 109, 3) := by decide +kernel
theorem dX11_again_11 : decode cX11_again 11 = .ok (.ifCond .eq 12, 3) := by decide +kernel
theorem dX11_again_14 : decode cX11_again 14 = .ok (.aload_n 0, 1) := by decide +kernel
theorem dX11_again_15 : decode cX11_again 15 = .ok (.getfield 94, 3) := by decide +kernel
theorem dX11_again_18 : decode cX11_again 18 = .ok (.iload_n 1, 1) := by decide +kernel
theorem dX11_again_19 : decode cX11_again 19 = .ok (.baload, 1) := by decide +kernel
theorem dX11_again_20 : decode cX11_again 20 = .ok (.ifCond .ne 5, 3) := by decide +kernel
theorem dX11_again_23 : decode cX11_again 23 = .ok (.iconst 0, 1) := by decide +kernel
theorem dX11_again_24 : decode cX11_again 24 = .ok (.ireturn, 1) := by decide +kernel
theorem dX11_again_25 : decode cX11_again 25 = .ok (.aload_n 0, 1) := by decide +kernel
theorem dX11_again_26 : decode cX11_again 26 = .ok (.iload_n 1, 1) := by decide +kernel
theorem dX11_again_27 : decode cX11_again 27 = .ok (.iconst 1, 1) := by decide +kernel
theorem dX11_again_28 : decode cX11_again 28 = .ok (.iadd, 1) := by decide +kernel
theorem dX11_again_29 : decode cX11_again 29 = .ok (.iconst 0, 1) := by decide +kernel
theorem dX11_again_30 : decode cX11_again 30 = .ok (.invokevirtual 528, 3) := by decide +kernel
theorem dX11_again_33 : decode cX11_again 33 = .ok (.iconst 1, 1) := by decide +kernel
theorem dX11_again_34 : decode cX11_again 34 = .ok (.ireturn, 1) := by decide +kernel
