theorem dX11_trade_99 : decode cX11_trade 99 = .ok (.iload 4, 2) := by decide +kernel
theorem dX11_trade_101 : decode cX11_trade 101 = .ok (.ifCond .eq 13, 3) := by decide +kernel
theorem dX11_trade_104 : decode cX11_trade 104 = .ok (.aload_n 0, 1) := by decide +kernel
theorem dX11_trade_105 : decode cX11_trade 105 = .ok (.iload_n 1, 1) := by decide +kernel
theorem dX11_trade_106 : decode cX11_trade 106 = .ok (.iload_n 2, 1) := by decide +kernel
theorem dX11_trade_107 : decode cX11_trade 107 = .ok (.iload_n 3, 1) := by decide +kernel
theorem dX11_trade_108 : decode cX11_trade 108 = .ok (.invokevirtual 511, 3) := by decide +kernel
theorem dX11_trade_111 : decode cX11_trade 111 = .ok (.goto 22, 3) := by decide +kernel
theorem dX11_trade_114 : decode cX11_trade 114 = .ok (.aload_n 0, 1) := by decide +kernel
theorem dX11_trade_115 : decode cX11_trade 115 = .ok (.getfield 88, 3) := by decide +kernel
theorem dX11_trade_118 : decode cX11_trade 118 = .ok (.bipush 61, 2) := by decide +kernel
theorem dX11_trade_120 : decode cX11_trade 120 = .ok (.iload_n 1, 1) := by decide +kernel
theorem dX11_trade_121 : decode cX11_trade 121 = .ok (.imul, 1) := by decide +kernel
theorem dX11_trade_122 : decode cX11_trade 122 = .ok (.iload_n 2, 1) := by decide +kernel
theorem dX11_trade_123 : decode cX11_trade 123 = .ok (.iadd, 1) := by decide +kernel
theorem dX11_trade_124 : decode cX11_trade 124 = .ok (.baload, 1) := by decide +kernel
theorem dX11_trade_125 : decode cX11_trade 125 = .ok (.ifCond .eq 7, 3) := by decide +kernel
theorem dX11_trade_128 : decode cX11_trade 128 = .ok (.iconst 1, 1) := by decide +kernel
theorem dX11_trade_129 : decode cX11_trade 129 = .ok (.goto 4, 3) := by decide +kernel
theorem dX11_trade_132 : decode cX11_trade 132 = .ok (.iconst 0, 1) := by decide +kernel
theorem dX11_trade_133 : decode cX11_trade 133 = .ok (.ireturn, 1) := by decide +kernel
theorem dX11_odds_0 : decode cX11_odds 0 = .ok (.aload_n 0, 1) := by decide +kernel
theorem dX11_odds_1 : decode cX11_odds 1 = .ok (.iconst 0, 1) := by decide +kernel
theorem dX11_odds_2 : decode cX11_odds 2 = .ok (.putfield 97, 3) := by decide +kernel
theorem dX11_odds_5 : decode cX11_odds 5 = .ok (.iload_n 3, 1) := by decide +kernel
theorem dX11_odds_6 : decode cX11_odds 6 = .ok (.iconst 0, 1) := by decide +kernel
theorem dX11_odds_7 : decode cX11_odds 7 = .ok (.iconst 2, 1) := by decide +kernel
theorem dX11_odds_8 : decode cX11_odds 8 = .ok (.invokestatic 109, 3) := by decide +kernel
theorem dX11_odds_11 : decode cX11_odds 11 = .ok (.ifCond .eq 12, 3) := by decide +kernel
theorem dX11_odds_14 : decode cX11_odds 14 = .ok (.aload_n 0, 1) := by decide +kernel
theorem dX11_odds_15 : decode cX11_odds 15 = .ok (.iload_n 1, 1) := by decide +kernel
theorem dX11_odds_16 : decode cX11_odds 16 = .ok (.iload_n 2, 1) := by decide +kernel
theorem dX11_odds_17 : decode cX11_odds 17 = .ok (.invokevirtual 383, 3) := by decide +kernel
theorem dX11_odds_20 : decode cX11_odds 20 = .ok (.ifCond .ne 7, 3) := by decide +kernel
theorem dX11_odds_23 : decode cX11_odds 23 = .ok (.ldc2_w 503, 3) := by decide +kernel
theorem dX11_odds_26 : decode cX11_odds 26 = .ok (.lreturn, 1) := by decide +kernel
theorem dX11_odds_27 : decode cX11_odds 27 = .ok (.aload_n 0, 1) := by decide +kernel
theorem dX11_odds_28 : decode cX11_odds 28 = .ok (.aload_n 0, 1) := by decide +kernel
theorem dX11_drawn_0 : decode cX11_drawn 0 = .ok (.aload_n 0, 1) := by decide +kernel
theorem dX11_drawn_1 : decode cX11_drawn 1 = .ok (.iconst 0, 1) := by decide +kernel
theorem dX11_drawn_2 : decode cX11_drawn 2 = .ok (.putfield 97, 3) := by decide +kernel
theorem dX11_drawn_5 : decode cX11_drawn 5 = .ok (.iload_n 3, 1) := by decide +kernel
theorem dX11_drawn_6 : decode cX11_drawn 6 = .ok (.iconst 0, 1) := by decide +kernel
theorem dX11_drawn_7 : decode cX11_drawn 7 = .ok (.bipush 60, 2) := by decide +kernel
theorem dX11_drawn_9 : decode cX11_drawn 9 = .ok (.invokestatic 109, 3) := by decide +kernel
theorem dX11_drawn_12 : decode cX11_drawn 12 = .ok (.ifCond .eq 18, 3) := by decide +kernel
theorem dX11_drawn_15 : decode cX11_drawn 15 = .ok (.aload_n 0, 1) := by decide +kernel
theorem dX11_drawn_16 : decode cX11_drawn 16 = .ok (.iload_n 1, 1) := by decide +kernel
theorem dX11_drawn_17 : decode cX11_drawn 17 = .ok (.invokevirtual 313, 3) := by decide +kernel
theorem dX11_drawn_20 : decode cX11_drawn 20 = .ok (.ifCond .eq 10, 3) := by decide +kernel
theorem dX11_drawn_23 : decode cX11_drawn 23 = .ok (.aload_n 0, 1) := by decide +kernel
theorem dX11_drawn_24 : decode cX11_drawn 24 = .ok (.getfield 310, 3) := by decide +kernel
theorem dX11_drawn_27 : decode cX11_drawn 27 = .ok (.ifCond .ne 7, 3) := by decide +kernel
theorem dX11_drawn_30 : decode cX11_drawn 30 = .ok (.sipush (-1000), 3) := by decide +kernel
theorem dX11_drawn_33 : decode cX11_drawn 33 = .ok (.ireturn, 1) := by decide +kernel
theorem dX11_drawn_34 : decode cX11_drawn 34 = .ok (.aload_n 0, 1) := by decide +kernel
theorem dX11_drawn_35 : decode cX11_drawn 35 = .ok (.iload_n 2, 1) := by decide +kernel
theorem dX11_drawn_36 : decode cX11_drawn 36 = .ok (.putfield 515, 3) := by decide +kernel
theorem dX11_drawn_39 : decode cX11_drawn 39 = .ok (.aload_n 0, 1) := by decide +kernel
theorem dX11_psalm_0 : decode cX11_psalm 0 = .ok (.aload_n 0, 1) := by decide +kernel
theorem dX11_psalm_1 : decode cX11_psalm 1 = .ok (.iconst 0, 1) := by decide +kernel
theorem dX11_psalm_2 : decode cX11_psalm 2 = .ok (.putfield 97, 3) := by decide +kernel
theorem dX11_psalm_5 : decode cX11_psalm 5 = .ok (.aload_n 0, 1) := by decide +kernel
theorem dX11_psalm_6 : decode cX11_psalm 6 = .ok (.iload_n 1, 1) := by decide +kernel
theorem dX11_psalm_7 : decode cX11_psalm 7 = .ok (.invokevirtual 313, 3) := by decide +kernel
theorem dX11_psalm_10 : decode cX11_psalm 10 = .ok (.ifCond .eq 31, 3) := by decide +kernel
theorem dX11_psalm_13 : decode cX11_psalm 13 = .ok (.aload_n 0, 1) := by decide +kernel
theorem dX11_psalm_14 : decode cX11_psalm 14 = .ok (.iload_n 2, 1) := by decide +kernel
theorem dX11_psalm_41 : decode cX11_psalm 41 = .ok (.bipush (-2), 2) := by decide +kernel
theorem dX11_psalm_43 : decode cX11_psalm 43 = .ok (.ireturn, 1) := by decide +kernel
theorem dX11_meet_0 : decode cX11_meet 0 = .ok (.aload_n 0, 1) := by decide +kernel
theorem dX11_meet_1 : decode cX11_meet 1 = .ok (.iconst 0, 1) := by decide +kernel
theorem dX11_meet_2 : decode cX11_meet 2 = .ok (.putfield 97, 3) := by decide +kernel
theorem dX11_meet_5 : decode cX11_meet 5 = .ok (.aload_n 0, 1) := by decide +kernel
theorem dX11_meet_6 : decode cX11_meet 6 = .ok (.iload_n 1, 1) := by decide +kernel
theorem dX11_meet_7 : decode cX11_meet 7 = .ok (.invokevirtual 313, 3) := by decide +kernel
theorem dX11_meet_10 : decode cX11_meet 10 = .ok (.ifCond .eq 24, 3) := by decide +kernel
theorem dX11_meet_13 : decode cX11_meet 13 = .ok (.aload_n 0, 1) := by decide +kernel
theorem dX11_meet_14 : decode cX11_meet 14 = .ok (.iload_n 2, 1) := by decide +kernel
theorem dX11_meet_34 : decode cX11_meet 34 = .ok (.iconst (-1), 1) := by decide +kernel
theorem dX11_meet_35 : decode cX11_meet 35 = .ok (.ireturn, 1) := by decide +kernel
theorem dX11_carry_0 : decode cX11_carry 0 = .ok (.aload_n 0, 1) := by decide +kernel
theorem dX11_carry_1 : decode cX11_carry 1 = .ok (.iconst 0, 1) := by decide +kernel
theorem dX11_carry_2 : decode cX11_carry 2 = .ok (.putfield 97, 3) := by decide +kernel
theorem dX11_carry_5 : decode cX11_carry 5 = .ok (.aload_n 0, 1) := by decide +kernel
theorem dX11_carry_6 : decode cX11_carry 6 = .ok (.iload_n 1, 1) := by decide +kernel
theorem dX11_carry_7 : decode cX11_carry 7 = .ok (.invokevirtual 313, 3) := by decide +kernel
theorem dX11_carry_10 : decode cX11_carry 10 = .ok (.ifCond .eq 11, 3) := by decide +kernel
theorem dX11_carry_13 : decode cX11_carry 13 = .ok (.aload_n 0, 1) := by decide +kernel
theorem dX11_carry_14 : decode cX11_carry 14 = .ok (.iload_n 2, 1) := by decide +kernel
theorem dX11_carry_21 : decode cX11_carry 21 = .ok (.iconst (-1), 1) := by decide +kernel
theorem dX11_carry_22 : decode cX11_carry 22 = .ok (.ireturn, 1) := by decide +kernel
theorem dX11_join_0 : decode cX11_join 0 = .ok (.aload_n 0, 1) := by decide +kernel
theorem dX11_join_1 : decode cX11_join 1 = .ok (.iconst 0, 1) := by decide +kernel
theorem dX11_join_2 : decode cX11_join 2 = .ok (.putfield 97, 3) := by decide +kernel
theorem dX11_join_5 : decode cX11_join 5 = .ok (.aload_n 0, 1) := by decide +kernel
theorem dX11_join_6 : decode cX11_join 6 = .ok (.iload_n 1, 1) := by decide +kernel
theorem dX11_join_7 : decode cX11_join 7 = .ok (.invokevirtual 313, 3) := by decide +kernel
theorem dX11_join_10 : decode cX11_join 10 = .ok (.ifCond .eq 19, 3) := by decide +kernel
theorem dX11_join_13 : decode cX11_join 13 = .ok (.aload_n 0, 1) := by decide +kernel
theorem dX11_join_14 : decode cX11_join 14 = .ok (.iload_n 2, 1) := by decide +kernel
theorem dX11_join_29 : decode cX11_join 29 = .ok (.iconst (-1), 1) := by decide +kernel
theorem dX11_join_30 : decode cX11_join 30 = .ok (.ireturn, 1) := by decide +kernel
theorem dX11_slopes_0 : decode cX11_slopes 0 = .ok (.aload_n 0, 1) := by decide +kernel
theorem dX11_slopes_1 : decode cX11_slopes 1 = .ok (.iconst 0, 1) := by decide +kernel
theorem dX11_slopes_2 : decode cX11_slopes 2 = .ok (.putfield 97, 3) := by decide +kernel
theorem dX11_slopes_5 : decode cX11_slopes 5 = .ok (.aload_n 0, 1) := by decide +kernel
theorem dX11_slopes_6 : decode cX11_slopes 6 = .ok (.iload_n 1, 1) := by decide +kernel
theorem dX11_slopes_7 : decode cX11_slopes 7 = .ok (.invokevirtual 313, 3) := by decide +kernel
theorem dX11_slopes_10 : decode cX11_slopes 10 = .ok (.ifCond .eq 12, 3) := by decide +kernel
theorem dX11_slopes_13 : decode cX11_slopes 13 = .ok (.iload_n 2, 1) := by decide +kernel
theorem dX11_slopes_14 : decode cX11_slopes 14 = .ok (.iconst 0, 1) := by decide +kernel
theorem dX11_slopes_15 : decode cX11_slopes 15 = .ok (.iconst 3, 1) := by decide +kernel
theorem dX11_slopes_16 : decode cX11_slopes 16 = .ok (.invokestatic 109, 3) := by decide +kernel
theorem dX11_slopes_19 : decode cX11_slopes 19 = .ok (.ifCond .ne 5, 3) := by decide +kernel
theorem dX11_slopes_22 : decode cX11_slopes 22 = .ok (.iconst (-1), 1) := by decide +kernel
theorem dX11_slopes_23 : decode cX11_slopes 23 = .ok (.ireturn, 1) := by decide +kernel
theorem dX11_slopes_24 : decode cX11_slopes 24 = .ok (.iconst 0, 1) := by decide +kernel
theorem dX11_slopes_25 : decode cX11_slopes 25 = .ok (.istore_n 3, 1) := by decide +kernel
theorem dX11_slopes_26 : decode cX11_slopes 26 = .ok (.iconst 0, 1) := by decide +kernel
theorem dX11_slopes_27 : decode cX11_slopes 27 = .ok (.istore 4, 2) := by decide +kernel
theorem dX11_slopes_29 : decode cX11_slopes 29 = .ok (.iconst 0, 1) := by decide +kernel
theorem dX11_slopes_30 : decode cX11_slopes 30 = .ok (.istore 5, 2) := by decide +kernel
theorem dX11_slopes_32 : decode cX11_slopes 32 = .ok (.iconst 0, 1) := by decide +kernel
theorem dX11_slopes_33 : decode cX11_slopes 33 = .ok (.istore 6, 2) := by decide +kernel
theorem dX11_slopes_35 : decode cX11_slopes 35 = .ok (.iconst 0, 1) := by decide +kernel
theorem dX11_slopes_36 : decode cX11_slopes 36 = .ok (.istore 7, 2) := by decide +kernel
theorem dX11_slopes_38 : decode cX11_slopes 38 = .ok (.iload 7, 2) := by decide +kernel
theorem dX11_slopes_40 : decode cX11_slopes 40 = .ok (.aload_n 0, 1) := by decide +kernel
theorem dX11_slopes_41 : decode cX11_slopes 41 = .ok (.getfield 307, 3) := by decide +kernel
theorem dX11_slopes_44 : decode cX11_slopes 44 = .ok (.if_icmp .ge 112, 3) := by decide +kernel
theorem dX11_slopes_47 : decode cX11_slopes 47 = .ok (.aload_n 0, 1) := by decide +kernel
theorem dX11_slopes_48 : decode cX11_slopes 48 = .ok (.iload 7, 2) := by decide +kernel
theorem dX11_slopes_50 : decode cX11_slopes 50 = .ok (.iconst 0, 1) := by decide +kernel
theorem dX11_slopes_156 : decode cX11_slopes 156 = .ok (.iload_n 2, 1) := by decide +kernel
theorem dX11_slopes_157 : decode cX11_slopes 157 = .ok (.ifCond .ne 14, 3) := by decide +kernel
theorem dX11_slopes_160 : decode cX11_slopes 160 = .ok (.aload_n 0, 1) := by decide +kernel
theorem dX11_slopes_171 : decode cX11_slopes 171 = .ok (.iload_n 2, 1) := by decide +kernel
theorem dX11_slopes_172 : decode cX11_slopes 172 = .ok (.iconst 1, 1) := by decide +kernel
theorem dX11_slopes_173 : decode cX11_slopes 173 = .ok (.if_icmp .ne 8, 3) := by decide +kernel
theorem dX11_slopes_176 : decode cX11_slopes 176 = .ok (.iload 4, 2) := by decide +kernel
theorem dX11_slopes_178 : decode cX11_slopes 178 = .ok (.goto 15, 3) := by decide +kernel
theorem dX11_slopes_181 : decode cX11_slopes 181 = .ok (.iload_n 2, 1) := by decide +kernel
theorem dX11_slopes_182 : decode cX11_slopes 182 = .ok (.iconst 2, 1) := by decide +kernel
theorem dX11_slopes_183 : decode cX11_slopes 183 = .ok (.if_icmp .ne 8, 3) := by decide +kernel
theorem dX11_slopes_186 : decode cX11_slopes 186 = .ok (.iload 5, 2) := by decide +kernel
theorem dX11_slopes_188 : decode cX11_slopes 188 = .ok (.goto 5, 3) := by decide +kernel
theorem dX11_slopes_191 : decode cX11_slopes 191 = .ok (.iload 6, 2) := by decide +kernel
theorem dX11_slopes_193 : decode cX11_slopes 193 = .ok (.ireturn, 1) := by decide +kernel
theorem dX11_flood_0 : decode cX11_flood 0 = .ok (.aload_n 0, 1) := by decide +kernel
theorem dX11_flood_1 : decode cX11_flood 1 = .ok (.iconst 0, 1) := by decide +kernel
theorem dX11_flood_2 : decode cX11_flood 2 = .ok (.putfield 97, 3) := by decide +kernel
theorem dX11_flood_5 : decode cX11_flood 5 = .ok (.aload_n 0, 1) := by decide +kernel
theorem dX11_flood_6 : decode cX11_flood 6 = .ok (.iload_n 1, 1) := by decide +kernel
theorem dX11_flood_7 : decode cX11_flood 7 = .ok (.invokevirtual 313, 3) := by decide +kernel
theorem dX11_flood_10 : decode cX11_flood 10 = .ok (.ifCond .eq 40, 3) := by decide +kernel
theorem dX11_flood_13 : decode cX11_flood 13 = .ok (.aload_n 0, 1) := by decide +kernel
theorem dX11_flood_14 : decode cX11_flood 14 = .ok (.iload_n 2, 1) := by decide +kernel
theorem dX11_flood_50 : decode cX11_flood 50 = .ok (.iconst (-1), 1) := by decide +kernel
theorem dX11_flood_51 : decode cX11_flood 51 = .ok (.ireturn, 1) := by decide +kernel
theorem dX11_teach_0 : decode cX11_teach 0 = .ok (.aload_n 0, 1) := by decide +kernel
theorem dX11_teach_1 : decode cX11_teach 1 = .ok (.iconst 0, 1) := by decide +kernel
theorem dX11_teach_2 : decode cX11_teach 2 = .ok (.putfield 97, 3) := by decide +kernel
theorem dX11_teach_5 : decode cX11_teach 5 = .ok (.aload_n 0, 1) := by decide +kernel
theorem dX11_teach_6 : decode cX11_teach 6 = .ok (.iload_n 1, 1) := by decide +kernel
theorem dX11_teach_7 : decode cX11_teach 7 = .ok (.iload_n 2, 1) := by decide +kernel
theorem dX11_teach_8 : decode cX11_teach 8 = .ok (.invokevirtual 383, 3) := by decide +kernel
theorem dX11_teach_11 : decode cX11_teach 11 = .ok (.ifCond .eq 34, 3) := by decide +kernel
theorem dX11_teach_14 : decode cX11_teach 14 = .ok (.iload_n 3, 1) := by decide +kernel
theorem dX11_teach_15 : decode cX11_teach 15 = .ok (.iconst 0, 1) := by decide +kernel
theorem dX11_teach_16 : decode cX11_teach 16 = .ok (.aload_n 0, 1) := by decide +kernel
theorem dX11_teach_45 : decode cX11_teach 45 = .ok (.iconst (-1), 1) := by decide +kernel
theorem dX11_teach_46 : decode cX11_teach 46 = .ok (.ireturn, 1) := by decide +kernel
theorem dX11_count_0 : decode cX11_count 0 = .ok (.aload_n 0, 1) := by decide +kernel
theorem dX11_count_1 : decode cX11_count 1 = .ok (.iconst 0, 1) := by decide +kernel
theorem dX11_count_2 : decode cX11_count 2 = .ok (.putfield 97, 3) := by decide +kernel
theorem dX11_count_5 : decode cX11_count 5 = .ok (.iload_n 1, 1) := by decide +kernel
theorem dX11_count_6 : decode cX11_count 6 = .ok (.iconst 0, 1) := by decide +kernel
theorem dX11_count_7 : decode cX11_count 7 = .ok (.iconst 3, 1) := by decide +kernel
theorem dX11_count_8 : decode cX11_count 8 = .ok (.invokestatic 109, 3) := by decide +kernel
theorem dX11_count_11 : decode cX11_count 11 = .ok (.ifCond .eq 12, 3) := by decide +kernel
theorem dX11_count_14 : decode cX11_count 14 = .ok (.aload_n 0, 1) := by decide +kernel
theorem dX11_count_15 : decode cX11_count 15 = .ok (.getfield 23, 3) := by decide +kernel
theorem dX11_count_18 : decode cX11_count 18 = .ok (.iload_n 1, 1) := by decide +kernel
theorem dX11_count_19 : decode cX11_count 19 = .ok (.iaload, 1) := by decide +kernel
theorem dX11_count_20 : decode cX11_count 20 = .ok (.goto 5, 3) := by decide +kernel
theorem dX11_count_23 : decode cX11_count 23 = .ok (.bipush (-2), 2) := by decide +kernel
theorem dX11_count_25 : decode cX11_count 25 = .ok (.ireturn, 1) := by decide +kernel
theorem dX11_image_0 : decode cX11_image 0 = .ok (.aload_n 0, 1) := by decide +kernel
theorem dX11_image_1 : decode cX11_image 1 = .ok (.iconst 0, 1) := by decide +kernel
theorem dX11_image_2 : decode cX11_image 2 = .ok (.putfield 97, 3) := by decide +kernel
theorem dX11_image_5 : decode cX11_image 5 = .ok (.iload_n 1, 1) := by decide +kernel
theorem dX11_image_6 : decode cX11_image 6 = .ok (.iconst 0, 1) := by decide +kernel
theorem dX11_image_7 : decode cX11_image 7 = .ok (.iconst 2, 1) := by decide +kernel
theorem dX11_image_8 : decode cX11_image 8 = .ok (.invokestatic 109, 3) := by decide +kernel
theorem dX11_image_11 : decode cX11_image 11 = .ok (.ifCond .ne 5, 3) := by decide +kernel
theorem dX11_image_14 : decode cX11_image 14 = .ok (.iconst 0, 1) := by decide +kernel
theorem dX11_image_15 : decode cX11_image 15 = .ok (.ireturn, 1) := by decide +kernel
theorem dX11_image_16 : decode cX11_image 16 = .ok (.aload_n 0, 1) := by decide +kernel
theorem dX11_image_17 : decode cX11_image 17 = .ok (.iconst 0, 1) := by decide +kernel
theorem dX11_image_18 : decode cX11_image 18 = .ok (.iload_n 1, 1) := by decide +kernel
theorem dX11_image_19 : decode cX11_image 19 = .ok (.iconst 1, 1) := by decide +kernel
theorem dX11_image_20 : decode cX11_image 20 = .ok (.iadd, 1) := by decide +kernel
theorem dX11_image_21 : decode cX11_image 21 = .ok (.invokevirtual 528, 3) := by decide +kernel
theorem dX11_image_24 : decode cX11_image 24 = .ok (.aload_n 0, 1) := by decide +kernel
theorem dX11_image_25 : decode cX11_image 25 = .ok (.getfield 94, 3) := by decide +kernel
theorem dX11_image_28 : decode cX11_image 28 = .ok (.iload_n 1, 1) := by decide +kernel
theorem dX11_image_29 : decode cX11_image 29 = .ok (.iconst 1, 1) := by decide +kernel
theorem dX11_image_30 : decode cX11_image 30 = .ok (.bastore, 1) := by decide +kernel
theorem dX11_image_31 : decode cX11_image 31 = .ok (.iconst 1, 1) := by decide +kernel
theorem dX11_image_32 : decode cX11_image 32 = .ok (.ireturn, 1) := by decide +kernel
theorem dX11_again_0 : decode cX11_again 0 = .ok (.aload_n 0, 1) := by decide +kernel
theorem dX11_again_1 : decode cX11_again 1 = .ok (.iconst 0, 1) := by decide +kernel
theorem dX11_again_2 : decode cX11_again 2 = .ok (.putfield 97, 3) := by decide +kernel
theorem dX11_again_5 : decode cX11_again 5 = .ok (.iload_n 1, 1) := by decide +kernel
theorem dX11_again_6 : decode cX11_again 6 = .ok (.iconst 0, 1) := by decide +kernel
theorem dX11_again_7 : decode cX11_again 7 = .ok (.iconst 2, 1) := by decide +kernel
theorem dX11_again_8 : decode cX11_again 8 = .ok (.invokestatic 109, 3) := by decide +kernel
theorem dX11_again_11 : decode cX11_again 11 = .ok (.ifCond .eq 12, 3) := by decide +kernel
theorem dX11_again_14 : decode cX11_again 14 = .ok (.aload_n 0, 1) := by decide +kernel
theorem dX11_again_15 : decode cX11_again 15 = .ok (.getfield 94, 3) := by decide +kernel
theorem dX11_again_18 : decode cX11_again 18 = .ok (.iload_n 1, 1) := by decide +kernel
theorem dX11_again_19 : decode cX11_again 19 = .ok (.baload, 1) := by decide +kernel
theorem dX11_again_20 : decode cX11_again 20 = .ok (.ifCond .ne 5, 3) := by decide +kernel
theorem dX11_again_23 : decode cX11_again 23 = .ok (.iconst 0, 1) := by decide +kernel
theorem dX11_again_24 : decode cX11_again 24 = .ok (.ireturn, 1) := by decide +kernel
theorem dX11_again_25 : decode cX11_again 25 = .ok (.aload_n 0, 1) := by decide +kernel
theorem dX11_again_26 : decode cX11_again 26 = .ok (.iload_n 1, 1) := by decide +kernel
theorem dX11_again_27 : decode cX11_again 27 = .ok (.iconst 1, 1) := by decide +kernel
theorem dX11_again_28 : decode cX11_again 28 = .ok (.iadd, 1) := by decide +kernel
theorem dX11_again_29 : decode cX11_again 29 = .ok (.iconst 0, 1) := by decide +kernel
theorem dX11_again_30 : decode cX11_again 30 = .ok (.invokevirtual 528, 3) := by decide +kernel
theorem dX11_again_33 : decode cX11_again 33 = .ok (.iconst 1, 1) := by decide +kernel
theorem dX11_again_34 : decode cX11_again 34 = .ok (.ireturn, 1) := by decide +kernel
