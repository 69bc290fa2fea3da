theorem dX11_in_0 : decode cX11_in 0 = .ok (.iload_n 0, 1) := by decide +kernel
theorem dX11_in_1 : decode cX11_in 1 = .ok (.iload_n 1, 1) := by decide +kernel
theorem dX11_in_2 : decode cX11_in 2 = .ok (.if_icmp .lt 12, 3) := by decide +kernel
theorem dX11_in_5 : decode cX11_in 5 = .ok (.iload_n 0, 1) := by decide +kernel
theorem dX11_in_6 : decode cX11_in 6 = .ok (.iload_n 2, 1) := by decide +kernel
theorem dX11_in_7 : decode cX11_in 7 = .ok (.if_icmp .gt 7, 3) := by decide +kernel
theorem dX11_in_10 : decode cX11_in 10 = .ok (.iconst 1, 1) := by decide +kernel
theorem dX11_in_11 : decode cX11_in 11 = .ok (.goto 4, 3) := by decide +kernel
theorem dX11_in_14 : decode cX11_in 14 = .ok (.iconst 0, 1) := by decide +kernel
theorem dX11_in_15 : decode cX11_in 15 = .ok (.ireturn, 1) := by decide +kernel
theorem dX11_has_0 : decode cX11_has 0 = .ok (.iload_n 0, 1) := by decide +kernel
theorem dX11_has_1 : decode cX11_has 1 = .ok (.iload_n 1, 1) := by decide +kernel
theorem dX11_has_2 : decode cX11_has 2 = .ok (.ishr, 1) := by decide +kernel
theorem dX11_has_3 : decode cX11_has 3 = .ok (.iconst 1, 1) := by decide +kernel
theorem dX11_has_4 : decode cX11_has 4 = .ok (.iand, 1) := by decide +kernel
theorem dX11_has_5 : decode cX11_has 5 = .ok (.iconst 1, 1) := by decide +kernel
theorem dX11_has_6 : decode cX11_has 6 = .ok (.if_icmp .ne 7, 3) := by decide +kernel
theorem dX11_has_9 : decode cX11_has 9 = .ok (.iconst 1, 1) := by decide +kernel
theorem dX11_has_10 : decode cX11_has 10 = .ok (.goto 4, 3) := by decide +kernel
theorem dX11_has_13 : decode cX11_has 13 = .ok (.iconst 0, 1) := by decide +kernel
theorem dX11_has_14 : decode cX11_has 14 = .ok (.ireturn, 1) := by decide +kernel
theorem dX11_greater_0 : decode cX11_greater 0 = .ok (.iload_n 0, 1) := by decide +kernel
theorem dX11_greater_1 : decode cX11_greater 1 = .ok (.iload_n 1, 1) := by decide +kernel
theorem dX11_greater_2 : decode cX11_greater 2 = .ok (.if_icmp .le 7, 3) := by decide +kernel
theorem dX11_greater_5 : decode cX11_greater 5 = .ok (.iload_n 0, 1) := by decide +kernel
theorem dX11_greater_6 : decode cX11_greater 6 = .ok (.goto 4, 3) := by decide +kernel
theorem dX11_greater_9 : decode cX11_greater 9 = .ok (.iload_n 1, 1) := by decide +kernel
theorem dX11_greater_10 : decode cX11_greater 10 = .ok (.ireturn, 1) := by decide +kernel
theorem dX11_lesser_0 : decode cX11_lesser 0 = .ok (.iload_n 0, 1) := by decide +kernel
theorem dX11_lesser_1 : decode cX11_lesser 1 = .ok (.iload_n 1, 1) := by decide +kernel
theorem dX11_lesser_2 : decode cX11_lesser 2 = .ok (.if_icmp .ge 7, 3) := by decide +kernel
theorem dX11_lesser_5 : decode cX11_lesser 5 = .ok (.iload_n 0, 1) := by decide +kernel
theorem dX11_lesser_6 : decode cX11_lesser 6 = .ok (.goto 4, 3) := by decide +kernel
theorem dX11_lesser_9 : decode cX11_lesser 9 = .ok (.iload_n 1, 1) := by decide +kernel
theorem dX11_lesser_10 : decode cX11_lesser 10 = .ok (.ireturn, 1) := by decide +kernel
theorem dX11_ones_0 : decode cX11_ones 0 = .ok (.iconst 0, 1) := by decide +kernel
theorem dX11_ones_1 : decode cX11_ones 1 = .ok (.istore_n 1, 1) := by decide +kernel
theorem dX11_ones_2 : decode cX11_ones 2 = .ok (.iconst 0, 1) := by decide +kernel
theorem dX11_ones_3 : decode cX11_ones 3 = .ok (.istore_n 2, 1) := by decide +kernel
theorem dX11_ones_4 : decode cX11_ones 4 = .ok (.iload_n 2, 1) := by decide +kernel
theorem dX11_ones_5 : decode cX11_ones 5 = .ok (.bipush 9, 2) := by decide +kernel
theorem dX11_ones_7 : decode cX11_ones 7 = .ok (.if_icmp .ge 25, 3) := by decide +kernel
theorem dX11_ones_10 : decode cX11_ones 10 = .ok (.iload_n 1, 1) := by decide +kernel
theorem dX11_ones_11 : decode cX11_ones 11 = .ok (.iload_n 0, 1) := by decide +kernel
theorem dX11_ones_12 : decode cX11_ones 12 = .ok (.iload_n 2, 1) := by decide +kernel
theorem dX11_ones_13 : decode cX11_ones 13 = .ok (.invokestatic 101, 3) := by decide +kernel
theorem dX11_ones_16 : decode cX11_ones 16 = .ok (.ifCond .eq 7, 3) := by decide +kernel
theorem dX11_ones_19 : decode cX11_ones 19 = .ok (.iconst 1, 1) := by decide +kernel
theorem dX11_ones_20 : decode cX11_ones 20 = .ok (.goto 4, 3) := by decide +kernel
theorem dX11_ones_23 : decode cX11_ones 23 = .ok (.iconst 0, 1) := by decide +kernel
theorem dX11_ones_24 : decode cX11_ones 24 = .ok (.iadd, 1) := by decide +kernel
theorem dX11_ones_25 : decode cX11_ones 25 = .ok (.istore_n 1, 1) := by decide +kernel
theorem dX11_ones_26 : decode cX11_ones 26 = .ok (.iinc 2 1, 3) := by decide +kernel
theorem dX11_ones_29 : decode cX11_ones 29 = .ok (.goto (-25), 3) := by decide +kernel
theorem dX11_ones_32 : decode cX11_ones 32 = .ok (.iload_n 1, 1) := by decide +kernel
theorem dX11_ones_33 : decode cX11_ones 33 = .ok (.ireturn, 1) := by decide +kernel
theorem dX11_copyRow_0 : decode cX11_copyRow 0 = .ok (.iconst 0, 1) := by decide +kernel
theorem dX11_copyRow_1 : decode cX11_copyRow 1 = .ok (.istore 4, 2) := by decide +kernel
theorem dX11_copyRow_3 : decode cX11_copyRow 3 = .ok (.iload 4, 2) := by decide +kernel
theorem dX11_copyRow_5 : decode cX11_copyRow 5 = .ok (.iload_n 1, 1) := by decide +kernel
theorem dX11_copyRow_6 : decode cX11_copyRow 6 = .ok (.if_icmp .ge 25, 3) := by decide +kernel
theorem dX11_copyRow_9 : decode cX11_copyRow 9 = .ok (.aload_n 0, 1) := by decide +kernel
theorem dX11_copyRow_10 : decode cX11_copyRow 10 = .ok (.iload_n 1, 1) := by decide +kernel
theorem dX11_copyRow_11 : decode cX11_copyRow 11 = .ok (.iload_n 3, 1) := by decide +kernel
theorem dX11_copyRow_12 : decode cX11_copyRow 12 = .ok (.imul, 1) := by decide +kernel
theorem dX11_copyRow_13 : decode cX11_copyRow 13 = .ok (.iload 4, 2) := by decide +kernel
theorem dX11_copyRow_15 : decode cX11_copyRow 15 = .ok (.iadd, 1) := by decide +kernel
theorem dX11_copyRow_16 : decode cX11_copyRow 16 = .ok (.aload_n 0, 1) := by decide +kernel
theorem dX11_copyRow_17 : decode cX11_copyRow 17 = .ok (.iload_n 1, 1) := by decide +kernel
theorem dX11_copyRow_18 : decode cX11_copyRow 18 = .ok (.iload_n 2, 1) := by decide +kernel
theorem dX11_copyRow_19 : decode cX11_copyRow 19 = .ok (.imul, 1) := by decide +kernel
theorem dX11_copyRow_20 : decode cX11_copyRow 20 = .ok (.iload 4, 2) := by decide +kernel
theorem dX11_copyRow_22 : decode cX11_copyRow 22 = .ok (.iadd, 1) := by decide +kernel
theorem dX11_copyRow_23 : decode cX11_copyRow 23 = .ok (.iaload, 1) := by decide +kernel
theorem dX11_copyRow_24 : decode cX11_copyRow 24 = .ok (.iastore, 1) := by decide +kernel
theorem dX11_copyRow_25 : decode cX11_copyRow 25 = .ok (.iinc 4 1, 3) := by decide +kernel
theorem dX11_copyRow_28 : decode cX11_copyRow 28 = .ok (.goto (-25), 3) := by decide +kernel
theorem dX11_copyRow_31 : decode cX11_copyRow 31 = .ok (.return_, 1) := by decide +kernel
theorem dX11_copyAll_0 : decode cX11_copyAll 0 = .ok (.iconst 0, 1) := by decide +kernel
theorem dX11_copyAll_1 : decode cX11_copyAll 1 = .ok (.istore_n 3, 1) := by decide +kernel
theorem dX11_copyAll_2 : decode cX11_copyAll 2 = .ok (.iload_n 3, 1) := by decide +kernel
theorem dX11_copyAll_3 : decode cX11_copyAll 3 = .ok (.sipush 600, 3) := by decide +kernel
theorem dX11_copyAll_6 : decode cX11_copyAll 6 = .ok (.if_icmp .ge 33, 3) := by decide +kernel
theorem dX11_copyAll_9 : decode cX11_copyAll 9 = .ok (.aload_n 0, 1) := by decide +kernel
theorem dX11_copyAll_10 : decode cX11_copyAll 10 = .ok (.getfield 7, 3) := by decide +kernel
theorem dX11_copyAll_13 : decode cX11_copyAll 13 = .ok (.sipush 600, 3) := by decide +kernel
theorem dX11_copyAll_16 : decode cX11_copyAll 16 = .ok (.iload_n 2, 1) := by decide +kernel
theorem dX11_copyAll_17 : decode cX11_copyAll 17 = .ok (.imul, 1) := by decide +kernel
theorem dX11_copyAll_18 : decode cX11_copyAll 18 = .ok (.iload_n 3, 1) := by decide +kernel
theorem dX11_copyAll_19 : decode cX11_copyAll 19 = .ok (.iadd, 1) := by decide +kernel
theorem dX11_copyAll_20 : decode cX11_copyAll 20 = .ok (.aload_n 0, 1) := by decide +kernel
theorem dX11_copyAll_21 : decode cX11_copyAll 21 = .ok (.getfield 7, 3) := by decide +kernel
theorem dX11_copyAll_24 : decode cX11_copyAll 24 = .ok (.sipush 600, 3) := by decide +kernel
theorem dX11_copyAll_27 : decode cX11_copyAll 27 = .ok (.iload_n 1, 1) := by decide +kernel
theorem dX11_copyAll_28 : decode cX11_copyAll 28 = .ok (.imul, 1) := by decide +kernel
theorem dX11_copyAll_29 : decode cX11_copyAll 29 = .ok (.iload_n 3, 1) := by decide +kernel
theorem dX11_copyAll_30 : decode cX11_copyAll 30 = .ok (.iadd, 1) := by decide +kernel
theorem dX11_copyAll_31 : decode cX11_copyAll 31 = .ok (.baload, 1) := by decide +kernel
theorem dX11_copyAll_32 : decode cX11_copyAll 32 = .ok (.bastore, 1) := by decide +kernel
theorem dX11_copyAll_33 : decode cX11_copyAll 33 = .ok (.iinc 3 1, 3) := by decide +kernel
theorem dX11_copyAll_36 : decode cX11_copyAll 36 = .ok (.goto (-34), 3) := by decide +kernel
theorem dX11_copyAll_39 : decode cX11_copyAll 39 = .ok (.aload_n 0, 1) := by decide +kernel
theorem dX11_copyAll_40 : decode cX11_copyAll 40 = .ok (.getfield 13, 3) := by decide +kernel
theorem dX11_copyAll_43 : decode cX11_copyAll 43 = .ok (.iconst 1, 1) := by decide +kernel
theorem dX11_copyAll_44 : decode cX11_copyAll 44 = .ok (.iload_n 1, 1) := by decide +kernel
theorem dX11_copyAll_45 : decode cX11_copyAll 45 = .ok (.iload_n 2, 1) := by decide +kernel
theorem dX11_copyAll_46 : decode cX11_copyAll 46 = .ok (.invokestatic 105, 3) := by decide +kernel
theorem dX11_copyAll_49 : decode cX11_copyAll 49 = .ok (.aload_n 0, 1) := by decide +kernel
theorem dX11_copyAll_50 : decode cX11_copyAll 50 = .ok (.getfield 17, 3) := by decide +kernel
theorem dX11_copyAll_53 : decode cX11_copyAll 53 = .ok (.iconst 1, 1) := by decide +kernel
theorem dX11_copyAll_54 : decode cX11_copyAll 54 = .ok (.iload_n 1, 1) := by decide +kernel
theorem dX11_copyAll_55 : decode cX11_copyAll 55 = .ok (.iload_n 2, 1) := by decide +kernel
theorem dX11_copyAll_56 : decode cX11_copyAll 56 = .ok (.invokestatic 105, 3) := by decide +kernel
theorem dX11_copyAll_59 : decode cX11_copyAll 59 = .ok (.aload_n 0, 1) := by decide +kernel
theorem dX11_copyAll_60 : decode cX11_copyAll 60 = .ok (.getfield 20, 3) := by decide +kernel
theorem dX11_copyAll_63 : decode cX11_copyAll 63 = .ok (.iconst 1, 1) := by decide +kernel
theorem dX11_copyAll_64 : decode cX11_copyAll 64 = .ok (.iload_n 1, 1) := by decide +kernel
theorem dX11_copyAll_65 : decode cX11_copyAll 65 = .ok (.iload_n 2, 1) := by decide +kernel
theorem dX11_copyAll_66 : decode cX11_copyAll 66 = .ok (.invokestatic 105, 3) := by decide +kernel
theorem dX11_copyAll_69 : decode cX11_copyAll 69 = .ok (.aload_n 0, 1) := by decide +kernel
theorem dX11_copyAll_70 : decode cX11_copyAll 70 = .ok (.getfield 23, 3) := by decide +kernel
theorem dX11_copyAll_73 : decode cX11_copyAll 73 = .ok (.iconst 4, 1) := by decide +kernel
theorem dX11_copyAll_74 : decode cX11_copyAll 74 = .ok (.iload_n 1, 1) := by decide +kernel
theorem dX11_copyAll_75 : decode cX11_copyAll 75 = .ok (.iload_n 2, 1) := by decide +kernel
theorem dX11_copyAll_76 : decode cX11_copyAll 76 = .ok (.invokestatic 105, 3) := by decide +kernel
theorem dX11_copyAll_79 : decode cX11_copyAll 79 = .ok (.aload_n 0, 1) := by decide +kernel
theorem dX11_copyAll_80 : decode cX11_copyAll 80 = .ok (.getfield 26, 3) := by decide +kernel
theorem dX11_copyAll_83 : decode cX11_copyAll 83 = .ok (.sipush 264, 3) := by decide +kernel
theorem dX11_copyAll_86 : decode cX11_copyAll 86 = .ok (.iload_n 1, 1) := by decide +kernel
theorem dX11_copyAll_87 : decode cX11_copyAll 87 = .ok (.iload_n 2, 1) := by decide +kernel
theorem dX11_copyAll_88 : decode cX11_copyAll 88 = .ok (.invokestatic 105, 3) := by decide +kernel
theorem dX11_copyAll_91 : decode cX11_copyAll 91 = .ok (.aload_n 0, 1) := by decide +kernel
theorem dX11_copyAll_92 : decode cX11_copyAll 92 = .ok (.getfield 29, 3) := by decide +kernel
theorem dX11_copyAll_95 : decode cX11_copyAll 95 = .ok (.sipush 242, 3) := by decide +kernel
theorem dX11_copyAll_98 : decode cX11_copyAll 98 = .ok (.iload_n 1, 1) := by decide +kernel
theorem dX11_copyAll_99 : decode cX11_copyAll 99 = .ok (.iload_n 2, 1) := by decide +kernel
theorem dX11_copyAll_100 : decode cX11_copyAll 100 = .ok (.invokestatic 105, 3) := by decide +kernel
theorem dX11_copyAll_103 : decode cX11_copyAll 103 = .ok (.aload_n 0, 1) := by decide +kernel
theorem dX11_copyAll_104 : decode cX11_copyAll 104 = .ok (.getfield 32, 3) := by decide +kernel
theorem dX11_copyAll_107 : decode cX11_copyAll 107 = .ok (.bipush 62, 2) := by decide +kernel
theorem dX11_copyAll_109 : decode cX11_copyAll 109 = .ok (.iload_n 1, 1) := by decide +kernel
theorem dX11_copyAll_110 : decode cX11_copyAll 110 = .ok (.iload_n 2, 1) := by decide +kernel
theorem dX11_copyAll_111 : decode cX11_copyAll 111 = .ok (.invokestatic 105, 3) := by decide +kernel
theorem dX11_copyAll_114 : decode cX11_copyAll 114 = .ok (.aload_n 0, 1) := by decide +kernel
theorem dX11_copyAll_115 : decode cX11_copyAll 115 = .ok (.getfield 35, 3) := by decide +kernel
theorem dX11_copyAll_118 : decode cX11_copyAll 118 = .ok (.bipush 40, 2) := by decide +kernel
theorem dX11_copyAll_120 : decode cX11_copyAll 120 = .ok (.iload_n 1, 1) := by decide +kernel
theorem dX11_copyAll_121 : decode cX11_copyAll 121 = .ok (.iload_n 2, 1) := by decide +kernel
theorem dX11_copyAll_122 : decode cX11_copyAll 122 = .ok (.invokestatic 105, 3) := by decide +kernel
theorem dX11_copyAll_125 : decode cX11_copyAll 125 = .ok (.return_, 1) := by decide +kernel
theorem dX11_is_0 : decode cX11_is 0 = .ok (.iload_n 2, 1) := by decide +kernel
theorem dX11_is_1 : decode cX11_is 1 = .ok (.iconst 0, 1) := by decide +kernel
theorem dX11_is_2 : decode cX11_is 2 = .ok (.aload_n 0, 1) := by decide +kernel
theorem dX11_is_3 : decode cX11_is 3 = .ok (.getfield 23, 3) := by decide +kernel
theorem dX11_is_6 : decode cX11_is 6 = .ok (.iload_n 1, 1) := by decide +kernel
theorem dX11_is_7 : decode cX11_is 7 = .ok (.iaload, 1) := by decide +kernel
theorem dX11_is_8 : decode cX11_is 8 = .ok (.iconst 1, 1) := by decide +kernel
theorem dX11_is_9 : decode cX11_is 9 = .ok (.isub, 1) := by decide +kernel
theorem dX11_is_10 : decode cX11_is 10 = .ok (.invokestatic 109, 3) := by decide +kernel
theorem dX11_is_13 : decode cX11_is 13 = .ok (.ireturn, 1) := by decide +kernel
theorem dX11_feed_0 : decode cX11_feed 0 = .ok (.aload_n 0, 1) := by decide +kernel
theorem dX11_feed_1 : decode cX11_feed 1 = .ok (.iconst 0, 1) := by decide +kernel
theorem dX11_feed_2 : decode cX11_feed 2 = .ok (.putfield 97, 3) := by decide +kernel
theorem dX11_feed_5 : decode cX11_feed 5 = .ok (.aload_n 0, 1) := by decide +kernel
theorem dX11_feed_6 : decode cX11_feed 6 = .ok (.getfield 13, 3) := by decide +kernel
theorem dX11_feed_9 : decode cX11_feed 9 = .ok (.iconst 0, 1) := by decide +kernel
theorem dX11_feed_10 : decode cX11_feed 10 = .ok (.iaload, 1) := by decide +kernel
theorem dX11_feed_11 : decode cX11_feed 11 = .ok (.bipush 20, 2) := by decide +kernel
theorem dX11_feed_13 : decode cX11_feed 13 = .ok (.iadd, 1) := by decide +kernel
theorem dX11_feed_14 : decode cX11_feed 14 = .ok (.sipush 600, 3) := by decide +kernel
theorem dX11_feed_17 : decode cX11_feed 17 = .ok (.if_icmp .le 5, 3) := by decide +kernel
theorem dX11_feed_20 : decode cX11_feed 20 = .ok (.iconst (-1), 1) := by decide +kernel
theorem dX11_feed_21 : decode cX11_feed 21 = .ok (.ireturn, 1) := by decide +kernel
theorem dX11_feed_22 : decode cX11_feed 22 = .ok (.aload_n 0, 1) := by decide +kernel
theorem dX11_feed_23 : decode cX11_feed 23 = .ok (.iload_n 1, 1) := by decide +kernel
theorem dX11_feed_24 : decode cX11_feed 24 = .ok (.invokevirtual 113, 3) := by decide +kernel
theorem dX11_feed_27 : decode cX11_feed 27 = .ok (.aload_n 0, 1) := by decide +kernel
theorem dX11_feed_28 : decode cX11_feed 28 = .ok (.iload_n 2, 1) := by decide +kernel
theorem dX11_feed_29 : decode cX11_feed 29 = .ok (.invokevirtual 113, 3) := by decide +kernel
theorem dX11_feed_32 : decode cX11_feed 32 = .ok (.aload_n 0, 1) := by decide +kernel
theorem dX11_feed_33 : decode cX11_feed 33 = .ok (.iload_n 3, 1) := by decide +kernel
theorem dX11_feed_34 : decode cX11_feed 34 = .ok (.invokevirtual 113, 3) := by decide +kernel
theorem dX11_feed_37 : decode cX11_feed 37 = .ok (.aload_n 0, 1) := by decide +kernel
theorem dX11_feed_38 : decode cX11_feed 38 = .ok (.iload 4, 2) := by decide +kernel
theorem dX11_feed_40 : decode cX11_feed 40 = .ok (.invokevirtual 113, 3) := by decide +kernel
theorem dX11_feed_43 : decode cX11_feed 43 = .ok (.aload_n 0, 1) := by decide +kernel
theorem dX11_feed_44 : decode cX11_feed 44 = .ok (.iload 5, 2) := by decide +kernel
theorem dX11_feed_46 : decode cX11_feed 46 = .ok (.invokevirtual 113, 3) := by decide +kernel
theorem dX11_feed_49 : decode cX11_feed 49 = .ok (.aload_n 0, 1) := by decide +kernel
theorem dX11_feed_50 : decode cX11_feed 50 = .ok (.getfield 13, 3) := by decide +kernel
theorem dX11_feed_53 : decode cX11_feed 53 = .ok (.iconst 0, 1) := by decide +kernel
theorem dX11_feed_54 : decode cX11_feed 54 = .ok (.iaload, 1) := by decide +kernel
theorem dX11_feed_55 : decode cX11_feed 55 = .ok (.ireturn, 1) := by decide +kernel
theorem dX11_four_0 : decode cX11_four 0 = .ok (.bipush 24, 2) := by decide +kernel
theorem dX11_four_2 : decode cX11_four 2 = .ok (.istore_n 2, 1) := by decide +kernel
theorem dX11_four_3 : decode cX11_four 3 = .ok (.iload_n 2, 1) := by decide +kernel
theorem dX11_four_4 : decode cX11_four 4 = .ok (.ifCond .lt 34, 3) := by decide +kernel
theorem dX11_four_7 : decode cX11_four 7 = .ok (.aload_n 0, 1) := by decide +kernel
theorem dX11_four_8 : decode cX11_four 8 = .ok (.getfield 7, 3) := by decide +kernel
theorem dX11_four_11 : decode cX11_four 11 = .ok (.aload_n 0, 1) := by decide +kernel
theorem dX11_four_12 : decode cX11_four 12 = .ok (.getfield 13, 3) := by decide +kernel
theorem dX11_four_15 : decode cX11_four 15 = .ok (.iconst 0, 1) := by decide +kernel
theorem dX11_four_16 : decode cX11_four 16 = .ok (.iaload, 1) := by decide +kernel
theorem dX11_four_17 : decode cX11_four 17 = .ok (.iload_n 1, 1) := by decide +kernel
theorem dX11_four_18 : decode cX11_four 18 = .ok (.iload_n 2, 1) := by decide +kernel
theorem dX11_four_19 : decode cX11_four 19 = .ok (.ishr, 1) := by decide +kernel
theorem dX11_four_20 : decode cX11_four 20 = .ok (.i2b, 1) := by decide +kernel
theorem dX11_four_21 : decode cX11_four 21 = .ok (.bastore, 1) := by decide +kernel
theorem dX11_four_22 : decode cX11_four 22 = .ok (.aload_n 0, 1) := by decide +kernel
theorem dX11_four_23 : decode cX11_four 23 = .ok (.getfield 13, 3) := by decide +kernel
theorem dX11_four_26 : decode cX11_four 26 = .ok (.iconst 0, 1) := by decide +kernel
theorem dX11_four_27 : decode cX11_four 27 = .ok (.dup2, 1) := by decide +kernel
theorem dX11_four_28 : decode cX11_four 28 = .ok (.iaload, 1) := by decide +kernel
theorem dX11_four_29 : decode cX11_four 29 = .ok (.iconst 1, 1) := by decide +kernel
theorem dX11_four_30 : decode cX11_four 30 = .ok (.iadd, 1) := by decide +kernel
theorem dX11_four_31 : decode cX11_four 31 = .ok (.iastore, 1) := by decide +kernel
theorem dX11_four_32 : decode cX11_four 32 = .ok (.iinc 2 (-8), 3) := by decide +kernel
theorem dX11_four_35 : decode cX11_four 35 = .ok (.goto (-32), 3) := by decide +kernel
theorem dX11_four_38 : decode cX11_four 38 = .ok (.return_, 1) := by decide +kernel
theorem dX11_end_0 : decode cX11_end 0 = .ok (.aload_n 0, 1) := by decide +kernel
theorem dX11_end_1 : decode cX11_end 1 = .ok (.iconst 0, 1) := by decide +kernel
theorem dX11_end_2 : decode cX11_end 2 = .ok (.putfield 97, 3) := by decide +kernel
theorem dX11_end_5 : decode cX11_end 5 = .ok (.iload_n 1, 1) := by decide +kernel
theorem dX11_end_6 : decode cX11_end 6 = .ok (.iconst 0, 1) := by decide +kernel
theorem dX11_end_7 : decode cX11_end 7 = .ok (.aload_n 0, 1) := by decide +kernel
theorem dX11_end_8 : decode cX11_end 8 = .ok (.getfield 13, 3) := by decide +kernel
theorem dX11_end_11 : decode cX11_end 11 = .ok (.iconst 0, 1) := by decide +kernel
theorem dX11_end_12 : decode cX11_end 12 = .ok (.iaload, 1) := by decide +kernel
theorem dX11_end_13 : decode cX11_end 13 = .ok (.invokestatic 109, 3) := by decide +kernel
theorem dX11_end_16 : decode cX11_end 16 = .ok (.ifCond .ne 5, 3) := by decide +kernel
theorem dX11_end_19 : decode cX11_end 19 = .ok (.iconst (-1), 1) := by decide +kernel
theorem dX11_end_20 : decode cX11_end 20 = .ok (.ireturn, 1) := by decide +kernel
theorem dX11_end_21 : decode cX11_end 21 = .ok (.aload_n 0, 1) := by decide +kernel
theorem dX11_end_22 : decode cX11_end 22 = .ok (.getfield 13, 3) := by decide +kernel
theorem dX11_end_25 : decode cX11_end 25 = .ok (.iconst 0, 1) := by decide +kernel
theorem dX11_end_26 : decode cX11_end 26 = .ok (.iload_n 1, 1) := by decide +kernel
theorem dX11_end_27 : decode cX11_end 27 = .ok (.iastore, 1) := by decide +kernel
theorem dX11_end_28 : decode cX11_end 28 = .ok (.iload_n 1, 1) := by decide +kernel
theorem dX11_end_29 : decode cX11_end 29 = .ok (.ireturn, 1) := by decide +kernel
theorem dX11_see_0 : decode cX11_see 0 = .ok (.aload_n 0, 1) := by decide +kernel
theorem dX11_see_1 : decode cX11_see 1 = .ok (.getfield 117, 3) := by decide +kernel
theorem dX11_see_4 : decode cX11_see 4 = .ok (.aload_n 0, 1) := by decide +kernel
theorem dX11_see_5 : decode cX11_see 5 = .ok (.getfield 120, 3) := by decide +kernel
theorem dX11_see_8 : decode cX11_see 8 = .ok (.if_icmp .ge 19, 3) := by decide +kernel
theorem dX11_see_11 : decode cX11_see 11 = .ok (.aload_n 0, 1) := by decide +kernel
theorem dX11_see_12 : decode cX11_see 12 = .ok (.getfield 7, 3) := by decide +kernel
theorem dX11_see_15 : decode cX11_see 15 = .ok (.aload_n 0, 1) := by decide +kernel
theorem dX11_see_16 : decode cX11_see 16 = .ok (.getfield 117, 3) := by decide +kernel
theorem dX11_see_19 : decode cX11_see 19 = .ok (.baload, 1) := by decide +kernel
theorem dX11_see_20 : decode cX11_see 20 = .ok (.sipush 255, 3) := by decide +kernel
theorem dX11_see_23 : decode cX11_see 23 = .ok (.iand, 1) := by decide +kernel
theorem dX11_see_24 : decode cX11_see 24 = .ok (.goto 4, 3) := by decide +kernel
theorem dX11_see_27 : decode cX11_see 27 = .ok (.iconst (-1), 1) := by decide +kernel
theorem dX11_see_28 : decode cX11_see 28 = .ok (.ireturn, 1) := by decide +kernel
theorem dX11_token_0 : decode cX11_token 0 = .ok (.aload_n 0, 1) := by decide +kernel
theorem dX11_token_1 : decode cX11_token 1 = .ok (.invokevirtual 123, 3) := by decide +kernel
theorem dX11_token_4 : decode cX11_token 4 = .ok (.bipush 10, 2) := by decide +kernel
theorem dX11_token_6 : decode cX11_token 6 = .ok (.if_icmp .eq 12, 3) := by decide +kernel
theorem dX11_token_9 : decode cX11_token 9 = .ok (.aload_n 0, 1) := by decide +kernel
theorem dX11_token_10 : decode cX11_token 10 = .ok (.invokevirtual 123, 3) := by decide +kernel
theorem dX11_token_13 : decode cX11_token 13 = .ok (.bipush 32, 2) := by decide +kernel
theorem dX11_token_15 : decode cX11_token 15 = .ok (.if_icmp .ne 16, 3) := by decide +kernel
theorem dX11_token_18 : decode cX11_token 18 = .ok (.aload_n 0, 1) := by decide +kernel
theorem dX11_token_19 : decode cX11_token 19 = .ok (.dup, 1) := by decide +kernel
theorem dX11_token_20 : decode cX11_token 20 = .ok (.getfield 117, 3) := by decide +kernel
theorem dX11_token_23 : decode cX11_token 23 = .ok (.iconst 1, 1) := by decide +kernel
theorem dX11_token_24 : decode cX11_token 24 = .ok (.iadd, 1) := by decide +kernel
theorem dX11_token_25 : decode cX11_token 25 = .ok (.putfield 117, 3) := by decide +kernel
theorem dX11_token_28 : decode cX11_token 28 = .ok (.goto (-28), 3) := by decide +kernel
theorem dX11_token_31 : decode cX11_token 31 = .ok (.aload_n 0, 1) := by decide +kernel
theorem dX11_token_32 : decode cX11_token 32 = .ok (.aload_n 0, 1) := by decide +kernel
theorem dX11_token_33 : decode cX11_token 33 = .ok (.getfield 117, 3) := by decide +kernel
theorem dX11_token_36 : decode cX11_token 36 = .ok (.putfield 127, 3) := by decide +kernel
theorem dX11_token_39 : decode cX11_token 39 = .ok (.aload_n 0, 1) := by decide +kernel
theorem dX11_token_40 : decode cX11_token 40 = .ok (.invokevirtual 123, 3) := by decide +kernel
theorem dX11_token_43 : decode cX11_token 43 = .ok (.istore_n 1, 1) := by decide +kernel
theorem dX11_token_44 : decode cX11_token 44 = .ok (.aload_n 0, 1) := by decide +kernel
theorem dX11_token_45 : decode cX11_token 45 = .ok (.lconst 0, 1) := by decide +kernel
theorem dX11_token_46 : decode cX11_token 46 = .ok (.putfield 130, 3) := by decide +kernel
theorem dX11_token_49 : decode cX11_token 49 = .ok (.iconst 0, 1) := by decide +kernel
theorem dX11_token_50 : decode cX11_token 50 = .ok (.istore_n 2, 1) := by decide +kernel
theorem dX11_token_51 : decode cX11_token 51 = .ok (.iload_n 1, 1) := by decide +kernel
theorem dX11_token_52 : decode cX11_token 52 = .ok (.ifCond .ge 11, 3) := by decide +kernel
theorem dX11_token_55 : decode cX11_token 55 = .ok (.aload_n 0, 1) := by decide +kernel
theorem dX11_token_56 : decode cX11_token 56 = .ok (.iconst 0, 1) := by decide +kernel
theorem dX11_token_57 : decode cX11_token 57 = .ok (.putfield 134, 3) := by decide +kernel
theorem dX11_token_60 : decode cX11_token 60 = .ok (.goto 206, 3) := by decide +kernel
theorem dX11_token_63 : decode cX11_token 63 = .ok (.iload_n 1, 1) := by decide +kernel
theorem dX11_token_64 : decode cX11_token 64 = .ok (.bipush 97, 2) := by decide +kernel
theorem dX11_token_66 : decode cX11_token 66 = .ok (.bipush 122, 2) := by decide +kernel
theorem dX11_token_68 : decode cX11_token 68 = .ok (.invokestatic 109, 3) := by decide +kernel
theorem dX11_token_71 : decode cX11_token 71 = .ok (.ifCond .eq 76, 3) := by decide +kernel
theorem dX11_token_74 : decode cX11_token 74 = .ok (.aload_n 0, 1) := by decide +kernel
theorem dX11_token_75 : decode cX11_token 75 = .ok (.invokevirtual 123, 3) := by decide +kernel
theorem dX11_token_78 : decode cX11_token 78 = .ok (.bipush 97, 2) := by decide +kernel
theorem dX11_token_80 : decode cX11_token 80 = .ok (.bipush 122, 2) := by decide +kernel
theorem dX11_token_82 : decode cX11_token 82 = .ok (.invokestatic 109, 3) := by decide +kernel
theorem dX11_token_85 : decode cX11_token 85 = .ok (.ifCond .eq 36, 3) := by decide +kernel
theorem dX11_token_88 : decode cX11_token 88 = .ok (.aload_n 0, 1) := by decide +kernel
theorem dX11_token_89 : decode cX11_token 89 = .ok (.aload_n 0, 1) := by decide +kernel
theorem dX11_token_90 : decode cX11_token 90 = .ok (.getfield 130, 3) := by decide +kernel
theorem dX11_token_93 : decode cX11_token 93 = .ok (.bipush 8, 2) := by decide +kernel
theorem dX11_token_95 : decode cX11_token 95 = .ok (.lshl, 1) := by decide +kernel
theorem dX11_token_96 : decode cX11_token 96 = .ok (.aload_n 0, 1) := by decide +kernel
theorem dX11_token_97 : decode cX11_token 97 = .ok (.invokevirtual 123, 3) := by decide +kernel
theorem dX11_token_100 : decode cX11_token 100 = .ok (.i2l, 1) := by decide +kernel
theorem dX11_token_101 : decode cX11_token 101 = .ok (.lor, 1) := by decide +kernel
theorem dX11_token_102 : decode cX11_token 102 = .ok (.putfield 130, 3) := by decide +kernel
theorem dX11_token_105 : decode cX11_token 105 = .ok (.aload_n 0, 1) := by decide +kernel
theorem dX11_token_106 : decode cX11_token 106 = .ok (.dup, 1) := by decide +kernel
theorem dX11_token_107 : decode cX11_token 107 = .ok (.getfield 117, 3) := by decide +kernel
theorem dX11_token_110 : decode cX11_token 110 = .ok (.iconst 1, 1) := by decide +kernel
theorem dX11_token_111 : decode cX11_token 111 = .ok (.iadd, 1) := by decide +kernel
theorem dX11_token_112 : decode cX11_token 112 = .ok (.putfield 117, 3) := by decide +kernel
theorem dX11_token_115 : decode cX11_token 115 = .ok (.iinc 2 1, 3) := by decide +kernel
theorem dX11_token_118 : decode cX11_token 118 = .ok (.goto (-44), 3) := by decide +kernel
theorem dX11_token_121 : decode cX11_token 121 = .ok (.aload_n 0, 1) := by decide +kernel
theorem dX11_token_122 : decode cX11_token 122 = .ok (.iload_n 2, 1) := by decide +kernel
theorem dX11_token_123 : decode cX11_token 123 = .ok (.bipush 8, 2) := by decide +kernel
theorem dX11_token_125 : decode cX11_token 125 = .ok (.if_icmp .le 7, 3) := by decide +kernel
theorem dX11_token_128 : decode cX11_token 128 = .ok (.lconst 0, 1) := by decide +kernel
theorem dX11_token_129 : decode cX11_token 129 = .ok (.goto 7, 3) := by decide +kernel
theorem dX11_token_132 : decode cX11_token 132 = .ok (.aload_n 0, 1) := by decide +kernel
theorem dX11_token_133 : decode cX11_token 133 = .ok (.getfield 130, 3) := by decide +kernel
theorem dX11_token_136 : decode cX11_token 136 = .ok (.putfield 130, 3) := by decide +kernel
theorem dX11_token_139 : decode cX11_token 139 = .ok (.aload_n 0, 1) := by decide +kernel
theorem dX11_token_140 : decode cX11_token 140 = .ok (.iconst 2, 1) := by decide +kernel
theorem dX11_token_141 : decode cX11_token 141 = .ok (.putfield 134, 3) := by decide +kernel
theorem dX11_token_144 : decode cX11_token 144 = .ok (.goto 122, 3) := by decide +kernel
theorem dX11_token_147 : decode cX11_token 147 = .ok (.iload_n 1, 1) := by decide +kernel
theorem dX11_token_148 : decode cX11_token 148 = .ok (.bipush 48, 2) := by decide +kernel
theorem dX11_token_150 : decode cX11_token 150 = .ok (.bipush 57, 2) := by decide +kernel
theorem dX11_token_152 : decode cX11_token 152 = .ok (.invokestatic 109, 3) := by decide +kernel
theorem dX11_token_155 : decode cX11_token 155 = .ok (.ifCond .eq 86, 3) := by decide +kernel
theorem dX11_token_158 : decode cX11_token 158 = .ok (.aload_n 0, 1) := by decide +kernel
theorem dX11_token_159 : decode cX11_token 159 = .ok (.iconst 0, 1) := by decide +kernel
theorem dX11_token_160 : decode cX11_token 160 = .ok (.putfield 137, 3) := by decide +kernel
theorem dX11_token_163 : decode cX11_token 163 = .ok (.aload_n 0, 1) := by decide +kernel
theorem dX11_token_164 : decode cX11_token 164 = .ok (.invokevirtual 123, 3) := by decide +kernel
theorem dX11_token_167 : decode cX11_token 167 = .ok (.bipush 48, 2) := by decide +kernel
theorem dX11_token_169 : decode cX11_token 169 = .ok (.bipush 57, 2) := by decide +kernel
theorem dX11_token_171 : decode cX11_token 171 = .ok (.invokestatic 109, 3) := by decide +kernel
theorem dX11_token_174 : decode cX11_token 174 = .ok (.ifCond .eq 50, 3) := by decide +kernel
theorem dX11_token_177 : decode cX11_token 177 = .ok (.aload_n 0, 1) := by decide +kernel
theorem dX11_token_178 : decode cX11_token 178 = .ok (.iload_n 2, 1) := by decide +kernel
theorem dX11_token_179 : decode cX11_token 179 = .ok (.iconst 2, 1) := by decide +kernel
theorem dX11_token_180 : decode cX11_token 180 = .ok (.if_icmp .ge 21, 3) := by decide +kernel
theorem dX11_token_183 : decode cX11_token 183 = .ok (.bipush 10, 2) := by decide +kernel
theorem dX11_token_185 : decode cX11_token 185 = .ok (.aload_n 0, 1) := by decide +kernel
theorem dX11_token_186 : decode cX11_token 186 = .ok (.getfield 137, 3) := by decide +kernel
theorem dX11_token_189 : decode cX11_token 189 = .ok (.imul, 1) := by decide +kernel
theorem dX11_token_190 : decode cX11_token 190 = .ok (.aload_n 0, 1) := by decide +kernel
theorem dX11_token_191 : decode cX11_token 191 = .ok (.invokevirtual 123, 3) := by decide +kernel
theorem dX11_token_194 : decode cX11_token 194 = .ok (.iadd, 1) := by decide +kernel
theorem dX11_token_195 : decode cX11_token 195 = .ok (.bipush 48, 2) := by decide +kernel
theorem dX11_token_197 : decode cX11_token 197 = .ok (.isub, 1) := by decide +kernel
theorem dX11_token_198 : decode cX11_token 198 = .ok (.goto 7, 3) := by decide +kernel
theorem dX11_token_201 : decode cX11_token 201 = .ok (.aload_n 0, 1) := by decide +kernel
theorem dX11_token_202 : decode cX11_token 202 = .ok (.getfield 137, 3) := by decide +kernel
theorem dX11_token_205 : decode cX11_token 205 = .ok (.putfield 137, 3) := by decide +kernel
theorem dX11_token_208 : decode cX11_token 208 = .ok (.aload_n 0, 1) := by decide +kernel
theorem dX11_token_209 : decode cX11_token 209 = .ok (.dup, 1) := by decide +kernel
theorem dX11_token_210 : decode cX11_token 210 = .ok (.getfield 117, 3) := by decide +kernel
theorem dX11_token_213 : decode cX11_token 213 = .ok (.iconst 1, 1) := by decide +kernel
theorem dX11_token_214 : decode cX11_token 214 = .ok (.iadd, 1) := by decide +kernel
theorem dX11_token_215 : decode cX11_token 215 = .ok (.putfield 117, 3) := by decide +kernel
theorem dX11_token_218 : decode cX11_token 218 = .ok (.iinc 2 1, 3) := by decide +kernel
theorem dX11_token_221 : decode cX11_token 221 = .ok (.goto (-58), 3) := by decide +kernel
theorem dX11_token_224 : decode cX11_token 224 = .ok (.aload_n 0, 1) := by decide +kernel
theorem dX11_token_225 : decode cX11_token 225 = .ok (.iload_n 2, 1) := by decide +kernel
theorem dX11_token_226 : decode cX11_token 226 = .ok (.iconst 2, 1) := by decide +kernel
theorem dX11_token_227 : decode cX11_token 227 = .ok (.if_icmp .le 7, 3) := by decide +kernel
theorem dX11_token_230 : decode cX11_token 230 = .ok (.iconst 1, 1) := by decide +kernel
theorem dX11_token_231 : decode cX11_token 231 = .ok (.goto 4, 3) := by decide +kernel
theorem dX11_token_234 : decode cX11_token 234 = .ok (.iconst 3, 1) := by decide +kernel
theorem dX11_token_235 : decode cX11_token 235 = .ok (.putfield 134, 3) := by decide +kernel
theorem dX11_token_238 : decode cX11_token 238 = .ok (.goto 28, 3) := by decide +kernel
theorem dX11_token_241 : decode cX11_token 241 = .ok (.aload_n 0, 1) := by decide +kernel
theorem dX11_token_242 : decode cX11_token 242 = .ok (.dup, 1) := by decide +kernel
theorem dX11_token_243 : decode cX11_token 243 = .ok (.getfield 117, 3) := by decide +kernel
theorem dX11_token_246 : decode cX11_token 246 = .ok (.iconst 1, 1) := by decide +kernel
theorem dX11_token_247 : decode cX11_token 247 = .ok (.iadd, 1) := by decide +kernel
theorem dX11_token_248 : decode cX11_token 248 = .ok (.putfield 117, 3) := by decide +kernel
theorem dX11_token_251 : decode cX11_token 251 = .ok (.aload_n 0, 1) := by decide +kernel
theorem dX11_token_252 : decode cX11_token 252 = .ok (.iload_n 1, 1) := by decide +kernel
theorem dX11_token_253 : decode cX11_token 253 = .ok (.bipush 59, 2) := by decide +kernel
theorem dX11_token_255 : decode cX11_token 255 = .ok (.if_icmp .ne 7, 3) := by decide +kernel
theorem dX11_token_258 : decode cX11_token 258 = .ok (.iconst 4, 1) := by decide +kernel
theorem dX11_token_259 : decode cX11_token 259 = .ok (.goto 4, 3) := by decide +kernel
theorem dX11_token_262 : decode cX11_token 262 = .ok (.iconst 1, 1) := by decide +kernel
theorem dX11_token_263 : decode cX11_token 263 = .ok (.putfield 134, 3) := by decide +kernel
theorem dX11_token_266 : decode cX11_token 266 = .ok (.return_, 1) := by decide +kernel
theorem dX11_fails_0 : decode cX11_fails 0 = .ok (.aload_n 0, 1) := by decide +kernel
theorem dX11_fails_1 : decode cX11_fails 1 = .ok (.aload_n 0, 1) := by decide +kernel
theorem dX11_fails_2 : decode cX11_fails 2 = .ok (.getfield 127, 3) := by decide +kernel
theorem dX11_fails_5 : decode cX11_fails 5 = .ok (.putfield 140, 3) := by decide +kernel
theorem dX11_fails_8 : decode cX11_fails 8 = .ok (.iconst 0, 1) := by decide +kernel
theorem dX11_fails_9 : decode cX11_fails 9 = .ok (.ireturn, 1) := by decide +kernel
theorem dX11_later_0 : decode cX11_later 0 = .ok (.aload_n 0, 1) := by decide +kernel
theorem dX11_later_1 : decode cX11_later 1 = .ok (.getfield 143, 3) := by decide +kernel
theorem dX11_later_4 : decode cX11_later 4 = .ok (.ifCond .eq 27, 3) := by decide +kernel
theorem dX11_later_7 : decode cX11_later 7 = .ok (.iload_n 2, 1) := by decide +kernel
theorem dX11_later_8 : decode cX11_later 8 = .ok (.aload_n 0, 1) := by decide +kernel
theorem dX11_later_9 : decode cX11_later 9 = .ok (.getfield 146, 3) := by decide +kernel
theorem dX11_later_12 : decode cX11_later 12 = .ok (.if_icmp .lt 19, 3) := by decide +kernel
theorem dX11_later_15 : decode cX11_later 15 = .ok (.iload_n 2, 1) := by decide +kernel
theorem dX11_later_16 : decode cX11_later 16 = .ok (.aload_n 0, 1) := by decide +kernel
theorem dX11_later_17 : decode cX11_later 17 = .ok (.getfield 146, 3) := by decide +kernel
theorem dX11_later_20 : decode cX11_later 20 = .ok (.if_icmp .ne 21, 3) := by decide +kernel
theorem dX11_later_23 : decode cX11_later 23 = .ok (.iload_n 1, 1) := by decide +kernel
theorem dX11_later_24 : decode cX11_later 24 = .ok (.aload_n 0, 1) := by decide +kernel
theorem dX11_later_25 : decode cX11_later 25 = .ok (.getfield 143, 3) := by decide +kernel
theorem dX11_later_28 : decode cX11_later 28 = .ok (.if_icmp .ge 13, 3) := by decide +kernel
theorem dX11_later_31 : decode cX11_later 31 = .ok (.aload_n 0, 1) := by decide +kernel
theorem dX11_later_32 : decode cX11_later 32 = .ok (.iload_n 1, 1) := by decide +kernel
theorem dX11_later_33 : decode cX11_later 33 = .ok (.putfield 143, 3) := by decide +kernel
theorem dX11_later_36 : decode cX11_later 36 = .ok (.aload_n 0, 1) := by decide +kernel
theorem dX11_later_37 : decode cX11_later 37 = .ok (.iload_n 2, 1) := by decide +kernel
theorem dX11_later_38 : decode cX11_later 38 = .ok (.putfield 146, 3) := by decide +kernel
theorem dX11_later_41 : decode cX11_later 41 = .ok (.return_, 1) := by decide +kernel
theorem dX11_takeBut_0 : decode cX11_takeBut 0 = .ok (.aload_n 0, 1) := by decide +kernel
theorem dX11_takeBut_1 : decode cX11_takeBut 1 = .ok (.getfield 134, 3) := by decide +kernel
theorem dX11_takeBut_4 : decode cX11_takeBut 4 = .ok (.iconst 3, 1) := by decide +kernel
theorem dX11_takeBut_5 : decode cX11_takeBut 5 = .ok (.if_icmp .eq 8, 3) := by decide +kernel
theorem dX11_takeBut_8 : decode cX11_takeBut 8 = .ok (.aload_n 0, 1) := by decide +kernel
theorem dX11_takeBut_9 : decode cX11_takeBut 9 = .ok (.invokevirtual 149, 3) := by decide +kernel
theorem dX11_takeBut_12 : decode cX11_takeBut 12 = .ok (.ireturn, 1) := by decide +kernel
theorem dX11_takeBut_13 : decode cX11_takeBut 13 = .ok (.aload_n 0, 1) := by decide +kernel
theorem dX11_takeBut_14 : decode cX11_takeBut 14 = .ok (.getfield 41, 3) := by decide +kernel
theorem dX11_takeBut_17 : decode cX11_takeBut 17 = .ok (.iload_n 1, 1) := by decide +kernel
theorem dX11_takeBut_18 : decode cX11_takeBut 18 = .ok (.aload_n 0, 1) := by decide +kernel
theorem dX11_takeBut_19 : decode cX11_takeBut 19 = .ok (.getfield 137, 3) := by decide +kernel
theorem dX11_takeBut_22 : decode cX11_takeBut 22 = .ok (.iastore, 1) := by decide +kernel
theorem dX11_takeBut_23 : decode cX11_takeBut 23 = .ok (.aload_n 0, 1) := by decide +kernel
theorem dX11_takeBut_24 : decode cX11_takeBut 24 = .ok (.getfield 137, 3) := by decide +kernel
theorem dX11_takeBut_27 : decode cX11_takeBut 27 = .ok (.iload_n 2, 1) := by decide +kernel
theorem dX11_takeBut_28 : decode cX11_takeBut 28 = .ok (.iload_n 3, 1) := by decide +kernel
theorem dX11_takeBut_29 : decode cX11_takeBut 29 = .ok (.invokestatic 109, 3) := by decide +kernel
theorem dX11_takeBut_32 : decode cX11_takeBut 32 = .ok (.ifCond .eq 12, 3) := by decide +kernel
theorem dX11_takeBut_35 : decode cX11_takeBut 35 = .ok (.aload_n 0, 1) := by decide +kernel
theorem dX11_takeBut_36 : decode cX11_takeBut 36 = .ok (.getfield 137, 3) := by decide +kernel
theorem dX11_takeBut_39 : decode cX11_takeBut 39 = .ok (.iload 4, 2) := by decide +kernel
theorem dX11_takeBut_41 : decode cX11_takeBut 41 = .ok (.if_icmp .ne 17, 3) := by decide +kernel
theorem dX11_takeBut_44 : decode cX11_takeBut 44 = .ok (.aload_n 0, 1) := by decide +kernel
theorem dX11_takeBut_45 : decode cX11_takeBut 45 = .ok (.iconst 2, 1) := by decide +kernel
theorem dX11_takeBut_46 : decode cX11_takeBut 46 = .ok (.aload_n 0, 1) := by decide +kernel
theorem dX11_takeBut_47 : decode cX11_takeBut 47 = .ok (.getfield 127, 3) := by decide +kernel
theorem dX11_takeBut_50 : decode cX11_takeBut 50 = .ok (.invokevirtual 153, 3) := by decide +kernel
theorem dX11_takeBut_53 : decode cX11_takeBut 53 = .ok (.aload_n 0, 1) := by decide +kernel
theorem dX11_takeBut_54 : decode cX11_takeBut 54 = .ok (.iconst 0, 1) := by decide +kernel
theorem dX11_takeBut_55 : decode cX11_takeBut 55 = .ok (.putfield 157, 3) := by decide +kernel
theorem dX11_takeBut_58 : decode cX11_takeBut 58 = .ok (.aload_n 0, 1) := by decide +kernel
theorem dX11_takeBut_59 : decode cX11_takeBut 59 = .ok (.invokevirtual 161, 3) := by decide +kernel
theorem dX11_takeBut_62 : decode cX11_takeBut 62 = .ok (.iconst 1, 1) := by decide +kernel
theorem dX11_takeBut_63 : decode cX11_takeBut 63 = .ok (.ireturn, 1) := by decide +kernel
theorem dX11_take_0 : decode cX11_take 0 = .ok (.aload_n 0, 1) := by decide +kernel
theorem dX11_take_1 : decode cX11_take 1 = .ok (.iload_n 1, 1) := by decide +kernel
theorem dX11_take_2 : decode cX11_take 2 = .ok (.iload_n 2, 1) := by decide +kernel
theorem dX11_take_3 : decode cX11_take 3 = .ok (.iload_n 3, 1) := by decide +kernel
theorem dX11_take_4 : decode cX11_take 4 = .ok (.iconst (-1), 1) := by decide +kernel
theorem dX11_take_5 : decode cX11_take 5 = .ok (.invokevirtual 164, 3) := by decide +kernel
theorem dX11_take_8 : decode cX11_take 8 = .ok (.ireturn, 1) := by decide +kernel
theorem dX11_takeHut_0 : decode cX11_takeHut 0 = .ok (.aload_n 0, 1) := by decide +kernel
theorem dX11_takeHut_1 : decode cX11_takeHut 1 = .ok (.iload_n 1, 1) := by decide +kernel
theorem dX11_takeHut_2 : decode cX11_takeHut 2 = .ok (.iconst 0, 1) := by decide +kernel
theorem dX11_takeHut_3 : decode cX11_takeHut 3 = .ok (.bipush 8, 2) := by decide +kernel
theorem dX11_takeHut_5 : decode cX11_takeHut 5 = .ok (.iload_n 2, 1) := by decide +kernel
theorem dX11_takeHut_6 : decode cX11_takeHut 6 = .ok (.invokevirtual 164, 3) := by decide +kernel
theorem dX11_takeHut_9 : decode cX11_takeHut 9 = .ok (.ifCond .ne 5, 3) := by decide +kernel
theorem dX11_takeHut_12 : decode cX11_takeHut 12 = .ok (.iconst 0, 1) := by decide +kernel
theorem dX11_takeHut_13 : decode cX11_takeHut 13 = .ok (.ireturn, 1) := by decide +kernel
theorem dX11_takeHut_14 : decode cX11_takeHut 14 = .ok (.aload_n 0, 1) := by decide +kernel
theorem dX11_takeHut_15 : decode cX11_takeHut 15 = .ok (.aload_n 0, 1) := by decide +kernel
theorem dX11_takeHut_16 : decode cX11_takeHut 16 = .ok (.getfield 168, 3) := by decide +kernel
theorem dX11_takeHut_19 : decode cX11_takeHut 19 = .ok (.aload_n 0, 1) := by decide +kernel
theorem dX11_takeHut_20 : decode cX11_takeHut 20 = .ok (.getfield 41, 3) := by decide +kernel
theorem dX11_takeHut_23 : decode cX11_takeHut 23 = .ok (.iload_n 1, 1) := by decide +kernel
theorem dX11_takeHut_24 : decode cX11_takeHut 24 = .ok (.iaload, 1) := by decide +kernel
theorem dX11_takeHut_25 : decode cX11_takeHut 25 = .ok (.invokestatic 171, 3) := by decide +kernel
theorem dX11_takeHut_28 : decode cX11_takeHut 28 = .ok (.putfield 168, 3) := by decide +kernel
theorem dX11_takeHut_31 : decode cX11_takeHut 31 = .ok (.iconst 1, 1) := by decide +kernel
theorem dX11_takeHut_32 : decode cX11_takeHut 32 = .ok (.ireturn, 1) := by decide +kernel
theorem dX11_full_0 : decode cX11_full 0 = .ok (.aload_n 0, 1) := by decide +kernel
theorem dX11_full_1 : decode cX11_full 1 = .ok (.getfield 38, 3) := by decide +kernel
theorem dX11_full_4 : decode cX11_full 4 = .ok (.iload_n 1, 1) := by decide +kernel
theorem dX11_full_5 : decode cX11_full 5 = .ok (.iaload, 1) := by decide +kernel
theorem dX11_full_6 : decode cX11_full 6 = .ok (.iload_n 2, 1) := by decide +kernel
theorem dX11_full_7 : decode cX11_full 7 = .ok (.if_icmp .ne 9, 3) := by decide +kernel
theorem dX11_full_10 : decode cX11_full 10 = .ok (.aload_n 0, 1) := by decide +kernel
theorem dX11_full_11 : decode cX11_full 11 = .ok (.iconst 3, 1) := by decide +kernel
theorem dX11_full_12 : decode cX11_full 12 = .ok (.iload_n 3, 1) := by decide +kernel
theorem dX11_full_13 : decode cX11_full 13 = .ok (.invokevirtual 153, 3) := by decide +kernel
theorem dX11_full_16 : decode cX11_full 16 = .ok (.return_, 1) := by decide +kernel
theorem dX11_further_0 : decode cX11_further 0 = .ok (.aload_n 0, 1) := by decide +kernel
theorem dX11_further_1 : decode cX11_further 1 = .ok (.getfield 38, 3) := by decide +kernel
theorem dX11_further_4 : decode cX11_further 4 = .ok (.iload_n 1, 1) := by decide +kernel
theorem dX11_further_5 : decode cX11_further 5 = .ok (.iaload, 1) := by decide +kernel
theorem dX11_further_6 : decode cX11_further 6 = .ok (.istore_n 3, 1) := by decide +kernel
theorem dX11_further_7 : decode cX11_further 7 = .ok (.iload_n 3, 1) := by decide +kernel
theorem dX11_further_8 : decode cX11_further 8 = .ok (.iload_n 2, 1) := by decide +kernel
theorem dX11_further_9 : decode cX11_further 9 = .ok (.if_icmp .ne 5, 3) := by decide +kernel
theorem dX11_further_12 : decode cX11_further 12 = .ok (.iconst (-1), 1) := by decide +kernel
theorem dX11_further_13 : decode cX11_further 13 = .ok (.ireturn, 1) := by decide +kernel
theorem dX11_further_14 : decode cX11_further 14 = .ok (.aload_n 0, 1) := by decide +kernel
theorem dX11_further_15 : decode cX11_further 15 = .ok (.getfield 38, 3) := by decide +kernel
theorem dX11_further_18 : decode cX11_further 18 = .ok (.iload_n 1, 1) := by decide +kernel
theorem dX11_further_19 : decode cX11_further 19 = .ok (.dup2, 1) := by decide +kernel
theorem dX11_further_20 : decode cX11_further 20 = .ok (.iaload, 1) := by decide +kernel
theorem dX11_further_21 : decode cX11_further 21 = .ok (.iconst 1, 1) := by decide +kernel
theorem dX11_further_22 : decode cX11_further 22 = .ok (.iadd, 1) := by decide +kernel
theorem dX11_further_23 : decode cX11_further 23 = .ok (.iastore, 1) := by decide +kernel
theorem dX11_further_24 : decode cX11_further 24 = .ok (.iload_n 3, 1) := by decide +kernel
theorem dX11_further_25 : decode cX11_further 25 = .ok (.ireturn, 1) := by decide +kernel
theorem dX11_bitLine_0 : decode cX11_bitLine 0 = .ok (.aload_n 0, 1) := by decide +kernel
theorem dX11_bitLine_1 : decode cX11_bitLine 1 = .ok (.iconst 0, 1) := by decide +kernel
theorem dX11_bitLine_2 : decode cX11_bitLine 2 = .ok (.iconst (-1), 1) := by decide +kernel
theorem dX11_bitLine_3 : decode cX11_bitLine 3 = .ok (.invokevirtual 175, 3) := by decide +kernel
theorem dX11_bitLine_6 : decode cX11_bitLine 6 = .ok (.ifCond .ne 5, 3) := by decide +kernel
theorem dX11_bitLine_9 : decode cX11_bitLine 9 = .ok (.iconst 0, 1) := by decide +kernel
theorem dX11_bitLine_10 : decode cX11_bitLine 10 = .ok (.ireturn, 1) := by decide +kernel
theorem dX11_bitLine_11 : decode cX11_bitLine 11 = .ok (.aload_n 0, 1) := by decide +kernel
theorem dX11_bitLine_12 : decode cX11_bitLine 12 = .ok (.getfield 38, 3) := by decide +kernel
theorem dX11_bitLine_15 : decode cX11_bitLine 15 = .ok (.iload_n 1, 1) := by decide +kernel
theorem dX11_bitLine_16 : decode cX11_bitLine 16 = .ok (.dup2, 1) := by decide +kernel
theorem dX11_bitLine_17 : decode cX11_bitLine 17 = .ok (.iaload, 1) := by decide +kernel
theorem dX11_bitLine_18 : decode cX11_bitLine 18 = .ok (.aload_n 0, 1) := by decide +kernel
theorem dX11_bitLine_19 : decode cX11_bitLine 19 = .ok (.getfield 157, 3) := by decide +kernel
theorem dX11_bitLine_22 : decode cX11_bitLine 22 = .ok (.ifCond .eq 14, 3) := by decide +kernel
theorem dX11_bitLine_25 : decode cX11_bitLine 25 = .ok (.iconst 1, 1) := by decide +kernel
theorem dX11_bitLine_26 : decode cX11_bitLine 26 = .ok (.aload_n 0, 1) := by decide +kernel
theorem dX11_bitLine_27 : decode cX11_bitLine 27 = .ok (.getfield 41, 3) := by decide +kernel
theorem dX11_bitLine_30 : decode cX11_bitLine 30 = .ok (.iconst 0, 1) := by decide +kernel
theorem dX11_bitLine_31 : decode cX11_bitLine 31 = .ok (.iaload, 1) := by decide +kernel
theorem dX11_bitLine_32 : decode cX11_bitLine 32 = .ok (.ishl, 1) := by decide +kernel
theorem dX11_bitLine_33 : decode cX11_bitLine 33 = .ok (.goto 4, 3) := by decide +kernel
theorem dX11_bitLine_36 : decode cX11_bitLine 36 = .ok (.iconst 0, 1) := by decide +kernel
theorem dX11_bitLine_37 : decode cX11_bitLine 37 = .ok (.ior, 1) := by decide +kernel
theorem dX11_bitLine_38 : decode cX11_bitLine 38 = .ok (.iastore, 1) := by decide +kernel
theorem dX11_bitLine_39 : decode cX11_bitLine 39 = .ok (.iconst 1, 1) := by decide +kernel
theorem dX11_bitLine_40 : decode cX11_bitLine 40 = .ok (.ireturn, 1) := by decide +kernel
theorem dX11_plainLine_0 : decode cX11_plainLine 0 = .ok (.aload_n 0, 1) := by decide +kernel
theorem dX11_plainLine_1 : decode cX11_plainLine 1 = .ok (.iconst 0, 1) := by decide +kernel
theorem dX11_plainLine_2 : decode cX11_plainLine 2 = .ok (.iload_n 2, 1) := by decide +kernel
theorem dX11_plainLine_3 : decode cX11_plainLine 3 = .ok (.iload_n 3, 1) := by decide +kernel
theorem dX11_plainLine_4 : decode cX11_plainLine 4 = .ok (.invokevirtual 178, 3) := by decide +kernel
theorem dX11_plainLine_7 : decode cX11_plainLine 7 = .ok (.ifCond .ne 5, 3) := by decide +kernel
theorem dX11_plainLine_10 : decode cX11_plainLine 10 = .ok (.iconst 0, 1) := by decide +kernel
theorem dX11_plainLine_11 : decode cX11_plainLine 11 = .ok (.ireturn, 1) := by decide +kernel
theorem dX11_plainLine_12 : decode cX11_plainLine 12 = .ok (.aload_n 0, 1) := by decide +kernel
theorem dX11_plainLine_13 : decode cX11_plainLine 13 = .ok (.getfield 38, 3) := by decide +kernel
theorem dX11_plainLine_16 : decode cX11_plainLine 16 = .ok (.iload_n 1, 1) := by decide +kernel
theorem dX11_plainLine_17 : decode cX11_plainLine 17 = .ok (.aload_n 0, 1) := by decide +kernel
theorem dX11_plainLine_18 : decode cX11_plainLine 18 = .ok (.getfield 41, 3) := by decide +kernel
theorem dX11_plainLine_21 : decode cX11_plainLine 21 = .ok (.iconst 0, 1) := by decide +kernel
theorem dX11_plainLine_22 : decode cX11_plainLine 22 = .ok (.iaload, 1) := by decide +kernel
theorem dX11_plainLine_23 : decode cX11_plainLine 23 = .ok (.iastore, 1) := by decide +kernel
theorem dX11_plainLine_24 : decode cX11_plainLine 24 = .ok (.iconst 1, 1) := by decide +kernel
theorem dX11_plainLine_25 : decode cX11_plainLine 25 = .ok (.ireturn, 1) := by decide +kernel
theorem dX11_hutLine_0 : decode cX11_hutLine 0 = .ok (.aload_n 0, 1) := by decide +kernel
theorem dX11_hutLine_1 : decode cX11_hutLine 1 = .ok (.iconst 0, 1) := by decide +kernel
theorem dX11_hutLine_2 : decode cX11_hutLine 2 = .ok (.iconst 0, 1) := by decide +kernel
theorem dX11_hutLine_3 : decode cX11_hutLine 3 = .ok (.bipush 99, 2) := by decide +kernel
theorem dX11_hutLine_5 : decode cX11_hutLine 5 = .ok (.invokevirtual 178, 3) := by decide +kernel
theorem dX11_hutLine_8 : decode cX11_hutLine 8 = .ok (.ifCond .ne 5, 3) := by decide +kernel
theorem dX11_hutLine_11 : decode cX11_hutLine 11 = .ok (.iconst 0, 1) := by decide +kernel
theorem dX11_hutLine_12 : decode cX11_hutLine 12 = .ok (.ireturn, 1) := by decide +kernel
theorem dX11_hutLine_13 : decode cX11_hutLine 13 = .ok (.aload_n 0, 1) := by decide +kernel
theorem dX11_hutLine_14 : decode cX11_hutLine 14 = .ok (.iconst 0, 1) := by decide +kernel
theorem dX11_hutLine_15 : decode cX11_hutLine 15 = .ok (.bipush 9, 2) := by decide +kernel
theorem dX11_hutLine_17 : decode cX11_hutLine 17 = .ok (.invokevirtual 181, 3) := by decide +kernel
theorem dX11_hutLine_20 : decode cX11_hutLine 20 = .ok (.istore_n 1, 1) := by decide +kernel
theorem dX11_hutLine_21 : decode cX11_hutLine 21 = .ok (.iload_n 1, 1) := by decide +kernel
theorem dX11_hutLine_22 : decode cX11_hutLine 22 = .ok (.iconst (-1), 1) := by decide +kernel
theorem dX11_hutLine_23 : decode cX11_hutLine 23 = .ok (.if_icmp .eq 18, 3) := by decide +kernel
theorem dX11_hutLine_26 : decode cX11_hutLine 26 = .ok (.aload_n 0, 1) := by decide +kernel
theorem dX11_hutLine_27 : decode cX11_hutLine 27 = .ok (.getfield 38, 3) := by decide +kernel
theorem dX11_hutLine_30 : decode cX11_hutLine 30 = .ok (.bipush 7, 2) := by decide +kernel
theorem dX11_hutLine_32 : decode cX11_hutLine 32 = .ok (.iload_n 1, 1) := by decide +kernel
theorem dX11_hutLine_33 : decode cX11_hutLine 33 = .ok (.iadd, 1) := by decide +kernel
theorem dX11_hutLine_34 : decode cX11_hutLine 34 = .ok (.aload_n 0, 1) := by decide +kernel
theorem dX11_hutLine_35 : decode cX11_hutLine 35 = .ok (.getfield 41, 3) := by decide +kernel
theorem dX11_hutLine_38 : decode cX11_hutLine 38 = .ok (.iconst 0, 1) := by decide +kernel
theorem dX11_hutLine_39 : decode cX11_hutLine 39 = .ok (.iaload, 1) := by decide +kernel
theorem dX11_hutLine_40 : decode cX11_hutLine 40 = .ok (.iastore, 1) := by decide +kernel
theorem dX11_hutLine_41 : decode cX11_hutLine 41 = .ok (.iconst 1, 1) := by decide +kernel
theorem dX11_hutLine_42 : decode cX11_hutLine 42 = .ok (.ireturn, 1) := by decide +kernel
theorem dX11_wayLine_0 : decode cX11_wayLine 0 = .ok (.aload_n 0, 1) := by decide +kernel
theorem dX11_wayLine_1 : decode cX11_wayLine 1 = .ok (.iconst 0, 1) := by decide +kernel
theorem dX11_wayLine_2 : decode cX11_wayLine 2 = .ok (.iconst (-1), 1) := by decide +kernel
theorem dX11_wayLine_3 : decode cX11_wayLine 3 = .ok (.invokevirtual 175, 3) := by decide +kernel
theorem dX11_wayLine_6 : decode cX11_wayLine 6 = .ok (.ifCond .eq 28, 3) := by decide +kernel
theorem dX11_wayLine_9 : decode cX11_wayLine 9 = .ok (.aload_n 0, 1) := by decide +kernel
theorem dX11_wayLine_10 : decode cX11_wayLine 10 = .ok (.iconst 1, 1) := by decide +kernel
theorem dX11_wayLine_11 : decode cX11_wayLine 11 = .ok (.aload_n 0, 1) := by decide +kernel
theorem dX11_wayLine_12 : decode cX11_wayLine 12 = .ok (.getfield 41, 3) := by decide +kernel
theorem dX11_wayLine_15 : decode cX11_wayLine 15 = .ok (.iconst 0, 1) := by decide +kernel
theorem dX11_wayLine_16 : decode cX11_wayLine 16 = .ok (.iaload, 1) := by decide +kernel
theorem dX11_wayLine_17 : decode cX11_wayLine 17 = .ok (.invokevirtual 175, 3) := by decide +kernel
theorem dX11_wayLine_20 : decode cX11_wayLine 20 = .ok (.ifCond .eq 14, 3) := by decide +kernel
theorem dX11_wayLine_23 : decode cX11_wayLine 23 = .ok (.aload_n 0, 1) := by decide +kernel
theorem dX11_wayLine_24 : decode cX11_wayLine 24 = .ok (.iconst 2, 1) := by decide +kernel
theorem dX11_wayLine_25 : decode cX11_wayLine 25 = .ok (.iconst 1, 1) := by decide +kernel
theorem dX11_wayLine_26 : decode cX11_wayLine 26 = .ok (.bipush 9, 2) := by decide +kernel
theorem dX11_wayLine_28 : decode cX11_wayLine 28 = .ok (.invokevirtual 178, 3) := by decide +kernel
theorem dX11_wayLine_31 : decode cX11_wayLine 31 = .ok (.ifCond .ne 5, 3) := by decide +kernel
theorem dX11_wayLine_34 : decode cX11_wayLine 34 = .ok (.iconst 0, 1) := by decide +kernel
theorem dX11_wayLine_35 : decode cX11_wayLine 35 = .ok (.ireturn, 1) := by decide +kernel
theorem dX11_wayLine_36 : decode cX11_wayLine 36 = .ok (.aload_n 0, 1) := by decide +kernel
theorem dX11_wayLine_37 : decode cX11_wayLine 37 = .ok (.getfield 157, 3) := by decide +kernel
theorem dX11_wayLine_40 : decode cX11_wayLine 40 = .ok (.ifCond .eq 63, 3) := by decide +kernel
theorem dX11_wayLine_43 : decode cX11_wayLine 43 = .ok (.aload_n 0, 1) := by decide +kernel
theorem dX11_wayLine_44 : decode cX11_wayLine 44 = .ok (.getfield 38, 3) := by decide +kernel
theorem dX11_wayLine_47 : decode cX11_wayLine 47 = .ok (.bipush 51, 2) := by decide +kernel
theorem dX11_wayLine_49 : decode cX11_wayLine 49 = .ok (.bipush 9, 2) := by decide +kernel
theorem dX11_wayLine_51 : decode cX11_wayLine 51 = .ok (.aload_n 0, 1) := by decide +kernel
theorem dX11_wayLine_52 : decode cX11_wayLine 52 = .ok (.getfield 41, 3) := by decide +kernel
theorem dX11_wayLine_55 : decode cX11_wayLine 55 = .ok (.iconst 0, 1) := by decide +kernel
theorem dX11_wayLine_56 : decode cX11_wayLine 56 = .ok (.iaload, 1) := by decide +kernel
theorem dX11_wayLine_57 : decode cX11_wayLine 57 = .ok (.imul, 1) := by decide +kernel
theorem dX11_wayLine_58 : decode cX11_wayLine 58 = .ok (.iadd, 1) := by decide +kernel
theorem dX11_wayLine_59 : decode cX11_wayLine 59 = .ok (.aload_n 0, 1) := by decide +kernel
theorem dX11_wayLine_60 : decode cX11_wayLine 60 = .ok (.getfield 41, 3) := by decide +kernel
theorem dX11_wayLine_63 : decode cX11_wayLine 63 = .ok (.iconst 1, 1) := by decide +kernel
theorem dX11_wayLine_64 : decode cX11_wayLine 64 = .ok (.iaload, 1) := by decide +kernel
theorem dX11_wayLine_65 : decode cX11_wayLine 65 = .ok (.iadd, 1) := by decide +kernel
theorem dX11_wayLine_66 : decode cX11_wayLine 66 = .ok (.aload_n 0, 1) := by decide +kernel
theorem dX11_wayLine_67 : decode cX11_wayLine 67 = .ok (.getfield 41, 3) := by decide +kernel
theorem dX11_wayLine_70 : decode cX11_wayLine 70 = .ok (.iconst 2, 1) := by decide +kernel
theorem dX11_wayLine_71 : decode cX11_wayLine 71 = .ok (.iaload, 1) := by decide +kernel
theorem dX11_wayLine_72 : decode cX11_wayLine 72 = .ok (.iastore, 1) := by decide +kernel
theorem dX11_wayLine_73 : decode cX11_wayLine 73 = .ok (.aload_n 0, 1) := by decide +kernel
theorem dX11_wayLine_74 : decode cX11_wayLine 74 = .ok (.getfield 38, 3) := by decide +kernel
theorem dX11_wayLine_77 : decode cX11_wayLine 77 = .ok (.bipush 51, 2) := by decide +kernel
theorem dX11_wayLine_79 : decode cX11_wayLine 79 = .ok (.bipush 9, 2) := by decide +kernel
theorem dX11_wayLine_81 : decode cX11_wayLine 81 = .ok (.aload_n 0, 1) := by decide +kernel
theorem dX11_wayLine_82 : decode cX11_wayLine 82 = .ok (.getfield 41, 3) := by decide +kernel
theorem dX11_wayLine_85 : decode cX11_wayLine 85 = .ok (.iconst 1, 1) := by decide +kernel
theorem dX11_wayLine_86 : decode cX11_wayLine 86 = .ok (.iaload, 1) := by decide +kernel
theorem dX11_wayLine_87 : decode cX11_wayLine 87 = .ok (.imul, 1) := by decide +kernel
theorem dX11_wayLine_88 : decode cX11_wayLine 88 = .ok (.iadd, 1) := by decide +kernel
theorem dX11_wayLine_89 : decode cX11_wayLine 89 = .ok (.aload_n 0, 1) := by decide +kernel
theorem dX11_wayLine_90 : decode cX11_wayLine 90 = .ok (.getfield 41, 3) := by decide +kernel
theorem dX11_wayLine_93 : decode cX11_wayLine 93 = .ok (.iconst 0, 1) := by decide +kernel
theorem dX11_wayLine_94 : decode cX11_wayLine 94 = .ok (.iaload, 1) := by decide +kernel
theorem dX11_wayLine_95 : decode cX11_wayLine 95 = .ok (.iadd, 1) := by decide +kernel
theorem dX11_wayLine_96 : decode cX11_wayLine 96 = .ok (.aload_n 0, 1) := by decide +kernel
theorem dX11_wayLine_97 : decode cX11_wayLine 97 = .ok (.getfield 41, 3) := by decide +kernel
theorem dX11_wayLine_100 : decode cX11_wayLine 100 = .ok (.iconst 2, 1) := by decide +kernel
theorem dX11_wayLine_101 : decode cX11_wayLine 101 = .ok (.iaload, 1) := by decide +kernel
theorem dX11_wayLine_102 : decode cX11_wayLine 102 = .ok (.iastore, 1) := by decide +kernel
theorem dX11_wayLine_103 : decode cX11_wayLine 103 = .ok (.iconst 1, 1) := by decide +kernel
theorem dX11_wayLine_104 : decode cX11_wayLine 104 = .ok (.ireturn, 1) := by decide +kernel
theorem dX11_echoLine_0 : decode cX11_echoLine 0 = .ok (.aload_n 0, 1) := by decide +kernel
theorem dX11_echoLine_1 : decode cX11_echoLine 1 = .ok (.iconst 0, 1) := by decide +kernel
theorem dX11_echoLine_2 : decode cX11_echoLine 2 = .ok (.iconst (-1), 1) := by decide +kernel
theorem dX11_echoLine_3 : decode cX11_echoLine 3 = .ok (.invokevirtual 175, 3) := by decide +kernel
theorem dX11_echoLine_6 : decode cX11_echoLine 6 = .ok (.ifCond .eq 17, 3) := by decide +kernel
theorem dX11_echoLine_9 : decode cX11_echoLine 9 = .ok (.aload_n 0, 1) := by decide +kernel
theorem dX11_echoLine_10 : decode cX11_echoLine 10 = .ok (.iconst 1, 1) := by decide +kernel
theorem dX11_echoLine_11 : decode cX11_echoLine 11 = .ok (.aload_n 0, 1) := by decide +kernel
theorem dX11_echoLine_12 : decode cX11_echoLine 12 = .ok (.getfield 41, 3) := by decide +kernel
theorem dX11_echoLine_15 : decode cX11_echoLine 15 = .ok (.iconst 0, 1) := by decide +kernel
theorem dX11_echoLine_16 : decode cX11_echoLine 16 = .ok (.iaload, 1) := by decide +kernel
theorem dX11_echoLine_17 : decode cX11_echoLine 17 = .ok (.invokevirtual 175, 3) := by decide +kernel
theorem dX11_echoLine_20 : decode cX11_echoLine 20 = .ok (.ifCond .ne 5, 3) := by decide +kernel
theorem dX11_echoLine_23 : decode cX11_echoLine 23 = .ok (.iconst 0, 1) := by decide +kernel
theorem dX11_echoLine_24 : decode cX11_echoLine 24 = .ok (.ireturn, 1) := by decide +kernel
theorem dX11_echoLine_25 : decode cX11_echoLine 25 = .ok (.aload_n 0, 1) := by decide +kernel
theorem dX11_echoLine_26 : decode cX11_echoLine 26 = .ok (.iconst 4, 1) := by decide +kernel
theorem dX11_echoLine_27 : decode cX11_echoLine 27 = .ok (.iconst 4, 1) := by decide +kernel
theorem dX11_echoLine_28 : decode cX11_echoLine 28 = .ok (.invokevirtual 181, 3) := by decide +kernel
theorem dX11_echoLine_31 : decode cX11_echoLine 31 = .ok (.istore_n 1, 1) := by decide +kernel
theorem dX11_echoLine_32 : decode cX11_echoLine 32 = .ok (.iload_n 1, 1) := by decide +kernel
theorem dX11_echoLine_33 : decode cX11_echoLine 33 = .ok (.iconst (-1), 1) := by decide +kernel
theorem dX11_echoLine_34 : decode cX11_echoLine 34 = .ok (.if_icmp .eq 39, 3) := by decide +kernel
theorem dX11_echoLine_37 : decode cX11_echoLine 37 = .ok (.aload_n 0, 1) := by decide +kernel
theorem dX11_echoLine_38 : decode cX11_echoLine 38 = .ok (.getfield 38, 3) := by decide +kernel
theorem dX11_echoLine_41 : decode cX11_echoLine 41 = .ok (.bipush 43, 2) := by decide +kernel
theorem dX11_echoLine_43 : decode cX11_echoLine 43 = .ok (.iconst 2, 1) := by decide +kernel
theorem dX11_echoLine_44 : decode cX11_echoLine 44 = .ok (.iload_n 1, 1) := by decide +kernel
theorem dX11_echoLine_45 : decode cX11_echoLine 45 = .ok (.imul, 1) := by decide +kernel
theorem dX11_echoLine_46 : decode cX11_echoLine 46 = .ok (.iadd, 1) := by decide +kernel
theorem dX11_echoLine_47 : decode cX11_echoLine 47 = .ok (.aload_n 0, 1) := by decide +kernel
theorem dX11_echoLine_48 : decode cX11_echoLine 48 = .ok (.getfield 41, 3) := by decide +kernel
theorem dX11_echoLine_51 : decode cX11_echoLine 51 = .ok (.iconst 0, 1) := by decide +kernel
theorem dX11_echoLine_52 : decode cX11_echoLine 52 = .ok (.iaload, 1) := by decide +kernel
theorem dX11_echoLine_53 : decode cX11_echoLine 53 = .ok (.iastore, 1) := by decide +kernel
theorem dX11_echoLine_54 : decode cX11_echoLine 54 = .ok (.aload_n 0, 1) := by decide +kernel
theorem dX11_echoLine_55 : decode cX11_echoLine 55 = .ok (.getfield 38, 3) := by decide +kernel
theorem dX11_echoLine_58 : decode cX11_echoLine 58 = .ok (.bipush 43, 2) := by decide +kernel
theorem dX11_echoLine_60 : decode cX11_echoLine 60 = .ok (.iconst 2, 1) := by decide +kernel
theorem dX11_echoLine_61 : decode cX11_echoLine 61 = .ok (.iload_n 1, 1) := by decide +kernel
theorem dX11_echoLine_62 : decode cX11_echoLine 62 = .ok (.imul, 1) := by decide +kernel
theorem dX11_echoLine_63 : decode cX11_echoLine 63 = .ok (.iadd, 1) := by decide +kernel
theorem dX11_echoLine_64 : decode cX11_echoLine 64 = .ok (.iconst 1, 1) := by decide +kernel
theorem dX11_echoLine_65 : decode cX11_echoLine 65 = .ok (.iadd, 1) := by decide +kernel
theorem dX11_echoLine_66 : decode cX11_echoLine 66 = .ok (.aload_n 0, 1) := by decide +kernel
theorem dX11_echoLine_67 : decode cX11_echoLine 67 = .ok (.getfield 41, 3) := by decide +kernel
theorem dX11_echoLine_70 : decode cX11_echoLine 70 = .ok (.iconst 1, 1) := by decide +kernel
theorem dX11_echoLine_71 : decode cX11_echoLine 71 = .ok (.iaload, 1) := by decide +kernel
theorem dX11_echoLine_72 : decode cX11_echoLine 72 = .ok (.iastore, 1) := by decide +kernel
theorem dX11_echoLine_73 : decode cX11_echoLine 73 = .ok (.iconst 1, 1) := by decide +kernel
theorem dX11_echoLine_74 : decode cX11_echoLine 74 = .ok (.ireturn, 1) := by decide +kernel
theorem dX11_ladderLine_0 : decode cX11_ladderLine 0 = .ok (.aload_n 0, 1) := by decide +kernel
theorem dX11_ladderLine_1 : decode cX11_ladderLine 1 = .ok (.iconst 0, 1) := by decide +kernel
theorem dX11_ladderLine_2 : decode cX11_ladderLine 2 = .ok (.iconst (-1), 1) := by decide +kernel
theorem dX11_ladderLine_3 : decode cX11_ladderLine 3 = .ok (.invokevirtual 175, 3) := by decide +kernel
theorem dX11_ladderLine_6 : decode cX11_ladderLine 6 = .ok (.ifCond .eq 14, 3) := by decide +kernel
theorem dX11_ladderLine_9 : decode cX11_ladderLine 9 = .ok (.aload_n 0, 1) := by decide +kernel
theorem dX11_ladderLine_10 : decode cX11_ladderLine 10 = .ok (.iconst 1, 1) := by decide +kernel
theorem dX11_ladderLine_11 : decode cX11_ladderLine 11 = .ok (.iconst 0, 1) := by decide +kernel
theorem dX11_ladderLine_12 : decode cX11_ladderLine 12 = .ok (.bipush 9, 2) := by decide +kernel
theorem dX11_ladderLine_14 : decode cX11_ladderLine 14 = .ok (.invokevirtual 178, 3) := by decide +kernel
theorem dX11_ladderLine_17 : decode cX11_ladderLine 17 = .ok (.ifCond .ne 5, 3) := by decide +kernel
theorem dX11_ladderLine_20 : decode cX11_ladderLine 20 = .ok (.iconst 0, 1) := by decide +kernel
theorem dX11_ladderLine_21 : decode cX11_ladderLine 21 = .ok (.ireturn, 1) := by decide +kernel
theorem dX11_ladderLine_22 : decode cX11_ladderLine 22 = .ok (.aload_n 0, 1) := by decide +kernel
theorem dX11_ladderLine_23 : decode cX11_ladderLine 23 = .ok (.getfield 157, 3) := by decide +kernel
theorem dX11_ladderLine_26 : decode cX11_ladderLine 26 = .ok (.ifCond .eq 23, 3) := by decide +kernel
theorem dX11_ladderLine_29 : decode cX11_ladderLine 29 = .ok (.aload_n 0, 1) := by decide +kernel
theorem dX11_ladderLine_30 : decode cX11_ladderLine 30 = .ok (.getfield 38, 3) := by decide +kernel
theorem dX11_ladderLine_33 : decode cX11_ladderLine 33 = .ok (.bipush 16, 2) := by decide +kernel
theorem dX11_ladderLine_35 : decode cX11_ladderLine 35 = .ok (.aload_n 0, 1) := by decide +kernel
theorem dX11_ladderLine_36 : decode cX11_ladderLine 36 = .ok (.getfield 41, 3) := by decide +kernel
theorem dX11_ladderLine_39 : decode cX11_ladderLine 39 = .ok (.iconst 0, 1) := by decide +kernel
theorem dX11_ladderLine_40 : decode cX11_ladderLine 40 = .ok (.iaload, 1) := by decide +kernel
theorem dX11_ladderLine_41 : decode cX11_ladderLine 41 = .ok (.iadd, 1) := by decide +kernel
theorem dX11_ladderLine_42 : decode cX11_ladderLine 42 = .ok (.aload_n 0, 1) := by decide +kernel
theorem dX11_ladderLine_43 : decode cX11_ladderLine 43 = .ok (.getfield 41, 3) := by decide +kernel
theorem dX11_ladderLine_46 : decode cX11_ladderLine 46 = .ok (.iconst 1, 1) := by decide +kernel
theorem dX11_ladderLine_47 : decode cX11_ladderLine 47 = .ok (.iaload, 1) := by decide +kernel
theorem dX11_ladderLine_48 : decode cX11_ladderLine 48 = .ok (.iastore, 1) := by decide +kernel
theorem dX11_ladderLine_49 : decode cX11_ladderLine 49 = .ok (.iconst 1, 1) := by decide +kernel
theorem dX11_ladderLine_50 : decode cX11_ladderLine 50 = .ok (.ireturn, 1) := by decide +kernel
theorem dX11_singerLine_0 : decode cX11_singerLine 0 = .ok (.aload_n 0, 1) := by decide +kernel
theorem dX11_singerLine_1 : decode cX11_singerLine 1 = .ok (.iconst 0, 1) := by decide +kernel
theorem dX11_singerLine_2 : decode cX11_singerLine 2 = .ok (.iconst (-1), 1) := by decide +kernel
theorem dX11_singerLine_3 : decode cX11_singerLine 3 = .ok (.invokevirtual 175, 3) := by decide +kernel
theorem dX11_singerLine_6 : decode cX11_singerLine 6 = .ok (.ifCond .eq 14, 3) := by decide +kernel
theorem dX11_singerLine_9 : decode cX11_singerLine 9 = .ok (.aload_n 0, 1) := by decide +kernel
theorem dX11_singerLine_10 : decode cX11_singerLine 10 = .ok (.iconst 1, 1) := by decide +kernel
theorem dX11_singerLine_11 : decode cX11_singerLine 11 = .ok (.iconst 0, 1) := by decide +kernel
theorem dX11_singerLine_12 : decode cX11_singerLine 12 = .ok (.bipush 9, 2) := by decide +kernel
theorem dX11_singerLine_14 : decode cX11_singerLine 14 = .ok (.invokevirtual 178, 3) := by decide +kernel
theorem dX11_singerLine_17 : decode cX11_singerLine 17 = .ok (.ifCond .ne 5, 3) := by decide +kernel
theorem dX11_singerLine_20 : decode cX11_singerLine 20 = .ok (.iconst 0, 1) := by decide +kernel
theorem dX11_singerLine_21 : decode cX11_singerLine 21 = .ok (.ireturn, 1) := by decide +kernel
theorem dX11_singerLine_22 : decode cX11_singerLine 22 = .ok (.aload_n 0, 1) := by decide +kernel
theorem dX11_singerLine_23 : decode cX11_singerLine 23 = .ok (.iconst 1, 1) := by decide +kernel
theorem dX11_singerLine_24 : decode cX11_singerLine 24 = .ok (.bipush 6, 2) := by decide +kernel
theorem dX11_singerLine_26 : decode cX11_singerLine 26 = .ok (.invokevirtual 181, 3) := by decide +kernel
theorem dX11_singerLine_29 : decode cX11_singerLine 29 = .ok (.istore_n 1, 1) := by decide +kernel
theorem dX11_singerLine_30 : decode cX11_singerLine 30 = .ok (.iload_n 1, 1) := by decide +kernel
theorem dX11_singerLine_31 : decode cX11_singerLine 31 = .ok (.iconst (-1), 1) := by decide +kernel
theorem dX11_singerLine_32 : decode cX11_singerLine 32 = .ok (.if_icmp .eq 33, 3) := by decide +kernel
theorem dX11_singerLine_35 : decode cX11_singerLine 35 = .ok (.aload_n 0, 1) := by decide +kernel
theorem dX11_singerLine_36 : decode cX11_singerLine 36 = .ok (.getfield 38, 3) := by decide +kernel
theorem dX11_singerLine_39 : decode cX11_singerLine 39 = .ok (.bipush 25, 2) := by decide +kernel
theorem dX11_singerLine_41 : decode cX11_singerLine 41 = .ok (.iload_n 1, 1) := by decide +kernel
theorem dX11_singerLine_42 : decode cX11_singerLine 42 = .ok (.iadd, 1) := by decide +kernel
theorem dX11_singerLine_43 : decode cX11_singerLine 43 = .ok (.aload_n 0, 1) := by decide +kernel
theorem dX11_singerLine_44 : decode cX11_singerLine 44 = .ok (.getfield 41, 3) := by decide +kernel
theorem dX11_singerLine_47 : decode cX11_singerLine 47 = .ok (.iconst 0, 1) := by decide +kernel
theorem dX11_singerLine_48 : decode cX11_singerLine 48 = .ok (.iaload, 1) := by decide +kernel
theorem dX11_singerLine_49 : decode cX11_singerLine 49 = .ok (.iastore, 1) := by decide +kernel
theorem dX11_singerLine_50 : decode cX11_singerLine 50 = .ok (.aload_n 0, 1) := by decide +kernel
theorem dX11_singerLine_51 : decode cX11_singerLine 51 = .ok (.getfield 38, 3) := by decide +kernel
theorem dX11_singerLine_54 : decode cX11_singerLine 54 = .ok (.bipush 31, 2) := by decide +kernel
theorem dX11_singerLine_56 : decode cX11_singerLine 56 = .ok (.iload_n 1, 1) := by decide +kernel
theorem dX11_singerLine_57 : decode cX11_singerLine 57 = .ok (.iadd, 1) := by decide +kernel
theorem dX11_singerLine_58 : decode cX11_singerLine 58 = .ok (.aload_n 0, 1) := by decide +kernel
theorem dX11_singerLine_59 : decode cX11_singerLine 59 = .ok (.getfield 41, 3) := by decide +kernel
theorem dX11_singerLine_62 : decode cX11_singerLine 62 = .ok (.iconst 1, 1) := by decide +kernel
theorem dX11_singerLine_63 : decode cX11_singerLine 63 = .ok (.iaload, 1) := by decide +kernel
theorem dX11_singerLine_64 : decode cX11_singerLine 64 = .ok (.iastore, 1) := by decide +kernel
theorem dX11_singerLine_65 : decode cX11_singerLine 65 = .ok (.iconst 1, 1) := by decide +kernel
theorem dX11_singerLine_66 : decode cX11_singerLine 66 = .ok (.ireturn, 1) := by decide +kernel
theorem dX11_knowsLine_0 : decode cX11_knowsLine 0 = .ok (.aload_n 0, 1) := by decide +kernel
theorem dX11_knowsLine_1 : decode cX11_knowsLine 1 = .ok (.iconst 0, 1) := by decide +kernel
theorem dX11_knowsLine_2 : decode cX11_knowsLine 2 = .ok (.iconst 0, 1) := by decide +kernel
theorem dX11_knowsLine_3 : decode cX11_knowsLine 3 = .ok (.iconst 5, 1) := by decide +kernel
theorem dX11_knowsLine_4 : decode cX11_knowsLine 4 = .ok (.invokevirtual 178, 3) := by decide +kernel
theorem dX11_knowsLine_7 : decode cX11_knowsLine 7 = .ok (.ifCond .eq 13, 3) := by decide +kernel
theorem dX11_knowsLine_10 : decode cX11_knowsLine 10 = .ok (.aload_n 0, 1) := by decide +kernel
theorem dX11_knowsLine_11 : decode cX11_knowsLine 11 = .ok (.iconst 1, 1) := by decide +kernel
theorem dX11_knowsLine_12 : decode cX11_knowsLine 12 = .ok (.iconst 0, 1) := by decide +kernel
theorem dX11_knowsLine_13 : decode cX11_knowsLine 13 = .ok (.iconst 4, 1) := by decide +kernel
theorem dX11_knowsLine_14 : decode cX11_knowsLine 14 = .ok (.invokevirtual 178, 3) := by decide +kernel
theorem dX11_knowsLine_17 : decode cX11_knowsLine 17 = .ok (.ifCond .ne 5, 3) := by decide +kernel
theorem dX11_knowsLine_20 : decode cX11_knowsLine 20 = .ok (.iconst 0, 1) := by decide +kernel
theorem dX11_knowsLine_21 : decode cX11_knowsLine 21 = .ok (.ireturn, 1) := by decide +kernel
theorem dX11_knowsLine_22 : decode cX11_knowsLine 22 = .ok (.aload_n 0, 1) := by decide +kernel
theorem dX11_knowsLine_23 : decode cX11_knowsLine 23 = .ok (.aload_n 0, 1) := by decide +kernel
theorem dX11_knowsLine_24 : decode cX11_knowsLine 24 = .ok (.getfield 184, 3) := by decide +kernel
theorem dX11_knowsLine_27 : decode cX11_knowsLine 27 = .ok (.aload_n 0, 1) := by decide +kernel
theorem dX11_knowsLine_28 : decode cX11_knowsLine 28 = .ok (.getfield 41, 3) := by decide +kernel
theorem dX11_knowsLine_31 : decode cX11_knowsLine 31 = .ok (.iconst 0, 1) := by decide +kernel
theorem dX11_knowsLine_32 : decode cX11_knowsLine 32 = .ok (.iaload, 1) := by decide +kernel
theorem dX11_knowsLine_33 : decode cX11_knowsLine 33 = .ok (.invokestatic 171, 3) := by decide +kernel
theorem dX11_knowsLine_36 : decode cX11_knowsLine 36 = .ok (.putfield 184, 3) := by decide +kernel
theorem dX11_knowsLine_39 : decode cX11_knowsLine 39 = .ok (.aload_n 0, 1) := by decide +kernel
theorem dX11_knowsLine_40 : decode cX11_knowsLine 40 = .ok (.getfield 157, 3) := by decide +kernel
theorem dX11_knowsLine_43 : decode cX11_knowsLine 43 = .ok (.ifCond .eq 28, 3) := by decide +kernel
theorem dX11_knowsLine_46 : decode cX11_knowsLine 46 = .ok (.aload_n 0, 1) := by decide +kernel
theorem dX11_knowsLine_47 : decode cX11_knowsLine 47 = .ok (.getfield 38, 3) := by decide +kernel
theorem dX11_knowsLine_50 : decode cX11_knowsLine 50 = .ok (.bipush 37, 2) := by decide +kernel
theorem dX11_knowsLine_52 : decode cX11_knowsLine 52 = .ok (.aload_n 0, 1) := by decide +kernel
theorem dX11_knowsLine_53 : decode cX11_knowsLine 53 = .ok (.getfield 41, 3) := by decide +kernel
theorem dX11_knowsLine_56 : decode cX11_knowsLine 56 = .ok (.iconst 0, 1) := by decide +kernel
theorem dX11_knowsLine_57 : decode cX11_knowsLine 57 = .ok (.iaload, 1) := by decide +kernel
theorem dX11_knowsLine_58 : decode cX11_knowsLine 58 = .ok (.iadd, 1) := by decide +kernel
theorem dX11_knowsLine_59 : decode cX11_knowsLine 59 = .ok (.dup2, 1) := by decide +kernel
theorem dX11_knowsLine_60 : decode cX11_knowsLine 60 = .ok (.iaload, 1) := by decide +kernel
theorem dX11_knowsLine_61 : decode cX11_knowsLine 61 = .ok (.iconst 1, 1) := by decide +kernel
theorem dX11_knowsLine_62 : decode cX11_knowsLine 62 = .ok (.aload_n 0, 1) := by decide +kernel
theorem dX11_knowsLine_63 : decode cX11_knowsLine 63 = .ok (.getfield 41, 3) := by decide +kernel
theorem dX11_knowsLine_66 : decode cX11_knowsLine 66 = .ok (.iconst 1, 1) := by decide +kernel
theorem dX11_knowsLine_67 : decode cX11_knowsLine 67 = .ok (.iaload, 1) := by decide +kernel
theorem dX11_knowsLine_68 : decode cX11_knowsLine 68 = .ok (.ishl, 1) := by decide +kernel
theorem dX11_knowsLine_69 : decode cX11_knowsLine 69 = .ok (.ior, 1) := by decide +kernel
theorem dX11_knowsLine_70 : decode cX11_knowsLine 70 = .ok (.iastore, 1) := by decide +kernel
theorem dX11_knowsLine_71 : decode cX11_knowsLine 71 = .ok (.iconst 1, 1) := by decide +kernel
theorem dX11_knowsLine_72 : decode cX11_knowsLine 72 = .ok (.ireturn, 1) := by decide +kernel
theorem dX11_isLandWord_0 : decode cX11_isLandWord 0 = .ok (.lload_n 1, 1) := by decide +kernel
theorem dX11_isLandWord_1 : decode cX11_isLandWord 1 = .ok (.ldc2_w 187, 3) := by decide +kernel
theorem dX11_isLandWord_4 : decode cX11_isLandWord 4 = .ok (.lcmp, 1) := by decide +kernel
theorem dX11_isLandWord_5 : decode cX11_isLandWord 5 = .ok (.ifCond .eq 75, 3) := by decide +kernel
theorem dX11_isLandWord_8 : decode cX11_isLandWord 8 = .ok (.lload_n 1, 1) := by decide +kernel
theorem dX11_isLandWord_9 : decode cX11_isLandWord 9 = .ok (.ldc2_w 189, 3) := by decide +kernel
theorem dX11_isLandWord_12 : decode cX11_isLandWord 12 = .ok (.lcmp, 1) := by decide +kernel
theorem dX11_isLandWord_13 : decode cX11_isLandWord 13 = .ok (.ifCond .eq 67, 3) := by decide +kernel
theorem dX11_isLandWord_16 : decode cX11_isLandWord 16 = .ok (.lload_n 1, 1) := by decide +kernel
theorem dX11_isLandWord_17 : decode cX11_isLandWord 17 = .ok (.ldc2_w 191, 3) := by decide +kernel
theorem dX11_isLandWord_20 : decode cX11_isLandWord 20 = .ok (.lcmp, 1) := by decide +kernel
theorem dX11_isLandWord_21 : decode cX11_isLandWord 21 = .ok (.ifCond .eq 59, 3) := by decide +kernel
theorem dX11_isLandWord_24 : decode cX11_isLandWord 24 = .ok (.lload_n 1, 1) := by decide +kernel
theorem dX11_isLandWord_25 : decode cX11_isLandWord 25 = .ok (.ldc2_w 193, 3) := by decide +kernel
theorem dX11_isLandWord_28 : decode cX11_isLandWord 28 = .ok (.lcmp, 1) := by decide +kernel
theorem dX11_isLandWord_29 : decode cX11_isLandWord 29 = .ok (.ifCond .eq 51, 3) := by decide +kernel
theorem dX11_isLandWord_32 : decode cX11_isLandWord 32 = .ok (.lload_n 1, 1) := by decide +kernel
theorem dX11_isLandWord_33 : decode cX11_isLandWord 33 = .ok (.ldc2_w 195, 3) := by decide +kernel
theorem dX11_isLandWord_36 : decode cX11_isLandWord 36 = .ok (.lcmp, 1) := by decide +kernel
theorem dX11_isLandWord_37 : decode cX11_isLandWord 37 = .ok (.ifCond .eq 43, 3) := by decide +kernel
theorem dX11_isLandWord_40 : decode cX11_isLandWord 40 = .ok (.lload_n 1, 1) := by decide +kernel
theorem dX11_isLandWord_41 : decode cX11_isLandWord 41 = .ok (.ldc2_w 197, 3) := by decide +kernel
theorem dX11_isLandWord_44 : decode cX11_isLandWord 44 = .ok (.lcmp, 1) := by decide +kernel
theorem dX11_isLandWord_45 : decode cX11_isLandWord 45 = .ok (.ifCond .eq 35, 3) := by decide +kernel
theorem dX11_isLandWord_48 : decode cX11_isLandWord 48 = .ok (.lload_n 1, 1) := by decide +kernel
theorem dX11_isLandWord_49 : decode cX11_isLandWord 49 = .ok (.ldc2_w 199, 3) := by decide +kernel
theorem dX11_isLandWord_52 : decode cX11_isLandWord 52 = .ok (.lcmp, 1) := by decide +kernel
theorem dX11_isLandWord_53 : decode cX11_isLandWord 53 = .ok (.ifCond .eq 27, 3) := by decide +kernel
theorem dX11_isLandWord_56 : decode cX11_isLandWord 56 = .ok (.lload_n 1, 1) := by decide +kernel
theorem dX11_isLandWord_57 : decode cX11_isLandWord 57 = .ok (.ldc2_w 201, 3) := by decide +kernel
theorem dX11_isLandWord_60 : decode cX11_isLandWord 60 = .ok (.lcmp, 1) := by decide +kernel
theorem dX11_isLandWord_61 : decode cX11_isLandWord 61 = .ok (.ifCond .eq 19, 3) := by decide +kernel
theorem dX11_isLandWord_64 : decode cX11_isLandWord 64 = .ok (.lload_n 1, 1) := by decide +kernel
theorem dX11_isLandWord_65 : decode cX11_isLandWord 65 = .ok (.ldc2_w 203, 3) := by decide +kernel
theorem dX11_isLandWord_68 : decode cX11_isLandWord 68 = .ok (.lcmp, 1) := by decide +kernel
theorem dX11_isLandWord_69 : decode cX11_isLandWord 69 = .ok (.ifCond .eq 11, 3) := by decide +kernel
theorem dX11_isLandWord_72 : decode cX11_isLandWord 72 = .ok (.lload_n 1, 1) := by decide +kernel
theorem dX11_isLandWord_73 : decode cX11_isLandWord 73 = .ok (.ldc2_w 205, 3) := by decide +kernel
theorem dX11_isLandWord_76 : decode cX11_isLandWord 76 = .ok (.lcmp, 1) := by decide +kernel
theorem dX11_isLandWord_77 : decode cX11_isLandWord 77 = .ok (.ifCond .ne 7, 3) := by decide +kernel
theorem dX11_isLandWord_80 : decode cX11_isLandWord 80 = .ok (.iconst 1, 1) := by decide +kernel
theorem dX11_isLandWord_81 : decode cX11_isLandWord 81 = .ok (.goto 4, 3) := by decide +kernel
theorem dX11_isLandWord_84 : decode cX11_isLandWord 84 = .ok (.iconst 0, 1) := by decide +kernel
theorem dX11_isLandWord_85 : decode cX11_isLandWord 85 = .ok (.ireturn, 1) := by decide +kernel
theorem dX11_landLine_0 : decode cX11_landLine 0 = .ok (.aload_n 0, 1) := by decide +kernel
theorem dX11_landLine_1 : decode cX11_landLine 1 = .ok (.lload_n 1, 1) := by decide +kernel
theorem dX11_landLine_2 : decode cX11_landLine 2 = .ok (.invokevirtual 207, 3) := by decide +kernel
theorem dX11_landLine_5 : decode cX11_landLine 5 = .ok (.ifCond .ne 8, 3) := by decide +kernel
theorem dX11_landLine_8 : decode cX11_landLine 8 = .ok (.aload_n 0, 1) := by decide +kernel
theorem dX11_landLine_9 : decode cX11_landLine 9 = .ok (.invokevirtual 149, 3) := by decide +kernel
theorem dX11_landLine_12 : decode cX11_landLine 12 = .ok (.ireturn, 1) := by decide +kernel
theorem dX11_landLine_13 : decode cX11_landLine 13 = .ok (.lload_n 1, 1) := by decide +kernel
theorem dX11_landLine_14 : decode cX11_landLine 14 = .ok (.ldc2_w 187, 3) := by decide +kernel
theorem dX11_landLine_17 : decode cX11_landLine 17 = .ok (.lcmp, 1) := by decide +kernel
theorem dX11_landLine_18 : decode cX11_landLine 18 = .ok (.ifCond .ne 11, 3) := by decide +kernel
theorem dX11_landLine_21 : decode cX11_landLine 21 = .ok (.aload_n 0, 1) := by decide +kernel
theorem dX11_landLine_22 : decode cX11_landLine 22 = .ok (.iconst 0, 1) := by decide +kernel
theorem dX11_landLine_23 : decode cX11_landLine 23 = .ok (.bipush 9, 2) := by decide +kernel
theorem dX11_landLine_25 : decode cX11_landLine 25 = .ok (.iload_n 3, 1) := by decide +kernel
theorem dX11_landLine_26 : decode cX11_landLine 26 = .ok (.invokevirtual 211, 3) := by decide +kernel
theorem dX11_landLine_29 : decode cX11_landLine 29 = .ok (.lload_n 1, 1) := by decide +kernel
theorem dX11_landLine_30 : decode cX11_landLine 30 = .ok (.ldc2_w 199, 3) := by decide +kernel
theorem dX11_landLine_33 : decode cX11_landLine 33 = .ok (.lcmp, 1) := by decide +kernel
theorem dX11_landLine_34 : decode cX11_landLine 34 = .ok (.ifCond .ne 10, 3) := by decide +kernel
theorem dX11_landLine_37 : decode cX11_landLine 37 = .ok (.aload_n 0, 1) := by decide +kernel
theorem dX11_landLine_38 : decode cX11_landLine 38 = .ok (.iconst 4, 1) := by decide +kernel
theorem dX11_landLine_39 : decode cX11_landLine 39 = .ok (.iconst 4, 1) := by decide +kernel
theorem dX11_landLine_40 : decode cX11_landLine 40 = .ok (.iload_n 3, 1) := by decide +kernel
theorem dX11_landLine_41 : decode cX11_landLine 41 = .ok (.invokevirtual 211, 3) := by decide +kernel
theorem dX11_landLine_44 : decode cX11_landLine 44 = .ok (.lload_n 1, 1) := by decide +kernel
theorem dX11_landLine_45 : decode cX11_landLine 45 = .ok (.ldc2_w 203, 3) := by decide +kernel
theorem dX11_landLine_48 : decode cX11_landLine 48 = .ok (.lcmp, 1) := by decide +kernel
theorem dX11_landLine_49 : decode cX11_landLine 49 = .ok (.ifCond .ne 11, 3) := by decide +kernel
theorem dX11_landLine_52 : decode cX11_landLine 52 = .ok (.aload_n 0, 1) := by decide +kernel
theorem dX11_landLine_53 : decode cX11_landLine 53 = .ok (.iconst 1, 1) := by decide +kernel
theorem dX11_landLine_54 : decode cX11_landLine 54 = .ok (.bipush 6, 2) := by decide +kernel
theorem dX11_landLine_56 : decode cX11_landLine 56 = .ok (.iload_n 3, 1) := by decide +kernel
theorem dX11_landLine_57 : decode cX11_landLine 57 = .ok (.invokevirtual 211, 3) := by decide +kernel
theorem dX11_landLine_60 : decode cX11_landLine 60 = .ok (.aload_n 0, 1) := by decide +kernel
theorem dX11_landLine_61 : decode cX11_landLine 61 = .ok (.invokevirtual 161, 3) := by decide +kernel
theorem dX11_landLine_64 : decode cX11_landLine 64 = .ok (.lload_n 1, 1) := by decide +kernel
theorem dX11_landLine_65 : decode cX11_landLine 65 = .ok (.ldc2_w 187, 3) := by decide +kernel
theorem dX11_landLine_68 : decode cX11_landLine 68 = .ok (.lcmp, 1) := by decide +kernel
theorem dX11_landLine_69 : decode cX11_landLine 69 = .ok (.ifCond .ne 8, 3) := by decide +kernel
theorem dX11_landLine_72 : decode cX11_landLine 72 = .ok (.aload_n 0, 1) := by decide +kernel
theorem dX11_landLine_73 : decode cX11_landLine 73 = .ok (.invokevirtual 215, 3) := by decide +kernel
theorem dX11_landLine_76 : decode cX11_landLine 76 = .ok (.ireturn, 1) := by decide +kernel
theorem dX11_landLine_77 : decode cX11_landLine 77 = .ok (.lload_n 1, 1) := by decide +kernel
theorem dX11_landLine_78 : decode cX11_landLine 78 = .ok (.ldc2_w 189, 3) := by decide +kernel
theorem dX11_landLine_81 : decode cX11_landLine 81 = .ok (.lcmp, 1) := by decide +kernel
theorem dX11_landLine_82 : decode cX11_landLine 82 = .ok (.ifCond .eq 11, 3) := by decide +kernel
theorem dX11_landLine_85 : decode cX11_landLine 85 = .ok (.lload_n 1, 1) := by decide +kernel
theorem dX11_landLine_86 : decode cX11_landLine 86 = .ok (.ldc2_w 191, 3) := by decide +kernel
theorem dX11_landLine_89 : decode cX11_landLine 89 = .ok (.lcmp, 1) := by decide +kernel
theorem dX11_landLine_90 : decode cX11_landLine 90 = .ok (.ifCond .ne 21, 3) := by decide +kernel
theorem dX11_landLine_93 : decode cX11_landLine 93 = .ok (.aload_n 0, 1) := by decide +kernel
theorem dX11_landLine_94 : decode cX11_landLine 94 = .ok (.lload_n 1, 1) := by decide +kernel
theorem dX11_landLine_95 : decode cX11_landLine 95 = .ok (.ldc2_w 189, 3) := by decide +kernel
theorem dX11_landLine_98 : decode cX11_landLine 98 = .ok (.lcmp, 1) := by decide +kernel
theorem dX11_landLine_99 : decode cX11_landLine 99 = .ok (.ifCond .ne 7, 3) := by decide +kernel
theorem dX11_landLine_102 : decode cX11_landLine 102 = .ok (.iconst 2, 1) := by decide +kernel
theorem dX11_landLine_103 : decode cX11_landLine 103 = .ok (.goto 4, 3) := by decide +kernel
theorem dX11_landLine_106 : decode cX11_landLine 106 = .ok (.iconst 3, 1) := by decide +kernel
theorem dX11_landLine_107 : decode cX11_landLine 107 = .ok (.invokevirtual 218, 3) := by decide +kernel
theorem dX11_landLine_110 : decode cX11_landLine 110 = .ok (.ireturn, 1) := by decide +kernel
theorem dX11_landLine_111 : decode cX11_landLine 111 = .ok (.lload_n 1, 1) := by decide +kernel
theorem dX11_landLine_112 : decode cX11_landLine 112 = .ok (.ldc2_w 193, 3) := by decide +kernel
theorem dX11_landLine_115 : decode cX11_landLine 115 = .ok (.lcmp, 1) := by decide +kernel
theorem dX11_landLine_116 : decode cX11_landLine 116 = .ok (.ifCond .ne 12, 3) := by decide +kernel
theorem dX11_landLine_119 : decode cX11_landLine 119 = .ok (.aload_n 0, 1) := by decide +kernel
theorem dX11_landLine_120 : decode cX11_landLine 120 = .ok (.iconst 5, 1) := by decide +kernel
theorem dX11_landLine_121 : decode cX11_landLine 121 = .ok (.iconst 1, 1) := by decide +kernel
theorem dX11_landLine_122 : decode cX11_landLine 122 = .ok (.bipush 9, 2) := by decide +kernel
theorem dX11_landLine_124 : decode cX11_landLine 124 = .ok (.invokevirtual 222, 3) := by decide +kernel
theorem dX11_landLine_127 : decode cX11_landLine 127 = .ok (.ireturn, 1) := by decide +kernel
theorem dX11_landLine_128 : decode cX11_landLine 128 = .ok (.lload_n 1, 1) := by decide +kernel
theorem dX11_landLine_129 : decode cX11_landLine 129 = .ok (.ldc2_w 195, 3) := by decide +kernel
theorem dX11_landLine_132 : decode cX11_landLine 132 = .ok (.lcmp, 1) := by decide +kernel
theorem dX11_landLine_133 : decode cX11_landLine 133 = .ok (.ifCond .ne 13, 3) := by decide +kernel
theorem dX11_landLine_136 : decode cX11_landLine 136 = .ok (.aload_n 0, 1) := by decide +kernel
theorem dX11_landLine_137 : decode cX11_landLine 137 = .ok (.bipush 6, 2) := by decide +kernel
theorem dX11_landLine_139 : decode cX11_landLine 139 = .ok (.iconst 0, 1) := by decide +kernel
theorem dX11_landLine_140 : decode cX11_landLine 140 = .ok (.bipush 10, 2) := by decide +kernel
theorem dX11_landLine_142 : decode cX11_landLine 142 = .ok (.invokevirtual 222, 3) := by decide +kernel
theorem dX11_landLine_145 : decode cX11_landLine 145 = .ok (.ireturn, 1) := by decide +kernel
theorem dX11_landLine_146 : decode cX11_landLine 146 = .ok (.lload_n 1, 1) := by decide +kernel
theorem dX11_landLine_147 : decode cX11_landLine 147 = .ok (.ldc2_w 197, 3) := by decide +kernel
theorem dX11_landLine_150 : decode cX11_landLine 150 = .ok (.lcmp, 1) := by decide +kernel
theorem dX11_landLine_151 : decode cX11_landLine 151 = .ok (.ifCond .ne 10, 3) := by decide +kernel
theorem dX11_landLine_154 : decode cX11_landLine 154 = .ok (.aload_n 0, 1) := by decide +kernel
theorem dX11_landLine_155 : decode cX11_landLine 155 = .ok (.invokevirtual 225, 3) := by decide +kernel
theorem dX11_landLine_158 : decode cX11_landLine 158 = .ok (.goto 52, 3) := by decide +kernel
theorem dX11_landLine_161 : decode cX11_landLine 161 = .ok (.lload_n 1, 1) := by decide +kernel
theorem dX11_landLine_162 : decode cX11_landLine 162 = .ok (.ldc2_w 199, 3) := by decide +kernel
theorem dX11_landLine_165 : decode cX11_landLine 165 = .ok (.lcmp, 1) := by decide +kernel
theorem dX11_landLine_166 : decode cX11_landLine 166 = .ok (.ifCond .ne 10, 3) := by decide +kernel
theorem dX11_landLine_169 : decode cX11_landLine 169 = .ok (.aload_n 0, 1) := by decide +kernel
theorem dX11_landLine_170 : decode cX11_landLine 170 = .ok (.invokevirtual 228, 3) := by decide +kernel
theorem dX11_landLine_173 : decode cX11_landLine 173 = .ok (.goto 37, 3) := by decide +kernel
theorem dX11_landLine_176 : decode cX11_landLine 176 = .ok (.lload_n 1, 1) := by decide +kernel
theorem dX11_landLine_177 : decode cX11_landLine 177 = .ok (.ldc2_w 201, 3) := by decide +kernel
theorem dX11_landLine_180 : decode cX11_landLine 180 = .ok (.lcmp, 1) := by decide +kernel
theorem dX11_landLine_181 : decode cX11_landLine 181 = .ok (.ifCond .ne 10, 3) := by decide +kernel
theorem dX11_landLine_184 : decode cX11_landLine 184 = .ok (.aload_n 0, 1) := by decide +kernel
theorem dX11_landLine_185 : decode cX11_landLine 185 = .ok (.invokevirtual 231, 3) := by decide +kernel
theorem dX11_landLine_188 : decode cX11_landLine 188 = .ok (.goto 22, 3) := by decide +kernel
theorem dX11_landLine_191 : decode cX11_landLine 191 = .ok (.lload_n 1, 1) := by decide +kernel
theorem dX11_landLine_192 : decode cX11_landLine 192 = .ok (.ldc2_w 203, 3) := by decide +kernel
theorem dX11_landLine_195 : decode cX11_landLine 195 = .ok (.lcmp, 1) := by decide +kernel
theorem dX11_landLine_196 : decode cX11_landLine 196 = .ok (.ifCond .ne 10, 3) := by decide +kernel
theorem dX11_landLine_199 : decode cX11_landLine 199 = .ok (.aload_n 0, 1) := by decide +kernel
theorem dX11_landLine_200 : decode cX11_landLine 200 = .ok (.invokevirtual 234, 3) := by decide +kernel
theorem dX11_landLine_203 : decode cX11_landLine 203 = .ok (.goto 7, 3) := by decide +kernel
theorem dX11_landLine_206 : decode cX11_landLine 206 = .ok (.aload_n 0, 1) := by decide +kernel
theorem dX11_landLine_207 : decode cX11_landLine 207 = .ok (.invokevirtual 237, 3) := by decide +kernel
theorem dX11_landLine_210 : decode cX11_landLine 210 = .ok (.ireturn, 1) := by decide +kernel
theorem dX11_deedBy_0 : decode cX11_deedBy 0 = .ok (.lload_n 0, 1) := by decide +kernel
theorem dX11_deedBy_1 : decode cX11_deedBy 1 = .ok (.ldc2_w 240, 3) := by decide +kernel
theorem dX11_deedBy_4 : decode cX11_deedBy 4 = .ok (.lcmp, 1) := by decide +kernel
theorem dX11_deedBy_5 : decode cX11_deedBy 5 = .ok (.ifCond .ne 7, 3) := by decide +kernel
theorem dX11_deedBy_8 : decode cX11_deedBy 8 = .ok (.iconst 0, 1) := by decide +kernel
theorem dX11_deedBy_9 : decode cX11_deedBy 9 = .ok (.goto 64, 3) := by decide +kernel
theorem dX11_deedBy_12 : decode cX11_deedBy 12 = .ok (.lload_n 0, 1) := by decide +kernel
theorem dX11_deedBy_13 : decode cX11_deedBy 13 = .ok (.ldc2_w 242, 3) := by decide +kernel
theorem dX11_deedBy_16 : decode cX11_deedBy 16 = .ok (.lcmp, 1) := by decide +kernel
theorem dX11_deedBy_17 : decode cX11_deedBy 17 = .ok (.ifCond .ne 7, 3) := by decide +kernel
theorem dX11_deedBy_20 : decode cX11_deedBy 20 = .ok (.iconst 1, 1) := by decide +kernel
theorem dX11_deedBy_21 : decode cX11_deedBy 21 = .ok (.goto 52, 3) := by decide +kernel
theorem dX11_deedBy_24 : decode cX11_deedBy 24 = .ok (.lload_n 0, 1) := by decide +kernel
theorem dX11_deedBy_25 : decode cX11_deedBy 25 = .ok (.ldc2_w 244, 3) := by decide +kernel
theorem dX11_deedBy_28 : decode cX11_deedBy 28 = .ok (.lcmp, 1) := by decide +kernel
theorem dX11_deedBy_29 : decode cX11_deedBy 29 = .ok (.ifCond .ne 7, 3) := by decide +kernel
theorem dX11_deedBy_32 : decode cX11_deedBy 32 = .ok (.iconst 2, 1) := by decide +kernel
theorem dX11_deedBy_33 : decode cX11_deedBy 33 = .ok (.goto 40, 3) := by decide +kernel
theorem dX11_deedBy_36 : decode cX11_deedBy 36 = .ok (.lload_n 0, 1) := by decide +kernel
theorem dX11_deedBy_37 : decode cX11_deedBy 37 = .ok (.ldc2_w 246, 3) := by decide +kernel
theorem dX11_deedBy_40 : decode cX11_deedBy 40 = .ok (.lcmp, 1) := by decide +kernel
theorem dX11_deedBy_41 : decode cX11_deedBy 41 = .ok (.ifCond .ne 7, 3) := by decide +kernel
theorem dX11_deedBy_44 : decode cX11_deedBy 44 = .ok (.iconst 3, 1) := by decide +kernel
theorem dX11_deedBy_45 : decode cX11_deedBy 45 = .ok (.goto 28, 3) := by decide +kernel
theorem dX11_deedBy_48 : decode cX11_deedBy 48 = .ok (.lload_n 0, 1) := by decide +kernel
theorem dX11_deedBy_49 : decode cX11_deedBy 49 = .ok (.ldc2_w 248, 3) := by decide +kernel
theorem dX11_deedBy_52 : decode cX11_deedBy 52 = .ok (.lcmp, 1) := by decide +kernel
theorem dX11_deedBy_53 : decode cX11_deedBy 53 = .ok (.ifCond .ne 7, 3) := by decide +kernel
theorem dX11_deedBy_56 : decode cX11_deedBy 56 = .ok (.iconst 4, 1) := by decide +kernel
theorem dX11_deedBy_57 : decode cX11_deedBy 57 = .ok (.goto 16, 3) := by decide +kernel
theorem dX11_deedBy_60 : decode cX11_deedBy 60 = .ok (.lload_n 0, 1) := by decide +kernel
theorem dX11_deedBy_61 : decode cX11_deedBy 61 = .ok (.ldc2_w 250, 3) := by decide +kernel
theorem dX11_deedBy_64 : decode cX11_deedBy 64 = .ok (.lcmp, 1) := by decide +kernel
theorem dX11_deedBy_65 : decode cX11_deedBy 65 = .ok (.ifCond .ne 7, 3) := by decide +kernel
theorem dX11_deedBy_68 : decode cX11_deedBy 68 = .ok (.iconst 5, 1) := by decide +kernel
theorem dX11_deedBy_69 : decode cX11_deedBy 69 = .ok (.goto 4, 3) := by decide +kernel
theorem dX11_deedBy_72 : decode cX11_deedBy 72 = .ok (.iconst (-1), 1) := by decide +kernel
theorem dX11_deedBy_73 : decode cX11_deedBy 73 = .ok (.ireturn, 1) := by decide +kernel
theorem dX11_keep_0 : decode cX11_keep 0 = .ok (.aload_n 0, 1) := by decide +kernel
theorem dX11_keep_1 : decode cX11_keep 1 = .ok (.iconst 0, 1) := by decide +kernel
theorem dX11_keep_2 : decode cX11_keep 2 = .ok (.iload_n 2, 1) := by decide +kernel
theorem dX11_keep_3 : decode cX11_keep 3 = .ok (.invokevirtual 181, 3) := by decide +kernel
theorem dX11_keep_6 : decode cX11_keep 6 = .ok (.istore_n 3, 1) := by decide +kernel
theorem dX11_keep_7 : decode cX11_keep 7 = .ok (.iconst 0, 1) := by decide +kernel
theorem dX11_keep_8 : decode cX11_keep 8 = .ok (.istore 4, 2) := by decide +kernel
theorem dX11_keep_10 : decode cX11_keep 10 = .ok (.iload 4, 2) := by decide +kernel
theorem dX11_keep_12 : decode cX11_keep 12 = .ok (.iload_n 1, 1) := by decide +kernel
theorem dX11_keep_13 : decode cX11_keep 13 = .ok (.if_icmp .ge 34, 3) := by decide +kernel
theorem dX11_keep_16 : decode cX11_keep 16 = .ok (.iload_n 3, 1) := by decide +kernel
theorem dX11_keep_17 : decode cX11_keep 17 = .ok (.iconst (-1), 1) := by decide +kernel
theorem dX11_keep_18 : decode cX11_keep 18 = .ok (.if_icmp .eq 29, 3) := by decide +kernel
theorem dX11_keep_21 : decode cX11_keep 21 = .ok (.aload_n 0, 1) := by decide +kernel
theorem dX11_keep_22 : decode cX11_keep 22 = .ok (.getfield 38, 3) := by decide +kernel
theorem dX11_keep_25 : decode cX11_keep 25 = .ok (.iconst 1, 1) := by decide +kernel
theorem dX11_keep_26 : decode cX11_keep 26 = .ok (.iload_n 1, 1) := by decide +kernel
theorem dX11_keep_27 : decode cX11_keep 27 = .ok (.iload_n 3, 1) := by decide +kernel
theorem dX11_keep_28 : decode cX11_keep 28 = .ok (.imul, 1) := by decide +kernel
theorem dX11_keep_29 : decode cX11_keep 29 = .ok (.iadd, 1) := by decide +kernel
theorem dX11_keep_30 : decode cX11_keep 30 = .ok (.iload 4, 2) := by decide +kernel
theorem dX11_keep_32 : decode cX11_keep 32 = .ok (.iadd, 1) := by decide +kernel
theorem dX11_keep_33 : decode cX11_keep 33 = .ok (.aload_n 0, 1) := by decide +kernel
theorem dX11_keep_34 : decode cX11_keep 34 = .ok (.getfield 41, 3) := by decide +kernel
theorem dX11_keep_37 : decode cX11_keep 37 = .ok (.iload 4, 2) := by decide +kernel
theorem dX11_keep_39 : decode cX11_keep 39 = .ok (.iaload, 1) := by decide +kernel
theorem dX11_keep_40 : decode cX11_keep 40 = .ok (.iastore, 1) := by decide +kernel
theorem dX11_keep_41 : decode cX11_keep 41 = .ok (.iinc 4 1, 3) := by decide +kernel
theorem dX11_keep_44 : decode cX11_keep 44 = .ok (.goto (-34), 3) := by decide +kernel
theorem dX11_keep_47 : decode cX11_keep 47 = .ok (.return_, 1) := by decide +kernel
theorem dX11_eveningLine_0 : decode cX11_eveningLine 0 = .ok (.lload_n 1, 1) := by decide +kernel
theorem dX11_eveningLine_1 : decode cX11_eveningLine 1 = .ok (.invokestatic 252, 3) := by decide +kernel
theorem dX11_eveningLine_4 : decode cX11_eveningLine 4 = .ok (.istore 4, 2) := by decide +kernel
theorem dX11_eveningLine_6 : decode cX11_eveningLine 6 = .ok (.iload 4, 2) := by decide +kernel
theorem dX11_eveningLine_8 : decode cX11_eveningLine 8 = .ok (.iconst (-1), 1) := by decide +kernel
theorem dX11_eveningLine_9 : decode cX11_eveningLine 9 = .ok (.if_icmp .ne 8, 3) := by decide +kernel
theorem dX11_eveningLine_12 : decode cX11_eveningLine 12 = .ok (.aload_n 0, 1) := by decide +kernel
theorem dX11_eveningLine_13 : decode cX11_eveningLine 13 = .ok (.invokevirtual 149, 3) := by decide +kernel
theorem dX11_eveningLine_16 : decode cX11_eveningLine 16 = .ok (.ireturn, 1) := by decide +kernel
theorem dX11_eveningLine_17 : decode cX11_eveningLine 17 = .ok (.aload_n 0, 1) := by decide +kernel
theorem dX11_eveningLine_18 : decode cX11_eveningLine 18 = .ok (.iconst 0, 1) := by decide +kernel
theorem dX11_eveningLine_19 : decode cX11_eveningLine 19 = .ok (.bipush 40, 2) := by decide +kernel
theorem dX11_eveningLine_21 : decode cX11_eveningLine 21 = .ok (.iload_n 3, 1) := by decide +kernel
theorem dX11_eveningLine_22 : decode cX11_eveningLine 22 = .ok (.invokevirtual 211, 3) := by decide +kernel
theorem dX11_eveningLine_25 : decode cX11_eveningLine 25 = .ok (.aload_n 0, 1) := by decide +kernel
theorem dX11_eveningLine_26 : decode cX11_eveningLine 26 = .ok (.invokevirtual 161, 3) := by decide +kernel
theorem dX11_eveningLine_29 : decode cX11_eveningLine 29 = .ok (.aload_n 0, 1) := by decide +kernel
theorem dX11_eveningLine_30 : decode cX11_eveningLine 30 = .ok (.getfield 41, 3) := by decide +kernel
theorem dX11_eveningLine_33 : decode cX11_eveningLine 33 = .ok (.iconst 2, 1) := by decide +kernel
theorem dX11_eveningLine_34 : decode cX11_eveningLine 34 = .ok (.iconst (-1), 1) := by decide +kernel
theorem dX11_eveningLine_35 : decode cX11_eveningLine 35 = .ok (.iastore, 1) := by decide +kernel
theorem dX11_eveningLine_36 : decode cX11_eveningLine 36 = .ok (.aload_n 0, 1) := by decide +kernel
theorem dX11_eveningLine_37 : decode cX11_eveningLine 37 = .ok (.iconst 1, 1) := by decide +kernel
theorem dX11_eveningLine_38 : decode cX11_eveningLine 38 = .ok (.iconst 0, 1) := by decide +kernel
theorem dX11_eveningLine_39 : decode cX11_eveningLine 39 = .ok (.iconst 5, 1) := by decide +kernel
theorem dX11_eveningLine_40 : decode cX11_eveningLine 40 = .ok (.invokevirtual 178, 3) := by decide +kernel
theorem dX11_eveningLine_43 : decode cX11_eveningLine 43 = .ok (.ifCond .eq 30, 3) := by decide +kernel
theorem dX11_eveningLine_46 : decode cX11_eveningLine 46 = .ok (.iload 4, 2) := by decide +kernel
theorem dX11_eveningLine_48 : decode cX11_eveningLine 48 = .ok (.iconst 4, 1) := by decide +kernel
theorem dX11_eveningLine_49 : decode cX11_eveningLine 49 = .ok (.if_icmp .ge 26, 3) := by decide +kernel
theorem dX11_eveningLine_52 : decode cX11_eveningLine 52 = .ok (.aload_n 0, 1) := by decide +kernel
theorem dX11_eveningLine_53 : decode cX11_eveningLine 53 = .ok (.iconst 2, 1) := by decide +kernel
theorem dX11_eveningLine_54 : decode cX11_eveningLine 54 = .ok (.iconst 0, 1) := by decide +kernel
theorem dX11_eveningLine_55 : decode cX11_eveningLine 55 = .ok (.iload 4, 2) := by decide +kernel
theorem dX11_eveningLine_57 : decode cX11_eveningLine 57 = .ok (.iconst 3, 1) := by decide +kernel
theorem dX11_eveningLine_58 : decode cX11_eveningLine 58 = .ok (.if_icmp .ne 8, 3) := by decide +kernel
theorem dX11_eveningLine_61 : decode cX11_eveningLine 61 = .ok (.bipush 8, 2) := by decide +kernel
theorem dX11_eveningLine_63 : decode cX11_eveningLine 63 = .ok (.goto 4, 3) := by decide +kernel
theorem dX11_eveningLine_66 : decode cX11_eveningLine 66 = .ok (.iconst 4, 1) := by decide +kernel
theorem dX11_eveningLine_67 : decode cX11_eveningLine 67 = .ok (.invokevirtual 178, 3) := by decide +kernel
theorem dX11_eveningLine_70 : decode cX11_eveningLine 70 = .ok (.ifCond .ne 5, 3) := by decide +kernel
theorem dX11_eveningLine_73 : decode cX11_eveningLine 73 = .ok (.iconst 0, 1) := by decide +kernel
theorem dX11_eveningLine_74 : decode cX11_eveningLine 74 = .ok (.ireturn, 1) := by decide +kernel
theorem dX11_eveningLine_75 : decode cX11_eveningLine 75 = .ok (.aload_n 0, 1) := by decide +kernel
theorem dX11_eveningLine_76 : decode cX11_eveningLine 76 = .ok (.getfield 41, 3) := by decide +kernel
theorem dX11_eveningLine_79 : decode cX11_eveningLine 79 = .ok (.iconst 0, 1) := by decide +kernel
theorem dX11_eveningLine_80 : decode cX11_eveningLine 80 = .ok (.iload 4, 2) := by decide +kernel
theorem dX11_eveningLine_82 : decode cX11_eveningLine 82 = .ok (.iastore, 1) := by decide +kernel
theorem dX11_eveningLine_83 : decode cX11_eveningLine 83 = .ok (.aload_n 0, 1) := by decide +kernel
theorem dX11_eveningLine_84 : decode cX11_eveningLine 84 = .ok (.iconst 3, 1) := by decide +kernel
theorem dX11_eveningLine_85 : decode cX11_eveningLine 85 = .ok (.bipush 40, 2) := by decide +kernel
theorem dX11_eveningLine_87 : decode cX11_eveningLine 87 = .ok (.invokevirtual 256, 3) := by decide +kernel
theorem dX11_eveningLine_90 : decode cX11_eveningLine 90 = .ok (.iconst 1, 1) := by decide +kernel
theorem dX11_eveningLine_91 : decode cX11_eveningLine 91 = .ok (.ireturn, 1) := by decide +kernel
theorem dX11_sightLine_0 : decode cX11_sightLine 0 = .ok (.lload_n 1, 1) := by decide +kernel
theorem dX11_sightLine_1 : decode cX11_sightLine 1 = .ok (.ldc2_w 259, 3) := by decide +kernel
theorem dX11_sightLine_4 : decode cX11_sightLine 4 = .ok (.lcmp, 1) := by decide +kernel
theorem dX11_sightLine_5 : decode cX11_sightLine 5 = .ok (.ifCond .eq 16, 3) := by decide +kernel
theorem dX11_sightLine_8 : decode cX11_sightLine 8 = .ok (.lload_n 1, 1) := by decide +kernel
theorem dX11_sightLine_9 : decode cX11_sightLine 9 = .ok (.ldc2_w 261, 3) := by decide +kernel
theorem dX11_sightLine_12 : decode cX11_sightLine 12 = .ok (.lcmp, 1) := by decide +kernel
theorem dX11_sightLine_13 : decode cX11_sightLine 13 = .ok (.ifCond .eq 8, 3) := by decide +kernel
theorem dX11_sightLine_16 : decode cX11_sightLine 16 = .ok (.aload_n 0, 1) := by decide +kernel
theorem dX11_sightLine_17 : decode cX11_sightLine 17 = .ok (.invokevirtual 149, 3) := by decide +kernel
theorem dX11_sightLine_20 : decode cX11_sightLine 20 = .ok (.ireturn, 1) := by decide +kernel
theorem dX11_sightLine_21 : decode cX11_sightLine 21 = .ok (.aload_n 0, 1) := by decide +kernel
theorem dX11_sightLine_22 : decode cX11_sightLine 22 = .ok (.iconst 0, 1) := by decide +kernel
theorem dX11_sightLine_23 : decode cX11_sightLine 23 = .ok (.bipush 10, 2) := by decide +kernel
theorem dX11_sightLine_25 : decode cX11_sightLine 25 = .ok (.iload_n 3, 1) := by decide +kernel
theorem dX11_sightLine_26 : decode cX11_sightLine 26 = .ok (.invokevirtual 211, 3) := by decide +kernel
theorem dX11_sightLine_29 : decode cX11_sightLine 29 = .ok (.aload_n 0, 1) := by decide +kernel
theorem dX11_sightLine_30 : decode cX11_sightLine 30 = .ok (.invokevirtual 161, 3) := by decide +kernel
theorem dX11_sightLine_33 : decode cX11_sightLine 33 = .ok (.aload_n 0, 1) := by decide +kernel
theorem dX11_sightLine_34 : decode cX11_sightLine 34 = .ok (.iconst 1, 1) := by decide +kernel
theorem dX11_sightLine_35 : decode cX11_sightLine 35 = .ok (.iconst 0, 1) := by decide +kernel
theorem dX11_sightLine_36 : decode cX11_sightLine 36 = .ok (.bipush 8, 2) := by decide +kernel
theorem dX11_sightLine_38 : decode cX11_sightLine 38 = .ok (.invokevirtual 178, 3) := by decide +kernel
theorem dX11_sightLine_41 : decode cX11_sightLine 41 = .ok (.ifCond .eq 14, 3) := by decide +kernel
theorem dX11_sightLine_44 : decode cX11_sightLine 44 = .ok (.aload_n 0, 1) := by decide +kernel
theorem dX11_sightLine_45 : decode cX11_sightLine 45 = .ok (.iconst 2, 1) := by decide +kernel
theorem dX11_sightLine_46 : decode cX11_sightLine 46 = .ok (.iconst 0, 1) := by decide +kernel
theorem dX11_sightLine_47 : decode cX11_sightLine 47 = .ok (.bipush 60, 2) := by decide +kernel
theorem dX11_sightLine_49 : decode cX11_sightLine 49 = .ok (.invokevirtual 178, 3) := by decide +kernel
theorem dX11_sightLine_52 : decode cX11_sightLine 52 = .ok (.ifCond .ne 5, 3) := by decide +kernel
theorem dX11_sightLine_55 : decode cX11_sightLine 55 = .ok (.iconst 0, 1) := by decide +kernel
theorem dX11_sightLine_56 : decode cX11_sightLine 56 = .ok (.ireturn, 1) := by decide +kernel
theorem dX11_sightLine_57 : decode cX11_sightLine 57 = .ok (.aload_n 0, 1) := by decide +kernel
theorem dX11_sightLine_58 : decode cX11_sightLine 58 = .ok (.getfield 41, 3) := by decide +kernel
theorem dX11_sightLine_61 : decode cX11_sightLine 61 = .ok (.iconst 0, 1) := by decide +kernel
theorem dX11_sightLine_62 : decode cX11_sightLine 62 = .ok (.lload_n 1, 1) := by decide +kernel
theorem dX11_sightLine_63 : decode cX11_sightLine 63 = .ok (.ldc2_w 259, 3) := by decide +kernel
theorem dX11_sightLine_66 : decode cX11_sightLine 66 = .ok (.lcmp, 1) := by decide +kernel
theorem dX11_sightLine_67 : decode cX11_sightLine 67 = .ok (.ifCond .ne 7, 3) := by decide +kernel
theorem dX11_sightLine_70 : decode cX11_sightLine 70 = .ok (.iconst 1, 1) := by decide +kernel
theorem dX11_sightLine_71 : decode cX11_sightLine 71 = .ok (.goto 4, 3) := by decide +kernel
theorem dX11_sightLine_74 : decode cX11_sightLine 74 = .ok (.iconst 0, 1) := by decide +kernel
theorem dX11_sightLine_75 : decode cX11_sightLine 75 = .ok (.iastore, 1) := by decide +kernel
theorem dX11_sightLine_76 : decode cX11_sightLine 76 = .ok (.aload_n 0, 1) := by decide +kernel
theorem dX11_sightLine_77 : decode cX11_sightLine 77 = .ok (.iconst 3, 1) := by decide +kernel
theorem dX11_sightLine_78 : decode cX11_sightLine 78 = .ok (.bipush 10, 2) := by decide +kernel
theorem dX11_sightLine_80 : decode cX11_sightLine 80 = .ok (.invokevirtual 256, 3) := by decide +kernel
theorem dX11_sightLine_83 : decode cX11_sightLine 83 = .ok (.iconst 1, 1) := by decide +kernel
theorem dX11_sightLine_84 : decode cX11_sightLine 84 = .ok (.ireturn, 1) := by decide +kernel
theorem dX11_choirLine_0 : decode cX11_choirLine 0 = .ok (.lload_n 1, 1) := by decide +kernel
theorem dX11_choirLine_1 : decode cX11_choirLine 1 = .ok (.ldc2_w 263, 3) := by decide +kernel
theorem dX11_choirLine_4 : decode cX11_choirLine 4 = .ok (.lcmp, 1) := by decide +kernel
theorem dX11_choirLine_5 : decode cX11_choirLine 5 = .ok (.ifCond .eq 16, 3) := by decide +kernel
theorem dX11_choirLine_8 : decode cX11_choirLine 8 = .ok (.lload_n 1, 1) := by decide +kernel
theorem dX11_choirLine_9 : decode cX11_choirLine 9 = .ok (.ldc2_w 265, 3) := by decide +kernel
theorem dX11_choirLine_12 : decode cX11_choirLine 12 = .ok (.lcmp, 1) := by decide +kernel
theorem dX11_choirLine_13 : decode cX11_choirLine 13 = .ok (.ifCond .eq 8, 3) := by decide +kernel
theorem dX11_choirLine_16 : decode cX11_choirLine 16 = .ok (.aload_n 0, 1) := by decide +kernel
theorem dX11_choirLine_17 : decode cX11_choirLine 17 = .ok (.invokevirtual 149, 3) := by decide +kernel
theorem dX11_choirLine_20 : decode cX11_choirLine 20 = .ok (.ireturn, 1) := by decide +kernel
theorem dX11_choirLine_21 : decode cX11_choirLine 21 = .ok (.lload_n 1, 1) := by decide +kernel
theorem dX11_choirLine_22 : decode cX11_choirLine 22 = .ok (.ldc2_w 263, 3) := by decide +kernel
theorem dX11_choirLine_25 : decode cX11_choirLine 25 = .ok (.lcmp, 1) := by decide +kernel
theorem dX11_choirLine_26 : decode cX11_choirLine 26 = .ok (.ifCond .ne 11, 3) := by decide +kernel
theorem dX11_choirLine_29 : decode cX11_choirLine 29 = .ok (.aload_n 0, 1) := by decide +kernel
theorem dX11_choirLine_30 : decode cX11_choirLine 30 = .ok (.iconst 0, 1) := by decide +kernel
theorem dX11_choirLine_31 : decode cX11_choirLine 31 = .ok (.bipush 9, 2) := by decide +kernel
theorem dX11_choirLine_33 : decode cX11_choirLine 33 = .ok (.iload_n 3, 1) := by decide +kernel
theorem dX11_choirLine_34 : decode cX11_choirLine 34 = .ok (.invokevirtual 211, 3) := by decide +kernel
theorem dX11_choirLine_37 : decode cX11_choirLine 37 = .ok (.aload_n 0, 1) := by decide +kernel
theorem dX11_choirLine_38 : decode cX11_choirLine 38 = .ok (.invokevirtual 161, 3) := by decide +kernel
theorem dX11_choirLine_41 : decode cX11_choirLine 41 = .ok (.lload_n 1, 1) := by decide +kernel
theorem dX11_choirLine_42 : decode cX11_choirLine 42 = .ok (.ldc2_w 265, 3) := by decide +kernel
theorem dX11_choirLine_45 : decode cX11_choirLine 45 = .ok (.lcmp, 1) := by decide +kernel
theorem dX11_choirLine_46 : decode cX11_choirLine 46 = .ok (.ifCond .ne 13, 3) := by decide +kernel
theorem dX11_choirLine_49 : decode cX11_choirLine 49 = .ok (.aload_n 0, 1) := by decide +kernel
theorem dX11_choirLine_50 : decode cX11_choirLine 50 = .ok (.bipush 19, 2) := by decide +kernel
theorem dX11_choirLine_52 : decode cX11_choirLine 52 = .ok (.iconst 0, 1) := by decide +kernel
theorem dX11_choirLine_53 : decode cX11_choirLine 53 = .ok (.bipush 9, 2) := by decide +kernel
theorem dX11_choirLine_55 : decode cX11_choirLine 55 = .ok (.invokevirtual 222, 3) := by decide +kernel
theorem dX11_choirLine_58 : decode cX11_choirLine 58 = .ok (.ireturn, 1) := by decide +kernel
theorem dX11_choirLine_59 : decode cX11_choirLine 59 = .ok (.aload_n 0, 1) := by decide +kernel
theorem dX11_choirLine_60 : decode cX11_choirLine 60 = .ok (.iconst 0, 1) := by decide +kernel
theorem dX11_choirLine_61 : decode cX11_choirLine 61 = .ok (.iconst 0, 1) := by decide +kernel
theorem dX11_choirLine_62 : decode cX11_choirLine 62 = .ok (.iconst 3, 1) := by decide +kernel
theorem dX11_choirLine_63 : decode cX11_choirLine 63 = .ok (.invokevirtual 178, 3) := by decide +kernel
theorem dX11_choirLine_66 : decode cX11_choirLine 66 = .ok (.ifCond .eq 14, 3) := by decide +kernel
theorem dX11_choirLine_69 : decode cX11_choirLine 69 = .ok (.aload_n 0, 1) := by decide +kernel
theorem dX11_choirLine_70 : decode cX11_choirLine 70 = .ok (.iconst 1, 1) := by decide +kernel
theorem dX11_choirLine_71 : decode cX11_choirLine 71 = .ok (.iconst 0, 1) := by decide +kernel
theorem dX11_choirLine_72 : decode cX11_choirLine 72 = .ok (.bipush 9, 2) := by decide +kernel
theorem dX11_choirLine_74 : decode cX11_choirLine 74 = .ok (.invokevirtual 178, 3) := by decide +kernel
theorem dX11_choirLine_77 : decode cX11_choirLine 77 = .ok (.ifCond .ne 5, 3) := by decide +kernel
theorem dX11_choirLine_80 : decode cX11_choirLine 80 = .ok (.iconst 0, 1) := by decide +kernel
theorem dX11_choirLine_81 : decode cX11_choirLine 81 = .ok (.ireturn, 1) := by decide +kernel
theorem dX11_choirLine_82 : decode cX11_choirLine 82 = .ok (.aload_n 0, 1) := by decide +kernel
theorem dX11_choirLine_83 : decode cX11_choirLine 83 = .ok (.iconst 2, 1) := by decide +kernel
theorem dX11_choirLine_84 : decode cX11_choirLine 84 = .ok (.bipush 9, 2) := by decide +kernel
theorem dX11_choirLine_86 : decode cX11_choirLine 86 = .ok (.invokevirtual 256, 3) := by decide +kernel
theorem dX11_choirLine_89 : decode cX11_choirLine 89 = .ok (.iconst 1, 1) := by decide +kernel
theorem dX11_choirLine_90 : decode cX11_choirLine 90 = .ok (.ireturn, 1) := by decide +kernel
theorem dX11_lineOf_0 : decode cX11_lineOf 0 = .ok (.iload_n 1, 1) := by decide +kernel
theorem dX11_lineOf_1 : decode cX11_lineOf 1 = .ok (.tableswitch 51 0 2 #[27, 35, 43], 27) := by decide +kernel
theorem dX11_lineOf_28 : decode cX11_lineOf 28 = .ok (.aload_n 0, 1) := by decide +kernel
theorem dX11_lineOf_29 : decode cX11_lineOf 29 = .ok (.lload_n 2, 1) := by decide +kernel
theorem dX11_lineOf_30 : decode cX11_lineOf 30 = .ok (.iload 4, 2) := by decide +kernel
theorem dX11_lineOf_32 : decode cX11_lineOf 32 = .ok (.invokevirtual 267, 3) := by decide +kernel
theorem dX11_lineOf_35 : decode cX11_lineOf 35 = .ok (.ireturn, 1) := by decide +kernel
theorem dX11_lineOf_36 : decode cX11_lineOf 36 = .ok (.aload_n 0, 1) := by decide +kernel
theorem dX11_lineOf_37 : decode cX11_lineOf 37 = .ok (.lload_n 2, 1) := by decide +kernel
theorem dX11_lineOf_38 : decode cX11_lineOf 38 = .ok (.iload 4, 2) := by decide +kernel
theorem dX11_lineOf_40 : decode cX11_lineOf 40 = .ok (.invokevirtual 271, 3) := by decide +kernel
theorem dX11_lineOf_43 : decode cX11_lineOf 43 = .ok (.ireturn, 1) := by decide +kernel
theorem dX11_lineOf_44 : decode cX11_lineOf 44 = .ok (.aload_n 0, 1) := by decide +kernel
theorem dX11_lineOf_45 : decode cX11_lineOf 45 = .ok (.lload_n 2, 1) := by decide +kernel
theorem dX11_lineOf_46 : decode cX11_lineOf 46 = .ok (.iload 4, 2) := by decide +kernel
theorem dX11_lineOf_48 : decode cX11_lineOf 48 = .ok (.invokevirtual 274, 3) := by decide +kernel
theorem dX11_lineOf_51 : decode cX11_lineOf 51 = .ok (.ireturn, 1) := by decide +kernel
theorem dX11_lineOf_52 : decode cX11_lineOf 52 = .ok (.aload_n 0, 1) := by decide +kernel
theorem dX11_lineOf_53 : decode cX11_lineOf 53 = .ok (.lload_n 2, 1) := by decide +kernel
theorem dX11_lineOf_54 : decode cX11_lineOf 54 = .ok (.iload 4, 2) := by decide +kernel
theorem dX11_lineOf_56 : decode cX11_lineOf 56 = .ok (.invokevirtual 277, 3) := by decide +kernel
theorem dX11_lineOf_59 : decode cX11_lineOf 59 = .ok (.ireturn, 1) := by decide +kernel
theorem dX11_lines_0 : decode cX11_lines 0 = .ok (.iconst 1, 1) := by decide +kernel
theorem dX11_lines_1 : decode cX11_lines 1 = .ok (.istore_n 2, 1) := by decide +kernel
theorem dX11_lines_2 : decode cX11_lines 2 = .ok (.iload_n 2, 1) := by decide +kernel
theorem dX11_lines_3 : decode cX11_lines 3 = .ok (.ifCond .eq 71, 3) := by decide +kernel
theorem dX11_lines_6 : decode cX11_lines 6 = .ok (.aload_n 0, 1) := by decide +kernel
theorem dX11_lines_7 : decode cX11_lines 7 = .ok (.getfield 134, 3) := by decide +kernel
theorem dX11_lines_10 : decode cX11_lines 10 = .ok (.ifCond .eq 64, 3) := by decide +kernel
theorem dX11_lines_13 : decode cX11_lines 13 = .ok (.aload_n 0, 1) := by decide +kernel
theorem dX11_lines_14 : decode cX11_lines 14 = .ok (.getfield 127, 3) := by decide +kernel
theorem dX11_lines_17 : decode cX11_lines 17 = .ok (.istore_n 3, 1) := by decide +kernel
theorem dX11_lines_18 : decode cX11_lines 18 = .ok (.aload_n 0, 1) := by decide +kernel
theorem dX11_lines_19 : decode cX11_lines 19 = .ok (.iconst 1, 1) := by decide +kernel
theorem dX11_lines_20 : decode cX11_lines 20 = .ok (.putfield 157, 3) := by decide +kernel
theorem dX11_lines_23 : decode cX11_lines 23 = .ok (.aload_n 0, 1) := by decide +kernel
theorem dX11_lines_24 : decode cX11_lines 24 = .ok (.iload_n 1, 1) := by decide +kernel
theorem dX11_lines_25 : decode cX11_lines 25 = .ok (.aload_n 0, 1) := by decide +kernel
theorem dX11_lines_26 : decode cX11_lines 26 = .ok (.getfield 134, 3) := by decide +kernel
theorem dX11_lines_29 : decode cX11_lines 29 = .ok (.iconst 2, 1) := by decide +kernel
theorem dX11_lines_30 : decode cX11_lines 30 = .ok (.if_icmp .ne 10, 3) := by decide +kernel
theorem dX11_lines_33 : decode cX11_lines 33 = .ok (.aload_n 0, 1) := by decide +kernel
theorem dX11_lines_34 : decode cX11_lines 34 = .ok (.getfield 130, 3) := by decide +kernel
theorem dX11_lines_37 : decode cX11_lines 37 = .ok (.goto 4, 3) := by decide +kernel
theorem dX11_lines_40 : decode cX11_lines 40 = .ok (.lconst 0, 1) := by decide +kernel
theorem dX11_lines_41 : decode cX11_lines 41 = .ok (.iload_n 3, 1) := by decide +kernel
theorem dX11_lines_42 : decode cX11_lines 42 = .ok (.invokevirtual 280, 3) := by decide +kernel
theorem dX11_lines_45 : decode cX11_lines 45 = .ok (.istore_n 2, 1) := by decide +kernel
theorem dX11_lines_46 : decode cX11_lines 46 = .ok (.iload_n 2, 1) := by decide +kernel
theorem dX11_lines_47 : decode cX11_lines 47 = .ok (.ifCond .eq 16, 3) := by decide +kernel
theorem dX11_lines_50 : decode cX11_lines 50 = .ok (.aload_n 0, 1) := by decide +kernel
theorem dX11_lines_51 : decode cX11_lines 51 = .ok (.getfield 134, 3) := by decide +kernel
theorem dX11_lines_54 : decode cX11_lines 54 = .ok (.iconst 4, 1) := by decide +kernel
theorem dX11_lines_55 : decode cX11_lines 55 = .ok (.if_icmp .eq 8, 3) := by decide +kernel
theorem dX11_lines_58 : decode cX11_lines 58 = .ok (.aload_n 0, 1) := by decide +kernel
theorem dX11_lines_59 : decode cX11_lines 59 = .ok (.invokevirtual 149, 3) := by decide +kernel
theorem dX11_lines_62 : decode cX11_lines 62 = .ok (.istore_n 2, 1) := by decide +kernel
theorem dX11_lines_63 : decode cX11_lines 63 = .ok (.iload_n 2, 1) := by decide +kernel
theorem dX11_lines_64 : decode cX11_lines 64 = .ok (.ifCond .eq 7, 3) := by decide +kernel
theorem dX11_lines_67 : decode cX11_lines 67 = .ok (.aload_n 0, 1) := by decide +kernel
theorem dX11_lines_68 : decode cX11_lines 68 = .ok (.invokevirtual 161, 3) := by decide +kernel
theorem dX11_lines_71 : decode cX11_lines 71 = .ok (.goto (-69), 3) := by decide +kernel
theorem dX11_lines_74 : decode cX11_lines 74 = .ok (.iload_n 2, 1) := by decide +kernel
theorem dX11_lines_75 : decode cX11_lines 75 = .ok (.ireturn, 1) := by decide +kernel
theorem dX11_readText_0 : decode cX11_readText 0 = .ok (.iconst 0, 1) := by decide +kernel
theorem dX11_readText_1 : decode cX11_readText 1 = .ok (.istore_n 2, 1) := by decide +kernel
theorem dX11_readText_2 : decode cX11_readText 2 = .ok (.iload_n 2, 1) := by decide +kernel
theorem dX11_readText_3 : decode cX11_readText 3 = .ok (.sipush 132, 3) := by decide +kernel
theorem dX11_readText_6 : decode cX11_readText 6 = .ok (.if_icmp .ge 16, 3) := by decide +kernel
theorem dX11_readText_9 : decode cX11_readText 9 = .ok (.aload_n 0, 1) := by decide +kernel
theorem dX11_readText_10 : decode cX11_readText 10 = .ok (.getfield 38, 3) := by decide +kernel
theorem dX11_readText_13 : decode cX11_readText 13 = .ok (.iload_n 2, 1) := by decide +kernel
theorem dX11_readText_14 : decode cX11_readText 14 = .ok (.iconst 0, 1) := by decide +kernel
theorem dX11_readText_15 : decode cX11_readText 15 = .ok (.iastore, 1) := by decide +kernel
theorem dX11_readText_16 : decode cX11_readText 16 = .ok (.iinc 2 1, 3) := by decide +kernel
theorem dX11_readText_19 : decode cX11_readText 19 = .ok (.goto (-17), 3) := by decide +kernel
theorem dX11_readText_22 : decode cX11_readText 22 = .ok (.iload_n 1, 1) := by decide +kernel
theorem dX11_readText_23 : decode cX11_readText 23 = .ok (.ifCond .ne 18, 3) := by decide +kernel
theorem dX11_readText_26 : decode cX11_readText 26 = .ok (.aload_n 0, 1) := by decide +kernel
theorem dX11_readText_27 : decode cX11_readText 27 = .ok (.getfield 38, 3) := by decide +kernel
theorem dX11_readText_30 : decode cX11_readText 30 = .ok (.iconst 5, 1) := by decide +kernel
theorem dX11_readText_31 : decode cX11_readText 31 = .ok (.iconst 2, 1) := by decide +kernel
theorem dX11_readText_32 : decode cX11_readText 32 = .ok (.iastore, 1) := by decide +kernel
theorem dX11_readText_33 : decode cX11_readText 33 = .ok (.aload_n 0, 1) := by decide +kernel
theorem dX11_readText_34 : decode cX11_readText 34 = .ok (.getfield 38, 3) := by decide +kernel
theorem dX11_readText_37 : decode cX11_readText 37 = .ok (.bipush 6, 2) := by decide +kernel
theorem dX11_readText_39 : decode cX11_readText 39 = .ok (.iconst 5, 1) := by decide +kernel
theorem dX11_readText_40 : decode cX11_readText 40 = .ok (.iastore, 1) := by decide +kernel
theorem dX11_readText_41 : decode cX11_readText 41 = .ok (.aload_n 0, 1) := by decide +kernel
theorem dX11_readText_42 : decode cX11_readText 42 = .ok (.iconst (-1), 1) := by decide +kernel
theorem dX11_readText_43 : decode cX11_readText 43 = .ok (.putfield 168, 3) := by decide +kernel
theorem dX11_readText_46 : decode cX11_readText 46 = .ok (.aload_n 0, 1) := by decide +kernel
theorem dX11_readText_47 : decode cX11_readText 47 = .ok (.iconst (-1), 1) := by decide +kernel
theorem dX11_readText_48 : decode cX11_readText 48 = .ok (.putfield 184, 3) := by decide +kernel
theorem dX11_readText_51 : decode cX11_readText 51 = .ok (.aload_n 0, 1) := by decide +kernel
theorem dX11_readText_52 : decode cX11_readText 52 = .ok (.iconst 0, 1) := by decide +kernel
theorem dX11_readText_53 : decode cX11_readText 53 = .ok (.putfield 117, 3) := by decide +kernel
theorem dX11_readText_56 : decode cX11_readText 56 = .ok (.aload_n 0, 1) := by decide +kernel
theorem dX11_readText_57 : decode cX11_readText 57 = .ok (.iconst 0, 1) := by decide +kernel
theorem dX11_readText_58 : decode cX11_readText 58 = .ok (.putfield 143, 3) := by decide +kernel
theorem dX11_readText_61 : decode cX11_readText 61 = .ok (.aload_n 0, 1) := by decide +kernel
theorem dX11_readText_62 : decode cX11_readText 62 = .ok (.invokevirtual 161, 3) := by decide +kernel
theorem dX11_readText_65 : decode cX11_readText 65 = .ok (.aload_n 0, 1) := by decide +kernel
theorem dX11_readText_66 : decode cX11_readText 66 = .ok (.iload_n 1, 1) := by decide +kernel
theorem dX11_readText_67 : decode cX11_readText 67 = .ok (.invokevirtual 284, 3) := by decide +kernel
theorem dX11_readText_70 : decode cX11_readText 70 = .ok (.istore_n 2, 1) := by decide +kernel
theorem dX11_readText_71 : decode cX11_readText 71 = .ok (.iload_n 2, 1) := by decide +kernel
theorem dX11_readText_72 : decode cX11_readText 72 = .ok (.ifCond .eq 49, 3) := by decide +kernel
theorem dX11_readText_75 : decode cX11_readText 75 = .ok (.iload_n 1, 1) := by decide +kernel
theorem dX11_readText_76 : decode cX11_readText 76 = .ok (.ifCond .ne 45, 3) := by decide +kernel
theorem dX11_readText_79 : decode cX11_readText 79 = .ok (.aload_n 0, 1) := by decide +kernel
theorem dX11_readText_80 : decode cX11_readText 80 = .ok (.getfield 143, 3) := by decide +kernel
theorem dX11_readText_83 : decode cX11_readText 83 = .ok (.ifCond .ne 38, 3) := by decide +kernel
theorem dX11_readText_86 : decode cX11_readText 86 = .ok (.aload_n 0, 1) := by decide +kernel
theorem dX11_readText_87 : decode cX11_readText 87 = .ok (.getfield 168, 3) := by decide +kernel
theorem dX11_readText_90 : decode cX11_readText 90 = .ok (.aload_n 0, 1) := by decide +kernel
theorem dX11_readText_91 : decode cX11_readText 91 = .ok (.getfield 38, 3) := by decide +kernel
theorem dX11_readText_94 : decode cX11_readText 94 = .ok (.iconst 0, 1) := by decide +kernel
theorem dX11_readText_95 : decode cX11_readText 95 = .ok (.iaload, 1) := by decide +kernel
theorem dX11_readText_96 : decode cX11_readText 96 = .ok (.if_icmp .ge 16, 3) := by decide +kernel
theorem dX11_readText_99 : decode cX11_readText 99 = .ok (.aload_n 0, 1) := by decide +kernel
theorem dX11_readText_100 : decode cX11_readText 100 = .ok (.getfield 184, 3) := by decide +kernel
theorem dX11_readText_103 : decode cX11_readText 103 = .ok (.aload_n 0, 1) := by decide +kernel
theorem dX11_readText_104 : decode cX11_readText 104 = .ok (.getfield 38, 3) := by decide +kernel
theorem dX11_readText_107 : decode cX11_readText 107 = .ok (.iconst 1, 1) := by decide +kernel
theorem dX11_readText_108 : decode cX11_readText 108 = .ok (.iaload, 1) := by decide +kernel
theorem dX11_readText_109 : decode cX11_readText 109 = .ok (.if_icmp .lt 12, 3) := by decide +kernel
theorem dX11_readText_112 : decode cX11_readText 112 = .ok (.aload_n 0, 1) := by decide +kernel
theorem dX11_readText_113 : decode cX11_readText 113 = .ok (.iconst 4, 1) := by decide +kernel
theorem dX11_readText_114 : decode cX11_readText 114 = .ok (.aload_n 0, 1) := by decide +kernel
theorem dX11_readText_115 : decode cX11_readText 115 = .ok (.getfield 127, 3) := by decide +kernel
theorem dX11_readText_118 : decode cX11_readText 118 = .ok (.invokevirtual 153, 3) := by decide +kernel
theorem dX11_readText_121 : decode cX11_readText 121 = .ok (.aload_n 0, 1) := by decide +kernel
theorem dX11_readText_122 : decode cX11_readText 122 = .ok (.getfield 17, 3) := by decide +kernel
theorem dX11_readText_125 : decode cX11_readText 125 = .ok (.iconst 0, 1) := by decide +kernel
theorem dX11_readText_126 : decode cX11_readText 126 = .ok (.iload_n 2, 1) := by decide +kernel
theorem dX11_readText_127 : decode cX11_readText 127 = .ok (.ifCond .eq 10, 3) := by decide +kernel
theorem dX11_readText_130 : decode cX11_readText 130 = .ok (.aload_n 0, 1) := by decide +kernel
theorem dX11_readText_131 : decode cX11_readText 131 = .ok (.getfield 143, 3) := by decide +kernel
theorem dX11_readText_134 : decode cX11_readText 134 = .ok (.goto 4, 3) := by decide +kernel
theorem dX11_readText_137 : decode cX11_readText 137 = .ok (.iconst 1, 1) := by decide +kernel
theorem dX11_readText_138 : decode cX11_readText 138 = .ok (.iastore, 1) := by decide +kernel
theorem dX11_readText_139 : decode cX11_readText 139 = .ok (.aload_n 0, 1) := by decide +kernel
theorem dX11_readText_140 : decode cX11_readText 140 = .ok (.getfield 20, 3) := by decide +kernel
theorem dX11_readText_143 : decode cX11_readText 143 = .ok (.iconst 0, 1) := by decide +kernel
theorem dX11_readText_144 : decode cX11_readText 144 = .ok (.iload_n 2, 1) := by decide +kernel
theorem dX11_readText_145 : decode cX11_readText 145 = .ok (.ifCond .ne 10, 3) := by decide +kernel
theorem dX11_readText_148 : decode cX11_readText 148 = .ok (.aload_n 0, 1) := by decide +kernel
theorem dX11_readText_149 : decode cX11_readText 149 = .ok (.getfield 140, 3) := by decide +kernel
theorem dX11_readText_152 : decode cX11_readText 152 = .ok (.goto 18, 3) := by decide +kernel
theorem dX11_readText_155 : decode cX11_readText 155 = .ok (.aload_n 0, 1) := by decide +kernel
theorem dX11_readText_156 : decode cX11_readText 156 = .ok (.getfield 143, 3) := by decide +kernel
theorem dX11_readText_159 : decode cX11_readText 159 = .ok (.ifCond .le 10, 3) := by decide +kernel
theorem dX11_readText_162 : decode cX11_readText 162 = .ok (.aload_n 0, 1) := by decide +kernel
theorem dX11_readText_163 : decode cX11_readText 163 = .ok (.getfield 146, 3) := by decide +kernel
theorem dX11_readText_166 : decode cX11_readText 166 = .ok (.goto 4, 3) := by decide +kernel
theorem dX11_readText_169 : decode cX11_readText 169 = .ok (.iconst (-1), 1) := by decide +kernel
theorem dX11_readText_170 : decode cX11_readText 170 = .ok (.iastore, 1) := by decide +kernel
theorem dX11_readText_171 : decode cX11_readText 171 = .ok (.aload_n 0, 1) := by decide +kernel
theorem dX11_readText_172 : decode cX11_readText 172 = .ok (.getfield 17, 3) := by decide +kernel
theorem dX11_readText_175 : decode cX11_readText 175 = .ok (.iconst 0, 1) := by decide +kernel
theorem dX11_readText_176 : decode cX11_readText 176 = .ok (.iaload, 1) := by decide +kernel
theorem dX11_readText_177 : decode cX11_readText 177 = .ok (.ifCond .ne 7, 3) := by decide +kernel
theorem dX11_readText_180 : decode cX11_readText 180 = .ok (.iconst 1, 1) := by decide +kernel
theorem dX11_readText_181 : decode cX11_readText 181 = .ok (.goto 4, 3) := by decide +kernel
theorem dX11_readText_184 : decode cX11_readText 184 = .ok (.iconst 0, 1) := by decide +kernel
theorem dX11_readText_185 : decode cX11_readText 185 = .ok (.ireturn, 1) := by decide +kernel
theorem dX11_store_0 : decode cX11_store 0 = .ok (.iconst 0, 1) := by decide +kernel
theorem dX11_store_1 : decode cX11_store 1 = .ok (.istore 4, 2) := by decide +kernel
theorem dX11_store_3 : decode cX11_store 3 = .ok (.iload 4, 2) := by decide +kernel
theorem dX11_store_5 : decode cX11_store 5 = .ok (.iload_n 2, 1) := by decide +kernel
theorem dX11_store_6 : decode cX11_store 6 = .ok (.if_icmp .ge 24, 3) := by decide +kernel
theorem dX11_store_9 : decode cX11_store 9 = .ok (.aload_n 1, 1) := by decide +kernel
theorem dX11_store_10 : decode cX11_store 10 = .ok (.iload_n 2, 1) := by decide +kernel
theorem dX11_store_11 : decode cX11_store 11 = .ok (.iload_n 3, 1) := by decide +kernel
theorem dX11_store_12 : decode cX11_store 12 = .ok (.imul, 1) := by decide +kernel
theorem dX11_store_13 : decode cX11_store 13 = .ok (.iload 4, 2) := by decide +kernel
theorem dX11_store_15 : decode cX11_store 15 = .ok (.iadd, 1) := by decide +kernel
