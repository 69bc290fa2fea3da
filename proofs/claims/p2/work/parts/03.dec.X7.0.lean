theorem dX7_hear_0 : decode cX7_hear 0 = .ok (.aload_n 0, 1) := by decide +kernel
theorem dX7_hear_1 : decode cX7_hear 1 = .ok (.getfield 9, 3) := by decide +kernel
theorem dX7_hear_4 : decode cX7_hear 4 = .ok (.sipush 1000, 3) := by decide +kernel
theorem dX7_hear_7 : decode cX7_hear 7 = .ok (.invokestatic 36, 3) := by decide +kernel
theorem dX7_hear_10 : decode cX7_hear 10 = .ok (.iconst 0, 1) := by decide +kernel
theorem dX7_hear_11 : decode cX7_hear 11 = .ok (.istore_n 2, 1) := by decide +kernel
theorem dX7_hear_12 : decode cX7_hear 12 = .ok (.iload_n 2, 1) := by decide +kernel
theorem dX7_hear_13 : decode cX7_hear 13 = .ok (.aload_n 1, 1) := by decide +kernel
theorem dX7_hear_14 : decode cX7_hear 14 = .ok (.getfield 42, 3) := by decide +kernel
theorem dX7_hear_17 : decode cX7_hear 17 = .ok (.if_icmp .ge 74, 3) := by decide +kernel
theorem dX7_hear_20 : decode cX7_hear 20 = .ok (.iconst 0, 1) := by decide +kernel
theorem dX7_hear_21 : decode cX7_hear 21 = .ok (.istore_n 3, 1) := by decide +kernel
theorem dX7_hear_22 : decode cX7_hear 22 = .ok (.iload_n 3, 1) := by decide +kernel
theorem dX7_hear_23 : decode cX7_hear 23 = .ok (.aload_n 1, 1) := by decide +kernel
theorem dX7_hear_24 : decode cX7_hear 24 = .ok (.getfield 42, 3) := by decide +kernel
theorem dX7_hear_27 : decode cX7_hear 27 = .ok (.if_icmp .ge 40, 3) := by decide +kernel
theorem dX7_hear_30 : decode cX7_hear 30 = .ok (.aload_n 1, 1) := by decide +kernel
theorem dX7_hear_31 : decode cX7_hear 31 = .ok (.iload_n 2, 1) := by decide +kernel
theorem dX7_hear_32 : decode cX7_hear 32 = .ok (.iload_n 3, 1) := by decide +kernel
theorem dX7_hear_33 : decode cX7_hear 33 = .ok (.invokevirtual 48, 3) := by decide +kernel
theorem dX7_hear_36 : decode cX7_hear 36 = .ok (.ifCond .eq 25, 3) := by decide +kernel
theorem dX7_hear_39 : decode cX7_hear 39 = .ok (.aload_n 0, 1) := by decide +kernel
theorem dX7_hear_40 : decode cX7_hear 40 = .ok (.getfield 9, 3) := by decide +kernel
theorem dX7_hear_43 : decode cX7_hear 43 = .ok (.iload_n 2, 1) := by decide +kernel
theorem dX7_hear_44 : decode cX7_hear 44 = .ok (.bipush 9, 2) := by decide +kernel
theorem dX7_hear_46 : decode cX7_hear 46 = .ok (.imul, 1) := by decide +kernel
theorem dX7_hear_47 : decode cX7_hear 47 = .ok (.iload_n 3, 1) := by decide +kernel
theorem dX7_hear_48 : decode cX7_hear 48 = .ok (.iadd, 1) := by decide +kernel
theorem dX7_hear_49 : decode cX7_hear 49 = .ok (.aload_n 1, 1) := by decide +kernel
theorem dX7_hear_50 : decode cX7_hear 50 = .ok (.getfield 52, 3) := by decide +kernel
theorem dX7_hear_53 : decode cX7_hear 53 = .ok (.iload_n 2, 1) := by decide +kernel
theorem dX7_hear_54 : decode cX7_hear 54 = .ok (.bipush 9, 2) := by decide +kernel
theorem dX7_hear_56 : decode cX7_hear 56 = .ok (.imul, 1) := by decide +kernel
theorem dX7_hear_57 : decode cX7_hear 57 = .ok (.iload_n 3, 1) := by decide +kernel
theorem dX7_hear_58 : decode cX7_hear 58 = .ok (.iadd, 1) := by decide +kernel
theorem dX7_hear_59 : decode cX7_hear 59 = .ok (.iaload, 1) := by decide +kernel
theorem dX7_hear_60 : decode cX7_hear 60 = .ok (.iastore, 1) := by decide +kernel
theorem dX7_hear_61 : decode cX7_hear 61 = .ok (.iinc 3 1, 3) := by decide +kernel
theorem dX7_hear_64 : decode cX7_hear 64 = .ok (.goto (-42), 3) := by decide +kernel
theorem dX7_hear_67 : decode cX7_hear 67 = .ok (.aload_n 1, 1) := by decide +kernel
theorem dX7_hear_68 : decode cX7_hear 68 = .ok (.iload_n 2, 1) := by decide +kernel
theorem dX7_hear_69 : decode cX7_hear 69 = .ok (.invokevirtual 55, 3) := by decide +kernel
theorem dX7_hear_72 : decode cX7_hear 72 = .ok (.ifCond .ne 13, 3) := by decide +kernel
theorem dX7_hear_75 : decode cX7_hear 75 = .ok (.aload_n 0, 1) := by decide +kernel
theorem dX7_hear_76 : decode cX7_hear 76 = .ok (.iload_n 2, 1) := by decide +kernel
theorem dX7_hear_77 : decode cX7_hear 77 = .ok (.aload_n 1, 1) := by decide +kernel
theorem dX7_hear_78 : decode cX7_hear 78 = .ok (.iload_n 2, 1) := by decide +kernel
theorem dX7_hear_79 : decode cX7_hear 79 = .ok (.invokevirtual 59, 3) := by decide +kernel
theorem dX7_hear_82 : decode cX7_hear 82 = .ok (.invokevirtual 63, 3) := by decide +kernel
theorem dX7_hear_85 : decode cX7_hear 85 = .ok (.iinc 2 1, 3) := by decide +kernel
theorem dX7_hear_88 : decode cX7_hear 88 = .ok (.goto (-76), 3) := by decide +kernel
theorem dX7_hear_91 : decode cX7_hear 91 = .ok (.aload_n 0, 1) := by decide +kernel
theorem dX7_hear_92 : decode cX7_hear 92 = .ok (.getfield 9, 3) := by decide +kernel
theorem dX7_hear_95 : decode cX7_hear 95 = .ok (.aload_n 1, 1) := by decide +kernel
theorem dX7_hear_96 : decode cX7_hear 96 = .ok (.getfield 42, 3) := by decide +kernel
theorem dX7_hear_99 : decode cX7_hear 99 = .ok (.invokestatic 67, 3) := by decide +kernel
theorem dX7_hear_102 : decode cX7_hear 102 = .ok (.return_, 1) := by decide +kernel
theorem dX7_markAtOnce_0 : decode cX7_markAtOnce 0 = .ok (.iconst 0, 1) := by decide +kernel
theorem dX7_markAtOnce_1 : decode cX7_markAtOnce 1 = .ok (.istore_n 3, 1) := by decide +kernel
theorem dX7_markAtOnce_2 : decode cX7_markAtOnce 2 = .ok (.iload_n 3, 1) := by decide +kernel
theorem dX7_markAtOnce_3 : decode cX7_markAtOnce 3 = .ok (.bipush 9, 2) := by decide +kernel
theorem dX7_markAtOnce_5 : decode cX7_markAtOnce 5 = .ok (.if_icmp .ge 29, 3) := by decide +kernel
theorem dX7_markAtOnce_8 : decode cX7_markAtOnce 8 = .ok (.iload_n 2, 1) := by decide +kernel
theorem dX7_markAtOnce_9 : decode cX7_markAtOnce 9 = .ok (.iload_n 3, 1) := by decide +kernel
theorem dX7_markAtOnce_10 : decode cX7_markAtOnce 10 = .ok (.invokestatic 70, 3) := by decide +kernel
theorem dX7_markAtOnce_13 : decode cX7_markAtOnce 13 = .ok (.ifCond .eq 15, 3) := by decide +kernel
theorem dX7_markAtOnce_16 : decode cX7_markAtOnce 16 = .ok (.aload_n 0, 1) := by decide +kernel
theorem dX7_markAtOnce_17 : decode cX7_markAtOnce 17 = .ok (.getfield 9, 3) := by decide +kernel
theorem dX7_markAtOnce_20 : decode cX7_markAtOnce 20 = .ok (.iload_n 1, 1) := by decide +kernel
theorem dX7_markAtOnce_21 : decode cX7_markAtOnce 21 = .ok (.bipush 9, 2) := by decide +kernel
theorem dX7_markAtOnce_23 : decode cX7_markAtOnce 23 = .ok (.imul, 1) := by decide +kernel
theorem dX7_markAtOnce_24 : decode cX7_markAtOnce 24 = .ok (.iload_n 3, 1) := by decide +kernel
theorem dX7_markAtOnce_25 : decode cX7_markAtOnce 25 = .ok (.iadd, 1) := by decide +kernel
theorem dX7_markAtOnce_26 : decode cX7_markAtOnce 26 = .ok (.iconst 0, 1) := by decide +kernel
theorem dX7_markAtOnce_27 : decode cX7_markAtOnce 27 = .ok (.iastore, 1) := by decide +kernel
theorem dX7_markAtOnce_28 : decode cX7_markAtOnce 28 = .ok (.iinc 3 1, 3) := by decide +kernel
theorem dX7_markAtOnce_31 : decode cX7_markAtOnce 31 = .ok (.goto (-29), 3) := by decide +kernel
theorem dX7_markAtOnce_34 : decode cX7_markAtOnce 34 = .ok (.return_, 1) := by decide +kernel
theorem dX7_walk_0 : decode cX7_walk 0 = .ok (.aload_n 0, 1) := by decide +kernel
theorem dX7_walk_1 : decode cX7_walk 1 = .ok (.getfield 15, 3) := by decide +kernel
theorem dX7_walk_4 : decode cX7_walk 4 = .ok (.sipush 1000, 3) := by decide +kernel
theorem dX7_walk_7 : decode cX7_walk 7 = .ok (.invokestatic 36, 3) := by decide +kernel
theorem dX7_walk_10 : decode cX7_walk 10 = .ok (.iconst 0, 1) := by decide +kernel
theorem dX7_walk_11 : decode cX7_walk 11 = .ok (.istore_n 2, 1) := by decide +kernel
theorem dX7_walk_12 : decode cX7_walk 12 = .ok (.iload_n 2, 1) := by decide +kernel
theorem dX7_walk_13 : decode cX7_walk 13 = .ok (.aload_n 1, 1) := by decide +kernel
theorem dX7_walk_14 : decode cX7_walk 14 = .ok (.getfield 42, 3) := by decide +kernel
theorem dX7_walk_17 : decode cX7_walk 17 = .ok (.if_icmp .ge 68, 3) := by decide +kernel
theorem dX7_walk_20 : decode cX7_walk 20 = .ok (.iconst 0, 1) := by decide +kernel
theorem dX7_walk_21 : decode cX7_walk 21 = .ok (.istore_n 3, 1) := by decide +kernel
theorem dX7_walk_22 : decode cX7_walk 22 = .ok (.iload_n 3, 1) := by decide +kernel
theorem dX7_walk_23 : decode cX7_walk 23 = .ok (.aload_n 1, 1) := by decide +kernel
theorem dX7_walk_24 : decode cX7_walk 24 = .ok (.getfield 42, 3) := by decide +kernel
theorem dX7_walk_27 : decode cX7_walk 27 = .ok (.if_icmp .ge 40, 3) := by decide +kernel
theorem dX7_walk_30 : decode cX7_walk 30 = .ok (.aload_n 1, 1) := by decide +kernel
theorem dX7_walk_31 : decode cX7_walk 31 = .ok (.getfield 52, 3) := by decide +kernel
theorem dX7_walk_34 : decode cX7_walk 34 = .ok (.iload_n 2, 1) := by decide +kernel
theorem dX7_walk_35 : decode cX7_walk 35 = .ok (.bipush 9, 2) := by decide +kernel
theorem dX7_walk_37 : decode cX7_walk 37 = .ok (.imul, 1) := by decide +kernel
theorem dX7_walk_38 : decode cX7_walk 38 = .ok (.iload_n 3, 1) := by decide +kernel
theorem dX7_walk_39 : decode cX7_walk 39 = .ok (.iadd, 1) := by decide +kernel
theorem dX7_walk_40 : decode cX7_walk 40 = .ok (.iaload, 1) := by decide +kernel
theorem dX7_walk_41 : decode cX7_walk 41 = .ok (.istore 4, 2) := by decide +kernel
theorem dX7_walk_43 : decode cX7_walk 43 = .ok (.iload 4, 2) := by decide +kernel
theorem dX7_walk_45 : decode cX7_walk 45 = .ok (.ifCond .le 16, 3) := by decide +kernel
theorem dX7_walk_48 : decode cX7_walk 48 = .ok (.aload_n 0, 1) := by decide +kernel
theorem dX7_walk_49 : decode cX7_walk 49 = .ok (.getfield 15, 3) := by decide +kernel
theorem dX7_walk_52 : decode cX7_walk 52 = .ok (.iload_n 2, 1) := by decide +kernel
theorem dX7_walk_53 : decode cX7_walk 53 = .ok (.bipush 9, 2) := by decide +kernel
theorem dX7_walk_55 : decode cX7_walk 55 = .ok (.imul, 1) := by decide +kernel
theorem dX7_walk_56 : decode cX7_walk 56 = .ok (.iload_n 3, 1) := by decide +kernel
theorem dX7_walk_57 : decode cX7_walk 57 = .ok (.iadd, 1) := by decide +kernel
theorem dX7_walk_58 : decode cX7_walk 58 = .ok (.iload 4, 2) := by decide +kernel
theorem dX7_walk_60 : decode cX7_walk 60 = .ok (.iastore, 1) := by decide +kernel
theorem dX7_walk_61 : decode cX7_walk 61 = .ok (.iinc 3 1, 3) := by decide +kernel
theorem dX7_walk_64 : decode cX7_walk 64 = .ok (.goto (-42), 3) := by decide +kernel
theorem dX7_walk_67 : decode cX7_walk 67 = .ok (.aload_n 0, 1) := by decide +kernel
theorem dX7_walk_68 : decode cX7_walk 68 = .ok (.getfield 15, 3) := by decide +kernel
theorem dX7_walk_71 : decode cX7_walk 71 = .ok (.iload_n 2, 1) := by decide +kernel
theorem dX7_walk_72 : decode cX7_walk 72 = .ok (.bipush 9, 2) := by decide +kernel
theorem dX7_walk_74 : decode cX7_walk 74 = .ok (.imul, 1) := by decide +kernel
theorem dX7_walk_75 : decode cX7_walk 75 = .ok (.iload_n 2, 1) := by decide +kernel
theorem dX7_walk_76 : decode cX7_walk 76 = .ok (.iadd, 1) := by decide +kernel
theorem dX7_walk_77 : decode cX7_walk 77 = .ok (.iconst 0, 1) := by decide +kernel
theorem dX7_walk_78 : decode cX7_walk 78 = .ok (.iastore, 1) := by decide +kernel
theorem dX7_walk_79 : decode cX7_walk 79 = .ok (.iinc 2 1, 3) := by decide +kernel
theorem dX7_walk_82 : decode cX7_walk 82 = .ok (.goto (-70), 3) := by decide +kernel
theorem dX7_walk_85 : decode cX7_walk 85 = .ok (.aload_n 0, 1) := by decide +kernel
theorem dX7_walk_86 : decode cX7_walk 86 = .ok (.getfield 15, 3) := by decide +kernel
theorem dX7_walk_89 : decode cX7_walk 89 = .ok (.aload_n 1, 1) := by decide +kernel
theorem dX7_walk_90 : decode cX7_walk 90 = .ok (.getfield 42, 3) := by decide +kernel
theorem dX7_walk_93 : decode cX7_walk 93 = .ok (.invokestatic 67, 3) := by decide +kernel
theorem dX7_walk_96 : decode cX7_walk 96 = .ok (.return_, 1) := by decide +kernel
theorem dX7_shorten_0 : decode cX7_shorten 0 = .ok (.iconst 0, 1) := by decide +kernel
theorem dX7_shorten_1 : decode cX7_shorten 1 = .ok (.istore_n 2, 1) := by decide +kernel
theorem dX7_shorten_2 : decode cX7_shorten 2 = .ok (.iload_n 2, 1) := by decide +kernel
theorem dX7_shorten_3 : decode cX7_shorten 3 = .ok (.iload_n 1, 1) := by decide +kernel
theorem dX7_shorten_4 : decode cX7_shorten 4 = .ok (.if_icmp .ge 94, 3) := by decide +kernel
theorem dX7_shorten_7 : decode cX7_shorten 7 = .ok (.iconst 0, 1) := by decide +kernel
theorem dX7_shorten_8 : decode cX7_shorten 8 = .ok (.istore_n 3, 1) := by decide +kernel
theorem dX7_shorten_9 : decode cX7_shorten 9 = .ok (.iload_n 3, 1) := by decide +kernel
theorem dX7_shorten_10 : decode cX7_shorten 10 = .ok (.iload_n 1, 1) := by decide +kernel
theorem dX7_shorten_11 : decode cX7_shorten 11 = .ok (.if_icmp .ge 81, 3) := by decide +kernel
theorem dX7_shorten_14 : decode cX7_shorten 14 = .ok (.aload_n 0, 1) := by decide +kernel
theorem dX7_shorten_15 : decode cX7_shorten 15 = .ok (.iload_n 3, 1) := by decide +kernel
theorem dX7_shorten_16 : decode cX7_shorten 16 = .ok (.bipush 9, 2) := by decide +kernel
theorem dX7_shorten_18 : decode cX7_shorten 18 = .ok (.imul, 1) := by decide +kernel
theorem dX7_shorten_19 : decode cX7_shorten 19 = .ok (.iload_n 2, 1) := by decide +kernel
theorem dX7_shorten_20 : decode cX7_shorten 20 = .ok (.iadd, 1) := by decide +kernel
theorem dX7_shorten_21 : decode cX7_shorten 21 = .ok (.iaload, 1) := by decide +kernel
theorem dX7_shorten_22 : decode cX7_shorten 22 = .ok (.istore 4, 2) := by decide +kernel
theorem dX7_shorten_24 : decode cX7_shorten 24 = .ok (.iconst 0, 1) := by decide +kernel
theorem dX7_shorten_25 : decode cX7_shorten 25 = .ok (.istore 5, 2) := by decide +kernel
theorem dX7_shorten_27 : decode cX7_shorten 27 = .ok (.iload 5, 2) := by decide +kernel
theorem dX7_shorten_29 : decode cX7_shorten 29 = .ok (.iload_n 1, 1) := by decide +kernel
theorem dX7_shorten_30 : decode cX7_shorten 30 = .ok (.if_icmp .ge 56, 3) := by decide +kernel
theorem dX7_shorten_33 : decode cX7_shorten 33 = .ok (.iload 4, 2) := by decide +kernel
theorem dX7_shorten_35 : decode cX7_shorten 35 = .ok (.sipush 1000, 3) := by decide +kernel
theorem dX7_shorten_38 : decode cX7_shorten 38 = .ok (.if_icmp .ge 48, 3) := by decide +kernel
theorem dX7_shorten_41 : decode cX7_shorten 41 = .ok (.iload 4, 2) := by decide +kernel
theorem dX7_shorten_43 : decode cX7_shorten 43 = .ok (.aload_n 0, 1) := by decide +kernel
theorem dX7_shorten_44 : decode cX7_shorten 44 = .ok (.iload_n 2, 1) := by decide +kernel
theorem dX7_shorten_45 : decode cX7_shorten 45 = .ok (.bipush 9, 2) := by decide +kernel
theorem dX7_shorten_47 : decode cX7_shorten 47 = .ok (.imul, 1) := by decide +kernel
theorem dX7_shorten_48 : decode cX7_shorten 48 = .ok (.iload 5, 2) := by decide +kernel
theorem dX7_shorten_50 : decode cX7_shorten 50 = .ok (.iadd, 1) := by decide +kernel
theorem dX7_shorten_51 : decode cX7_shorten 51 = .ok (.iaload, 1) := by decide +kernel
theorem dX7_shorten_52 : decode cX7_shorten 52 = .ok (.iadd, 1) := by decide +kernel
theorem dX7_shorten_53 : decode cX7_shorten 53 = .ok (.istore 6, 2) := by decide +kernel
theorem dX7_shorten_55 : decode cX7_shorten 55 = .ok (.iload 6, 2) := by decide +kernel
theorem dX7_shorten_57 : decode cX7_shorten 57 = .ok (.aload_n 0, 1) := by decide +kernel
theorem dX7_shorten_58 : decode cX7_shorten 58 = .ok (.iload_n 3, 1) := by decide +kernel
theorem dX7_shorten_59 : decode cX7_shorten 59 = .ok (.bipush 9, 2) := by decide +kernel
theorem dX7_shorten_61 : decode cX7_shorten 61 = .ok (.imul, 1) := by decide +kernel
theorem dX7_shorten_62 : decode cX7_shorten 62 = .ok (.iload 5, 2) := by decide +kernel
theorem dX7_shorten_64 : decode cX7_shorten 64 = .ok (.iadd, 1) := by decide +kernel
theorem dX7_shorten_65 : decode cX7_shorten 65 = .ok (.iaload, 1) := by decide +kernel
theorem dX7_shorten_66 : decode cX7_shorten 66 = .ok (.if_icmp .ge 14, 3) := by decide +kernel
theorem dX7_shorten_69 : decode cX7_shorten 69 = .ok (.aload_n 0, 1) := by decide +kernel
theorem dX7_shorten_70 : decode cX7_shorten 70 = .ok (.iload_n 3, 1) := by decide +kernel
theorem dX7_shorten_71 : decode cX7_shorten 71 = .ok (.bipush 9, 2) := by decide +kernel
theorem dX7_shorten_73 : decode cX7_shorten 73 = .ok (.imul, 1) := by decide +kernel
theorem dX7_shorten_74 : decode cX7_shorten 74 = .ok (.iload 5, 2) := by decide +kernel
theorem dX7_shorten_76 : decode cX7_shorten 76 = .ok (.iadd, 1) := by decide +kernel
theorem dX7_shorten_77 : decode cX7_shorten 77 = .ok (.iload 6, 2) := by decide +kernel
theorem dX7_shorten_79 : decode cX7_shorten 79 = .ok (.iastore, 1) := by decide +kernel
theorem dX7_shorten_80 : decode cX7_shorten 80 = .ok (.iinc 5 1, 3) := by decide +kernel
theorem dX7_shorten_83 : decode cX7_shorten 83 = .ok (.goto (-56), 3) := by decide +kernel
theorem dX7_shorten_86 : decode cX7_shorten 86 = .ok (.iinc 3 1, 3) := by decide +kernel
theorem dX7_shorten_89 : decode cX7_shorten 89 = .ok (.goto (-80), 3) := by decide +kernel
theorem dX7_shorten_92 : decode cX7_shorten 92 = .ok (.iinc 2 1, 3) := by decide +kernel
theorem dX7_shorten_95 : decode cX7_shorten 95 = .ok (.goto (-93), 3) := by decide +kernel
theorem dX7_shorten_98 : decode cX7_shorten 98 = .ok (.return_, 1) := by decide +kernel
theorem dX7_link_0 : decode cX7_link 0 = .ok (.iconst 0, 1) := by decide +kernel
theorem dX7_link_1 : decode cX7_link 1 = .ok (.istore_n 2, 1) := by decide +kernel
theorem dX7_link_2 : decode cX7_link 2 = .ok (.iload_n 2, 1) := by decide +kernel
theorem dX7_link_3 : decode cX7_link 3 = .ok (.aload_n 1, 1) := by decide +kernel
theorem dX7_link_4 : decode cX7_link 4 = .ok (.getfield 42, 3) := by decide +kernel
theorem dX7_link_7 : decode cX7_link 7 = .ok (.if_icmp .ge 69, 3) := by decide +kernel
theorem dX7_link_10 : decode cX7_link 10 = .ok (.aload_n 0, 1) := by decide +kernel
theorem dX7_link_11 : decode cX7_link 11 = .ok (.getfield 24, 3) := by decide +kernel
theorem dX7_link_14 : decode cX7_link 14 = .ok (.iload_n 2, 1) := by decide +kernel
theorem dX7_link_15 : decode cX7_link 15 = .ok (.aload_n 1, 1) := by decide +kernel
theorem dX7_link_16 : decode cX7_link 16 = .ok (.iload_n 2, 1) := by decide +kernel
theorem dX7_link_17 : decode cX7_link 17 = .ok (.invokevirtual 55, 3) := by decide +kernel
theorem dX7_link_20 : decode cX7_link 20 = .ok (.ifCond .eq 7, 3) := by decide +kernel
theorem dX7_link_23 : decode cX7_link 23 = .ok (.iconst 0, 1) := by decide +kernel
theorem dX7_link_24 : decode cX7_link 24 = .ok (.goto 8, 3) := by decide +kernel
theorem dX7_link_27 : decode cX7_link 27 = .ok (.aload_n 1, 1) := by decide +kernel
theorem dX7_link_28 : decode cX7_link 28 = .ok (.iload_n 2, 1) := by decide +kernel
theorem dX7_link_29 : decode cX7_link 29 = .ok (.invokevirtual 59, 3) := by decide +kernel
theorem dX7_link_32 : decode cX7_link 32 = .ok (.iastore, 1) := by decide +kernel
theorem dX7_link_33 : decode cX7_link 33 = .ok (.iconst 0, 1) := by decide +kernel
theorem dX7_link_34 : decode cX7_link 34 = .ok (.istore_n 3, 1) := by decide +kernel
theorem dX7_link_35 : decode cX7_link 35 = .ok (.iload_n 3, 1) := by decide +kernel
theorem dX7_link_36 : decode cX7_link 36 = .ok (.aload_n 1, 1) := by decide +kernel
theorem dX7_link_37 : decode cX7_link 37 = .ok (.getfield 42, 3) := by decide +kernel
theorem dX7_link_40 : decode cX7_link 40 = .ok (.if_icmp .ge 30, 3) := by decide +kernel
theorem dX7_link_43 : decode cX7_link 43 = .ok (.aload_n 1, 1) := by decide +kernel
theorem dX7_link_44 : decode cX7_link 44 = .ok (.iload_n 2, 1) := by decide +kernel
theorem dX7_link_45 : decode cX7_link 45 = .ok (.iload_n 3, 1) := by decide +kernel
theorem dX7_link_46 : decode cX7_link 46 = .ok (.invokevirtual 48, 3) := by decide +kernel
theorem dX7_link_49 : decode cX7_link 49 = .ok (.ifCond .eq 15, 3) := by decide +kernel
theorem dX7_link_52 : decode cX7_link 52 = .ok (.aload_n 0, 1) := by decide +kernel
theorem dX7_link_53 : decode cX7_link 53 = .ok (.getfield 24, 3) := by decide +kernel
theorem dX7_link_56 : decode cX7_link 56 = .ok (.iload_n 2, 1) := by decide +kernel
theorem dX7_link_57 : decode cX7_link 57 = .ok (.dup2, 1) := by decide +kernel
theorem dX7_link_58 : decode cX7_link 58 = .ok (.iaload, 1) := by decide +kernel
theorem dX7_link_59 : decode cX7_link 59 = .ok (.iconst 1, 1) := by decide +kernel
theorem dX7_link_60 : decode cX7_link 60 = .ok (.iload_n 3, 1) := by decide +kernel
theorem dX7_link_61 : decode cX7_link 61 = .ok (.ishl, 1) := by decide +kernel
theorem dX7_link_62 : decode cX7_link 62 = .ok (.ior, 1) := by decide +kernel
theorem dX7_link_63 : decode cX7_link 63 = .ok (.iastore, 1) := by decide +kernel
theorem dX7_link_64 : decode cX7_link 64 = .ok (.iinc 3 1, 3) := by decide +kernel
theorem dX7_link_67 : decode cX7_link 67 = .ok (.goto (-32), 3) := by decide +kernel
theorem dX7_link_70 : decode cX7_link 70 = .ok (.iinc 2 1, 3) := by decide +kernel
theorem dX7_link_73 : decode cX7_link 73 = .ok (.goto (-71), 3) := by decide +kernel
theorem dX7_link_76 : decode cX7_link 76 = .ok (.return_, 1) := by decide +kernel
theorem dX7_reach_0 : decode cX7_reach 0 = .ok (.iconst 1, 1) := by decide +kernel
theorem dX7_reach_1 : decode cX7_reach 1 = .ok (.iload_n 0, 1) := by decide +kernel
theorem dX7_reach_2 : decode cX7_reach 2 = .ok (.ishl, 1) := by decide +kernel
theorem dX7_reach_3 : decode cX7_reach 3 = .ok (.istore_n 3, 1) := by decide +kernel
theorem dX7_reach_4 : decode cX7_reach 4 = .ok (.iconst 0, 1) := by decide +kernel
theorem dX7_reach_5 : decode cX7_reach 5 = .ok (.istore 4, 2) := by decide +kernel
theorem dX7_reach_7 : decode cX7_reach 7 = .ok (.iload 4, 2) := by decide +kernel
theorem dX7_reach_9 : decode cX7_reach 9 = .ok (.bipush 9, 2) := by decide +kernel
theorem dX7_reach_11 : decode cX7_reach 11 = .ok (.if_icmp .ge 61, 3) := by decide +kernel
theorem dX7_reach_14 : decode cX7_reach 14 = .ok (.iload_n 3, 1) := by decide +kernel
theorem dX7_reach_15 : decode cX7_reach 15 = .ok (.istore 5, 2) := by decide +kernel
theorem dX7_reach_17 : decode cX7_reach 17 = .ok (.iconst 0, 1) := by decide +kernel
theorem dX7_reach_18 : decode cX7_reach 18 = .ok (.istore 6, 2) := by decide +kernel
theorem dX7_reach_20 : decode cX7_reach 20 = .ok (.iload 6, 2) := by decide +kernel
theorem dX7_reach_22 : decode cX7_reach 22 = .ok (.bipush 9, 2) := by decide +kernel
theorem dX7_reach_24 : decode cX7_reach 24 = .ok (.if_icmp .ge 31, 3) := by decide +kernel
theorem dX7_reach_27 : decode cX7_reach 27 = .ok (.iload_n 3, 1) := by decide +kernel
theorem dX7_reach_28 : decode cX7_reach 28 = .ok (.iload 6, 2) := by decide +kernel
theorem dX7_reach_30 : decode cX7_reach 30 = .ok (.invokestatic 70, 3) := by decide +kernel
theorem dX7_reach_33 : decode cX7_reach 33 = .ok (.ifCond .eq 16, 3) := by decide +kernel
theorem dX7_reach_36 : decode cX7_reach 36 = .ok (.iload 5, 2) := by decide +kernel
theorem dX7_reach_38 : decode cX7_reach 38 = .ok (.aload_n 1, 1) := by decide +kernel
theorem dX7_reach_39 : decode cX7_reach 39 = .ok (.iload 6, 2) := by decide +kernel
theorem dX7_reach_41 : decode cX7_reach 41 = .ok (.iaload, 1) := by decide +kernel
theorem dX7_reach_42 : decode cX7_reach 42 = .ok (.iload_n 2, 1) := by decide +kernel
theorem dX7_reach_43 : decode cX7_reach 43 = .ok (.iconst (-1), 1) := by decide +kernel
theorem dX7_reach_44 : decode cX7_reach 44 = .ok (.ixor, 1) := by decide +kernel
theorem dX7_reach_45 : decode cX7_reach 45 = .ok (.iand, 1) := by decide +kernel
theorem dX7_reach_46 : decode cX7_reach 46 = .ok (.ior, 1) := by decide +kernel
theorem dX7_reach_47 : decode cX7_reach 47 = .ok (.istore 5, 2) := by decide +kernel
theorem dX7_reach_49 : decode cX7_reach 49 = .ok (.iinc 6 1, 3) := by decide +kernel
theorem dX7_reach_52 : decode cX7_reach 52 = .ok (.goto (-32), 3) := by decide +kernel
theorem dX7_reach_55 : decode cX7_reach 55 = .ok (.iload 5, 2) := by decide +kernel
theorem dX7_reach_57 : decode cX7_reach 57 = .ok (.iload_n 3, 1) := by decide +kernel
theorem dX7_reach_58 : decode cX7_reach 58 = .ok (.if_icmp .ne 5, 3) := by decide +kernel
theorem dX7_reach_61 : decode cX7_reach 61 = .ok (.iload_n 3, 1) := by decide +kernel
theorem dX7_reach_62 : decode cX7_reach 62 = .ok (.ireturn, 1) := by decide +kernel
theorem dX7_reach_63 : decode cX7_reach 63 = .ok (.iload 5, 2) := by decide +kernel
theorem dX7_reach_65 : decode cX7_reach 65 = .ok (.istore_n 3, 1) := by decide +kernel
theorem dX7_reach_66 : decode cX7_reach 66 = .ok (.iinc 4 1, 3) := by decide +kernel
theorem dX7_reach_69 : decode cX7_reach 69 = .ok (.goto (-62), 3) := by decide +kernel
theorem dX7_reach_72 : decode cX7_reach 72 = .ok (.iload_n 3, 1) := by decide +kernel
theorem dX7_reach_73 : decode cX7_reach 73 = .ok (.ireturn, 1) := by decide +kernel
theorem dX7_lastVillage_0 : decode cX7_lastVillage 0 = .ok (.iconst 0, 1) := by decide +kernel
theorem dX7_lastVillage_1 : decode cX7_lastVillage 1 = .ok (.istore_n 3, 1) := by decide +kernel
theorem dX7_lastVillage_2 : decode cX7_lastVillage 2 = .ok (.iconst 0, 1) := by decide +kernel
theorem dX7_lastVillage_3 : decode cX7_lastVillage 3 = .ok (.istore 4, 2) := by decide +kernel
theorem dX7_lastVillage_5 : decode cX7_lastVillage 5 = .ok (.iload 4, 2) := by decide +kernel
theorem dX7_lastVillage_7 : decode cX7_lastVillage 7 = .ok (.aload_n 1, 1) := by decide +kernel
theorem dX7_lastVillage_8 : decode cX7_lastVillage 8 = .ok (.getfield 42, 3) := by decide +kernel
theorem dX7_lastVillage_11 : decode cX7_lastVillage 11 = .ok (.if_icmp .ge 47, 3) := by decide +kernel
theorem dX7_lastVillage_14 : decode cX7_lastVillage 14 = .ok (.aload_n 1, 1) := by decide +kernel
theorem dX7_lastVillage_15 : decode cX7_lastVillage 15 = .ok (.getfield 73, 3) := by decide +kernel
theorem dX7_lastVillage_18 : decode cX7_lastVillage 18 = .ok (.iload 4, 2) := by decide +kernel
theorem dX7_lastVillage_20 : decode cX7_lastVillage 20 = .ok (.invokestatic 70, 3) := by decide +kernel
theorem dX7_lastVillage_23 : decode cX7_lastVillage 23 = .ok (.ifCond .eq 29, 3) := by decide +kernel
theorem dX7_lastVillage_26 : decode cX7_lastVillage 26 = .ok (.aload_n 1, 1) := by decide +kernel
theorem dX7_lastVillage_27 : decode cX7_lastVillage 27 = .ok (.iload 4, 2) := by decide +kernel
theorem dX7_lastVillage_29 : decode cX7_lastVillage 29 = .ok (.invokevirtual 55, 3) := by decide +kernel
theorem dX7_lastVillage_32 : decode cX7_lastVillage 32 = .ok (.ifCond .ne 20, 3) := by decide +kernel
theorem dX7_lastVillage_35 : decode cX7_lastVillage 35 = .ok (.iload_n 3, 1) := by decide +kernel
theorem dX7_lastVillage_36 : decode cX7_lastVillage 36 = .ok (.aload_n 0, 1) := by decide +kernel
theorem dX7_lastVillage_37 : decode cX7_lastVillage 37 = .ok (.getfield 9, 3) := by decide +kernel
theorem dX7_lastVillage_40 : decode cX7_lastVillage 40 = .ok (.iload_n 2, 1) := by decide +kernel
theorem dX7_lastVillage_41 : decode cX7_lastVillage 41 = .ok (.bipush 9, 2) := by decide +kernel
theorem dX7_lastVillage_43 : decode cX7_lastVillage 43 = .ok (.imul, 1) := by decide +kernel
theorem dX7_lastVillage_44 : decode cX7_lastVillage 44 = .ok (.iload 4, 2) := by decide +kernel
theorem dX7_lastVillage_46 : decode cX7_lastVillage 46 = .ok (.iadd, 1) := by decide +kernel
theorem dX7_lastVillage_47 : decode cX7_lastVillage 47 = .ok (.iaload, 1) := by decide +kernel
theorem dX7_lastVillage_48 : decode cX7_lastVillage 48 = .ok (.invokestatic 76, 3) := by decide +kernel
theorem dX7_lastVillage_51 : decode cX7_lastVillage 51 = .ok (.istore_n 3, 1) := by decide +kernel
theorem dX7_lastVillage_52 : decode cX7_lastVillage 52 = .ok (.iinc 4 1, 3) := by decide +kernel
theorem dX7_lastVillage_55 : decode cX7_lastVillage 55 = .ok (.goto (-50), 3) := by decide +kernel
theorem dX7_lastVillage_58 : decode cX7_lastVillage 58 = .ok (.iload_n 3, 1) := by decide +kernel
theorem dX7_lastVillage_59 : decode cX7_lastVillage 59 = .ok (.ireturn, 1) := by decide +kernel
theorem dX7_allBy_0 : decode cX7_allBy 0 = .ok (.iconst 0, 1) := by decide +kernel
theorem dX7_allBy_1 : decode cX7_allBy 1 = .ok (.istore_n 3, 1) := by decide +kernel
theorem dX7_allBy_2 : decode cX7_allBy 2 = .ok (.iconst 0, 1) := by decide +kernel
theorem dX7_allBy_3 : decode cX7_allBy 3 = .ok (.istore 4, 2) := by decide +kernel
theorem dX7_allBy_5 : decode cX7_allBy 5 = .ok (.iload 4, 2) := by decide +kernel
theorem dX7_allBy_7 : decode cX7_allBy 7 = .ok (.aload_n 1, 1) := by decide +kernel
theorem dX7_allBy_8 : decode cX7_allBy 8 = .ok (.getfield 42, 3) := by decide +kernel
theorem dX7_allBy_11 : decode cX7_allBy 11 = .ok (.if_icmp .ge 36, 3) := by decide +kernel
theorem dX7_allBy_14 : decode cX7_allBy 14 = .ok (.aload_n 1, 1) := by decide +kernel
theorem dX7_allBy_15 : decode cX7_allBy 15 = .ok (.iload 4, 2) := by decide +kernel
theorem dX7_allBy_17 : decode cX7_allBy 17 = .ok (.invokevirtual 55, 3) := by decide +kernel
theorem dX7_allBy_20 : decode cX7_allBy 20 = .ok (.ifCond .ne 21, 3) := by decide +kernel
theorem dX7_allBy_23 : decode cX7_allBy 23 = .ok (.aload_n 0, 1) := by decide +kernel
theorem dX7_allBy_24 : decode cX7_allBy 24 = .ok (.aload_n 1, 1) := by decide +kernel
theorem dX7_allBy_25 : decode cX7_allBy 25 = .ok (.iload 4, 2) := by decide +kernel
theorem dX7_allBy_27 : decode cX7_allBy 27 = .ok (.invokevirtual 82, 3) := by decide +kernel
theorem dX7_allBy_30 : decode cX7_allBy 30 = .ok (.iload_n 2, 1) := by decide +kernel
theorem dX7_allBy_31 : decode cX7_allBy 31 = .ok (.if_icmp .gt 10, 3) := by decide +kernel
theorem dX7_allBy_34 : decode cX7_allBy 34 = .ok (.iload_n 3, 1) := by decide +kernel
theorem dX7_allBy_35 : decode cX7_allBy 35 = .ok (.iconst 1, 1) := by decide +kernel
theorem dX7_allBy_36 : decode cX7_allBy 36 = .ok (.iload 4, 2) := by decide +kernel
theorem dX7_allBy_38 : decode cX7_allBy 38 = .ok (.ishl, 1) := by decide +kernel
theorem dX7_allBy_39 : decode cX7_allBy 39 = .ok (.ior, 1) := by decide +kernel
theorem dX7_allBy_40 : decode cX7_allBy 40 = .ok (.istore_n 3, 1) := by decide +kernel
theorem dX7_allBy_41 : decode cX7_allBy 41 = .ok (.iinc 4 1, 3) := by decide +kernel
theorem dX7_allBy_44 : decode cX7_allBy 44 = .ok (.goto (-39), 3) := by decide +kernel
theorem dX7_allBy_47 : decode cX7_allBy 47 = .ok (.iload_n 3, 1) := by decide +kernel
theorem dX7_allBy_48 : decode cX7_allBy 48 = .ok (.ireturn, 1) := by decide +kernel
theorem dX7_bestHut_0 : decode cX7_bestHut 0 = .ok (.iconst (-1), 1) := by decide +kernel
theorem dX7_bestHut_1 : decode cX7_bestHut 1 = .ok (.istore_n 2, 1) := by decide +kernel
theorem dX7_bestHut_2 : decode cX7_bestHut 2 = .ok (.sipush 1000, 3) := by decide +kernel
theorem dX7_bestHut_5 : decode cX7_bestHut 5 = .ok (.istore_n 3, 1) := by decide +kernel
theorem dX7_bestHut_6 : decode cX7_bestHut 6 = .ok (.iconst 0, 1) := by decide +kernel
theorem dX7_bestHut_7 : decode cX7_bestHut 7 = .ok (.istore 4, 2) := by decide +kernel
theorem dX7_bestHut_9 : decode cX7_bestHut 9 = .ok (.iload 4, 2) := by decide +kernel
theorem dX7_bestHut_11 : decode cX7_bestHut 11 = .ok (.aload_n 1, 1) := by decide +kernel
theorem dX7_bestHut_12 : decode cX7_bestHut 12 = .ok (.getfield 42, 3) := by decide +kernel
theorem dX7_bestHut_15 : decode cX7_bestHut 15 = .ok (.if_icmp .ge 40, 3) := by decide +kernel
theorem dX7_bestHut_18 : decode cX7_bestHut 18 = .ok (.aload_n 1, 1) := by decide +kernel
theorem dX7_bestHut_19 : decode cX7_bestHut 19 = .ok (.iload 4, 2) := by decide +kernel
theorem dX7_bestHut_21 : decode cX7_bestHut 21 = .ok (.invokevirtual 55, 3) := by decide +kernel
theorem dX7_bestHut_24 : decode cX7_bestHut 24 = .ok (.ifCond .ne 25, 3) := by decide +kernel
theorem dX7_bestHut_27 : decode cX7_bestHut 27 = .ok (.aload_n 0, 1) := by decide +kernel
theorem dX7_bestHut_28 : decode cX7_bestHut 28 = .ok (.aload_n 1, 1) := by decide +kernel
theorem dX7_bestHut_29 : decode cX7_bestHut 29 = .ok (.iload 4, 2) := by decide +kernel
theorem dX7_bestHut_31 : decode cX7_bestHut 31 = .ok (.invokevirtual 82, 3) := by decide +kernel
theorem dX7_bestHut_34 : decode cX7_bestHut 34 = .ok (.iload_n 3, 1) := by decide +kernel
theorem dX7_bestHut_35 : decode cX7_bestHut 35 = .ok (.if_icmp .ge 14, 3) := by decide +kernel
theorem dX7_bestHut_38 : decode cX7_bestHut 38 = .ok (.iload 4, 2) := by decide +kernel
theorem dX7_bestHut_40 : decode cX7_bestHut 40 = .ok (.istore_n 2, 1) := by decide +kernel
theorem dX7_bestHut_41 : decode cX7_bestHut 41 = .ok (.aload_n 0, 1) := by decide +kernel
theorem dX7_bestHut_42 : decode cX7_bestHut 42 = .ok (.aload_n 1, 1) := by decide +kernel
theorem dX7_bestHut_43 : decode cX7_bestHut 43 = .ok (.iload 4, 2) := by decide +kernel
theorem dX7_bestHut_45 : decode cX7_bestHut 45 = .ok (.invokevirtual 82, 3) := by decide +kernel
theorem dX7_bestHut_48 : decode cX7_bestHut 48 = .ok (.istore_n 3, 1) := by decide +kernel
theorem dX7_bestHut_49 : decode cX7_bestHut 49 = .ok (.iinc 4 1, 3) := by decide +kernel
theorem dX7_bestHut_52 : decode cX7_bestHut 52 = .ok (.goto (-43), 3) := by decide +kernel
theorem dX7_bestHut_55 : decode cX7_bestHut 55 = .ok (.iload_n 2, 1) := by decide +kernel
theorem dX7_bestHut_56 : decode cX7_bestHut 56 = .ok (.ireturn, 1) := by decide +kernel
theorem dX7_crewBy_0 : decode cX7_crewBy 0 = .ok (.aload_n 0, 1) := by decide +kernel
theorem dX7_crewBy_1 : decode cX7_crewBy 1 = .ok (.aload_n 0, 1) := by decide +kernel
theorem dX7_crewBy_2 : decode cX7_crewBy 2 = .ok (.getfield 9, 3) := by decide +kernel
theorem dX7_crewBy_5 : decode cX7_crewBy 5 = .ok (.aload_n 1, 1) := by decide +kernel
theorem dX7_crewBy_6 : decode cX7_crewBy 6 = .ok (.getfield 42, 3) := by decide +kernel
theorem dX7_crewBy_9 : decode cX7_crewBy 9 = .ok (.iload_n 2, 1) := by decide +kernel
theorem dX7_crewBy_10 : decode cX7_crewBy 10 = .ok (.invokevirtual 86, 3) := by decide +kernel
theorem dX7_crewBy_13 : decode cX7_crewBy 13 = .ok (.aload_n 0, 1) := by decide +kernel
theorem dX7_crewBy_14 : decode cX7_crewBy 14 = .ok (.aload_n 1, 1) := by decide +kernel
theorem dX7_crewBy_15 : decode cX7_crewBy 15 = .ok (.getfield 73, 3) := by decide +kernel
theorem dX7_crewBy_18 : decode cX7_crewBy 18 = .ok (.aload_n 1, 1) := by decide +kernel
theorem dX7_crewBy_19 : decode cX7_crewBy 19 = .ok (.getfield 42, 3) := by decide +kernel
theorem dX7_crewBy_22 : decode cX7_crewBy 22 = .ok (.invokevirtual 90, 3) := by decide +kernel
theorem dX7_crewBy_25 : decode cX7_crewBy 25 = .ok (.ireturn, 1) := by decide +kernel
theorem dX7_massesWithin_0 : decode cX7_massesWithin 0 = .ok (.aload_n 0, 1) := by decide +kernel
theorem dX7_massesWithin_1 : decode cX7_massesWithin 1 = .ok (.aload_n 1, 1) := by decide +kernel
theorem dX7_massesWithin_2 : decode cX7_massesWithin 2 = .ok (.invokevirtual 93, 3) := by decide +kernel
theorem dX7_massesWithin_5 : decode cX7_massesWithin 5 = .ok (.aload_n 0, 1) := by decide +kernel
theorem dX7_massesWithin_6 : decode cX7_massesWithin 6 = .ok (.aload_n 0, 1) := by decide +kernel
theorem dX7_massesWithin_7 : decode cX7_massesWithin 7 = .ok (.getfield 15, 3) := by decide +kernel
theorem dX7_massesWithin_10 : decode cX7_massesWithin 10 = .ok (.aload_n 1, 1) := by decide +kernel
theorem dX7_massesWithin_11 : decode cX7_massesWithin 11 = .ok (.getfield 42, 3) := by decide +kernel
theorem dX7_massesWithin_14 : decode cX7_massesWithin 14 = .ok (.iload_n 2, 1) := by decide +kernel
theorem dX7_massesWithin_15 : decode cX7_massesWithin 15 = .ok (.invokevirtual 86, 3) := by decide +kernel
theorem dX7_massesWithin_18 : decode cX7_massesWithin 18 = .ok (.aload_n 0, 1) := by decide +kernel
theorem dX7_massesWithin_19 : decode cX7_massesWithin 19 = .ok (.aload_n 1, 1) := by decide +kernel
theorem dX7_massesWithin_20 : decode cX7_massesWithin 20 = .ok (.getfield 73, 3) := by decide +kernel
theorem dX7_massesWithin_23 : decode cX7_massesWithin 23 = .ok (.aload_n 1, 1) := by decide +kernel
theorem dX7_massesWithin_24 : decode cX7_massesWithin 24 = .ok (.getfield 42, 3) := by decide +kernel
theorem dX7_massesWithin_27 : decode cX7_massesWithin 27 = .ok (.invokevirtual 90, 3) := by decide +kernel
theorem dX7_massesWithin_30 : decode cX7_massesWithin 30 = .ok (.ireturn, 1) := by decide +kernel
theorem dX7_coverBy_0 : decode cX7_coverBy 0 = .ok (.iconst 0, 1) := by decide +kernel
theorem dX7_coverBy_1 : decode cX7_coverBy 1 = .ok (.istore 4, 2) := by decide +kernel
theorem dX7_coverBy_3 : decode cX7_coverBy 3 = .ok (.iload 4, 2) := by decide +kernel
theorem dX7_coverBy_5 : decode cX7_coverBy 5 = .ok (.iload_n 2, 1) := by decide +kernel
theorem dX7_coverBy_6 : decode cX7_coverBy 6 = .ok (.if_icmp .ge 60, 3) := by decide +kernel
theorem dX7_coverBy_9 : decode cX7_coverBy 9 = .ok (.aload_n 0, 1) := by decide +kernel
theorem dX7_coverBy_10 : decode cX7_coverBy 10 = .ok (.getfield 27, 3) := by decide +kernel
theorem dX7_coverBy_13 : decode cX7_coverBy 13 = .ok (.iload 4, 2) := by decide +kernel
theorem dX7_coverBy_15 : decode cX7_coverBy 15 = .ok (.iconst 0, 1) := by decide +kernel
theorem dX7_coverBy_16 : decode cX7_coverBy 16 = .ok (.iastore, 1) := by decide +kernel
theorem dX7_coverBy_17 : decode cX7_coverBy 17 = .ok (.iconst 0, 1) := by decide +kernel
theorem dX7_coverBy_18 : decode cX7_coverBy 18 = .ok (.istore 5, 2) := by decide +kernel
theorem dX7_coverBy_20 : decode cX7_coverBy 20 = .ok (.iload 5, 2) := by decide +kernel
theorem dX7_coverBy_22 : decode cX7_coverBy 22 = .ok (.iload_n 2, 1) := by decide +kernel
theorem dX7_coverBy_23 : decode cX7_coverBy 23 = .ok (.if_icmp .ge 37, 3) := by decide +kernel
theorem dX7_coverBy_26 : decode cX7_coverBy 26 = .ok (.aload_n 1, 1) := by decide +kernel
theorem dX7_coverBy_27 : decode cX7_coverBy 27 = .ok (.iload 4, 2) := by decide +kernel
theorem dX7_coverBy_29 : decode cX7_coverBy 29 = .ok (.bipush 9, 2) := by decide +kernel
theorem dX7_coverBy_31 : decode cX7_coverBy 31 = .ok (.imul, 1) := by decide +kernel
theorem dX7_coverBy_32 : decode cX7_coverBy 32 = .ok (.iload 5, 2) := by decide +kernel
theorem dX7_coverBy_34 : decode cX7_coverBy 34 = .ok (.iadd, 1) := by decide +kernel
theorem dX7_coverBy_35 : decode cX7_coverBy 35 = .ok (.iaload, 1) := by decide +kernel
theorem dX7_coverBy_36 : decode cX7_coverBy 36 = .ok (.iload_n 3, 1) := by decide +kernel
theorem dX7_coverBy_37 : decode cX7_coverBy 37 = .ok (.if_icmp .gt 17, 3) := by decide +kernel
theorem dX7_coverBy_40 : decode cX7_coverBy 40 = .ok (.aload_n 0, 1) := by decide +kernel
theorem dX7_coverBy_41 : decode cX7_coverBy 41 = .ok (.getfield 27, 3) := by decide +kernel
theorem dX7_coverBy_44 : decode cX7_coverBy 44 = .ok (.iload 4, 2) := by decide +kernel
theorem dX7_coverBy_46 : decode cX7_coverBy 46 = .ok (.dup2, 1) := by decide +kernel
theorem dX7_coverBy_47 : decode cX7_coverBy 47 = .ok (.iaload, 1) := by decide +kernel
theorem dX7_coverBy_48 : decode cX7_coverBy 48 = .ok (.iconst 1, 1) := by decide +kernel
theorem dX7_coverBy_49 : decode cX7_coverBy 49 = .ok (.iload 5, 2) := by decide +kernel
theorem dX7_coverBy_51 : decode cX7_coverBy 51 = .ok (.ishl, 1) := by decide +kernel
theorem dX7_coverBy_52 : decode cX7_coverBy 52 = .ok (.ior, 1) := by decide +kernel
theorem dX7_coverBy_53 : decode cX7_coverBy 53 = .ok (.iastore, 1) := by decide +kernel
theorem dX7_coverBy_54 : decode cX7_coverBy 54 = .ok (.iinc 5 1, 3) := by decide +kernel
theorem dX7_coverBy_57 : decode cX7_coverBy 57 = .ok (.goto (-37), 3) := by decide +kernel
theorem dX7_coverBy_60 : decode cX7_coverBy 60 = .ok (.iinc 4 1, 3) := by decide +kernel
theorem dX7_coverBy_63 : decode cX7_coverBy 63 = .ok (.goto (-60), 3) := by decide +kernel
theorem dX7_coverBy_66 : decode cX7_coverBy 66 = .ok (.return_, 1) := by decide +kernel
theorem dX7_fewestCovering_0 : decode cX7_fewestCovering 0 = .ok (.iconst (-1), 1) := by decide +kernel
theorem dX7_fewestCovering_1 : decode cX7_fewestCovering 1 = .ok (.istore_n 3, 1) := by decide +kernel
theorem dX7_fewestCovering_2 : decode cX7_fewestCovering 2 = .ok (.iload_n 2, 1) := by decide +kernel
theorem dX7_fewestCovering_3 : decode cX7_fewestCovering 3 = .ok (.iconst 1, 1) := by decide +kernel
theorem dX7_fewestCovering_4 : decode cX7_fewestCovering 4 = .ok (.iadd, 1) := by decide +kernel
theorem dX7_fewestCovering_5 : decode cX7_fewestCovering 5 = .ok (.istore 4, 2) := by decide +kernel
theorem dX7_fewestCovering_7 : decode cX7_fewestCovering 7 = .ok (.iconst 0, 1) := by decide +kernel
theorem dX7_fewestCovering_8 : decode cX7_fewestCovering 8 = .ok (.istore 5, 2) := by decide +kernel
theorem dX7_fewestCovering_10 : decode cX7_fewestCovering 10 = .ok (.iload 5, 2) := by decide +kernel
theorem dX7_fewestCovering_12 : decode cX7_fewestCovering 12 = .ok (.iconst 1, 1) := by decide +kernel
theorem dX7_fewestCovering_13 : decode cX7_fewestCovering 13 = .ok (.iload_n 2, 1) := by decide +kernel
theorem dX7_fewestCovering_14 : decode cX7_fewestCovering 14 = .ok (.ishl, 1) := by decide +kernel
theorem dX7_fewestCovering_15 : decode cX7_fewestCovering 15 = .ok (.if_icmp .ge 43, 3) := by decide +kernel
theorem dX7_fewestCovering_18 : decode cX7_fewestCovering 18 = .ok (.iload 5, 2) := by decide +kernel
theorem dX7_fewestCovering_20 : decode cX7_fewestCovering 20 = .ok (.invokestatic 97, 3) := by decide +kernel
theorem dX7_fewestCovering_23 : decode cX7_fewestCovering 23 = .ok (.iload 4, 2) := by decide +kernel
theorem dX7_fewestCovering_25 : decode cX7_fewestCovering 25 = .ok (.if_icmp .ge 27, 3) := by decide +kernel
theorem dX7_fewestCovering_28 : decode cX7_fewestCovering 28 = .ok (.iload_n 1, 1) := by decide +kernel
theorem dX7_fewestCovering_29 : decode cX7_fewestCovering 29 = .ok (.aload_n 0, 1) := by decide +kernel
theorem dX7_fewestCovering_30 : decode cX7_fewestCovering 30 = .ok (.iload 5, 2) := by decide +kernel
theorem dX7_fewestCovering_32 : decode cX7_fewestCovering 32 = .ok (.iload_n 2, 1) := by decide +kernel
theorem dX7_fewestCovering_33 : decode cX7_fewestCovering 33 = .ok (.invokevirtual 102, 3) := by decide +kernel
theorem dX7_fewestCovering_36 : decode cX7_fewestCovering 36 = .ok (.iconst (-1), 1) := by decide +kernel
theorem dX7_fewestCovering_37 : decode cX7_fewestCovering 37 = .ok (.ixor, 1) := by decide +kernel
theorem dX7_fewestCovering_38 : decode cX7_fewestCovering 38 = .ok (.iand, 1) := by decide +kernel
theorem dX7_fewestCovering_39 : decode cX7_fewestCovering 39 = .ok (.ifCond .ne 13, 3) := by decide +kernel
theorem dX7_fewestCovering_42 : decode cX7_fewestCovering 42 = .ok (.iload 5, 2) := by decide +kernel
theorem dX7_fewestCovering_44 : decode cX7_fewestCovering 44 = .ok (.istore_n 3, 1) := by decide +kernel
theorem dX7_fewestCovering_45 : decode cX7_fewestCovering 45 = .ok (.iload 5, 2) := by decide +kernel
theorem dX7_fewestCovering_47 : decode cX7_fewestCovering 47 = .ok (.invokestatic 97, 3) := by decide +kernel
theorem dX7_fewestCovering_50 : decode cX7_fewestCovering 50 = .ok (.istore 4, 2) := by decide +kernel
theorem dX7_fewestCovering_52 : decode cX7_fewestCovering 52 = .ok (.iinc 5 1, 3) := by decide +kernel
theorem dX7_fewestCovering_55 : decode cX7_fewestCovering 55 = .ok (.goto (-45), 3) := by decide +kernel
theorem dX7_fewestCovering_58 : decode cX7_fewestCovering 58 = .ok (.iload_n 3, 1) := by decide +kernel
theorem dX7_fewestCovering_59 : decode cX7_fewestCovering 59 = .ok (.ireturn, 1) := by decide +kernel
theorem dX7_covered_0 : decode cX7_covered 0 = .ok (.iconst 0, 1) := by decide +kernel
theorem dX7_covered_1 : decode cX7_covered 1 = .ok (.istore_n 3, 1) := by decide +kernel
theorem dX7_covered_2 : decode cX7_covered 2 = .ok (.iconst 0, 1) := by decide +kernel
theorem dX7_covered_3 : decode cX7_covered 3 = .ok (.istore 4, 2) := by decide +kernel
theorem dX7_covered_5 : decode cX7_covered 5 = .ok (.iload 4, 2) := by decide +kernel
theorem dX7_covered_7 : decode cX7_covered 7 = .ok (.iload_n 2, 1) := by decide +kernel
theorem dX7_covered_8 : decode cX7_covered 8 = .ok (.if_icmp .ge 28, 3) := by decide +kernel
theorem dX7_covered_11 : decode cX7_covered 11 = .ok (.iload_n 1, 1) := by decide +kernel
theorem dX7_covered_12 : decode cX7_covered 12 = .ok (.iload 4, 2) := by decide +kernel
theorem dX7_covered_14 : decode cX7_covered 14 = .ok (.invokestatic 70, 3) := by decide +kernel
theorem dX7_covered_17 : decode cX7_covered 17 = .ok (.ifCond .eq 13, 3) := by decide +kernel
theorem dX7_covered_20 : decode cX7_covered 20 = .ok (.iload_n 3, 1) := by decide +kernel
theorem dX7_covered_21 : decode cX7_covered 21 = .ok (.aload_n 0, 1) := by decide +kernel
theorem dX7_covered_22 : decode cX7_covered 22 = .ok (.getfield 27, 3) := by decide +kernel
theorem dX7_covered_25 : decode cX7_covered 25 = .ok (.iload 4, 2) := by decide +kernel
theorem dX7_covered_27 : decode cX7_covered 27 = .ok (.iaload, 1) := by decide +kernel
theorem dX7_covered_28 : decode cX7_covered 28 = .ok (.ior, 1) := by decide +kernel
theorem dX7_covered_29 : decode cX7_covered 29 = .ok (.istore_n 3, 1) := by decide +kernel
theorem dX7_covered_30 : decode cX7_covered 30 = .ok (.iinc 4 1, 3) := by decide +kernel
theorem dX7_covered_33 : decode cX7_covered 33 = .ok (.goto (-28), 3) := by decide +kernel
theorem dX7_covered_36 : decode cX7_covered 36 = .ok (.iload_n 3, 1) := by decide +kernel
theorem dX7_covered_37 : decode cX7_covered 37 = .ok (.ireturn, 1) := by decide +kernel
theorem dX7_trace_0 : decode cX7_trace 0 = .ok (.aload_n 0, 1) := by decide +kernel
theorem dX7_trace_1 : decode cX7_trace 1 = .ok (.getfield 18, 3) := by decide +kernel
theorem dX7_trace_4 : decode cX7_trace 4 = .ok (.iconst 0, 1) := by decide +kernel
theorem dX7_trace_5 : decode cX7_trace 5 = .ok (.invokestatic 36, 3) := by decide +kernel
theorem dX7_trace_8 : decode cX7_trace 8 = .ok (.aload_n 0, 1) := by decide +kernel
theorem dX7_trace_9 : decode cX7_trace 9 = .ok (.getfield 21, 3) := by decide +kernel
theorem dX7_trace_12 : decode cX7_trace 12 = .ok (.iconst 0, 1) := by decide +kernel
theorem dX7_trace_13 : decode cX7_trace 13 = .ok (.invokestatic 36, 3) := by decide +kernel
theorem dX7_trace_16 : decode cX7_trace 16 = .ok (.aload_n 0, 1) := by decide +kernel
theorem dX7_trace_17 : decode cX7_trace 17 = .ok (.getfield 30, 3) := by decide +kernel
theorem dX7_trace_20 : decode cX7_trace 20 = .ok (.iconst 0, 1) := by decide +kernel
theorem dX7_trace_21 : decode cX7_trace 21 = .ok (.invokestatic 36, 3) := by decide +kernel
theorem dX7_trace_24 : decode cX7_trace 24 = .ok (.aload_n 0, 1) := by decide +kernel
theorem dX7_trace_25 : decode cX7_trace 25 = .ok (.getfield 30, 3) := by decide +kernel
theorem dX7_trace_28 : decode cX7_trace 28 = .ok (.iload_n 2, 1) := by decide +kernel
theorem dX7_trace_29 : decode cX7_trace 29 = .ok (.iconst 1, 1) := by decide +kernel
theorem dX7_trace_30 : decode cX7_trace 30 = .ok (.iastore, 1) := by decide +kernel
theorem dX7_trace_31 : decode cX7_trace 31 = .ok (.iconst 1, 1) := by decide +kernel
theorem dX7_trace_32 : decode cX7_trace 32 = .ok (.istore_n 3, 1) := by decide +kernel
theorem dX7_trace_33 : decode cX7_trace 33 = .ok (.iload_n 3, 1) := by decide +kernel
theorem dX7_trace_34 : decode cX7_trace 34 = .ok (.aload_n 1, 1) := by decide +kernel
theorem dX7_trace_35 : decode cX7_trace 35 = .ok (.getfield 42, 3) := by decide +kernel
theorem dX7_trace_38 : decode cX7_trace 38 = .ok (.if_icmp .ge 91, 3) := by decide +kernel
theorem dX7_trace_41 : decode cX7_trace 41 = .ok (.iconst 0, 1) := by decide +kernel
theorem dX7_trace_42 : decode cX7_trace 42 = .ok (.istore 4, 2) := by decide +kernel
theorem dX7_trace_44 : decode cX7_trace 44 = .ok (.iload 4, 2) := by decide +kernel
theorem dX7_trace_46 : decode cX7_trace 46 = .ok (.aload_n 1, 1) := by decide +kernel
theorem dX7_trace_47 : decode cX7_trace 47 = .ok (.getfield 42, 3) := by decide +kernel
theorem dX7_trace_50 : decode cX7_trace 50 = .ok (.if_icmp .ge 58, 3) := by decide +kernel
theorem dX7_trace_53 : decode cX7_trace 53 = .ok (.aload_n 0, 1) := by decide +kernel
theorem dX7_trace_54 : decode cX7_trace 54 = .ok (.getfield 33, 3) := by decide +kernel
theorem dX7_trace_57 : decode cX7_trace 57 = .ok (.iload 4, 2) := by decide +kernel
theorem dX7_trace_59 : decode cX7_trace 59 = .ok (.aload_n 0, 1) := by decide +kernel
theorem dX7_trace_60 : decode cX7_trace 60 = .ok (.aload_n 1, 1) := by decide +kernel
theorem dX7_trace_61 : decode cX7_trace 61 = .ok (.iload 4, 2) := by decide +kernel
theorem dX7_trace_63 : decode cX7_trace 63 = .ok (.invokevirtual 105, 3) := by decide +kernel
theorem dX7_trace_66 : decode cX7_trace 66 = .ok (.iastore, 1) := by decide +kernel
theorem dX7_trace_67 : decode cX7_trace 67 = .ok (.aload_n 0, 1) := by decide +kernel
theorem dX7_trace_68 : decode cX7_trace 68 = .ok (.getfield 33, 3) := by decide +kernel
theorem dX7_trace_71 : decode cX7_trace 71 = .ok (.iload 4, 2) := by decide +kernel
theorem dX7_trace_73 : decode cX7_trace 73 = .ok (.iaload, 1) := by decide +kernel
theorem dX7_trace_74 : decode cX7_trace 74 = .ok (.ifCond .le 28, 3) := by decide +kernel
theorem dX7_trace_77 : decode cX7_trace 77 = .ok (.aload_n 0, 1) := by decide +kernel
theorem dX7_trace_78 : decode cX7_trace 78 = .ok (.getfield 18, 3) := by decide +kernel
theorem dX7_trace_81 : decode cX7_trace 81 = .ok (.iload 4, 2) := by decide +kernel
theorem dX7_trace_83 : decode cX7_trace 83 = .ok (.dup2, 1) := by decide +kernel
theorem dX7_trace_84 : decode cX7_trace 84 = .ok (.iaload, 1) := by decide +kernel
theorem dX7_trace_85 : decode cX7_trace 85 = .ok (.aload_n 0, 1) := by decide +kernel
theorem dX7_trace_86 : decode cX7_trace 86 = .ok (.getfield 33, 3) := by decide +kernel
theorem dX7_trace_89 : decode cX7_trace 89 = .ok (.iload 4, 2) := by decide +kernel
theorem dX7_trace_91 : decode cX7_trace 91 = .ok (.iaload, 1) := by decide +kernel
theorem dX7_trace_92 : decode cX7_trace 92 = .ok (.iadd, 1) := by decide +kernel
theorem dX7_trace_93 : decode cX7_trace 93 = .ok (.iastore, 1) := by decide +kernel
theorem dX7_trace_94 : decode cX7_trace 94 = .ok (.aload_n 0, 1) := by decide +kernel
theorem dX7_trace_95 : decode cX7_trace 95 = .ok (.getfield 21, 3) := by decide +kernel
theorem dX7_trace_98 : decode cX7_trace 98 = .ok (.iload 4, 2) := by decide +kernel
theorem dX7_trace_100 : decode cX7_trace 100 = .ok (.iload_n 3, 1) := by decide +kernel
theorem dX7_trace_101 : decode cX7_trace 101 = .ok (.iastore, 1) := by decide +kernel
theorem dX7_trace_102 : decode cX7_trace 102 = .ok (.iinc 4 1, 3) := by decide +kernel
theorem dX7_trace_105 : decode cX7_trace 105 = .ok (.goto (-61), 3) := by decide +kernel
theorem dX7_trace_108 : decode cX7_trace 108 = .ok (.aload_n 0, 1) := by decide +kernel
theorem dX7_trace_109 : decode cX7_trace 109 = .ok (.getfield 33, 3) := by decide +kernel
theorem dX7_trace_112 : decode cX7_trace 112 = .ok (.iconst 0, 1) := by decide +kernel
theorem dX7_trace_113 : decode cX7_trace 113 = .ok (.aload_n 0, 1) := by decide +kernel
theorem dX7_trace_114 : decode cX7_trace 114 = .ok (.getfield 30, 3) := by decide +kernel
theorem dX7_trace_117 : decode cX7_trace 117 = .ok (.iconst 0, 1) := by decide +kernel
theorem dX7_trace_118 : decode cX7_trace 118 = .ok (.bipush 9, 2) := by decide +kernel
theorem dX7_trace_120 : decode cX7_trace 120 = .ok (.invokestatic 108, 3) := by decide +kernel
theorem dX7_trace_123 : decode cX7_trace 123 = .ok (.iinc 3 1, 3) := by decide +kernel
theorem dX7_trace_126 : decode cX7_trace 126 = .ok (.goto (-93), 3) := by decide +kernel
theorem dX7_trace_129 : decode cX7_trace 129 = .ok (.return_, 1) := by decide +kernel
theorem dX7_routesOn_0 : decode cX7_routesOn 0 = .ok (.iconst 0, 1) := by decide +kernel
theorem dX7_routesOn_1 : decode cX7_routesOn 1 = .ok (.istore_n 3, 1) := by decide +kernel
theorem dX7_routesOn_2 : decode cX7_routesOn 2 = .ok (.iconst 0, 1) := by decide +kernel
theorem dX7_routesOn_3 : decode cX7_routesOn 3 = .ok (.istore 4, 2) := by decide +kernel
theorem dX7_routesOn_5 : decode cX7_routesOn 5 = .ok (.iload 4, 2) := by decide +kernel
theorem dX7_routesOn_7 : decode cX7_routesOn 7 = .ok (.aload_n 1, 1) := by decide +kernel
theorem dX7_routesOn_8 : decode cX7_routesOn 8 = .ok (.getfield 42, 3) := by decide +kernel
theorem dX7_routesOn_11 : decode cX7_routesOn 11 = .ok (.if_icmp .ge 29, 3) := by decide +kernel
theorem dX7_routesOn_14 : decode cX7_routesOn 14 = .ok (.aload_n 1, 1) := by decide +kernel
theorem dX7_routesOn_15 : decode cX7_routesOn 15 = .ok (.iload 4, 2) := by decide +kernel
theorem dX7_routesOn_17 : decode cX7_routesOn 17 = .ok (.iload_n 2, 1) := by decide +kernel
theorem dX7_routesOn_18 : decode cX7_routesOn 18 = .ok (.invokevirtual 48, 3) := by decide +kernel
theorem dX7_routesOn_21 : decode cX7_routesOn 21 = .ok (.ifCond .eq 13, 3) := by decide +kernel
theorem dX7_routesOn_24 : decode cX7_routesOn 24 = .ok (.iload_n 3, 1) := by decide +kernel
theorem dX7_routesOn_25 : decode cX7_routesOn 25 = .ok (.aload_n 0, 1) := by decide +kernel
theorem dX7_routesOn_26 : decode cX7_routesOn 26 = .ok (.getfield 30, 3) := by decide +kernel
theorem dX7_routesOn_29 : decode cX7_routesOn 29 = .ok (.iload 4, 2) := by decide +kernel
theorem dX7_routesOn_31 : decode cX7_routesOn 31 = .ok (.iaload, 1) := by decide +kernel
theorem dX7_routesOn_32 : decode cX7_routesOn 32 = .ok (.iadd, 1) := by decide +kernel
theorem dX7_routesOn_33 : decode cX7_routesOn 33 = .ok (.istore_n 3, 1) := by decide +kernel
theorem dX7_routesOn_34 : decode cX7_routesOn 34 = .ok (.iinc 4 1, 3) := by decide +kernel
theorem dX7_routesOn_37 : decode cX7_routesOn 37 = .ok (.goto (-32), 3) := by decide +kernel
theorem dX7_routesOn_40 : decode cX7_routesOn 40 = .ok (.iload_n 3, 1) := by decide +kernel
theorem dX7_routesOn_41 : decode cX7_routesOn 41 = .ok (.ireturn, 1) := by decide +kernel
theorem dX7_steepest_0 : decode cX7_steepest 0 = .ok (.aload_n 0, 1) := by decide +kernel
theorem dX7_steepest_1 : decode cX7_steepest 1 = .ok (.getfield 30, 3) := by decide +kernel
theorem dX7_steepest_4 : decode cX7_steepest 4 = .ok (.sipush 1000, 3) := by decide +kernel
theorem dX7_steepest_7 : decode cX7_steepest 7 = .ok (.invokestatic 36, 3) := by decide +kernel
theorem dX7_steepest_10 : decode cX7_steepest 10 = .ok (.aload_n 0, 1) := by decide +kernel
theorem dX7_steepest_11 : decode cX7_steepest 11 = .ok (.getfield 30, 3) := by decide +kernel
theorem dX7_steepest_14 : decode cX7_steepest 14 = .ok (.iload_n 2, 1) := by decide +kernel
theorem dX7_steepest_15 : decode cX7_steepest 15 = .ok (.iconst 0, 1) := by decide +kernel
theorem dX7_steepest_16 : decode cX7_steepest 16 = .ok (.iastore, 1) := by decide +kernel
theorem dX7_steepest_17 : decode cX7_steepest 17 = .ok (.iconst 1, 1) := by decide +kernel
theorem dX7_steepest_18 : decode cX7_steepest 18 = .ok (.istore 4, 2) := by decide +kernel
theorem dX7_steepest_20 : decode cX7_steepest 20 = .ok (.iload 4, 2) := by decide +kernel
theorem dX7_steepest_22 : decode cX7_steepest 22 = .ok (.aload_n 1, 1) := by decide +kernel
theorem dX7_steepest_23 : decode cX7_steepest 23 = .ok (.getfield 42, 3) := by decide +kernel
theorem dX7_steepest_26 : decode cX7_steepest 26 = .ok (.if_icmp .ge 51, 3) := by decide +kernel
theorem dX7_steepest_29 : decode cX7_steepest 29 = .ok (.iconst 0, 1) := by decide +kernel
theorem dX7_steepest_30 : decode cX7_steepest 30 = .ok (.istore 5, 2) := by decide +kernel
theorem dX7_steepest_32 : decode cX7_steepest 32 = .ok (.iload 5, 2) := by decide +kernel
theorem dX7_steepest_34 : decode cX7_steepest 34 = .ok (.aload_n 1, 1) := by decide +kernel
theorem dX7_steepest_35 : decode cX7_steepest 35 = .ok (.getfield 42, 3) := by decide +kernel
theorem dX7_steepest_38 : decode cX7_steepest 38 = .ok (.if_icmp .ge 33, 3) := by decide +kernel
theorem dX7_steepest_41 : decode cX7_steepest 41 = .ok (.aload_n 0, 1) := by decide +kernel
theorem dX7_steepest_42 : decode cX7_steepest 42 = .ok (.getfield 30, 3) := by decide +kernel
theorem dX7_steepest_45 : decode cX7_steepest 45 = .ok (.iload 5, 2) := by decide +kernel
theorem dX7_steepest_47 : decode cX7_steepest 47 = .ok (.aload_n 0, 1) := by decide +kernel
theorem dX7_steepest_48 : decode cX7_steepest 48 = .ok (.getfield 30, 3) := by decide +kernel
theorem dX7_steepest_51 : decode cX7_steepest 51 = .ok (.iload 5, 2) := by decide +kernel
theorem dX7_steepest_53 : decode cX7_steepest 53 = .ok (.iaload, 1) := by decide +kernel
theorem dX7_steepest_54 : decode cX7_steepest 54 = .ok (.aload_n 0, 1) := by decide +kernel
theorem dX7_steepest_55 : decode cX7_steepest 55 = .ok (.aload_n 1, 1) := by decide +kernel
theorem dX7_steepest_56 : decode cX7_steepest 56 = .ok (.iload 5, 2) := by decide +kernel
theorem dX7_steepest_58 : decode cX7_steepest 58 = .ok (.invokevirtual 114, 3) := by decide +kernel
theorem dX7_steepest_61 : decode cX7_steepest 61 = .ok (.invokestatic 117, 3) := by decide +kernel
theorem dX7_steepest_64 : decode cX7_steepest 64 = .ok (.iastore, 1) := by decide +kernel
theorem dX7_steepest_65 : decode cX7_steepest 65 = .ok (.iinc 5 1, 3) := by decide +kernel
theorem dX7_steepest_68 : decode cX7_steepest 68 = .ok (.goto (-36), 3) := by decide +kernel
theorem dX7_steepest_71 : decode cX7_steepest 71 = .ok (.iinc 4 1, 3) := by decide +kernel
theorem dX7_steepest_74 : decode cX7_steepest 74 = .ok (.goto (-54), 3) := by decide +kernel
theorem dX7_steepest_77 : decode cX7_steepest 77 = .ok (.aload_n 0, 1) := by decide +kernel
theorem dX7_steepest_78 : decode cX7_steepest 78 = .ok (.getfield 30, 3) := by decide +kernel
theorem dX7_steepest_81 : decode cX7_steepest 81 = .ok (.iload_n 3, 1) := by decide +kernel
theorem dX7_steepest_82 : decode cX7_steepest 82 = .ok (.iaload, 1) := by decide +kernel
theorem dX7_steepest_83 : decode cX7_steepest 83 = .ok (.ireturn, 1) := by decide +kernel
theorem dX7_leastFall_0 : decode cX7_leastFall 0 = .ok (.sipush 1000, 3) := by decide +kernel
theorem dX7_leastFall_3 : decode cX7_leastFall 3 = .ok (.istore_n 3, 1) := by decide +kernel
theorem dX7_leastFall_4 : decode cX7_leastFall 4 = .ok (.iconst 0, 1) := by decide +kernel
theorem dX7_leastFall_5 : decode cX7_leastFall 5 = .ok (.istore 4, 2) := by decide +kernel
theorem dX7_leastFall_7 : decode cX7_leastFall 7 = .ok (.iload 4, 2) := by decide +kernel
theorem dX7_leastFall_9 : decode cX7_leastFall 9 = .ok (.aload_n 1, 1) := by decide +kernel
theorem dX7_leastFall_10 : decode cX7_leastFall 10 = .ok (.getfield 42, 3) := by decide +kernel
theorem dX7_leastFall_13 : decode cX7_leastFall 13 = .ok (.if_icmp .ge 48, 3) := by decide +kernel
theorem dX7_leastFall_16 : decode cX7_leastFall 16 = .ok (.aload_n 1, 1) := by decide +kernel
theorem dX7_leastFall_17 : decode cX7_leastFall 17 = .ok (.iload 4, 2) := by decide +kernel
theorem dX7_leastFall_19 : decode cX7_leastFall 19 = .ok (.iload_n 2, 1) := by decide +kernel
theorem dX7_leastFall_20 : decode cX7_leastFall 20 = .ok (.invokevirtual 48, 3) := by decide +kernel
theorem dX7_leastFall_23 : decode cX7_leastFall 23 = .ok (.ifCond .eq 32, 3) := by decide +kernel
theorem dX7_leastFall_26 : decode cX7_leastFall 26 = .ok (.iload_n 3, 1) := by decide +kernel
theorem dX7_leastFall_27 : decode cX7_leastFall 27 = .ok (.aload_n 0, 1) := by decide +kernel
theorem dX7_leastFall_28 : decode cX7_leastFall 28 = .ok (.getfield 30, 3) := by decide +kernel
theorem dX7_leastFall_31 : decode cX7_leastFall 31 = .ok (.iload 4, 2) := by decide +kernel
theorem dX7_leastFall_33 : decode cX7_leastFall 33 = .ok (.iaload, 1) := by decide +kernel
theorem dX7_leastFall_34 : decode cX7_leastFall 34 = .ok (.aload_n 1, 1) := by decide +kernel
theorem dX7_leastFall_35 : decode cX7_leastFall 35 = .ok (.getfield 120, 3) := by decide +kernel
theorem dX7_leastFall_38 : decode cX7_leastFall 38 = .ok (.iload 4, 2) := by decide +kernel
theorem dX7_leastFall_40 : decode cX7_leastFall 40 = .ok (.iaload, 1) := by decide +kernel
theorem dX7_leastFall_41 : decode cX7_leastFall 41 = .ok (.aload_n 1, 1) := by decide +kernel
theorem dX7_leastFall_42 : decode cX7_leastFall 42 = .ok (.getfield 120, 3) := by decide +kernel
theorem dX7_leastFall_45 : decode cX7_leastFall 45 = .ok (.iload_n 2, 1) := by decide +kernel
theorem dX7_leastFall_46 : decode cX7_leastFall 46 = .ok (.iaload, 1) := by decide +kernel
theorem dX7_leastFall_47 : decode cX7_leastFall 47 = .ok (.isub, 1) := by decide +kernel
theorem dX7_leastFall_48 : decode cX7_leastFall 48 = .ok (.invokestatic 76, 3) := by decide +kernel
theorem dX7_leastFall_51 : decode cX7_leastFall 51 = .ok (.invokestatic 117, 3) := by decide +kernel
theorem dX7_leastFall_54 : decode cX7_leastFall 54 = .ok (.istore_n 3, 1) := by decide +kernel
theorem dX7_leastFall_55 : decode cX7_leastFall 55 = .ok (.iinc 4 1, 3) := by decide +kernel
theorem dX7_leastFall_58 : decode cX7_leastFall 58 = .ok (.goto (-51), 3) := by decide +kernel
theorem dX7_leastFall_61 : decode cX7_leastFall 61 = .ok (.iload_n 3, 1) := by decide +kernel
theorem dX7_leastFall_62 : decode cX7_leastFall 62 = .ok (.ireturn, 1) := by decide +kernel
theorem dX7_depth_0 : decode cX7_depth 0 = .ok (.iconst 0, 1) := by decide +kernel
theorem dX7_depth_1 : decode cX7_depth 1 = .ok (.istore_n 2, 1) := by decide +kernel
theorem dX7_depth_2 : decode cX7_depth 2 = .ok (.iconst 0, 1) := by decide +kernel
theorem dX7_depth_3 : decode cX7_depth 3 = .ok (.istore_n 3, 1) := by decide +kernel
theorem dX7_depth_4 : decode cX7_depth 4 = .ok (.iload_n 3, 1) := by decide +kernel
theorem dX7_depth_5 : decode cX7_depth 5 = .ok (.aload_n 1, 1) := by decide +kernel
theorem dX7_depth_6 : decode cX7_depth 6 = .ok (.getfield 42, 3) := by decide +kernel
theorem dX7_depth_9 : decode cX7_depth 9 = .ok (.if_icmp .ge 45, 3) := by decide +kernel
theorem dX7_depth_12 : decode cX7_depth 12 = .ok (.aload_n 0, 1) := by decide +kernel
theorem dX7_depth_13 : decode cX7_depth 13 = .ok (.aload_n 1, 1) := by decide +kernel
theorem dX7_depth_14 : decode cX7_depth 14 = .ok (.iload_n 3, 1) := by decide +kernel
theorem dX7_depth_15 : decode cX7_depth 15 = .ok (.invokevirtual 123, 3) := by decide +kernel
theorem dX7_depth_18 : decode cX7_depth 18 = .ok (.iconst 0, 1) := by decide +kernel
theorem dX7_depth_19 : decode cX7_depth 19 = .ok (.istore 4, 2) := by decide +kernel
theorem dX7_depth_21 : decode cX7_depth 21 = .ok (.iload 4, 2) := by decide +kernel
theorem dX7_depth_23 : decode cX7_depth 23 = .ok (.aload_n 1, 1) := by decide +kernel
theorem dX7_depth_24 : decode cX7_depth 24 = .ok (.getfield 42, 3) := by decide +kernel
theorem dX7_depth_27 : decode cX7_depth 27 = .ok (.if_icmp .ge 21, 3) := by decide +kernel
theorem dX7_depth_30 : decode cX7_depth 30 = .ok (.iload_n 2, 1) := by decide +kernel
theorem dX7_depth_31 : decode cX7_depth 31 = .ok (.aload_n 0, 1) := by decide +kernel
theorem dX7_depth_32 : decode cX7_depth 32 = .ok (.getfield 21, 3) := by decide +kernel
theorem dX7_depth_35 : decode cX7_depth 35 = .ok (.iload 4, 2) := by decide +kernel
theorem dX7_depth_37 : decode cX7_depth 37 = .ok (.iaload, 1) := by decide +kernel
theorem dX7_depth_38 : decode cX7_depth 38 = .ok (.invokestatic 76, 3) := by decide +kernel
theorem dX7_depth_41 : decode cX7_depth 41 = .ok (.istore_n 2, 1) := by decide +kernel
theorem dX7_depth_42 : decode cX7_depth 42 = .ok (.iinc 4 1, 3) := by decide +kernel
theorem dX7_depth_45 : decode cX7_depth 45 = .ok (.goto (-24), 3) := by decide +kernel
theorem dX7_depth_48 : decode cX7_depth 48 = .ok (.iinc 3 1, 3) := by decide +kernel
theorem dX7_depth_51 : decode cX7_depth 51 = .ok (.goto (-47), 3) := by decide +kernel
theorem dX7_depth_54 : decode cX7_depth 54 = .ok (.iload_n 2, 1) := by decide +kernel
theorem dX7_depth_55 : decode cX7_depth 55 = .ok (.ireturn, 1) := by decide +kernel
theorem dX7_muted_0 : decode cX7_muted 0 = .ok (.iload_n 1, 1) := by decide +kernel
theorem dX7_muted_1 : decode cX7_muted 1 = .ok (.aload_n 0, 1) := by decide +kernel
theorem dX7_muted_2 : decode cX7_muted 2 = .ok (.getfield 24, 3) := by decide +kernel
theorem dX7_muted_5 : decode cX7_muted 5 = .ok (.iconst 0, 1) := by decide +kernel
theorem dX7_muted_6 : decode cX7_muted 6 = .ok (.invokestatic 127, 3) := by decide +kernel
theorem dX7_muted_9 : decode cX7_muted 9 = .ok (.istore_n 3, 1) := by decide +kernel
theorem dX7_muted_10 : decode cX7_muted 10 = .ok (.iload_n 1, 1) := by decide +kernel
theorem dX7_muted_11 : decode cX7_muted 11 = .ok (.aload_n 0, 1) := by decide +kernel
theorem dX7_muted_12 : decode cX7_muted 12 = .ok (.getfield 24, 3) := by decide +kernel
theorem dX7_muted_15 : decode cX7_muted 15 = .ok (.iconst 1, 1) := by decide +kernel
theorem dX7_muted_16 : decode cX7_muted 16 = .ok (.iload_n 2, 1) := by decide +kernel
theorem dX7_muted_17 : decode cX7_muted 17 = .ok (.ishl, 1) := by decide +kernel
theorem dX7_muted_18 : decode cX7_muted 18 = .ok (.invokestatic 127, 3) := by decide +kernel
theorem dX7_muted_21 : decode cX7_muted 21 = .ok (.istore 4, 2) := by decide +kernel
theorem dX7_muted_23 : decode cX7_muted 23 = .ok (.iload_n 3, 1) := by decide +kernel
theorem dX7_muted_24 : decode cX7_muted 24 = .ok (.iload 4, 2) := by decide +kernel
theorem dX7_muted_26 : decode cX7_muted 26 = .ok (.iconst (-1), 1) := by decide +kernel
theorem dX7_muted_27 : decode cX7_muted 27 = .ok (.ixor, 1) := by decide +kernel
theorem dX7_muted_28 : decode cX7_muted 28 = .ok (.iand, 1) := by decide +kernel
theorem dX7_muted_29 : decode cX7_muted 29 = .ok (.iconst 1, 1) := by decide +kernel
theorem dX7_muted_30 : decode cX7_muted 30 = .ok (.iload_n 2, 1) := by decide +kernel
theorem dX7_muted_31 : decode cX7_muted 31 = .ok (.ishl, 1) := by decide +kernel
theorem dX7_muted_32 : decode cX7_muted 32 = .ok (.iconst (-1), 1) := by decide +kernel
theorem dX7_muted_33 : decode cX7_muted 33 = .ok (.ixor, 1) := by decide +kernel
theorem dX7_muted_34 : decode cX7_muted 34 = .ok (.iand, 1) := by decide +kernel
theorem dX7_muted_35 : decode cX7_muted 35 = .ok (.invokestatic 97, 3) := by decide +kernel
theorem dX7_muted_38 : decode cX7_muted 38 = .ok (.ireturn, 1) := by decide +kernel
theorem dX7_worst_0 : decode cX7_worst 0 = .ok (.iconst (-1), 1) := by decide +kernel
theorem dX7_worst_1 : decode cX7_worst 1 = .ok (.istore_n 3, 1) := by decide +kernel
theorem dX7_worst_2 : decode cX7_worst 2 = .ok (.iconst (-1), 1) := by decide +kernel
theorem dX7_worst_3 : decode cX7_worst 3 = .ok (.istore 4, 2) := by decide +kernel
theorem dX7_worst_5 : decode cX7_worst 5 = .ok (.iconst 0, 1) := by decide +kernel
theorem dX7_worst_6 : decode cX7_worst 6 = .ok (.istore 5, 2) := by decide +kernel
theorem dX7_worst_8 : decode cX7_worst 8 = .ok (.iload 5, 2) := by decide +kernel
theorem dX7_worst_10 : decode cX7_worst 10 = .ok (.aload_n 1, 1) := by decide +kernel
theorem dX7_worst_11 : decode cX7_worst 11 = .ok (.getfield 42, 3) := by decide +kernel
theorem dX7_worst_14 : decode cX7_worst 14 = .ok (.if_icmp .ge 48, 3) := by decide +kernel
theorem dX7_worst_17 : decode cX7_worst 17 = .ok (.iload 5, 2) := by decide +kernel
theorem dX7_worst_19 : decode cX7_worst 19 = .ok (.iload_n 2, 1) := by decide +kernel
theorem dX7_worst_20 : decode cX7_worst 20 = .ok (.if_icmp .eq 36, 3) := by decide +kernel
theorem dX7_worst_23 : decode cX7_worst 23 = .ok (.aload_n 1, 1) := by decide +kernel
theorem dX7_worst_24 : decode cX7_worst 24 = .ok (.iload 5, 2) := by decide +kernel
theorem dX7_worst_26 : decode cX7_worst 26 = .ok (.invokevirtual 55, 3) := by decide +kernel
theorem dX7_worst_29 : decode cX7_worst 29 = .ok (.ifCond .ne 27, 3) := by decide +kernel
theorem dX7_worst_32 : decode cX7_worst 32 = .ok (.aload_n 0, 1) := by decide +kernel
theorem dX7_worst_33 : decode cX7_worst 33 = .ok (.iload_n 2, 1) := by decide +kernel
theorem dX7_worst_34 : decode cX7_worst 34 = .ok (.iload 5, 2) := by decide +kernel
theorem dX7_worst_36 : decode cX7_worst 36 = .ok (.invokevirtual 131, 3) := by decide +kernel
theorem dX7_worst_39 : decode cX7_worst 39 = .ok (.iload 4, 2) := by decide +kernel
theorem dX7_worst_41 : decode cX7_worst 41 = .ok (.if_icmp .le 15, 3) := by decide +kernel
theorem dX7_worst_44 : decode cX7_worst 44 = .ok (.iload 5, 2) := by decide +kernel
theorem dX7_worst_46 : decode cX7_worst 46 = .ok (.istore_n 3, 1) := by decide +kernel
theorem dX7_worst_47 : decode cX7_worst 47 = .ok (.aload_n 0, 1) := by decide +kernel
theorem dX7_worst_48 : decode cX7_worst 48 = .ok (.iload_n 2, 1) := by decide +kernel
theorem dX7_worst_49 : decode cX7_worst 49 = .ok (.iload 5, 2) := by decide +kernel
theorem dX7_worst_51 : decode cX7_worst 51 = .ok (.invokevirtual 131, 3) := by decide +kernel
theorem dX7_worst_54 : decode cX7_worst 54 = .ok (.istore 4, 2) := by decide +kernel
theorem dX7_worst_56 : decode cX7_worst 56 = .ok (.iinc 5 1, 3) := by decide +kernel
theorem dX7_worst_59 : decode cX7_worst 59 = .ok (.goto (-51), 3) := by decide +kernel
theorem dX7_worst_62 : decode cX7_worst 62 = .ok (.iload_n 3, 1) := by decide +kernel
theorem dX7_worst_63 : decode cX7_worst 63 = .ok (.ireturn, 1) := by decide +kernel
theorem dX7_fitting_0 : decode cX7_fitting 0 = .ok (.iconst 0, 1) := by decide +kernel
theorem dX7_fitting_1 : decode cX7_fitting 1 = .ok (.istore_n 3, 1) := by decide +kernel
theorem dX7_fitting_2 : decode cX7_fitting 2 = .ok (.iconst 0, 1) := by decide +kernel
theorem dX7_fitting_3 : decode cX7_fitting 3 = .ok (.istore 4, 2) := by decide +kernel
theorem dX7_fitting_5 : decode cX7_fitting 5 = .ok (.iload 4, 2) := by decide +kernel
theorem dX7_fitting_7 : decode cX7_fitting 7 = .ok (.aload_n 1, 1) := by decide +kernel
theorem dX7_fitting_8 : decode cX7_fitting 8 = .ok (.getfield 42, 3) := by decide +kernel
theorem dX7_fitting_11 : decode cX7_fitting 11 = .ok (.if_icmp .ge 35, 3) := by decide +kernel
theorem dX7_fitting_14 : decode cX7_fitting 14 = .ok (.aload_n 1, 1) := by decide +kernel
theorem dX7_fitting_15 : decode cX7_fitting 15 = .ok (.iload 4, 2) := by decide +kernel
theorem dX7_fitting_17 : decode cX7_fitting 17 = .ok (.invokevirtual 55, 3) := by decide +kernel
theorem dX7_fitting_20 : decode cX7_fitting 20 = .ok (.ifCond .ne 20, 3) := by decide +kernel
theorem dX7_fitting_23 : decode cX7_fitting 23 = .ok (.aload_n 0, 1) := by decide +kernel
theorem dX7_fitting_24 : decode cX7_fitting 24 = .ok (.aload_n 2, 1) := by decide +kernel
theorem dX7_fitting_25 : decode cX7_fitting 25 = .ok (.iload 4, 2) := by decide +kernel
theorem dX7_fitting_27 : decode cX7_fitting 27 = .ok (.invokevirtual 134, 3) := by decide +kernel
theorem dX7_fitting_30 : decode cX7_fitting 30 = .ok (.ifCond .eq 10, 3) := by decide +kernel
theorem dX7_fitting_33 : decode cX7_fitting 33 = .ok (.iload_n 3, 1) := by decide +kernel
theorem dX7_fitting_34 : decode cX7_fitting 34 = .ok (.iconst 1, 1) := by decide +kernel
theorem dX7_fitting_35 : decode cX7_fitting 35 = .ok (.iload 4, 2) := by decide +kernel
theorem dX7_fitting_37 : decode cX7_fitting 37 = .ok (.ishl, 1) := by decide +kernel
theorem dX7_fitting_38 : decode cX7_fitting 38 = .ok (.ior, 1) := by decide +kernel
theorem dX7_fitting_39 : decode cX7_fitting 39 = .ok (.istore_n 3, 1) := by decide +kernel
theorem dX7_fitting_40 : decode cX7_fitting 40 = .ok (.iinc 4 1, 3) := by decide +kernel
theorem dX7_fitting_43 : decode cX7_fitting 43 = .ok (.goto (-38), 3) := by decide +kernel
theorem dX7_fitting_46 : decode cX7_fitting 46 = .ok (.iload_n 3, 1) := by decide +kernel
theorem dX7_fitting_47 : decode cX7_fitting 47 = .ok (.ireturn, 1) := by decide +kernel
theorem dX7_agrees_0 : decode cX7_agrees 0 = .ok (.iconst 0, 1) := by decide +kernel
theorem dX7_agrees_1 : decode cX7_agrees 1 = .ok (.istore_n 3, 1) := by decide +kernel
theorem dX7_agrees_2 : decode cX7_agrees 2 = .ok (.iload_n 3, 1) := by decide +kernel
theorem dX7_agrees_3 : decode cX7_agrees 3 = .ok (.aload_n 1, 1) := by decide +kernel
theorem dX7_agrees_4 : decode cX7_agrees 4 = .ok (.getfield 138, 3) := by decide +kernel
theorem dX7_agrees_7 : decode cX7_agrees 7 = .ok (.if_icmp .ge 63, 3) := by decide +kernel
theorem dX7_agrees_10 : decode cX7_agrees 10 = .ok (.aload_n 0, 1) := by decide +kernel
theorem dX7_agrees_11 : decode cX7_agrees 11 = .ok (.getfield 9, 3) := by decide +kernel
theorem dX7_agrees_14 : decode cX7_agrees 14 = .ok (.iload_n 2, 1) := by decide +kernel
theorem dX7_agrees_15 : decode cX7_agrees 15 = .ok (.bipush 9, 2) := by decide +kernel
theorem dX7_agrees_17 : decode cX7_agrees 17 = .ok (.imul, 1) := by decide +kernel
theorem dX7_agrees_18 : decode cX7_agrees 18 = .ok (.aload_n 1, 1) := by decide +kernel
theorem dX7_agrees_19 : decode cX7_agrees 19 = .ok (.getfield 143, 3) := by decide +kernel
theorem dX7_agrees_22 : decode cX7_agrees 22 = .ok (.iload_n 3, 1) := by decide +kernel
theorem dX7_agrees_23 : decode cX7_agrees 23 = .ok (.iaload, 1) := by decide +kernel
theorem dX7_agrees_24 : decode cX7_agrees 24 = .ok (.iadd, 1) := by decide +kernel
theorem dX7_agrees_25 : decode cX7_agrees 25 = .ok (.iaload, 1) := by decide +kernel
theorem dX7_agrees_26 : decode cX7_agrees 26 = .ok (.aload_n 1, 1) := by decide +kernel
theorem dX7_agrees_27 : decode cX7_agrees 27 = .ok (.getfield 145, 3) := by decide +kernel
theorem dX7_agrees_30 : decode cX7_agrees 30 = .ok (.iload_n 3, 1) := by decide +kernel
theorem dX7_agrees_31 : decode cX7_agrees 31 = .ok (.iaload, 1) := by decide +kernel
theorem dX7_agrees_32 : decode cX7_agrees 32 = .ok (.if_icmp .gt 7, 3) := by decide +kernel
theorem dX7_agrees_35 : decode cX7_agrees 35 = .ok (.iconst 1, 1) := by decide +kernel
theorem dX7_agrees_36 : decode cX7_agrees 36 = .ok (.goto 4, 3) := by decide +kernel
theorem dX7_agrees_39 : decode cX7_agrees 39 = .ok (.iconst 0, 1) := by decide +kernel
theorem dX7_agrees_40 : decode cX7_agrees 40 = .ok (.istore 4, 2) := by decide +kernel
theorem dX7_agrees_42 : decode cX7_agrees 42 = .ok (.iload 4, 2) := by decide +kernel
theorem dX7_agrees_44 : decode cX7_agrees 44 = .ok (.aload_n 1, 1) := by decide +kernel
theorem dX7_agrees_45 : decode cX7_agrees 45 = .ok (.getfield 146, 3) := by decide +kernel
theorem dX7_agrees_48 : decode cX7_agrees 48 = .ok (.iload_n 3, 1) := by decide +kernel
theorem dX7_agrees_49 : decode cX7_agrees 49 = .ok (.iaload, 1) := by decide +kernel
theorem dX7_agrees_50 : decode cX7_agrees 50 = .ok (.iconst 1, 1) := by decide +kernel
theorem dX7_agrees_51 : decode cX7_agrees 51 = .ok (.if_icmp .ne 7, 3) := by decide +kernel
theorem dX7_agrees_54 : decode cX7_agrees 54 = .ok (.iconst 1, 1) := by decide +kernel
theorem dX7_agrees_55 : decode cX7_agrees 55 = .ok (.goto 4, 3) := by decide +kernel
theorem dX7_agrees_58 : decode cX7_agrees 58 = .ok (.iconst 0, 1) := by decide +kernel
theorem dX7_agrees_59 : decode cX7_agrees 59 = .ok (.if_icmp .eq 5, 3) := by decide +kernel
theorem dX7_agrees_62 : decode cX7_agrees 62 = .ok (.iconst 0, 1) := by decide +kernel
theorem dX7_agrees_63 : decode cX7_agrees 63 = .ok (.ireturn, 1) := by decide +kernel
theorem dX7_agrees_64 : decode cX7_agrees 64 = .ok (.iinc 3 1, 3) := by decide +kernel
theorem dX7_agrees_67 : decode cX7_agrees 67 = .ok (.goto (-65), 3) := by decide +kernel
theorem dX7_agrees_70 : decode cX7_agrees 70 = .ok (.iconst 1, 1) := by decide +kernel
theorem dX7_agrees_71 : decode cX7_agrees 71 = .ok (.ireturn, 1) := by decide +kernel
theorem dX7_question_0 : decode cX7_question 0 = .ok (.iload_n 2, 1) := by decide +kernel
theorem dX7_question_1 : decode cX7_question 1 = .ok (.ifCond .ne 5, 3) := by decide +kernel
theorem dX7_question_4 : decode cX7_question 4 = .ok (.iconst (-1), 1) := by decide +kernel
theorem dX7_question_5 : decode cX7_question 5 = .ok (.ireturn, 1) := by decide +kernel
theorem dX7_question_6 : decode cX7_question 6 = .ok (.iconst (-1), 1) := by decide +kernel
theorem dX7_question_7 : decode cX7_question 7 = .ok (.istore_n 3, 1) := by decide +kernel
theorem dX7_question_8 : decode cX7_question 8 = .ok (.sipush 1000, 3) := by decide +kernel
theorem dX7_question_11 : decode cX7_question 11 = .ok (.istore 4, 2) := by decide +kernel
theorem dX7_question_13 : decode cX7_question 13 = .ok (.iconst 0, 1) := by decide +kernel
theorem dX7_question_14 : decode cX7_question 14 = .ok (.istore 5, 2) := by decide +kernel
theorem dX7_question_16 : decode cX7_question 16 = .ok (.iload 5, 2) := by decide +kernel
theorem dX7_question_18 : decode cX7_question 18 = .ok (.bipush 60, 2) := by decide +kernel
theorem dX7_question_20 : decode cX7_question 20 = .ok (.if_icmp .gt 59, 3) := by decide +kernel
theorem dX7_question_23 : decode cX7_question 23 = .ok (.iconst 0, 1) := by decide +kernel
theorem dX7_question_24 : decode cX7_question 24 = .ok (.istore 6, 2) := by decide +kernel
theorem dX7_question_26 : decode cX7_question 26 = .ok (.iload 6, 2) := by decide +kernel
theorem dX7_question_28 : decode cX7_question 28 = .ok (.aload_n 1, 1) := by decide +kernel
theorem dX7_question_29 : decode cX7_question 29 = .ok (.getfield 42, 3) := by decide +kernel
theorem dX7_question_32 : decode cX7_question 32 = .ok (.if_icmp .ge 41, 3) := by decide +kernel
theorem dX7_question_35 : decode cX7_question 35 = .ok (.aload_n 0, 1) := by decide +kernel
theorem dX7_question_36 : decode cX7_question 36 = .ok (.aload_n 1, 1) := by decide +kernel
theorem dX7_question_37 : decode cX7_question 37 = .ok (.iload_n 2, 1) := by decide +kernel
theorem dX7_question_38 : decode cX7_question 38 = .ok (.iload 6, 2) := by decide +kernel
theorem dX7_question_40 : decode cX7_question 40 = .ok (.iload 5, 2) := by decide +kernel
theorem dX7_question_42 : decode cX7_question 42 = .ok (.invokevirtual 147, 3) := by decide +kernel
theorem dX7_question_45 : decode cX7_question 45 = .ok (.istore 7, 2) := by decide +kernel
theorem dX7_question_47 : decode cX7_question 47 = .ok (.iload 7, 2) := by decide +kernel
theorem dX7_question_49 : decode cX7_question 49 = .ok (.iload 4, 2) := by decide +kernel
theorem dX7_question_51 : decode cX7_question 51 = .ok (.if_icmp .ge 16, 3) := by decide +kernel
theorem dX7_question_54 : decode cX7_question 54 = .ok (.bipush 10, 2) := by decide +kernel
theorem dX7_question_56 : decode cX7_question 56 = .ok (.iload 5, 2) := by decide +kernel
theorem dX7_question_58 : decode cX7_question 58 = .ok (.imul, 1) := by decide +kernel
theorem dX7_question_59 : decode cX7_question 59 = .ok (.iload 6, 2) := by decide +kernel
theorem dX7_question_61 : decode cX7_question 61 = .ok (.iadd, 1) := by decide +kernel
theorem dX7_question_62 : decode cX7_question 62 = .ok (.istore_n 3, 1) := by decide +kernel
theorem dX7_question_63 : decode cX7_question 63 = .ok (.iload 7, 2) := by decide +kernel
theorem dX7_question_65 : decode cX7_question 65 = .ok (.istore 4, 2) := by decide +kernel
theorem dX7_question_67 : decode cX7_question 67 = .ok (.iinc 6 1, 3) := by decide +kernel
theorem dX7_question_70 : decode cX7_question 70 = .ok (.goto (-44), 3) := by decide +kernel
theorem dX7_question_73 : decode cX7_question 73 = .ok (.iinc 5 1, 3) := by decide +kernel
theorem dX7_question_76 : decode cX7_question 76 = .ok (.goto (-60), 3) := by decide +kernel
theorem dX7_question_79 : decode cX7_question 79 = .ok (.iload_n 3, 1) := by decide +kernel
theorem dX7_question_80 : decode cX7_question 80 = .ok (.ireturn, 1) := by decide +kernel
theorem dX7_greaterPart_0 : decode cX7_greaterPart 0 = .ok (.iload_n 2, 1) := by decide +kernel
theorem dX7_greaterPart_1 : decode cX7_greaterPart 1 = .ok (.aload_n 0, 1) := by decide +kernel
theorem dX7_greaterPart_2 : decode cX7_greaterPart 2 = .ok (.aload_n 1, 1) := by decide +kernel
theorem dX7_greaterPart_3 : decode cX7_greaterPart 3 = .ok (.iload_n 3, 1) := by decide +kernel
theorem dX7_greaterPart_4 : decode cX7_greaterPart 4 = .ok (.iload 4, 2) := by decide +kernel
theorem dX7_greaterPart_6 : decode cX7_greaterPart 6 = .ok (.invokevirtual 151, 3) := by decide +kernel
theorem dX7_greaterPart_9 : decode cX7_greaterPart 9 = .ok (.iand, 1) := by decide +kernel
theorem dX7_greaterPart_10 : decode cX7_greaterPart 10 = .ok (.invokestatic 97, 3) := by decide +kernel
theorem dX7_greaterPart_13 : decode cX7_greaterPart 13 = .ok (.istore 5, 2) := by decide +kernel
theorem dX7_greaterPart_15 : decode cX7_greaterPart 15 = .ok (.iload 5, 2) := by decide +kernel
theorem dX7_greaterPart_17 : decode cX7_greaterPart 17 = .ok (.iload_n 2, 1) := by decide +kernel
theorem dX7_greaterPart_18 : decode cX7_greaterPart 18 = .ok (.invokestatic 97, 3) := by decide +kernel
theorem dX7_greaterPart_21 : decode cX7_greaterPart 21 = .ok (.iload 5, 2) := by decide +kernel
theorem dX7_greaterPart_23 : decode cX7_greaterPart 23 = .ok (.isub, 1) := by decide +kernel
theorem dX7_greaterPart_24 : decode cX7_greaterPart 24 = .ok (.invokestatic 76, 3) := by decide +kernel
theorem dX7_greaterPart_27 : decode cX7_greaterPart 27 = .ok (.ireturn, 1) := by decide +kernel
theorem dX7_fromBy_0 : decode cX7_fromBy 0 = .ok (.iconst 0, 1) := by decide +kernel
theorem dX7_fromBy_1 : decode cX7_fromBy 1 = .ok (.istore 4, 2) := by decide +kernel
theorem dX7_fromBy_3 : decode cX7_fromBy 3 = .ok (.iconst 0, 1) := by decide +kernel
theorem dX7_fromBy_4 : decode cX7_fromBy 4 = .ok (.istore 5, 2) := by decide +kernel
theorem dX7_fromBy_6 : decode cX7_fromBy 6 = .ok (.iload 5, 2) := by decide +kernel
theorem dX7_fromBy_8 : decode cX7_fromBy 8 = .ok (.aload_n 1, 1) := by decide +kernel
theorem dX7_fromBy_9 : decode cX7_fromBy 9 = .ok (.getfield 42, 3) := by decide +kernel
theorem dX7_fromBy_12 : decode cX7_fromBy 12 = .ok (.if_icmp .ge 34, 3) := by decide +kernel
theorem dX7_fromBy_15 : decode cX7_fromBy 15 = .ok (.aload_n 0, 1) := by decide +kernel
theorem dX7_fromBy_16 : decode cX7_fromBy 16 = .ok (.getfield 9, 3) := by decide +kernel
theorem dX7_fromBy_19 : decode cX7_fromBy 19 = .ok (.iload 5, 2) := by decide +kernel
theorem dX7_fromBy_21 : decode cX7_fromBy 21 = .ok (.bipush 9, 2) := by decide +kernel
theorem dX7_fromBy_23 : decode cX7_fromBy 23 = .ok (.imul, 1) := by decide +kernel
theorem dX7_fromBy_24 : decode cX7_fromBy 24 = .ok (.iload_n 2, 1) := by decide +kernel
theorem dX7_fromBy_25 : decode cX7_fromBy 25 = .ok (.iadd, 1) := by decide +kernel
theorem dX7_fromBy_26 : decode cX7_fromBy 26 = .ok (.iaload, 1) := by decide +kernel
theorem dX7_fromBy_27 : decode cX7_fromBy 27 = .ok (.iload_n 3, 1) := by decide +kernel
theorem dX7_fromBy_28 : decode cX7_fromBy 28 = .ok (.if_icmp .gt 12, 3) := by decide +kernel
theorem dX7_fromBy_31 : decode cX7_fromBy 31 = .ok (.iload 4, 2) := by decide +kernel
theorem dX7_fromBy_33 : decode cX7_fromBy 33 = .ok (.iconst 1, 1) := by decide +kernel
theorem dX7_fromBy_34 : decode cX7_fromBy 34 = .ok (.iload 5, 2) := by decide +kernel
theorem dX7_fromBy_36 : decode cX7_fromBy 36 = .ok (.ishl, 1) := by decide +kernel
theorem dX7_fromBy_37 : decode cX7_fromBy 37 = .ok (.ior, 1) := by decide +kernel
theorem dX7_fromBy_38 : decode cX7_fromBy 38 = .ok (.istore 4, 2) := by decide +kernel
theorem dX7_fromBy_40 : decode cX7_fromBy 40 = .ok (.iinc 5 1, 3) := by decide +kernel
theorem dX7_fromBy_43 : decode cX7_fromBy 43 = .ok (.goto (-37), 3) := by decide +kernel
theorem dX7_fromBy_46 : decode cX7_fromBy 46 = .ok (.iload 4, 2) := by decide +kernel
theorem dX7_fromBy_48 : decode cX7_fromBy 48 = .ok (.ireturn, 1) := by decide +kernel
theorem dX7_soonest_0 : decode cX7_soonest 0 = .ok (.sipush 1000, 3) := by decide +kernel
theorem dX7_soonest_3 : decode cX7_soonest 3 = .ok (.istore_n 3, 1) := by decide +kernel
theorem dX7_soonest_4 : decode cX7_soonest 4 = .ok (.iconst 0, 1) := by decide +kernel
theorem dX7_soonest_5 : decode cX7_soonest 5 = .ok (.istore 4, 2) := by decide +kernel
theorem dX7_soonest_7 : decode cX7_soonest 7 = .ok (.iload 4, 2) := by decide +kernel
theorem dX7_soonest_9 : decode cX7_soonest 9 = .ok (.aload_n 1, 1) := by decide +kernel
theorem dX7_soonest_10 : decode cX7_soonest 10 = .ok (.getfield 42, 3) := by decide +kernel
theorem dX7_soonest_13 : decode cX7_soonest 13 = .ok (.if_icmp .ge 26, 3) := by decide +kernel
theorem dX7_soonest_16 : decode cX7_soonest 16 = .ok (.iload_n 3, 1) := by decide +kernel
theorem dX7_soonest_17 : decode cX7_soonest 17 = .ok (.aload_n 0, 1) := by decide +kernel
theorem dX7_soonest_18 : decode cX7_soonest 18 = .ok (.getfield 9, 3) := by decide +kernel
theorem dX7_soonest_21 : decode cX7_soonest 21 = .ok (.iload 4, 2) := by decide +kernel
theorem dX7_soonest_23 : decode cX7_soonest 23 = .ok (.bipush 9, 2) := by decide +kernel
theorem dX7_soonest_25 : decode cX7_soonest 25 = .ok (.imul, 1) := by decide +kernel
theorem dX7_soonest_26 : decode cX7_soonest 26 = .ok (.iload_n 2, 1) := by decide +kernel
theorem dX7_soonest_27 : decode cX7_soonest 27 = .ok (.iadd, 1) := by decide +kernel
theorem dX7_soonest_28 : decode cX7_soonest 28 = .ok (.iaload, 1) := by decide +kernel
theorem dX7_soonest_29 : decode cX7_soonest 29 = .ok (.invokestatic 117, 3) := by decide +kernel
theorem dX7_soonest_32 : decode cX7_soonest 32 = .ok (.istore_n 3, 1) := by decide +kernel
theorem dX7_soonest_33 : decode cX7_soonest 33 = .ok (.iinc 4 1, 3) := by decide +kernel
theorem dX7_soonest_36 : decode cX7_soonest 36 = .ok (.goto (-29), 3) := by decide +kernel
theorem dX7_soonest_39 : decode cX7_soonest 39 = .ok (.iload_n 3, 1) := by decide +kernel
theorem dX7_soonest_40 : decode cX7_soonest 40 = .ok (.ireturn, 1) := by decide +kernel
theorem dX7_carried_0 : decode cX7_carried 0 = .ok (.iconst (-1), 1) := by decide +kernel
theorem dX7_carried_1 : decode cX7_carried 1 = .ok (.istore 4, 2) := by decide +kernel
theorem dX7_carried_3 : decode cX7_carried 3 = .ok (.sipush 1000, 3) := by decide +kernel
theorem dX7_carried_6 : decode cX7_carried 6 = .ok (.istore 5, 2) := by decide +kernel
theorem dX7_carried_8 : decode cX7_carried 8 = .ok (.iconst 0, 1) := by decide +kernel
theorem dX7_carried_9 : decode cX7_carried 9 = .ok (.istore 6, 2) := by decide +kernel
theorem dX7_carried_11 : decode cX7_carried 11 = .ok (.iload 6, 2) := by decide +kernel
theorem dX7_carried_13 : decode cX7_carried 13 = .ok (.aload_n 1, 1) := by decide +kernel
theorem dX7_carried_14 : decode cX7_carried 14 = .ok (.getfield 42, 3) := by decide +kernel
theorem dX7_carried_17 : decode cX7_carried 17 = .ok (.if_icmp .ge 55, 3) := by decide +kernel
theorem dX7_carried_20 : decode cX7_carried 20 = .ok (.aload_n 0, 1) := by decide +kernel
theorem dX7_carried_21 : decode cX7_carried 21 = .ok (.getfield 15, 3) := by decide +kernel
theorem dX7_carried_24 : decode cX7_carried 24 = .ok (.iload_n 2, 1) := by decide +kernel
theorem dX7_carried_25 : decode cX7_carried 25 = .ok (.bipush 9, 2) := by decide +kernel
theorem dX7_carried_27 : decode cX7_carried 27 = .ok (.imul, 1) := by decide +kernel
theorem dX7_carried_28 : decode cX7_carried 28 = .ok (.iload 6, 2) := by decide +kernel
theorem dX7_carried_30 : decode cX7_carried 30 = .ok (.iadd, 1) := by decide +kernel
theorem dX7_carried_31 : decode cX7_carried 31 = .ok (.iaload, 1) := by decide +kernel
theorem dX7_carried_32 : decode cX7_carried 32 = .ok (.aload_n 0, 1) := by decide +kernel
theorem dX7_carried_33 : decode cX7_carried 33 = .ok (.aload_n 1, 1) := by decide +kernel
theorem dX7_carried_34 : decode cX7_carried 34 = .ok (.iload 6, 2) := by decide +kernel
theorem dX7_carried_36 : decode cX7_carried 36 = .ok (.invokevirtual 82, 3) := by decide +kernel
theorem dX7_carried_39 : decode cX7_carried 39 = .ok (.iadd, 1) := by decide +kernel
theorem dX7_carried_40 : decode cX7_carried 40 = .ok (.istore 7, 2) := by decide +kernel
theorem dX7_carried_42 : decode cX7_carried 42 = .ok (.aload_n 1, 1) := by decide +kernel
theorem dX7_carried_43 : decode cX7_carried 43 = .ok (.iload 6, 2) := by decide +kernel
theorem dX7_carried_45 : decode cX7_carried 45 = .ok (.invokevirtual 55, 3) := by decide +kernel
theorem dX7_carried_48 : decode cX7_carried 48 = .ok (.ifCond .ne 18, 3) := by decide +kernel
theorem dX7_carried_51 : decode cX7_carried 51 = .ok (.iload 7, 2) := by decide +kernel
theorem dX7_carried_53 : decode cX7_carried 53 = .ok (.iload 5, 2) := by decide +kernel
theorem dX7_carried_55 : decode cX7_carried 55 = .ok (.if_icmp .ge 11, 3) := by decide +kernel
theorem dX7_carried_58 : decode cX7_carried 58 = .ok (.iload 6, 2) := by decide +kernel
theorem dX7_carried_60 : decode cX7_carried 60 = .ok (.istore 4, 2) := by decide +kernel
theorem dX7_carried_62 : decode cX7_carried 62 = .ok (.iload 7, 2) := by decide +kernel
theorem dX7_carried_64 : decode cX7_carried 64 = .ok (.istore 5, 2) := by decide +kernel
theorem dX7_carried_66 : decode cX7_carried 66 = .ok (.iinc 6 1, 3) := by decide +kernel
theorem dX7_carried_69 : decode cX7_carried 69 = .ok (.goto (-58), 3) := by decide +kernel
theorem dX7_carried_72 : decode cX7_carried 72 = .ok (.iload 4, 2) := by decide +kernel
theorem dX7_carried_74 : decode cX7_carried 74 = .ok (.iconst (-1), 1) := by decide +kernel
theorem dX7_carried_75 : decode cX7_carried 75 = .ok (.if_icmp .eq 12, 3) := by decide +kernel
theorem dX7_carried_78 : decode cX7_carried 78 = .ok (.iload_n 3, 1) := by decide +kernel
theorem dX7_carried_79 : decode cX7_carried 79 = .ok (.ifCond .eq 8, 3) := by decide +kernel
theorem dX7_carried_82 : decode cX7_carried 82 = .ok (.iload 5, 2) := by decide +kernel
theorem dX7_carried_84 : decode cX7_carried 84 = .ok (.goto 5, 3) := by decide +kernel
theorem dX7_carried_87 : decode cX7_carried 87 = .ok (.iload 4, 2) := by decide +kernel
theorem dX7_carried_89 : decode cX7_carried 89 = .ok (.ireturn, 1) := by decide +kernel
theorem dX7_tops_0 : decode cX7_tops 0 = .ok (.iconst 0, 1) := by decide +kernel
theorem dX7_tops_1 : decode cX7_tops 1 = .ok (.istore_n 2, 1) := by decide +kernel
theorem dX7_tops_2 : decode cX7_tops 2 = .ok (.iconst 0, 1) := by decide +kernel
theorem dX7_tops_3 : decode cX7_tops 3 = .ok (.istore_n 3, 1) := by decide +kernel
theorem dX7_tops_4 : decode cX7_tops 4 = .ok (.iload_n 3, 1) := by decide +kernel
theorem dX7_tops_5 : decode cX7_tops 5 = .ok (.aload_n 1, 1) := by decide +kernel
theorem dX7_tops_6 : decode cX7_tops 6 = .ok (.getfield 42, 3) := by decide +kernel
theorem dX7_tops_9 : decode cX7_tops 9 = .ok (.if_icmp .ge 30, 3) := by decide +kernel
theorem dX7_tops_12 : decode cX7_tops 12 = .ok (.aload_n 0, 1) := by decide +kernel
theorem dX7_tops_13 : decode cX7_tops 13 = .ok (.aload_n 1, 1) := by decide +kernel
theorem dX7_tops_14 : decode cX7_tops 14 = .ok (.iload_n 3, 1) := by decide +kernel
theorem dX7_tops_15 : decode cX7_tops 15 = .ok (.sipush 999, 3) := by decide +kernel
theorem dX7_tops_18 : decode cX7_tops 18 = .ok (.invokevirtual 151, 3) := by decide +kernel
theorem dX7_tops_21 : decode cX7_tops 21 = .ok (.iconst 1, 1) := by decide +kernel
theorem dX7_tops_22 : decode cX7_tops 22 = .ok (.iload_n 3, 1) := by decide +kernel
theorem dX7_tops_23 : decode cX7_tops 23 = .ok (.ishl, 1) := by decide +kernel
theorem dX7_tops_24 : decode cX7_tops 24 = .ok (.if_icmp .ne 9, 3) := by decide +kernel
theorem dX7_tops_27 : decode cX7_tops 27 = .ok (.iload_n 2, 1) := by decide +kernel
theorem dX7_tops_28 : decode cX7_tops 28 = .ok (.iconst 1, 1) := by decide +kernel
theorem dX7_tops_29 : decode cX7_tops 29 = .ok (.iload_n 3, 1) := by decide +kernel
theorem dX7_tops_30 : decode cX7_tops 30 = .ok (.ishl, 1) := by decide +kernel
theorem dX7_tops_31 : decode cX7_tops 31 = .ok (.ior, 1) := by decide +kernel
theorem dX7_tops_32 : decode cX7_tops 32 = .ok (.istore_n 2, 1) := by decide +kernel
theorem dX7_tops_33 : decode cX7_tops 33 = .ok (.iinc 3 1, 3) := by decide +kernel
theorem dX7_tops_36 : decode cX7_tops 36 = .ok (.goto (-32), 3) := by decide +kernel
theorem dX7_tops_39 : decode cX7_tops 39 = .ok (.iload_n 2, 1) := by decide +kernel
theorem dX7_tops_40 : decode cX7_tops 40 = .ok (.ireturn, 1) := by decide +kernel
theorem dX7_ends_0 : decode cX7_ends 0 = .ok (.iconst 0, 1) := by decide +kernel
theorem dX7_ends_1 : decode cX7_ends 1 = .ok (.istore_n 2, 1) := by decide +kernel
theorem dX7_ends_2 : decode cX7_ends 2 = .ok (.iconst 0, 1) := by decide +kernel
theorem dX7_ends_3 : decode cX7_ends 3 = .ok (.istore_n 3, 1) := by decide +kernel
theorem dX7_ends_4 : decode cX7_ends 4 = .ok (.iload_n 3, 1) := by decide +kernel
theorem dX7_ends_5 : decode cX7_ends 5 = .ok (.aload_n 1, 1) := by decide +kernel
theorem dX7_ends_6 : decode cX7_ends 6 = .ok (.getfield 42, 3) := by decide +kernel
theorem dX7_ends_9 : decode cX7_ends 9 = .ok (.if_icmp .ge 32, 3) := by decide +kernel
theorem dX7_ends_12 : decode cX7_ends 12 = .ok (.aload_n 1, 1) := by decide +kernel
theorem dX7_ends_13 : decode cX7_ends 13 = .ok (.iload_n 3, 1) := by decide +kernel
theorem dX7_ends_14 : decode cX7_ends 14 = .ok (.invokevirtual 55, 3) := by decide +kernel
theorem dX7_ends_17 : decode cX7_ends 17 = .ok (.ifCond .ne 18, 3) := by decide +kernel
theorem dX7_ends_20 : decode cX7_ends 20 = .ok (.aload_n 0, 1) := by decide +kernel
theorem dX7_ends_21 : decode cX7_ends 21 = .ok (.aload_n 1, 1) := by decide +kernel
theorem dX7_ends_22 : decode cX7_ends 22 = .ok (.iload_n 3, 1) := by decide +kernel
theorem dX7_ends_23 : decode cX7_ends 23 = .ok (.invokevirtual 155, 3) := by decide +kernel
theorem dX7_ends_26 : decode cX7_ends 26 = .ok (.ifCond .ne 9, 3) := by decide +kernel
theorem dX7_ends_29 : decode cX7_ends 29 = .ok (.iload_n 2, 1) := by decide +kernel
theorem dX7_ends_30 : decode cX7_ends 30 = .ok (.iconst 1, 1) := by decide +kernel
theorem dX7_ends_31 : decode cX7_ends 31 = .ok (.iload_n 3, 1) := by decide +kernel
theorem dX7_ends_32 : decode cX7_ends 32 = .ok (.ishl, 1) := by decide +kernel
theorem dX7_ends_33 : decode cX7_ends 33 = .ok (.ior, 1) := by decide +kernel
theorem dX7_ends_34 : decode cX7_ends 34 = .ok (.istore_n 2, 1) := by decide +kernel
theorem dX7_ends_35 : decode cX7_ends 35 = .ok (.iinc 3 1, 3) := by decide +kernel
theorem dX7_ends_38 : decode cX7_ends 38 = .ok (.goto (-34), 3) := by decide +kernel
theorem dX7_ends_41 : decode cX7_ends 41 = .ok (.iload_n 2, 1) := by decide +kernel
theorem dX7_ends_42 : decode cX7_ends 42 = .ok (.ireturn, 1) := by decide +kernel
theorem dX7_couples_0 : decode cX7_couples 0 = .ok (.iconst 0, 1) := by decide +kernel
theorem dX7_couples_1 : decode cX7_couples 1 = .ok (.istore_n 2, 1) := by decide +kernel
theorem dX7_couples_2 : decode cX7_couples 2 = .ok (.iconst 0, 1) := by decide +kernel
theorem dX7_couples_3 : decode cX7_couples 3 = .ok (.istore_n 3, 1) := by decide +kernel
theorem dX7_couples_4 : decode cX7_couples 4 = .ok (.iload_n 3, 1) := by decide +kernel
theorem dX7_couples_5 : decode cX7_couples 5 = .ok (.aload_n 1, 1) := by decide +kernel
theorem dX7_couples_6 : decode cX7_couples 6 = .ok (.getfield 42, 3) := by decide +kernel
theorem dX7_couples_9 : decode cX7_couples 9 = .ok (.if_icmp .ge 18, 3) := by decide +kernel
theorem dX7_couples_12 : decode cX7_couples 12 = .ok (.iload_n 2, 1) := by decide +kernel
theorem dX7_couples_13 : decode cX7_couples 13 = .ok (.aload_n 0, 1) := by decide +kernel
theorem dX7_couples_14 : decode cX7_couples 14 = .ok (.aload_n 1, 1) := by decide +kernel
theorem dX7_couples_15 : decode cX7_couples 15 = .ok (.iload_n 3, 1) := by decide +kernel
theorem dX7_couples_16 : decode cX7_couples 16 = .ok (.invokevirtual 155, 3) := by decide +kernel
theorem dX7_couples_19 : decode cX7_couples 19 = .ok (.iadd, 1) := by decide +kernel
theorem dX7_couples_20 : decode cX7_couples 20 = .ok (.istore_n 2, 1) := by decide +kernel
theorem dX7_couples_21 : decode cX7_couples 21 = .ok (.iinc 3 1, 3) := by decide +kernel
theorem dX7_couples_24 : decode cX7_couples 24 = .ok (.goto (-20), 3) := by decide +kernel
theorem dX7_couples_27 : decode cX7_couples 27 = .ok (.iload_n 2, 1) := by decide +kernel
theorem dX7_couples_28 : decode cX7_couples 28 = .ok (.ireturn, 1) := by decide +kernel
theorem dX7_heardElsewhere_0 : decode cX7_heardElsewhere 0 = .ok (.iconst 0, 1) := by decide +kernel
theorem dX7_heardElsewhere_1 : decode cX7_heardElsewhere 1 = .ok (.istore_n 3, 1) := by decide +kernel
theorem dX7_heardElsewhere_2 : decode cX7_heardElsewhere 2 = .ok (.iconst 0, 1) := by decide +kernel
theorem dX7_heardElsewhere_3 : decode cX7_heardElsewhere 3 = .ok (.istore 4, 2) := by decide +kernel
theorem dX7_heardElsewhere_5 : decode cX7_heardElsewhere 5 = .ok (.iload 4, 2) := by decide +kernel
theorem dX7_heardElsewhere_7 : decode cX7_heardElsewhere 7 = .ok (.aload_n 1, 1) := by decide +kernel
theorem dX7_heardElsewhere_8 : decode cX7_heardElsewhere 8 = .ok (.getfield 42, 3) := by decide +kernel
theorem dX7_heardElsewhere_11 : decode cX7_heardElsewhere 11 = .ok (.if_icmp .ge 36, 3) := by decide +kernel
theorem dX7_heardElsewhere_14 : decode cX7_heardElsewhere 14 = .ok (.iload 4, 2) := by decide +kernel
theorem dX7_heardElsewhere_16 : decode cX7_heardElsewhere 16 = .ok (.iload_n 2, 1) := by decide +kernel
theorem dX7_heardElsewhere_17 : decode cX7_heardElsewhere 17 = .ok (.if_icmp .eq 24, 3) := by decide +kernel
theorem dX7_heardElsewhere_20 : decode cX7_heardElsewhere 20 = .ok (.aload_n 0, 1) := by decide +kernel
theorem dX7_heardElsewhere_21 : decode cX7_heardElsewhere 21 = .ok (.getfield 9, 3) := by decide +kernel
theorem dX7_heardElsewhere_24 : decode cX7_heardElsewhere 24 = .ok (.iload_n 2, 1) := by decide +kernel
theorem dX7_heardElsewhere_25 : decode cX7_heardElsewhere 25 = .ok (.bipush 9, 2) := by decide +kernel
theorem dX7_heardElsewhere_27 : decode cX7_heardElsewhere 27 = .ok (.imul, 1) := by decide +kernel
theorem dX7_heardElsewhere_28 : decode cX7_heardElsewhere 28 = .ok (.iload 4, 2) := by decide +kernel
theorem dX7_heardElsewhere_30 : decode cX7_heardElsewhere 30 = .ok (.iadd, 1) := by decide +kernel
theorem dX7_heardElsewhere_31 : decode cX7_heardElsewhere 31 = .ok (.iaload, 1) := by decide +kernel
theorem dX7_heardElsewhere_32 : decode cX7_heardElsewhere 32 = .ok (.sipush 1000, 3) := by decide +kernel
theorem dX7_heardElsewhere_35 : decode cX7_heardElsewhere 35 = .ok (.if_icmp .ge 6, 3) := by decide +kernel
theorem dX7_heardElsewhere_38 : decode cX7_heardElsewhere 38 = .ok (.iinc 3 1, 3) := by decide +kernel
theorem dX7_heardElsewhere_41 : decode cX7_heardElsewhere 41 = .ok (.iinc 4 1, 3) := by decide +kernel
theorem dX7_heardElsewhere_44 : decode cX7_heardElsewhere 44 = .ok (.goto (-39), 3) := by decide +kernel
theorem dX7_heardElsewhere_47 : decode cX7_heardElsewhere 47 = .ok (.iload_n 3, 1) := by decide +kernel
theorem dX7_heardElsewhere_48 : decode cX7_heardElsewhere 48 = .ok (.ireturn, 1) := by decide +kernel
theorem dX7_fewestDams_0 : decode cX7_fewestDams 0 = .ok (.aload_n 1, 1) := by decide +kernel
theorem dX7_fewestDams_1 : decode cX7_fewestDams 1 = .ok (.getfield 158, 3) := by decide +kernel
theorem dX7_fewestDams_4 : decode cX7_fewestDams 4 = .ok (.iconst 1, 1) := by decide +kernel
theorem dX7_fewestDams_5 : decode cX7_fewestDams 5 = .ok (.iload_n 2, 1) := by decide +kernel
theorem dX7_fewestDams_6 : decode cX7_fewestDams 6 = .ok (.ishl, 1) := by decide +kernel
theorem dX7_fewestDams_7 : decode cX7_fewestDams 7 = .ok (.ior, 1) := by decide +kernel
theorem dX7_fewestDams_8 : decode cX7_fewestDams 8 = .ok (.iconst 1, 1) := by decide +kernel
theorem dX7_fewestDams_9 : decode cX7_fewestDams 9 = .ok (.iload_n 3, 1) := by decide +kernel
theorem dX7_fewestDams_10 : decode cX7_fewestDams 10 = .ok (.ishl, 1) := by decide +kernel
theorem dX7_fewestDams_11 : decode cX7_fewestDams 11 = .ok (.ior, 1) := by decide +kernel
theorem dX7_fewestDams_12 : decode cX7_fewestDams 12 = .ok (.istore 4, 2) := by decide +kernel
theorem dX7_fewestDams_14 : decode cX7_fewestDams 14 = .ok (.iconst (-1), 1) := by decide +kernel
theorem dX7_fewestDams_15 : decode cX7_fewestDams 15 = .ok (.istore 5, 2) := by decide +kernel
theorem dX7_fewestDams_17 : decode cX7_fewestDams 17 = .ok (.aload_n 1, 1) := by decide +kernel
theorem dX7_fewestDams_18 : decode cX7_fewestDams 18 = .ok (.getfield 42, 3) := by decide +kernel
theorem dX7_fewestDams_21 : decode cX7_fewestDams 21 = .ok (.iconst 1, 1) := by decide +kernel
theorem dX7_fewestDams_22 : decode cX7_fewestDams 22 = .ok (.iadd, 1) := by decide +kernel
theorem dX7_fewestDams_23 : decode cX7_fewestDams 23 = .ok (.istore 6, 2) := by decide +kernel
theorem dX7_fewestDams_25 : decode cX7_fewestDams 25 = .ok (.iconst 0, 1) := by decide +kernel
theorem dX7_fewestDams_26 : decode cX7_fewestDams 26 = .ok (.istore 7, 2) := by decide +kernel
theorem dX7_fewestDams_28 : decode cX7_fewestDams 28 = .ok (.iload 7, 2) := by decide +kernel
theorem dX7_fewestDams_30 : decode cX7_fewestDams 30 = .ok (.iconst 1, 1) := by decide +kernel
theorem dX7_fewestDams_31 : decode cX7_fewestDams 31 = .ok (.aload_n 1, 1) := by decide +kernel
theorem dX7_fewestDams_32 : decode cX7_fewestDams 32 = .ok (.getfield 42, 3) := by decide +kernel
theorem dX7_fewestDams_35 : decode cX7_fewestDams 35 = .ok (.ishl, 1) := by decide +kernel
theorem dX7_fewestDams_36 : decode cX7_fewestDams 36 = .ok (.if_icmp .ge 55, 3) := by decide +kernel
theorem dX7_fewestDams_39 : decode cX7_fewestDams 39 = .ok (.iload 7, 2) := by decide +kernel
theorem dX7_fewestDams_41 : decode cX7_fewestDams 41 = .ok (.iload 4, 2) := by decide +kernel
theorem dX7_fewestDams_43 : decode cX7_fewestDams 43 = .ok (.iand, 1) := by decide +kernel
theorem dX7_fewestDams_44 : decode cX7_fewestDams 44 = .ok (.ifCond .ne 41, 3) := by decide +kernel
theorem dX7_fewestDams_47 : decode cX7_fewestDams 47 = .ok (.iload 7, 2) := by decide +kernel
theorem dX7_fewestDams_49 : decode cX7_fewestDams 49 = .ok (.invokestatic 97, 3) := by decide +kernel
theorem dX7_fewestDams_52 : decode cX7_fewestDams 52 = .ok (.iload 6, 2) := by decide +kernel
theorem dX7_fewestDams_54 : decode cX7_fewestDams 54 = .ok (.if_icmp .ge 31, 3) := by decide +kernel
theorem dX7_fewestDams_57 : decode cX7_fewestDams 57 = .ok (.iload_n 2, 1) := by decide +kernel
theorem dX7_fewestDams_58 : decode cX7_fewestDams 58 = .ok (.aload_n 0, 1) := by decide +kernel
theorem dX7_fewestDams_59 : decode cX7_fewestDams 59 = .ok (.getfield 24, 3) := by decide +kernel
theorem dX7_fewestDams_62 : decode cX7_fewestDams 62 = .ok (.iload 7, 2) := by decide +kernel
theorem dX7_fewestDams_64 : decode cX7_fewestDams 64 = .ok (.invokestatic 127, 3) := by decide +kernel
theorem dX7_fewestDams_67 : decode cX7_fewestDams 67 = .ok (.iload_n 3, 1) := by decide +kernel
theorem dX7_fewestDams_68 : decode cX7_fewestDams 68 = .ok (.invokestatic 70, 3) := by decide +kernel
theorem dX7_fewestDams_71 : decode cX7_fewestDams 71 = .ok (.ifCond .ne 14, 3) := by decide +kernel
theorem dX7_fewestDams_74 : decode cX7_fewestDams 74 = .ok (.iload 7, 2) := by decide +kernel
theorem dX7_fewestDams_76 : decode cX7_fewestDams 76 = .ok (.istore 5, 2) := by decide +kernel
theorem dX7_fewestDams_78 : decode cX7_fewestDams 78 = .ok (.iload 7, 2) := by decide +kernel
theorem dX7_fewestDams_80 : decode cX7_fewestDams 80 = .ok (.invokestatic 97, 3) := by decide +kernel
theorem dX7_fewestDams_83 : decode cX7_fewestDams 83 = .ok (.istore 6, 2) := by decide +kernel
theorem dX7_fewestDams_85 : decode cX7_fewestDams 85 = .ok (.iinc 7 1, 3) := by decide +kernel
theorem dX7_fewestDams_88 : decode cX7_fewestDams 88 = .ok (.goto (-60), 3) := by decide +kernel
theorem dX7_fewestDams_91 : decode cX7_fewestDams 91 = .ok (.iload 5, 2) := by decide +kernel
theorem dX7_fewestDams_93 : decode cX7_fewestDams 93 = .ok (.ireturn, 1) := by decide +kernel
