theorem dX3_play_0 : decode cX3_play 0 = .ok (.aload_n 0, 1) := by decide +kernel
theorem dX3_play_1 : decode cX3_play 1 = .ok (.aload_n 1, 1) := by decide +kernel
theorem dX3_play_2 : decode cX3_play 2 = .ok (.invokevirtual 27, 3) := by decide +kernel
theorem dX3_play_5 : decode cX3_play 5 = .ok (.iconst 0, 1) := by decide +kernel
theorem dX3_play_6 : decode cX3_play 6 = .ok (.istore 4, 2) := by decide +kernel
theorem dX3_play_8 : decode cX3_play 8 = .ok (.iload 4, 2) := by decide +kernel
theorem dX3_play_10 : decode cX3_play 10 = .ok (.iload_n 3, 1) := by decide +kernel
theorem dX3_play_11 : decode cX3_play 11 = .ok (.if_icmp .ge 50, 3) := by decide +kernel
theorem dX3_play_14 : decode cX3_play 14 = .ok (.iload 4, 2) := by decide +kernel
theorem dX3_play_16 : decode cX3_play 16 = .ok (.aload_n 2, 1) := by decide +kernel
theorem dX3_play_17 : decode cX3_play 17 = .ok (.getfield 31, 3) := by decide +kernel
theorem dX3_play_20 : decode cX3_play 20 = .ok (.if_icmp .ge 41, 3) := by decide +kernel
theorem dX3_play_23 : decode cX3_play 23 = .ok (.aload_n 0, 1) := by decide +kernel
theorem dX3_play_24 : decode cX3_play 24 = .ok (.aload_n 1, 1) := by decide +kernel
theorem dX3_play_25 : decode cX3_play 25 = .ok (.aload_n 2, 1) := by decide +kernel
theorem dX3_play_26 : decode cX3_play 26 = .ok (.getfield 37, 3) := by decide +kernel
theorem dX3_play_29 : decode cX3_play 29 = .ok (.iload 4, 2) := by decide +kernel
theorem dX3_play_31 : decode cX3_play 31 = .ok (.iaload, 1) := by decide +kernel
theorem dX3_play_32 : decode cX3_play 32 = .ok (.aload_n 2, 1) := by decide +kernel
theorem dX3_play_33 : decode cX3_play 33 = .ok (.getfield 40, 3) := by decide +kernel
theorem dX3_play_36 : decode cX3_play 36 = .ok (.iload 4, 2) := by decide +kernel
theorem dX3_play_38 : decode cX3_play 38 = .ok (.iaload, 1) := by decide +kernel
theorem dX3_play_39 : decode cX3_play 39 = .ok (.aload_n 2, 1) := by decide +kernel
theorem dX3_play_40 : decode cX3_play 40 = .ok (.getfield 43, 3) := by decide +kernel
theorem dX3_play_43 : decode cX3_play 43 = .ok (.iload 4, 2) := by decide +kernel
theorem dX3_play_45 : decode cX3_play 45 = .ok (.iaload, 1) := by decide +kernel
theorem dX3_play_46 : decode cX3_play 46 = .ok (.invokevirtual 46, 3) := by decide +kernel
theorem dX3_play_49 : decode cX3_play 49 = .ok (.ifCond .ne 6, 3) := by decide +kernel
theorem dX3_play_52 : decode cX3_play 52 = .ok (.iload 4, 2) := by decide +kernel
theorem dX3_play_54 : decode cX3_play 54 = .ok (.ireturn, 1) := by decide +kernel
theorem dX3_play_55 : decode cX3_play 55 = .ok (.iinc 4 1, 3) := by decide +kernel
theorem dX3_play_58 : decode cX3_play 58 = .ok (.goto (-50), 3) := by decide +kernel
theorem dX3_play_61 : decode cX3_play 61 = .ok (.iload_n 3, 1) := by decide +kernel
theorem dX3_play_62 : decode cX3_play 62 = .ok (.ireturn, 1) := by decide +kernel
theorem dX3_draw_0 : decode cX3_draw 0 = .ok (.aload_n 0, 1) := by decide +kernel
theorem dX3_draw_1 : decode cX3_draw 1 = .ok (.aload_n 1, 1) := by decide +kernel
theorem dX3_draw_2 : decode cX3_draw 2 = .ok (.invokevirtual 27, 3) := by decide +kernel
theorem dX3_draw_5 : decode cX3_draw 5 = .ok (.aload_n 0, 1) := by decide +kernel
theorem dX3_draw_6 : decode cX3_draw 6 = .ok (.iload_n 2, 1) := by decide +kernel
theorem dX3_draw_7 : decode cX3_draw 7 = .ok (.putfield 50, 3) := by decide +kernel
theorem dX3_draw_10 : decode cX3_draw 10 = .ok (.iconst 0, 1) := by decide +kernel
theorem dX3_draw_11 : decode cX3_draw 11 = .ok (.istore 4, 2) := by decide +kernel
theorem dX3_draw_13 : decode cX3_draw 13 = .ok (.iload 4, 2) := by decide +kernel
theorem dX3_draw_15 : decode cX3_draw 15 = .ok (.iload_n 3, 1) := by decide +kernel
theorem dX3_draw_16 : decode cX3_draw 16 = .ok (.if_icmp .ge 83, 3) := by decide +kernel
theorem dX3_draw_19 : decode cX3_draw 19 = .ok (.aload_n 0, 1) := by decide +kernel
theorem dX3_draw_20 : decode cX3_draw 20 = .ok (.aload_n 1, 1) := by decide +kernel
theorem dX3_draw_21 : decode cX3_draw 21 = .ok (.getfield 53, 3) := by decide +kernel
theorem dX3_draw_24 : decode cX3_draw 24 = .ok (.invokevirtual 58, 3) := by decide +kernel
theorem dX3_draw_27 : decode cX3_draw 27 = .ok (.istore 5, 2) := by decide +kernel
theorem dX3_draw_29 : decode cX3_draw 29 = .ok (.aload_n 0, 1) := by decide +kernel
theorem dX3_draw_30 : decode cX3_draw 30 = .ok (.bipush 8, 2) := by decide +kernel
theorem dX3_draw_32 : decode cX3_draw 32 = .ok (.invokevirtual 58, 3) := by decide +kernel
theorem dX3_draw_35 : decode cX3_draw 35 = .ok (.iconst 2, 1) := by decide +kernel
theorem dX3_draw_36 : decode cX3_draw 36 = .ok (.if_icmp .gt 23, 3) := by decide +kernel
theorem dX3_draw_39 : decode cX3_draw 39 = .ok (.aload_n 0, 1) := by decide +kernel
theorem dX3_draw_40 : decode cX3_draw 40 = .ok (.aload_n 1, 1) := by decide +kernel
theorem dX3_draw_41 : decode cX3_draw 41 = .ok (.iconst 3, 1) := by decide +kernel
theorem dX3_draw_42 : decode cX3_draw 42 = .ok (.iload 5, 2) := by decide +kernel
theorem dX3_draw_44 : decode cX3_draw 44 = .ok (.aload_n 0, 1) := by decide +kernel
theorem dX3_draw_45 : decode cX3_draw 45 = .ok (.aload_n 1, 1) := by decide +kernel
theorem dX3_draw_46 : decode cX3_draw 46 = .ok (.getfield 62, 3) := by decide +kernel
theorem dX3_draw_49 : decode cX3_draw 49 = .ok (.invokevirtual 58, 3) := by decide +kernel
theorem dX3_draw_52 : decode cX3_draw 52 = .ok (.invokevirtual 46, 3) := by decide +kernel
theorem dX3_draw_55 : decode cX3_draw 55 = .ok (.pop, 1) := by decide +kernel
theorem dX3_draw_56 : decode cX3_draw 56 = .ok (.goto 37, 3) := by decide +kernel
theorem dX3_draw_59 : decode cX3_draw 59 = .ok (.aload_n 0, 1) := by decide +kernel
theorem dX3_draw_60 : decode cX3_draw 60 = .ok (.iconst 5, 1) := by decide +kernel
theorem dX3_draw_61 : decode cX3_draw 61 = .ok (.invokevirtual 58, 3) := by decide +kernel
theorem dX3_draw_64 : decode cX3_draw 64 = .ok (.istore 6, 2) := by decide +kernel
theorem dX3_draw_66 : decode cX3_draw 66 = .ok (.aload_n 0, 1) := by decide +kernel
theorem dX3_draw_67 : decode cX3_draw 67 = .ok (.aload_n 1, 1) := by decide +kernel
theorem dX3_draw_68 : decode cX3_draw 68 = .ok (.aload_n 0, 1) := by decide +kernel
theorem dX3_draw_69 : decode cX3_draw 69 = .ok (.getfield 64, 3) := by decide +kernel
theorem dX3_draw_72 : decode cX3_draw 72 = .ok (.iload 6, 2) := by decide +kernel
theorem dX3_draw_74 : decode cX3_draw 74 = .ok (.invokestatic 67, 3) := by decide +kernel
theorem dX3_draw_77 : decode cX3_draw 77 = .ok (.ifCond .eq 7, 3) := by decide +kernel
theorem dX3_draw_80 : decode cX3_draw 80 = .ok (.iconst 1, 1) := by decide +kernel
theorem dX3_draw_81 : decode cX3_draw 81 = .ok (.goto 4, 3) := by decide +kernel
theorem dX3_draw_84 : decode cX3_draw 84 = .ok (.iconst 0, 1) := by decide +kernel
theorem dX3_draw_85 : decode cX3_draw 85 = .ok (.iload 5, 2) := by decide +kernel
theorem dX3_draw_87 : decode cX3_draw 87 = .ok (.iload 6, 2) := by decide +kernel
theorem dX3_draw_89 : decode cX3_draw 89 = .ok (.invokevirtual 46, 3) := by decide +kernel
theorem dX3_draw_92 : decode cX3_draw 92 = .ok (.pop, 1) := by decide +kernel
theorem dX3_draw_93 : decode cX3_draw 93 = .ok (.iinc 4 1, 3) := by decide +kernel
theorem dX3_draw_96 : decode cX3_draw 96 = .ok (.goto (-83), 3) := by decide +kernel
theorem dX3_draw_99 : decode cX3_draw 99 = .ok (.return_, 1) := by decide +kernel
theorem dX3_below_0 : decode cX3_below 0 = .ok (.aload_n 0, 1) := by decide +kernel
theorem dX3_below_1 : decode cX3_below 1 = .ok (.aload_n 0, 1) := by decide +kernel
theorem dX3_below_2 : decode cX3_below 2 = .ok (.getfield 50, 3) := by decide +kernel
theorem dX3_below_5 : decode cX3_below 5 = .ok (.ldc 71, 2) := by decide +kernel
theorem dX3_below_7 : decode cX3_below 7 = .ok (.imul, 1) := by decide +kernel
theorem dX3_below_8 : decode cX3_below 8 = .ok (.sipush 12345, 3) := by decide +kernel
theorem dX3_below_11 : decode cX3_below 11 = .ok (.iadd, 1) := by decide +kernel
theorem dX3_below_12 : decode cX3_below 12 = .ok (.putfield 50, 3) := by decide +kernel
theorem dX3_below_15 : decode cX3_below 15 = .ok (.iload_n 1, 1) := by decide +kernel
theorem dX3_below_16 : decode cX3_below 16 = .ok (.ifCond .le 15, 3) := by decide +kernel
theorem dX3_below_19 : decode cX3_below 19 = .ok (.aload_n 0, 1) := by decide +kernel
theorem dX3_below_20 : decode cX3_below 20 = .ok (.getfield 50, 3) := by decide +kernel
theorem dX3_below_23 : decode cX3_below 23 = .ok (.bipush 16, 2) := by decide +kernel
theorem dX3_below_25 : decode cX3_below 25 = .ok (.iushr, 1) := by decide +kernel
theorem dX3_below_26 : decode cX3_below 26 = .ok (.iload_n 1, 1) := by decide +kernel
theorem dX3_below_27 : decode cX3_below 27 = .ok (.irem, 1) := by decide +kernel
theorem dX3_below_28 : decode cX3_below 28 = .ok (.goto 4, 3) := by decide +kernel
theorem dX3_below_31 : decode cX3_below 31 = .ok (.iconst 0, 1) := by decide +kernel
theorem dX3_below_32 : decode cX3_below 32 = .ok (.ireturn, 1) := by decide +kernel
theorem dX3_start_0 : decode cX3_start 0 = .ok (.aload_n 0, 1) := by decide +kernel
theorem dX3_start_1 : decode cX3_start 1 = .ok (.iconst 0, 1) := by decide +kernel
theorem dX3_start_2 : decode cX3_start 2 = .ok (.putfield 72, 3) := by decide +kernel
theorem dX3_start_5 : decode cX3_start 5 = .ok (.aload_n 0, 1) := by decide +kernel
theorem dX3_start_6 : decode cX3_start 6 = .ok (.iconst 0, 1) := by decide +kernel
theorem dX3_start_7 : decode cX3_start 7 = .ok (.putfield 75, 3) := by decide +kernel
theorem dX3_start_10 : decode cX3_start 10 = .ok (.aload_n 0, 1) := by decide +kernel
theorem dX3_start_11 : decode cX3_start 11 = .ok (.iconst 0, 1) := by decide +kernel
theorem dX3_start_12 : decode cX3_start 12 = .ok (.putfield 64, 3) := by decide +kernel
theorem dX3_start_15 : decode cX3_start 15 = .ok (.aload_n 0, 1) := by decide +kernel
theorem dX3_start_16 : decode cX3_start 16 = .ok (.iconst 0, 1) := by decide +kernel
theorem dX3_start_17 : decode cX3_start 17 = .ok (.putfield 78, 3) := by decide +kernel
theorem dX3_start_20 : decode cX3_start 20 = .ok (.aload_n 1, 1) := by decide +kernel
theorem dX3_start_21 : decode cX3_start 21 = .ok (.getfield 81, 3) := by decide +kernel
theorem dX3_start_24 : decode cX3_start 24 = .ok (.iconst 0, 1) := by decide +kernel
theorem dX3_start_25 : decode cX3_start 25 = .ok (.aload_n 0, 1) := by decide +kernel
theorem dX3_start_26 : decode cX3_start 26 = .ok (.getfield 9, 3) := by decide +kernel
theorem dX3_start_29 : decode cX3_start 29 = .ok (.iconst 0, 1) := by decide +kernel
theorem dX3_start_30 : decode cX3_start 30 = .ok (.bipush 6, 2) := by decide +kernel
theorem dX3_start_32 : decode cX3_start 32 = .ok (.invokestatic 84, 3) := by decide +kernel
theorem dX3_start_35 : decode cX3_start 35 = .ok (.aload_n 1, 1) := by decide +kernel
theorem dX3_start_36 : decode cX3_start 36 = .ok (.getfield 90, 3) := by decide +kernel
theorem dX3_start_39 : decode cX3_start 39 = .ok (.iconst 0, 1) := by decide +kernel
theorem dX3_start_40 : decode cX3_start 40 = .ok (.aload_n 0, 1) := by decide +kernel
theorem dX3_start_41 : decode cX3_start 41 = .ok (.getfield 15, 3) := by decide +kernel
theorem dX3_start_44 : decode cX3_start 44 = .ok (.iconst 0, 1) := by decide +kernel
theorem dX3_start_45 : decode cX3_start 45 = .ok (.bipush 6, 2) := by decide +kernel
theorem dX3_start_47 : decode cX3_start 47 = .ok (.invokestatic 84, 3) := by decide +kernel
theorem dX3_start_50 : decode cX3_start 50 = .ok (.aload_n 0, 1) := by decide +kernel
theorem dX3_start_51 : decode cX3_start 51 = .ok (.getfield 18, 3) := by decide +kernel
theorem dX3_start_54 : decode cX3_start 54 = .ok (.iconst (-1), 1) := by decide +kernel
theorem dX3_start_55 : decode cX3_start 55 = .ok (.invokestatic 91, 3) := by decide +kernel
theorem dX3_start_58 : decode cX3_start 58 = .ok (.aload_n 0, 1) := by decide +kernel
theorem dX3_start_59 : decode cX3_start 59 = .ok (.getfield 21, 3) := by decide +kernel
theorem dX3_start_62 : decode cX3_start 62 = .ok (.iconst 0, 1) := by decide +kernel
theorem dX3_start_63 : decode cX3_start 63 = .ok (.invokestatic 91, 3) := by decide +kernel
theorem dX3_start_66 : decode cX3_start 66 = .ok (.return_, 1) := by decide +kernel
theorem dX3_act_0 : decode cX3_act 0 = .ok (.aload_n 1, 1) := by decide +kernel
theorem dX3_act_1 : decode cX3_act 1 = .ok (.iload_n 3, 1) := by decide +kernel
theorem dX3_act_2 : decode cX3_act 2 = .ok (.invokevirtual 97, 3) := by decide +kernel
theorem dX3_act_5 : decode cX3_act 5 = .ok (.ifCond .ne 5, 3) := by decide +kernel
theorem dX3_act_8 : decode cX3_act 8 = .ok (.iconst 0, 1) := by decide +kernel
theorem dX3_act_9 : decode cX3_act 9 = .ok (.ireturn, 1) := by decide +kernel
theorem dX3_act_10 : decode cX3_act 10 = .ok (.iload_n 2, 1) := by decide +kernel
theorem dX3_act_11 : decode cX3_act 11 = .ok (.tableswitch 47 3 5 #[25, 34, 41], 25) := by decide +kernel
theorem dX3_act_36 : decode cX3_act 36 = .ok (.aload_n 0, 1) := by decide +kernel
theorem dX3_act_37 : decode cX3_act 37 = .ok (.aload_n 1, 1) := by decide +kernel
theorem dX3_act_38 : decode cX3_act 38 = .ok (.iload_n 3, 1) := by decide +kernel
theorem dX3_act_39 : decode cX3_act 39 = .ok (.iload 4, 2) := by decide +kernel
theorem dX3_act_41 : decode cX3_act 41 = .ok (.invokevirtual 101, 3) := by decide +kernel
theorem dX3_act_44 : decode cX3_act 44 = .ok (.ireturn, 1) := by decide +kernel
theorem dX3_act_45 : decode cX3_act 45 = .ok (.aload_n 0, 1) := by decide +kernel
theorem dX3_act_46 : decode cX3_act 46 = .ok (.aload_n 1, 1) := by decide +kernel
theorem dX3_act_47 : decode cX3_act 47 = .ok (.iload_n 3, 1) := by decide +kernel
theorem dX3_act_48 : decode cX3_act 48 = .ok (.invokevirtual 105, 3) := by decide +kernel
theorem dX3_act_51 : decode cX3_act 51 = .ok (.ireturn, 1) := by decide +kernel
theorem dX3_act_52 : decode cX3_act 52 = .ok (.aload_n 0, 1) := by decide +kernel
theorem dX3_act_53 : decode cX3_act 53 = .ok (.iload_n 3, 1) := by decide +kernel
theorem dX3_act_54 : decode cX3_act 54 = .ok (.invokevirtual 109, 3) := by decide +kernel
theorem dX3_act_57 : decode cX3_act 57 = .ok (.ireturn, 1) := by decide +kernel
theorem dX3_act_58 : decode cX3_act 58 = .ok (.aload_n 0, 1) := by decide +kernel
theorem dX3_act_59 : decode cX3_act 59 = .ok (.aload_n 1, 1) := by decide +kernel
theorem dX3_act_60 : decode cX3_act 60 = .ok (.iload_n 2, 1) := by decide +kernel
theorem dX3_act_61 : decode cX3_act 61 = .ok (.iload_n 3, 1) := by decide +kernel
theorem dX3_act_62 : decode cX3_act 62 = .ok (.iload 4, 2) := by decide +kernel
theorem dX3_act_64 : decode cX3_act 64 = .ok (.invokevirtual 112, 3) := by decide +kernel
theorem dX3_act_67 : decode cX3_act 67 = .ok (.ireturn, 1) := by decide +kernel
theorem dX3_walk_0 : decode cX3_walk 0 = .ok (.aload_n 0, 1) := by decide +kernel
theorem dX3_walk_1 : decode cX3_walk 1 = .ok (.getfield 9, 3) := by decide +kernel
theorem dX3_walk_4 : decode cX3_walk 4 = .ok (.iload_n 2, 1) := by decide +kernel
theorem dX3_walk_5 : decode cX3_walk 5 = .ok (.iaload, 1) := by decide +kernel
theorem dX3_walk_6 : decode cX3_walk 6 = .ok (.istore 4, 2) := by decide +kernel
theorem dX3_walk_8 : decode cX3_walk 8 = .ok (.aload_n 1, 1) := by decide +kernel
theorem dX3_walk_9 : decode cX3_walk 9 = .ok (.iload_n 3, 1) := by decide +kernel
theorem dX3_walk_10 : decode cX3_walk 10 = .ok (.invokevirtual 115, 3) := by decide +kernel
theorem dX3_walk_13 : decode cX3_walk 13 = .ok (.ifCond .eq 33, 3) := by decide +kernel
theorem dX3_walk_16 : decode cX3_walk 16 = .ok (.aload_n 0, 1) := by decide +kernel
theorem dX3_walk_17 : decode cX3_walk 17 = .ok (.getfield 78, 3) := by decide +kernel
theorem dX3_walk_20 : decode cX3_walk 20 = .ok (.iload_n 2, 1) := by decide +kernel
theorem dX3_walk_21 : decode cX3_walk 21 = .ok (.invokestatic 67, 3) := by decide +kernel
theorem dX3_walk_24 : decode cX3_walk 24 = .ok (.ifCond .ne 22, 3) := by decide +kernel
theorem dX3_walk_27 : decode cX3_walk 27 = .ok (.aload_n 0, 1) := by decide +kernel
theorem dX3_walk_28 : decode cX3_walk 28 = .ok (.aload_n 1, 1) := by decide +kernel
theorem dX3_walk_29 : decode cX3_walk 29 = .ok (.iload 4, 2) := by decide +kernel
theorem dX3_walk_31 : decode cX3_walk 31 = .ok (.invokevirtual 118, 3) := by decide +kernel
theorem dX3_walk_34 : decode cX3_walk 34 = .ok (.ifCond .ne 12, 3) := by decide +kernel
theorem dX3_walk_37 : decode cX3_walk 37 = .ok (.aload_n 0, 1) := by decide +kernel
theorem dX3_walk_38 : decode cX3_walk 38 = .ok (.aload_n 1, 1) := by decide +kernel
theorem dX3_walk_39 : decode cX3_walk 39 = .ok (.iload_n 3, 1) := by decide +kernel
theorem dX3_walk_40 : decode cX3_walk 40 = .ok (.invokevirtual 118, 3) := by decide +kernel
theorem dX3_walk_43 : decode cX3_walk 43 = .ok (.ifCond .eq 5, 3) := by decide +kernel
theorem dX3_walk_46 : decode cX3_walk 46 = .ok (.iconst 0, 1) := by decide +kernel
theorem dX3_walk_47 : decode cX3_walk 47 = .ok (.ireturn, 1) := by decide +kernel
theorem dX3_walk_48 : decode cX3_walk 48 = .ok (.aload_n 1, 1) := by decide +kernel
theorem dX3_walk_49 : decode cX3_walk 49 = .ok (.getfield 121, 3) := by decide +kernel
theorem dX3_walk_52 : decode cX3_walk 52 = .ok (.iload 4, 2) := by decide +kernel
theorem dX3_walk_54 : decode cX3_walk 54 = .ok (.bipush 9, 2) := by decide +kernel
theorem dX3_walk_56 : decode cX3_walk 56 = .ok (.imul, 1) := by decide +kernel
theorem dX3_walk_57 : decode cX3_walk 57 = .ok (.iload_n 3, 1) := by decide +kernel
theorem dX3_walk_58 : decode cX3_walk 58 = .ok (.iadd, 1) := by decide +kernel
theorem dX3_walk_59 : decode cX3_walk 59 = .ok (.iaload, 1) := by decide +kernel
theorem dX3_walk_60 : decode cX3_walk 60 = .ok (.istore 5, 2) := by decide +kernel
theorem dX3_walk_62 : decode cX3_walk 62 = .ok (.iload 5, 2) := by decide +kernel
theorem dX3_walk_64 : decode cX3_walk 64 = .ok (.ifCond .ne 5, 3) := by decide +kernel
theorem dX3_walk_67 : decode cX3_walk 67 = .ok (.iconst 0, 1) := by decide +kernel
theorem dX3_walk_68 : decode cX3_walk 68 = .ok (.ireturn, 1) := by decide +kernel
theorem dX3_walk_69 : decode cX3_walk 69 = .ok (.aload_n 0, 1) := by decide +kernel
theorem dX3_walk_70 : decode cX3_walk 70 = .ok (.dup, 1) := by decide +kernel
theorem dX3_walk_71 : decode cX3_walk 71 = .ok (.getfield 72, 3) := by decide +kernel
theorem dX3_walk_74 : decode cX3_walk 74 = .ok (.iload 5, 2) := by decide +kernel
theorem dX3_walk_76 : decode cX3_walk 76 = .ok (.iadd, 1) := by decide +kernel
theorem dX3_walk_77 : decode cX3_walk 77 = .ok (.putfield 72, 3) := by decide +kernel
theorem dX3_walk_80 : decode cX3_walk 80 = .ok (.aload_n 0, 1) := by decide +kernel
theorem dX3_walk_81 : decode cX3_walk 81 = .ok (.getfield 9, 3) := by decide +kernel
theorem dX3_walk_84 : decode cX3_walk 84 = .ok (.iload_n 2, 1) := by decide +kernel
theorem dX3_walk_85 : decode cX3_walk 85 = .ok (.iload_n 3, 1) := by decide +kernel
theorem dX3_walk_86 : decode cX3_walk 86 = .ok (.iastore, 1) := by decide +kernel
theorem dX3_walk_87 : decode cX3_walk 87 = .ok (.iconst 1, 1) := by decide +kernel
theorem dX3_walk_88 : decode cX3_walk 88 = .ok (.ireturn, 1) := by decide +kernel
theorem dX3_climb_0 : decode cX3_climb 0 = .ok (.aload_n 0, 1) := by decide +kernel
theorem dX3_climb_1 : decode cX3_climb 1 = .ok (.getfield 78, 3) := by decide +kernel
theorem dX3_climb_4 : decode cX3_climb 4 = .ok (.iload_n 2, 1) := by decide +kernel
theorem dX3_climb_5 : decode cX3_climb 5 = .ok (.invokestatic 67, 3) := by decide +kernel
theorem dX3_climb_8 : decode cX3_climb 8 = .ok (.ifCond .ne 17, 3) := by decide +kernel
theorem dX3_climb_11 : decode cX3_climb 11 = .ok (.aload_n 1, 1) := by decide +kernel
theorem dX3_climb_12 : decode cX3_climb 12 = .ok (.getfield 124, 3) := by decide +kernel
theorem dX3_climb_15 : decode cX3_climb 15 = .ok (.aload_n 0, 1) := by decide +kernel
theorem dX3_climb_16 : decode cX3_climb 16 = .ok (.getfield 9, 3) := by decide +kernel
theorem dX3_climb_19 : decode cX3_climb 19 = .ok (.iload_n 2, 1) := by decide +kernel
theorem dX3_climb_20 : decode cX3_climb 20 = .ok (.iaload, 1) := by decide +kernel
theorem dX3_climb_21 : decode cX3_climb 21 = .ok (.iaload, 1) := by decide +kernel
theorem dX3_climb_22 : decode cX3_climb 22 = .ok (.ifCond .ne 5, 3) := by decide +kernel
theorem dX3_climb_25 : decode cX3_climb 25 = .ok (.iconst 0, 1) := by decide +kernel
theorem dX3_climb_26 : decode cX3_climb 26 = .ok (.ireturn, 1) := by decide +kernel
theorem dX3_climb_27 : decode cX3_climb 27 = .ok (.aload_n 0, 1) := by decide +kernel
theorem dX3_climb_28 : decode cX3_climb 28 = .ok (.dup, 1) := by decide +kernel
theorem dX3_climb_29 : decode cX3_climb 29 = .ok (.getfield 78, 3) := by decide +kernel
theorem dX3_climb_32 : decode cX3_climb 32 = .ok (.iconst 1, 1) := by decide +kernel
theorem dX3_climb_33 : decode cX3_climb 33 = .ok (.iload_n 2, 1) := by decide +kernel
theorem dX3_climb_34 : decode cX3_climb 34 = .ok (.ishl, 1) := by decide +kernel
theorem dX3_climb_35 : decode cX3_climb 35 = .ok (.ior, 1) := by decide +kernel
theorem dX3_climb_36 : decode cX3_climb 36 = .ok (.putfield 78, 3) := by decide +kernel
theorem dX3_climb_39 : decode cX3_climb 39 = .ok (.iconst 1, 1) := by decide +kernel
theorem dX3_climb_40 : decode cX3_climb 40 = .ok (.ireturn, 1) := by decide +kernel
theorem dX3_descend_0 : decode cX3_descend 0 = .ok (.aload_n 0, 1) := by decide +kernel
theorem dX3_descend_1 : decode cX3_descend 1 = .ok (.getfield 78, 3) := by decide +kernel
theorem dX3_descend_4 : decode cX3_descend 4 = .ok (.iload_n 1, 1) := by decide +kernel
theorem dX3_descend_5 : decode cX3_descend 5 = .ok (.invokestatic 67, 3) := by decide +kernel
theorem dX3_descend_8 : decode cX3_descend 8 = .ok (.ifCond .ne 5, 3) := by decide +kernel
theorem dX3_descend_11 : decode cX3_descend 11 = .ok (.iconst 0, 1) := by decide +kernel
theorem dX3_descend_12 : decode cX3_descend 12 = .ok (.ireturn, 1) := by decide +kernel
theorem dX3_descend_13 : decode cX3_descend 13 = .ok (.aload_n 0, 1) := by decide +kernel
theorem dX3_descend_14 : decode cX3_descend 14 = .ok (.dup, 1) := by decide +kernel
theorem dX3_descend_15 : decode cX3_descend 15 = .ok (.getfield 78, 3) := by decide +kernel
theorem dX3_descend_18 : decode cX3_descend 18 = .ok (.iconst 1, 1) := by decide +kernel
theorem dX3_descend_19 : decode cX3_descend 19 = .ok (.iload_n 1, 1) := by decide +kernel
theorem dX3_descend_20 : decode cX3_descend 20 = .ok (.ishl, 1) := by decide +kernel
theorem dX3_descend_21 : decode cX3_descend 21 = .ok (.iconst (-1), 1) := by decide +kernel
theorem dX3_descend_22 : decode cX3_descend 22 = .ok (.ixor, 1) := by decide +kernel
theorem dX3_descend_23 : decode cX3_descend 23 = .ok (.iand, 1) := by decide +kernel
theorem dX3_descend_24 : decode cX3_descend 24 = .ok (.putfield 78, 3) := by decide +kernel
theorem dX3_descend_27 : decode cX3_descend 27 = .ok (.iconst 1, 1) := by decide +kernel
theorem dX3_descend_28 : decode cX3_descend 28 = .ok (.ireturn, 1) := by decide +kernel
theorem dX3_raise_0 : decode cX3_raise 0 = .ok (.aload_n 0, 1) := by decide +kernel
theorem dX3_raise_1 : decode cX3_raise 1 = .ok (.getfield 9, 3) := by decide +kernel
theorem dX3_raise_4 : decode cX3_raise 4 = .ok (.iload_n 3, 1) := by decide +kernel
theorem dX3_raise_5 : decode cX3_raise 5 = .ok (.iaload, 1) := by decide +kernel
theorem dX3_raise_6 : decode cX3_raise 6 = .ok (.istore 5, 2) := by decide +kernel
theorem dX3_raise_8 : decode cX3_raise 8 = .ok (.iload 4, 2) := by decide +kernel
theorem dX3_raise_10 : decode cX3_raise 10 = .ok (.ifCond .lt 32, 3) := by decide +kernel
theorem dX3_raise_13 : decode cX3_raise 13 = .ok (.iload 4, 2) := by decide +kernel
theorem dX3_raise_15 : decode cX3_raise 15 = .ok (.iconst 5, 1) := by decide +kernel
theorem dX3_raise_16 : decode cX3_raise 16 = .ok (.if_icmp .ge 26, 3) := by decide +kernel
theorem dX3_raise_19 : decode cX3_raise 19 = .ok (.aload_n 0, 1) := by decide +kernel
theorem dX3_raise_20 : decode cX3_raise 20 = .ok (.getfield 15, 3) := by decide +kernel
theorem dX3_raise_23 : decode cX3_raise 23 = .ok (.iload_n 3, 1) := by decide +kernel
theorem dX3_raise_24 : decode cX3_raise 24 = .ok (.iaload, 1) := by decide +kernel
theorem dX3_raise_25 : decode cX3_raise 25 = .ok (.iload 4, 2) := by decide +kernel
theorem dX3_raise_27 : decode cX3_raise 27 = .ok (.invokestatic 67, 3) := by decide +kernel
theorem dX3_raise_30 : decode cX3_raise 30 = .ok (.ifCond .eq 12, 3) := by decide +kernel
theorem dX3_raise_33 : decode cX3_raise 33 = .ok (.aload_n 1, 1) := by decide +kernel
theorem dX3_raise_34 : decode cX3_raise 34 = .ok (.iload 5, 2) := by decide +kernel
theorem dX3_raise_36 : decode cX3_raise 36 = .ok (.invokevirtual 127, 3) := by decide +kernel
theorem dX3_raise_39 : decode cX3_raise 39 = .ok (.ifCond .eq 5, 3) := by decide +kernel
theorem dX3_raise_42 : decode cX3_raise 42 = .ok (.iconst 0, 1) := by decide +kernel
theorem dX3_raise_43 : decode cX3_raise 43 = .ok (.ireturn, 1) := by decide +kernel
theorem dX3_raise_44 : decode cX3_raise 44 = .ok (.aload_n 0, 1) := by decide +kernel
theorem dX3_raise_45 : decode cX3_raise 45 = .ok (.getfield 64, 3) := by decide +kernel
theorem dX3_raise_48 : decode cX3_raise 48 = .ok (.iload 4, 2) := by decide +kernel
theorem dX3_raise_50 : decode cX3_raise 50 = .ok (.invokestatic 67, 3) := by decide +kernel
theorem dX3_raise_53 : decode cX3_raise 53 = .ok (.iload_n 2, 1) := by decide +kernel
theorem dX3_raise_54 : decode cX3_raise 54 = .ok (.ifCond .ne 7, 3) := by decide +kernel
theorem dX3_raise_57 : decode cX3_raise 57 = .ok (.iconst 1, 1) := by decide +kernel
theorem dX3_raise_58 : decode cX3_raise 58 = .ok (.goto 4, 3) := by decide +kernel
theorem dX3_raise_61 : decode cX3_raise 61 = .ok (.iconst 0, 1) := by decide +kernel
theorem dX3_raise_62 : decode cX3_raise 62 = .ok (.if_icmp .ne 5, 3) := by decide +kernel
theorem dX3_raise_65 : decode cX3_raise 65 = .ok (.iconst 0, 1) := by decide +kernel
theorem dX3_raise_66 : decode cX3_raise 66 = .ok (.ireturn, 1) := by decide +kernel
theorem dX3_raise_67 : decode cX3_raise 67 = .ok (.aload_n 0, 1) := by decide +kernel
theorem dX3_raise_68 : decode cX3_raise 68 = .ok (.aload_n 1, 1) := by decide +kernel
theorem dX3_raise_69 : decode cX3_raise 69 = .ok (.iload_n 3, 1) := by decide +kernel
theorem dX3_raise_70 : decode cX3_raise 70 = .ok (.invokevirtual 130, 3) := by decide +kernel
theorem dX3_raise_73 : decode cX3_raise 73 = .ok (.istore 6, 2) := by decide +kernel
theorem dX3_raise_75 : decode cX3_raise 75 = .ok (.iload_n 2, 1) := by decide +kernel
theorem dX3_raise_76 : decode cX3_raise 76 = .ok (.iload 6, 2) := by decide +kernel
theorem dX3_raise_78 : decode cX3_raise 78 = .ok (.aload_n 0, 1) := by decide +kernel
theorem dX3_raise_79 : decode cX3_raise 79 = .ok (.getfield 18, 3) := by decide +kernel
theorem dX3_raise_82 : decode cX3_raise 82 = .ok (.iload 4, 2) := by decide +kernel
theorem dX3_raise_84 : decode cX3_raise 84 = .ok (.iaload, 1) := by decide +kernel
theorem dX3_raise_85 : decode cX3_raise 85 = .ok (.invokestatic 134, 3) := by decide +kernel
theorem dX3_raise_88 : decode cX3_raise 88 = .ok (.ifCond .eq 24, 3) := by decide +kernel
theorem dX3_raise_91 : decode cX3_raise 91 = .ok (.aload_n 0, 1) := by decide +kernel
theorem dX3_raise_92 : decode cX3_raise 92 = .ok (.dup, 1) := by decide +kernel
theorem dX3_raise_93 : decode cX3_raise 93 = .ok (.getfield 75, 3) := by decide +kernel
theorem dX3_raise_96 : decode cX3_raise 96 = .ok (.iconst 1, 1) := by decide +kernel
theorem dX3_raise_97 : decode cX3_raise 97 = .ok (.iadd, 1) := by decide +kernel
theorem dX3_raise_98 : decode cX3_raise 98 = .ok (.putfield 75, 3) := by decide +kernel
theorem dX3_raise_101 : decode cX3_raise 101 = .ok (.aload_n 0, 1) := by decide +kernel
theorem dX3_raise_102 : decode cX3_raise 102 = .ok (.getfield 21, 3) := by decide +kernel
theorem dX3_raise_105 : decode cX3_raise 105 = .ok (.iload 5, 2) := by decide +kernel
theorem dX3_raise_107 : decode cX3_raise 107 = .ok (.dup2, 1) := by decide +kernel
theorem dX3_raise_108 : decode cX3_raise 108 = .ok (.iaload, 1) := by decide +kernel
theorem dX3_raise_109 : decode cX3_raise 109 = .ok (.iconst 1, 1) := by decide +kernel
theorem dX3_raise_110 : decode cX3_raise 110 = .ok (.iadd, 1) := by decide +kernel
theorem dX3_raise_111 : decode cX3_raise 111 = .ok (.iastore, 1) := by decide +kernel
theorem dX3_raise_112 : decode cX3_raise 112 = .ok (.aload_n 0, 1) := by decide +kernel
theorem dX3_raise_113 : decode cX3_raise 113 = .ok (.dup, 1) := by decide +kernel
theorem dX3_raise_114 : decode cX3_raise 114 = .ok (.getfield 64, 3) := by decide +kernel
theorem dX3_raise_117 : decode cX3_raise 117 = .ok (.iconst 1, 1) := by decide +kernel
theorem dX3_raise_118 : decode cX3_raise 118 = .ok (.iload 4, 2) := by decide +kernel
theorem dX3_raise_120 : decode cX3_raise 120 = .ok (.ishl, 1) := by decide +kernel
theorem dX3_raise_121 : decode cX3_raise 121 = .ok (.ior, 1) := by decide +kernel
theorem dX3_raise_122 : decode cX3_raise 122 = .ok (.putfield 64, 3) := by decide +kernel
theorem dX3_raise_125 : decode cX3_raise 125 = .ok (.aload_n 0, 1) := by decide +kernel
theorem dX3_raise_126 : decode cX3_raise 126 = .ok (.getfield 18, 3) := by decide +kernel
theorem dX3_raise_129 : decode cX3_raise 129 = .ok (.iload 4, 2) := by decide +kernel
theorem dX3_raise_131 : decode cX3_raise 131 = .ok (.iload 6, 2) := by decide +kernel
theorem dX3_raise_133 : decode cX3_raise 133 = .ok (.iastore, 1) := by decide +kernel
theorem dX3_raise_134 : decode cX3_raise 134 = .ok (.aload_n 0, 1) := by decide +kernel
theorem dX3_raise_135 : decode cX3_raise 135 = .ok (.aload_n 1, 1) := by decide +kernel
theorem dX3_raise_136 : decode cX3_raise 136 = .ok (.aload_n 1, 1) := by decide +kernel
theorem dX3_raise_137 : decode cX3_raise 137 = .ok (.iload 5, 2) := by decide +kernel
theorem dX3_raise_139 : decode cX3_raise 139 = .ok (.invokevirtual 138, 3) := by decide +kernel
theorem dX3_raise_142 : decode cX3_raise 142 = .ok (.invokevirtual 141, 3) := by decide +kernel
theorem dX3_raise_145 : decode cX3_raise 145 = .ok (.istore 7, 2) := by decide +kernel
theorem dX3_raise_147 : decode cX3_raise 147 = .ok (.iconst 0, 1) := by decide +kernel
theorem dX3_raise_148 : decode cX3_raise 148 = .ok (.istore 8, 2) := by decide +kernel
theorem dX3_raise_150 : decode cX3_raise 150 = .ok (.iload 8, 2) := by decide +kernel
theorem dX3_raise_152 : decode cX3_raise 152 = .ok (.aload_n 1, 1) := by decide +kernel
theorem dX3_raise_153 : decode cX3_raise 153 = .ok (.getfield 53, 3) := by decide +kernel
theorem dX3_raise_156 : decode cX3_raise 156 = .ok (.if_icmp .ge 33, 3) := by decide +kernel
theorem dX3_raise_159 : decode cX3_raise 159 = .ok (.iload 7, 2) := by decide +kernel
theorem dX3_raise_161 : decode cX3_raise 161 = .ok (.iload 8, 2) := by decide +kernel
theorem dX3_raise_163 : decode cX3_raise 163 = .ok (.invokestatic 67, 3) := by decide +kernel
theorem dX3_raise_166 : decode cX3_raise 166 = .ok (.ifCond .eq 17, 3) := by decide +kernel
theorem dX3_raise_169 : decode cX3_raise 169 = .ok (.aload_n 0, 1) := by decide +kernel
theorem dX3_raise_170 : decode cX3_raise 170 = .ok (.getfield 15, 3) := by decide +kernel
theorem dX3_raise_173 : decode cX3_raise 173 = .ok (.iload 8, 2) := by decide +kernel
theorem dX3_raise_175 : decode cX3_raise 175 = .ok (.dup2, 1) := by decide +kernel
theorem dX3_raise_176 : decode cX3_raise 176 = .ok (.iaload, 1) := by decide +kernel
theorem dX3_raise_177 : decode cX3_raise 177 = .ok (.iconst 1, 1) := by decide +kernel
theorem dX3_raise_178 : decode cX3_raise 178 = .ok (.iload 4, 2) := by decide +kernel
theorem dX3_raise_180 : decode cX3_raise 180 = .ok (.ishl, 1) := by decide +kernel
theorem dX3_raise_181 : decode cX3_raise 181 = .ok (.ior, 1) := by decide +kernel
theorem dX3_raise_182 : decode cX3_raise 182 = .ok (.iastore, 1) := by decide +kernel
theorem dX3_raise_183 : decode cX3_raise 183 = .ok (.iinc 8 1, 3) := by decide +kernel
theorem dX3_raise_186 : decode cX3_raise 186 = .ok (.goto (-36), 3) := by decide +kernel
theorem dX3_raise_189 : decode cX3_raise 189 = .ok (.iconst 1, 1) := by decide +kernel
theorem dX3_raise_190 : decode cX3_raise 190 = .ok (.ireturn, 1) := by decide +kernel
theorem dX3_isWrong_0 : decode cX3_isWrong 0 = .ok (.iload_n 0, 1) := by decide +kernel
theorem dX3_isWrong_1 : decode cX3_isWrong 1 = .ok (.iconst 1, 1) := by decide +kernel
theorem dX3_isWrong_2 : decode cX3_isWrong 2 = .ok (.if_icmp .ne 14, 3) := by decide +kernel
theorem dX3_isWrong_5 : decode cX3_isWrong 5 = .ok (.iload_n 1, 1) := by decide +kernel
theorem dX3_isWrong_6 : decode cX3_isWrong 6 = .ok (.iload_n 2, 1) := by decide +kernel
theorem dX3_isWrong_7 : decode cX3_isWrong 7 = .ok (.if_icmp .lt 7, 3) := by decide +kernel
theorem dX3_isWrong_10 : decode cX3_isWrong 10 = .ok (.iconst 1, 1) := by decide +kernel
theorem dX3_isWrong_11 : decode cX3_isWrong 11 = .ok (.goto 4, 3) := by decide +kernel
theorem dX3_isWrong_14 : decode cX3_isWrong 14 = .ok (.iconst 0, 1) := by decide +kernel
theorem dX3_isWrong_15 : decode cX3_isWrong 15 = .ok (.ireturn, 1) := by decide +kernel
theorem dX3_isWrong_16 : decode cX3_isWrong 16 = .ok (.iload_n 0, 1) := by decide +kernel
theorem dX3_isWrong_17 : decode cX3_isWrong 17 = .ok (.iconst 2, 1) := by decide +kernel
theorem dX3_isWrong_18 : decode cX3_isWrong 18 = .ok (.if_icmp .ne 12, 3) := by decide +kernel
theorem dX3_isWrong_21 : decode cX3_isWrong 21 = .ok (.iload_n 1, 1) := by decide +kernel
theorem dX3_isWrong_22 : decode cX3_isWrong 22 = .ok (.iload_n 2, 1) := by decide +kernel
theorem dX3_isWrong_23 : decode cX3_isWrong 23 = .ok (.if_icmp .le 7, 3) := by decide +kernel
theorem dX3_isWrong_26 : decode cX3_isWrong 26 = .ok (.iconst 1, 1) := by decide +kernel
theorem dX3_isWrong_27 : decode cX3_isWrong 27 = .ok (.goto 4, 3) := by decide +kernel
theorem dX3_isWrong_30 : decode cX3_isWrong 30 = .ok (.iconst 0, 1) := by decide +kernel
theorem dX3_isWrong_31 : decode cX3_isWrong 31 = .ok (.ireturn, 1) := by decide +kernel
theorem dX3_isCut_0 : decode cX3_isCut 0 = .ok (.aload_n 0, 1) := by decide +kernel
theorem dX3_isCut_1 : decode cX3_isCut 1 = .ok (.getfield 21, 3) := by decide +kernel
theorem dX3_isCut_4 : decode cX3_isCut 4 = .ok (.iload_n 2, 1) := by decide +kernel
theorem dX3_isCut_5 : decode cX3_isCut 5 = .ok (.iaload, 1) := by decide +kernel
theorem dX3_isCut_6 : decode cX3_isCut 6 = .ok (.aload_n 1, 1) := by decide +kernel
theorem dX3_isCut_7 : decode cX3_isCut 7 = .ok (.getfield 144, 3) := by decide +kernel
theorem dX3_isCut_10 : decode cX3_isCut 10 = .ok (.if_icmp .lt 7, 3) := by decide +kernel
theorem dX3_isCut_13 : decode cX3_isCut 13 = .ok (.iconst 1, 1) := by decide +kernel
theorem dX3_isCut_14 : decode cX3_isCut 14 = .ok (.goto 4, 3) := by decide +kernel
theorem dX3_isCut_17 : decode cX3_isCut 17 = .ok (.iconst 0, 1) := by decide +kernel
theorem dX3_isCut_18 : decode cX3_isCut 18 = .ok (.ireturn, 1) := by decide +kernel
theorem dX3_high_0 : decode cX3_high 0 = .ok (.aload_n 0, 1) := by decide +kernel
theorem dX3_high_1 : decode cX3_high 1 = .ok (.getfield 9, 3) := by decide +kernel
theorem dX3_high_4 : decode cX3_high 4 = .ok (.iload_n 2, 1) := by decide +kernel
theorem dX3_high_5 : decode cX3_high 5 = .ok (.iaload, 1) := by decide +kernel
theorem dX3_high_6 : decode cX3_high 6 = .ok (.istore_n 3, 1) := by decide +kernel
theorem dX3_high_7 : decode cX3_high 7 = .ok (.aload_n 1, 1) := by decide +kernel
theorem dX3_high_8 : decode cX3_high 8 = .ok (.getfield 147, 3) := by decide +kernel
theorem dX3_high_11 : decode cX3_high 11 = .ok (.iload_n 3, 1) := by decide +kernel
theorem dX3_high_12 : decode cX3_high 12 = .ok (.iaload, 1) := by decide +kernel
theorem dX3_high_13 : decode cX3_high 13 = .ok (.aload_n 1, 1) := by decide +kernel
theorem dX3_high_14 : decode cX3_high 14 = .ok (.getfield 150, 3) := by decide +kernel
theorem dX3_high_17 : decode cX3_high 17 = .ok (.iload_n 2, 1) := by decide +kernel
theorem dX3_high_18 : decode cX3_high 18 = .ok (.iaload, 1) := by decide +kernel
theorem dX3_high_19 : decode cX3_high 19 = .ok (.isub, 1) := by decide +kernel
theorem dX3_high_20 : decode cX3_high 20 = .ok (.istore 4, 2) := by decide +kernel
theorem dX3_high_22 : decode cX3_high 22 = .ok (.aload_n 0, 1) := by decide +kernel
theorem dX3_high_23 : decode cX3_high 23 = .ok (.getfield 78, 3) := by decide +kernel
theorem dX3_high_26 : decode cX3_high 26 = .ok (.iload_n 2, 1) := by decide +kernel
theorem dX3_high_27 : decode cX3_high 27 = .ok (.invokestatic 67, 3) := by decide +kernel
theorem dX3_high_30 : decode cX3_high 30 = .ok (.ifCond .eq 15, 3) := by decide +kernel
theorem dX3_high_33 : decode cX3_high 33 = .ok (.iload 4, 2) := by decide +kernel
theorem dX3_high_35 : decode cX3_high 35 = .ok (.aload_n 1, 1) := by decide +kernel
theorem dX3_high_36 : decode cX3_high 36 = .ok (.getfield 124, 3) := by decide +kernel
theorem dX3_high_39 : decode cX3_high 39 = .ok (.iload_n 3, 1) := by decide +kernel
theorem dX3_high_40 : decode cX3_high 40 = .ok (.iaload, 1) := by decide +kernel
theorem dX3_high_41 : decode cX3_high 41 = .ok (.iadd, 1) := by decide +kernel
theorem dX3_high_42 : decode cX3_high 42 = .ok (.goto 5, 3) := by decide +kernel
theorem dX3_high_45 : decode cX3_high 45 = .ok (.iload 4, 2) := by decide +kernel
theorem dX3_high_47 : decode cX3_high 47 = .ok (.ireturn, 1) := by decide +kernel
theorem dX3_singersIn_0 : decode cX3_singersIn 0 = .ok (.iconst 0, 1) := by decide +kernel
theorem dX3_singersIn_1 : decode cX3_singersIn 1 = .ok (.istore_n 3, 1) := by decide +kernel
theorem dX3_singersIn_2 : decode cX3_singersIn 2 = .ok (.iconst 0, 1) := by decide +kernel
theorem dX3_singersIn_3 : decode cX3_singersIn 3 = .ok (.istore 4, 2) := by decide +kernel
theorem dX3_singersIn_5 : decode cX3_singersIn 5 = .ok (.iload 4, 2) := by decide +kernel
theorem dX3_singersIn_7 : decode cX3_singersIn 7 = .ok (.aload_n 1, 1) := by decide +kernel
theorem dX3_singersIn_8 : decode cX3_singersIn 8 = .ok (.getfield 53, 3) := by decide +kernel
theorem dX3_singersIn_11 : decode cX3_singersIn 11 = .ok (.if_icmp .ge 30, 3) := by decide +kernel
theorem dX3_singersIn_14 : decode cX3_singersIn 14 = .ok (.iload_n 2, 1) := by decide +kernel
theorem dX3_singersIn_15 : decode cX3_singersIn 15 = .ok (.aload_n 0, 1) := by decide +kernel
theorem dX3_singersIn_16 : decode cX3_singersIn 16 = .ok (.getfield 9, 3) := by decide +kernel
theorem dX3_singersIn_19 : decode cX3_singersIn 19 = .ok (.iload 4, 2) := by decide +kernel
theorem dX3_singersIn_21 : decode cX3_singersIn 21 = .ok (.iaload, 1) := by decide +kernel
theorem dX3_singersIn_22 : decode cX3_singersIn 22 = .ok (.invokestatic 67, 3) := by decide +kernel
theorem dX3_singersIn_25 : decode cX3_singersIn 25 = .ok (.ifCond .eq 10, 3) := by decide +kernel
theorem dX3_singersIn_28 : decode cX3_singersIn 28 = .ok (.iload_n 3, 1) := by decide +kernel
theorem dX3_singersIn_29 : decode cX3_singersIn 29 = .ok (.iconst 1, 1) := by decide +kernel
theorem dX3_singersIn_30 : decode cX3_singersIn 30 = .ok (.iload 4, 2) := by decide +kernel
theorem dX3_singersIn_32 : decode cX3_singersIn 32 = .ok (.ishl, 1) := by decide +kernel
theorem dX3_singersIn_33 : decode cX3_singersIn 33 = .ok (.ior, 1) := by decide +kernel
theorem dX3_singersIn_34 : decode cX3_singersIn 34 = .ok (.istore_n 3, 1) := by decide +kernel
theorem dX3_singersIn_35 : decode cX3_singersIn 35 = .ok (.iinc 4 1, 3) := by decide +kernel
theorem dX3_singersIn_38 : decode cX3_singersIn 38 = .ok (.goto (-33), 3) := by decide +kernel
theorem dX3_singersIn_41 : decode cX3_singersIn 41 = .ok (.iload_n 3, 1) := by decide +kernel
theorem dX3_singersIn_42 : decode cX3_singersIn 42 = .ok (.ireturn, 1) := by decide +kernel
theorem dX3_knowers_0 : decode cX3_knowers 0 = .ok (.iconst 0, 1) := by decide +kernel
theorem dX3_knowers_1 : decode cX3_knowers 1 = .ok (.istore_n 3, 1) := by decide +kernel
theorem dX3_knowers_2 : decode cX3_knowers 2 = .ok (.iconst 0, 1) := by decide +kernel
theorem dX3_knowers_3 : decode cX3_knowers 3 = .ok (.istore 4, 2) := by decide +kernel
theorem dX3_knowers_5 : decode cX3_knowers 5 = .ok (.iload 4, 2) := by decide +kernel
theorem dX3_knowers_7 : decode cX3_knowers 7 = .ok (.aload_n 1, 1) := by decide +kernel
theorem dX3_knowers_8 : decode cX3_knowers 8 = .ok (.getfield 53, 3) := by decide +kernel
theorem dX3_knowers_11 : decode cX3_knowers 11 = .ok (.if_icmp .ge 30, 3) := by decide +kernel
theorem dX3_knowers_14 : decode cX3_knowers 14 = .ok (.aload_n 0, 1) := by decide +kernel
theorem dX3_knowers_15 : decode cX3_knowers 15 = .ok (.getfield 15, 3) := by decide +kernel
theorem dX3_knowers_18 : decode cX3_knowers 18 = .ok (.iload 4, 2) := by decide +kernel
theorem dX3_knowers_20 : decode cX3_knowers 20 = .ok (.iaload, 1) := by decide +kernel
theorem dX3_knowers_21 : decode cX3_knowers 21 = .ok (.iload_n 2, 1) := by decide +kernel
theorem dX3_knowers_22 : decode cX3_knowers 22 = .ok (.invokestatic 67, 3) := by decide +kernel
theorem dX3_knowers_25 : decode cX3_knowers 25 = .ok (.ifCond .eq 10, 3) := by decide +kernel
theorem dX3_knowers_28 : decode cX3_knowers 28 = .ok (.iload_n 3, 1) := by decide +kernel
theorem dX3_knowers_29 : decode cX3_knowers 29 = .ok (.iconst 1, 1) := by decide +kernel
theorem dX3_knowers_30 : decode cX3_knowers 30 = .ok (.iload 4, 2) := by decide +kernel
theorem dX3_knowers_32 : decode cX3_knowers 32 = .ok (.ishl, 1) := by decide +kernel
theorem dX3_knowers_33 : decode cX3_knowers 33 = .ok (.ior, 1) := by decide +kernel
theorem dX3_knowers_34 : decode cX3_knowers 34 = .ok (.istore_n 3, 1) := by decide +kernel
theorem dX3_knowers_35 : decode cX3_knowers 35 = .ok (.iinc 4 1, 3) := by decide +kernel
theorem dX3_knowers_38 : decode cX3_knowers 38 = .ok (.goto (-33), 3) := by decide +kernel
theorem dX3_knowers_41 : decode cX3_knowers 41 = .ok (.iload_n 3, 1) := by decide +kernel
theorem dX3_knowers_42 : decode cX3_knowers 42 = .ok (.ireturn, 1) := by decide +kernel
theorem dX3_look_0 : decode cX3_look 0 = .ok (.iload_n 2, 1) := by decide +kernel
theorem dX3_look_1 : decode cX3_look 1 = .ok (.ifCond .lt 9, 3) := by decide +kernel
theorem dX3_look_4 : decode cX3_look 4 = .ok (.iload_n 2, 1) := by decide +kernel
theorem dX3_look_5 : decode cX3_look 5 = .ok (.bipush 79, 2) := by decide +kernel
theorem dX3_look_7 : decode cX3_look 7 = .ok (.if_icmp .le 7, 3) := by decide +kernel
theorem dX3_look_10 : decode cX3_look 10 = .ok (.sipush (-1000), 3) := by decide +kernel
theorem dX3_look_13 : decode cX3_look 13 = .ok (.ireturn, 1) := by decide +kernel
theorem dX3_look_14 : decode cX3_look 14 = .ok (.iload_n 2, 1) := by decide +kernel
theorem dX3_look_15 : decode cX3_look 15 = .ok (.bipush 10, 2) := by decide +kernel
theorem dX3_look_17 : decode cX3_look 17 = .ok (.irem, 1) := by decide +kernel
theorem dX3_look_18 : decode cX3_look 18 = .ok (.istore_n 3, 1) := by decide +kernel
theorem dX3_look_19 : decode cX3_look 19 = .ok (.iload_n 2, 1) := by decide +kernel
theorem dX3_look_20 : decode cX3_look 20 = .ok (.bipush 10, 2) := by decide +kernel
theorem dX3_look_22 : decode cX3_look 22 = .ok (.idiv, 1) := by decide +kernel
theorem dX3_look_23 : decode cX3_look 23 = .ok (.tableswitch 112 0 7 #[45, 52, 70, 112, 112, 112, 112, 91], 45) := by decide +kernel
theorem dX3_look_68 : decode cX3_look 68 = .ok (.aload_n 0, 1) := by decide +kernel
theorem dX3_look_69 : decode cX3_look 69 = .ok (.aload_n 1, 1) := by decide +kernel
theorem dX3_look_70 : decode cX3_look 70 = .ok (.iload_n 3, 1) := by decide +kernel
theorem dX3_look_71 : decode cX3_look 71 = .ok (.invokevirtual 153, 3) := by decide +kernel
theorem dX3_look_74 : decode cX3_look 74 = .ok (.ireturn, 1) := by decide +kernel
theorem dX3_look_75 : decode cX3_look 75 = .ok (.iload_n 3, 1) := by decide +kernel
theorem dX3_look_76 : decode cX3_look 76 = .ok (.iconst 5, 1) := by decide +kernel
theorem dX3_look_77 : decode cX3_look 77 = .ok (.if_icmp .ge 12, 3) := by decide +kernel
theorem dX3_look_80 : decode cX3_look 80 = .ok (.aload_n 0, 1) := by decide +kernel
theorem dX3_look_81 : decode cX3_look 81 = .ok (.getfield 18, 3) := by decide +kernel
theorem dX3_look_84 : decode cX3_look 84 = .ok (.iload_n 3, 1) := by decide +kernel
theorem dX3_look_85 : decode cX3_look 85 = .ok (.iaload, 1) := by decide +kernel
theorem dX3_look_86 : decode cX3_look 86 = .ok (.goto 6, 3) := by decide +kernel
theorem dX3_look_89 : decode cX3_look 89 = .ok (.sipush (-1000), 3) := by decide +kernel
theorem dX3_look_92 : decode cX3_look 92 = .ok (.ireturn, 1) := by decide +kernel
theorem dX3_look_93 : decode cX3_look 93 = .ok (.iload_n 3, 1) := by decide +kernel
theorem dX3_look_94 : decode cX3_look 94 = .ok (.iconst 5, 1) := by decide +kernel
theorem dX3_look_95 : decode cX3_look 95 = .ok (.if_icmp .ge 15, 3) := by decide +kernel
theorem dX3_look_98 : decode cX3_look 98 = .ok (.aload_n 0, 1) := by decide +kernel
theorem dX3_look_99 : decode cX3_look 99 = .ok (.aload_n 1, 1) := by decide +kernel
theorem dX3_look_100 : decode cX3_look 100 = .ok (.iload_n 3, 1) := by decide +kernel
theorem dX3_look_101 : decode cX3_look 101 = .ok (.invokevirtual 156, 3) := by decide +kernel
theorem dX3_look_104 : decode cX3_look 104 = .ok (.invokestatic 159, 3) := by decide +kernel
theorem dX3_look_107 : decode cX3_look 107 = .ok (.goto 6, 3) := by decide +kernel
theorem dX3_look_110 : decode cX3_look 110 = .ok (.sipush (-1000), 3) := by decide +kernel
theorem dX3_look_113 : decode cX3_look 113 = .ok (.ireturn, 1) := by decide +kernel
theorem dX3_look_114 : decode cX3_look 114 = .ok (.aload_n 1, 1) := by decide +kernel
theorem dX3_look_115 : decode cX3_look 115 = .ok (.iload_n 3, 1) := by decide +kernel
theorem dX3_look_116 : decode cX3_look 116 = .ok (.invokevirtual 115, 3) := by decide +kernel
theorem dX3_look_119 : decode cX3_look 119 = .ok (.ifCond .eq 12, 3) := by decide +kernel
theorem dX3_look_122 : decode cX3_look 122 = .ok (.aload_n 0, 1) := by decide +kernel
theorem dX3_look_123 : decode cX3_look 123 = .ok (.getfield 21, 3) := by decide +kernel
theorem dX3_look_126 : decode cX3_look 126 = .ok (.iload_n 3, 1) := by decide +kernel
theorem dX3_look_127 : decode cX3_look 127 = .ok (.iaload, 1) := by decide +kernel
theorem dX3_look_128 : decode cX3_look 128 = .ok (.goto 6, 3) := by decide +kernel
theorem dX3_look_131 : decode cX3_look 131 = .ok (.sipush (-1000), 3) := by decide +kernel
theorem dX3_look_134 : decode cX3_look 134 = .ok (.ireturn, 1) := by decide +kernel
theorem dX3_look_135 : decode cX3_look 135 = .ok (.aload_n 1, 1) := by decide +kernel
theorem dX3_look_136 : decode cX3_look 136 = .ok (.iload_n 3, 1) := by decide +kernel
theorem dX3_look_137 : decode cX3_look 137 = .ok (.invokevirtual 97, 3) := by decide +kernel
theorem dX3_look_140 : decode cX3_look 140 = .ok (.ifCond .eq 16, 3) := by decide +kernel
theorem dX3_look_143 : decode cX3_look 143 = .ok (.aload_n 0, 1) := by decide +kernel
theorem dX3_look_144 : decode cX3_look 144 = .ok (.aload_n 1, 1) := by decide +kernel
theorem dX3_look_145 : decode cX3_look 145 = .ok (.iload_n 2, 1) := by decide +kernel
theorem dX3_look_146 : decode cX3_look 146 = .ok (.bipush 10, 2) := by decide +kernel
theorem dX3_look_148 : decode cX3_look 148 = .ok (.idiv, 1) := by decide +kernel
theorem dX3_look_149 : decode cX3_look 149 = .ok (.iload_n 3, 1) := by decide +kernel
theorem dX3_look_150 : decode cX3_look 150 = .ok (.invokevirtual 164, 3) := by decide +kernel
theorem dX3_look_153 : decode cX3_look 153 = .ok (.goto 6, 3) := by decide +kernel
theorem dX3_look_156 : decode cX3_look 156 = .ok (.sipush (-1000), 3) := by decide +kernel
theorem dX3_look_159 : decode cX3_look 159 = .ok (.ireturn, 1) := by decide +kernel
theorem dX3_lookWhole_0 : decode cX3_lookWhole 0 = .ok (.iload_n 2, 1) := by decide +kernel
theorem dX3_lookWhole_1 : decode cX3_lookWhole 1 = .ok (.tableswitch 62 0 4 #[35, 40, 45, 51, 56], 35) := by decide +kernel
theorem dX3_lookWhole_36 : decode cX3_lookWhole 36 = .ok (.aload_n 0, 1) := by decide +kernel
theorem dX3_lookWhole_37 : decode cX3_lookWhole 37 = .ok (.getfield 72, 3) := by decide +kernel
theorem dX3_lookWhole_40 : decode cX3_lookWhole 40 = .ok (.ireturn, 1) := by decide +kernel
theorem dX3_lookWhole_41 : decode cX3_lookWhole 41 = .ok (.aload_n 0, 1) := by decide +kernel
theorem dX3_lookWhole_42 : decode cX3_lookWhole 42 = .ok (.getfield 75, 3) := by decide +kernel
theorem dX3_lookWhole_45 : decode cX3_lookWhole 45 = .ok (.ireturn, 1) := by decide +kernel
theorem dX3_lookWhole_46 : decode cX3_lookWhole 46 = .ok (.aload_n 0, 1) := by decide +kernel
theorem dX3_lookWhole_47 : decode cX3_lookWhole 47 = .ok (.aload_n 1, 1) := by decide +kernel
theorem dX3_lookWhole_48 : decode cX3_lookWhole 48 = .ok (.invokevirtual 168, 3) := by decide +kernel
theorem dX3_lookWhole_51 : decode cX3_lookWhole 51 = .ok (.ireturn, 1) := by decide +kernel
theorem dX3_lookWhole_52 : decode cX3_lookWhole 52 = .ok (.aload_n 0, 1) := by decide +kernel
theorem dX3_lookWhole_53 : decode cX3_lookWhole 53 = .ok (.getfield 64, 3) := by decide +kernel
theorem dX3_lookWhole_56 : decode cX3_lookWhole 56 = .ok (.ireturn, 1) := by decide +kernel
theorem dX3_lookWhole_57 : decode cX3_lookWhole 57 = .ok (.aload_n 0, 1) := by decide +kernel
theorem dX3_lookWhole_58 : decode cX3_lookWhole 58 = .ok (.aload_n 1, 1) := by decide +kernel
theorem dX3_lookWhole_59 : decode cX3_lookWhole 59 = .ok (.invokevirtual 172, 3) := by decide +kernel
theorem dX3_lookWhole_62 : decode cX3_lookWhole 62 = .ok (.ireturn, 1) := by decide +kernel
theorem dX3_lookWhole_63 : decode cX3_lookWhole 63 = .ok (.sipush (-1000), 3) := by decide +kernel
theorem dX3_lookWhole_66 : decode cX3_lookWhole 66 = .ok (.ireturn, 1) := by decide +kernel
theorem dX3_lookSinger_0 : decode cX3_lookSinger 0 = .ok (.iload_n 2, 1) := by decide +kernel
theorem dX3_lookSinger_1 : decode cX3_lookSinger 1 = .ok (.tableswitch 58 3 5 #[27, 34, 41], 27) := by decide +kernel
theorem dX3_lookSinger_28 : decode cX3_lookSinger 28 = .ok (.aload_n 0, 1) := by decide +kernel
theorem dX3_lookSinger_29 : decode cX3_lookSinger 29 = .ok (.getfield 9, 3) := by decide +kernel
theorem dX3_lookSinger_32 : decode cX3_lookSinger 32 = .ok (.iload_n 3, 1) := by decide +kernel
theorem dX3_lookSinger_33 : decode cX3_lookSinger 33 = .ok (.iaload, 1) := by decide +kernel
theorem dX3_lookSinger_34 : decode cX3_lookSinger 34 = .ok (.ireturn, 1) := by decide +kernel
theorem dX3_lookSinger_35 : decode cX3_lookSinger 35 = .ok (.aload_n 0, 1) := by decide +kernel
theorem dX3_lookSinger_36 : decode cX3_lookSinger 36 = .ok (.getfield 15, 3) := by decide +kernel
theorem dX3_lookSinger_39 : decode cX3_lookSinger 39 = .ok (.iload_n 3, 1) := by decide +kernel
theorem dX3_lookSinger_40 : decode cX3_lookSinger 40 = .ok (.iaload, 1) := by decide +kernel
theorem dX3_lookSinger_41 : decode cX3_lookSinger 41 = .ok (.ireturn, 1) := by decide +kernel
theorem dX3_lookSinger_42 : decode cX3_lookSinger 42 = .ok (.aload_n 0, 1) := by decide +kernel
theorem dX3_lookSinger_43 : decode cX3_lookSinger 43 = .ok (.getfield 78, 3) := by decide +kernel
theorem dX3_lookSinger_46 : decode cX3_lookSinger 46 = .ok (.iload_n 3, 1) := by decide +kernel
theorem dX3_lookSinger_47 : decode cX3_lookSinger 47 = .ok (.invokestatic 67, 3) := by decide +kernel
theorem dX3_lookSinger_50 : decode cX3_lookSinger 50 = .ok (.ifCond .eq 7, 3) := by decide +kernel
theorem dX3_lookSinger_53 : decode cX3_lookSinger 53 = .ok (.iconst 1, 1) := by decide +kernel
theorem dX3_lookSinger_54 : decode cX3_lookSinger 54 = .ok (.goto 4, 3) := by decide +kernel
theorem dX3_lookSinger_57 : decode cX3_lookSinger 57 = .ok (.iconst 0, 1) := by decide +kernel
theorem dX3_lookSinger_58 : decode cX3_lookSinger 58 = .ok (.ireturn, 1) := by decide +kernel
theorem dX3_lookSinger_59 : decode cX3_lookSinger 59 = .ok (.aload_n 0, 1) := by decide +kernel
theorem dX3_lookSinger_60 : decode cX3_lookSinger 60 = .ok (.aload_n 1, 1) := by decide +kernel
theorem dX3_lookSinger_61 : decode cX3_lookSinger 61 = .ok (.iload_n 3, 1) := by decide +kernel
theorem dX3_lookSinger_62 : decode cX3_lookSinger 62 = .ok (.invokevirtual 130, 3) := by decide +kernel
theorem dX3_lookSinger_65 : decode cX3_lookSinger 65 = .ok (.ireturn, 1) := by decide +kernel
theorem dX3_seers_0 : decode cX3_seers 0 = .ok (.iconst 0, 1) := by decide +kernel
theorem dX3_seers_1 : decode cX3_seers 1 = .ok (.istore_n 2, 1) := by decide +kernel
theorem dX3_seers_2 : decode cX3_seers 2 = .ok (.iconst 0, 1) := by decide +kernel
theorem dX3_seers_3 : decode cX3_seers 3 = .ok (.istore_n 3, 1) := by decide +kernel
theorem dX3_seers_4 : decode cX3_seers 4 = .ok (.iload_n 3, 1) := by decide +kernel
theorem dX3_seers_5 : decode cX3_seers 5 = .ok (.aload_n 1, 1) := by decide +kernel
theorem dX3_seers_6 : decode cX3_seers 6 = .ok (.getfield 53, 3) := by decide +kernel
theorem dX3_seers_9 : decode cX3_seers 9 = .ok (.if_icmp .ge 31, 3) := by decide +kernel
theorem dX3_seers_12 : decode cX3_seers 12 = .ok (.aload_n 0, 1) := by decide +kernel
theorem dX3_seers_13 : decode cX3_seers 13 = .ok (.getfield 64, 3) := by decide +kernel
theorem dX3_seers_16 : decode cX3_seers 16 = .ok (.aload_n 0, 1) := by decide +kernel
theorem dX3_seers_17 : decode cX3_seers 17 = .ok (.getfield 15, 3) := by decide +kernel
theorem dX3_seers_20 : decode cX3_seers 20 = .ok (.iload_n 3, 1) := by decide +kernel
theorem dX3_seers_21 : decode cX3_seers 21 = .ok (.iaload, 1) := by decide +kernel
theorem dX3_seers_22 : decode cX3_seers 22 = .ok (.iconst (-1), 1) := by decide +kernel
theorem dX3_seers_23 : decode cX3_seers 23 = .ok (.ixor, 1) := by decide +kernel
theorem dX3_seers_24 : decode cX3_seers 24 = .ok (.iand, 1) := by decide +kernel
theorem dX3_seers_25 : decode cX3_seers 25 = .ok (.ifCond .ne 9, 3) := by decide +kernel
theorem dX3_seers_28 : decode cX3_seers 28 = .ok (.iload_n 2, 1) := by decide +kernel
theorem dX3_seers_29 : decode cX3_seers 29 = .ok (.iconst 1, 1) := by decide +kernel
theorem dX3_seers_30 : decode cX3_seers 30 = .ok (.iload_n 3, 1) := by decide +kernel
theorem dX3_seers_31 : decode cX3_seers 31 = .ok (.ishl, 1) := by decide +kernel
theorem dX3_seers_32 : decode cX3_seers 32 = .ok (.ior, 1) := by decide +kernel
theorem dX3_seers_33 : decode cX3_seers 33 = .ok (.istore_n 2, 1) := by decide +kernel
theorem dX3_seers_34 : decode cX3_seers 34 = .ok (.iinc 3 1, 3) := by decide +kernel
theorem dX3_seers_37 : decode cX3_seers 37 = .ok (.goto (-33), 3) := by decide +kernel
theorem dX3_seers_40 : decode cX3_seers 40 = .ok (.iload_n 2, 1) := by decide +kernel
theorem dX3_seers_41 : decode cX3_seers 41 = .ok (.ireturn, 1) := by decide +kernel
theorem dX3_doneFor_0 : decode cX3_doneFor 0 = .ok (.aload_n 0, 1) := by decide +kernel
theorem dX3_doneFor_1 : decode cX3_doneFor 1 = .ok (.aload_n 1, 1) := by decide +kernel
theorem dX3_doneFor_2 : decode cX3_doneFor 2 = .ok (.invokevirtual 175, 3) := by decide +kernel
theorem dX3_doneFor_5 : decode cX3_doneFor 5 = .ok (.aload_n 0, 1) := by decide +kernel
theorem dX3_doneFor_6 : decode cX3_doneFor 6 = .ok (.getfield 64, 3) := by decide +kernel
theorem dX3_doneFor_9 : decode cX3_doneFor 9 = .ok (.istore_n 2, 1) := by decide +kernel
theorem dX3_doneFor_10 : decode cX3_doneFor 10 = .ok (.iconst 0, 1) := by decide +kernel
theorem dX3_doneFor_11 : decode cX3_doneFor 11 = .ok (.istore_n 3, 1) := by decide +kernel
theorem dX3_doneFor_12 : decode cX3_doneFor 12 = .ok (.iload_n 3, 1) := by decide +kernel
theorem dX3_doneFor_13 : decode cX3_doneFor 13 = .ok (.aload_n 1, 1) := by decide +kernel
theorem dX3_doneFor_14 : decode cX3_doneFor 14 = .ok (.getfield 53, 3) := by decide +kernel
theorem dX3_doneFor_17 : decode cX3_doneFor 17 = .ok (.if_icmp .ge 67, 3) := by decide +kernel
theorem dX3_doneFor_20 : decode cX3_doneFor 20 = .ok (.aload_n 0, 1) := by decide +kernel
theorem dX3_doneFor_21 : decode cX3_doneFor 21 = .ok (.aload_n 1, 1) := by decide +kernel
theorem dX3_doneFor_22 : decode cX3_doneFor 22 = .ok (.iload_n 3, 1) := by decide +kernel
theorem dX3_doneFor_23 : decode cX3_doneFor 23 = .ok (.invokevirtual 178, 3) := by decide +kernel
theorem dX3_doneFor_26 : decode cX3_doneFor 26 = .ok (.istore 4, 2) := by decide +kernel
theorem dX3_doneFor_28 : decode cX3_doneFor 28 = .ok (.iconst 0, 1) := by decide +kernel
theorem dX3_doneFor_29 : decode cX3_doneFor 29 = .ok (.istore 5, 2) := by decide +kernel
theorem dX3_doneFor_31 : decode cX3_doneFor 31 = .ok (.iload 5, 2) := by decide +kernel
theorem dX3_doneFor_33 : decode cX3_doneFor 33 = .ok (.iconst 5, 1) := by decide +kernel
theorem dX3_doneFor_34 : decode cX3_doneFor 34 = .ok (.if_icmp .ge 44, 3) := by decide +kernel
theorem dX3_doneFor_37 : decode cX3_doneFor 37 = .ok (.aload_n 0, 1) := by decide +kernel
theorem dX3_doneFor_38 : decode cX3_doneFor 38 = .ok (.getfield 15, 3) := by decide +kernel
theorem dX3_doneFor_41 : decode cX3_doneFor 41 = .ok (.iload_n 3, 1) := by decide +kernel
theorem dX3_doneFor_42 : decode cX3_doneFor 42 = .ok (.iaload, 1) := by decide +kernel
theorem dX3_doneFor_43 : decode cX3_doneFor 43 = .ok (.iload 5, 2) := by decide +kernel
theorem dX3_doneFor_45 : decode cX3_doneFor 45 = .ok (.invokestatic 67, 3) := by decide +kernel
theorem dX3_doneFor_48 : decode cX3_doneFor 48 = .ok (.ifCond .eq 24, 3) := by decide +kernel
theorem dX3_doneFor_51 : decode cX3_doneFor 51 = .ok (.iload 4, 2) := by decide +kernel
theorem dX3_doneFor_53 : decode cX3_doneFor 53 = .ok (.aload_n 0, 1) := by decide +kernel
theorem dX3_doneFor_54 : decode cX3_doneFor 54 = .ok (.getfield 18, 3) := by decide +kernel
theorem dX3_doneFor_57 : decode cX3_doneFor 57 = .ok (.iload 5, 2) := by decide +kernel
theorem dX3_doneFor_59 : decode cX3_doneFor 59 = .ok (.iaload, 1) := by decide +kernel
theorem dX3_doneFor_60 : decode cX3_doneFor 60 = .ok (.if_icmp .ge 12, 3) := by decide +kernel
theorem dX3_doneFor_63 : decode cX3_doneFor 63 = .ok (.iload_n 2, 1) := by decide +kernel
theorem dX3_doneFor_64 : decode cX3_doneFor 64 = .ok (.iconst 1, 1) := by decide +kernel
theorem dX3_doneFor_65 : decode cX3_doneFor 65 = .ok (.iload 5, 2) := by decide +kernel
theorem dX3_doneFor_67 : decode cX3_doneFor 67 = .ok (.ishl, 1) := by decide +kernel
theorem dX3_doneFor_68 : decode cX3_doneFor 68 = .ok (.iconst (-1), 1) := by decide +kernel
theorem dX3_doneFor_69 : decode cX3_doneFor 69 = .ok (.ixor, 1) := by decide +kernel
theorem dX3_doneFor_70 : decode cX3_doneFor 70 = .ok (.iand, 1) := by decide +kernel
theorem dX3_doneFor_71 : decode cX3_doneFor 71 = .ok (.istore_n 2, 1) := by decide +kernel
theorem dX3_doneFor_72 : decode cX3_doneFor 72 = .ok (.iinc 5 1, 3) := by decide +kernel
theorem dX3_doneFor_75 : decode cX3_doneFor 75 = .ok (.goto (-44), 3) := by decide +kernel
theorem dX3_doneFor_78 : decode cX3_doneFor 78 = .ok (.iinc 3 1, 3) := by decide +kernel
theorem dX3_doneFor_81 : decode cX3_doneFor 81 = .ok (.goto (-69), 3) := by decide +kernel
theorem dX3_doneFor_84 : decode cX3_doneFor 84 = .ok (.iload_n 2, 1) := by decide +kernel
theorem dX3_doneFor_85 : decode cX3_doneFor 85 = .ok (.ireturn, 1) := by decide +kernel
theorem dX3_openWays_0 : decode cX3_openWays 0 = .ok (.iconst 0, 1) := by decide +kernel
theorem dX3_openWays_1 : decode cX3_openWays 1 = .ok (.istore_n 2, 1) := by decide +kernel
theorem dX3_openWays_2 : decode cX3_openWays 2 = .ok (.iload_n 2, 1) := by decide +kernel
theorem dX3_openWays_3 : decode cX3_openWays 3 = .ok (.aload_n 1, 1) := by decide +kernel
theorem dX3_openWays_4 : decode cX3_openWays 4 = .ok (.getfield 62, 3) := by decide +kernel
theorem dX3_openWays_7 : decode cX3_openWays 7 = .ok (.if_icmp .ge 76, 3) := by decide +kernel
theorem dX3_openWays_10 : decode cX3_openWays 10 = .ok (.aload_n 0, 1) := by decide +kernel
theorem dX3_openWays_11 : decode cX3_openWays 11 = .ok (.getfield 24, 3) := by decide +kernel
theorem dX3_openWays_14 : decode cX3_openWays 14 = .ok (.iload_n 2, 1) := by decide +kernel
theorem dX3_openWays_15 : decode cX3_openWays 15 = .ok (.iconst 0, 1) := by decide +kernel
theorem dX3_openWays_16 : decode cX3_openWays 16 = .ok (.iastore, 1) := by decide +kernel
theorem dX3_openWays_17 : decode cX3_openWays 17 = .ok (.iconst 0, 1) := by decide +kernel
theorem dX3_openWays_18 : decode cX3_openWays 18 = .ok (.istore_n 3, 1) := by decide +kernel
theorem dX3_openWays_19 : decode cX3_openWays 19 = .ok (.iload_n 3, 1) := by decide +kernel
theorem dX3_openWays_20 : decode cX3_openWays 20 = .ok (.aload_n 1, 1) := by decide +kernel
theorem dX3_openWays_21 : decode cX3_openWays 21 = .ok (.getfield 62, 3) := by decide +kernel
theorem dX3_openWays_24 : decode cX3_openWays 24 = .ok (.if_icmp .ge 53, 3) := by decide +kernel
theorem dX3_openWays_27 : decode cX3_openWays 27 = .ok (.aload_n 1, 1) := by decide +kernel
theorem dX3_openWays_28 : decode cX3_openWays 28 = .ok (.getfield 121, 3) := by decide +kernel
theorem dX3_openWays_31 : decode cX3_openWays 31 = .ok (.iload_n 2, 1) := by decide +kernel
theorem dX3_openWays_32 : decode cX3_openWays 32 = .ok (.bipush 9, 2) := by decide +kernel
theorem dX3_openWays_34 : decode cX3_openWays 34 = .ok (.imul, 1) := by decide +kernel
theorem dX3_openWays_35 : decode cX3_openWays 35 = .ok (.iload_n 3, 1) := by decide +kernel
theorem dX3_openWays_36 : decode cX3_openWays 36 = .ok (.iadd, 1) := by decide +kernel
theorem dX3_openWays_37 : decode cX3_openWays 37 = .ok (.iaload, 1) := by decide +kernel
theorem dX3_openWays_38 : decode cX3_openWays 38 = .ok (.ifCond .le 33, 3) := by decide +kernel
theorem dX3_openWays_41 : decode cX3_openWays 41 = .ok (.aload_n 0, 1) := by decide +kernel
theorem dX3_openWays_42 : decode cX3_openWays 42 = .ok (.aload_n 1, 1) := by decide +kernel
theorem dX3_openWays_43 : decode cX3_openWays 43 = .ok (.iload_n 2, 1) := by decide +kernel
theorem dX3_openWays_44 : decode cX3_openWays 44 = .ok (.invokevirtual 118, 3) := by decide +kernel
theorem dX3_openWays_47 : decode cX3_openWays 47 = .ok (.ifCond .ne 24, 3) := by decide +kernel
theorem dX3_openWays_50 : decode cX3_openWays 50 = .ok (.aload_n 0, 1) := by decide +kernel
theorem dX3_openWays_51 : decode cX3_openWays 51 = .ok (.aload_n 1, 1) := by decide +kernel
theorem dX3_openWays_52 : decode cX3_openWays 52 = .ok (.iload_n 3, 1) := by decide +kernel
theorem dX3_openWays_53 : decode cX3_openWays 53 = .ok (.invokevirtual 118, 3) := by decide +kernel
theorem dX3_openWays_56 : decode cX3_openWays 56 = .ok (.ifCond .ne 15, 3) := by decide +kernel
theorem dX3_openWays_59 : decode cX3_openWays 59 = .ok (.aload_n 0, 1) := by decide +kernel
theorem dX3_openWays_60 : decode cX3_openWays 60 = .ok (.getfield 24, 3) := by decide +kernel
theorem dX3_openWays_63 : decode cX3_openWays 63 = .ok (.iload_n 2, 1) := by decide +kernel
theorem dX3_openWays_64 : decode cX3_openWays 64 = .ok (.dup2, 1) := by decide +kernel
theorem dX3_openWays_65 : decode cX3_openWays 65 = .ok (.iaload, 1) := by decide +kernel
theorem dX3_openWays_66 : decode cX3_openWays 66 = .ok (.iconst 1, 1) := by decide +kernel
theorem dX3_openWays_67 : decode cX3_openWays 67 = .ok (.iload_n 3, 1) := by decide +kernel
theorem dX3_openWays_68 : decode cX3_openWays 68 = .ok (.ishl, 1) := by decide +kernel
theorem dX3_openWays_69 : decode cX3_openWays 69 = .ok (.ior, 1) := by decide +kernel
theorem dX3_openWays_70 : decode cX3_openWays 70 = .ok (.iastore, 1) := by decide +kernel
theorem dX3_openWays_71 : decode cX3_openWays 71 = .ok (.iinc 3 1, 3) := by decide +kernel
theorem dX3_openWays_74 : decode cX3_openWays 74 = .ok (.goto (-55), 3) := by decide +kernel
theorem dX3_openWays_77 : decode cX3_openWays 77 = .ok (.iinc 2 1, 3) := by decide +kernel
theorem dX3_openWays_80 : decode cX3_openWays 80 = .ok (.goto (-78), 3) := by decide +kernel
theorem dX3_openWays_83 : decode cX3_openWays 83 = .ok (.return_, 1) := by decide +kernel
theorem dX3_lowest_0 : decode cX3_lowest 0 = .ok (.aload_n 0, 1) := by decide +kernel
theorem dX3_lowest_1 : decode cX3_lowest 1 = .ok (.getfield 9, 3) := by decide +kernel
theorem dX3_lowest_4 : decode cX3_lowest 4 = .ok (.iload_n 2, 1) := by decide +kernel
theorem dX3_lowest_5 : decode cX3_lowest 5 = .ok (.iaload, 1) := by decide +kernel
theorem dX3_lowest_6 : decode cX3_lowest 6 = .ok (.aload_n 0, 1) := by decide +kernel
theorem dX3_lowest_7 : decode cX3_lowest 7 = .ok (.getfield 24, 3) := by decide +kernel
theorem dX3_lowest_10 : decode cX3_lowest 10 = .ok (.iconst 0, 1) := by decide +kernel
theorem dX3_lowest_11 : decode cX3_lowest 11 = .ok (.invokestatic 181, 3) := by decide +kernel
theorem dX3_lowest_14 : decode cX3_lowest 14 = .ok (.istore_n 3, 1) := by decide +kernel
theorem dX3_lowest_15 : decode cX3_lowest 15 = .ok (.sipush 1000, 3) := by decide +kernel
theorem dX3_lowest_18 : decode cX3_lowest 18 = .ok (.istore 4, 2) := by decide +kernel
theorem dX3_lowest_20 : decode cX3_lowest 20 = .ok (.iconst 0, 1) := by decide +kernel
theorem dX3_lowest_21 : decode cX3_lowest 21 = .ok (.istore 5, 2) := by decide +kernel
theorem dX3_lowest_23 : decode cX3_lowest 23 = .ok (.iload 5, 2) := by decide +kernel
theorem dX3_lowest_25 : decode cX3_lowest 25 = .ok (.aload_n 1, 1) := by decide +kernel
theorem dX3_lowest_26 : decode cX3_lowest 26 = .ok (.getfield 62, 3) := by decide +kernel
theorem dX3_lowest_29 : decode cX3_lowest 29 = .ok (.if_icmp .ge 48, 3) := by decide +kernel
theorem dX3_lowest_32 : decode cX3_lowest 32 = .ok (.iload_n 3, 1) := by decide +kernel
theorem dX3_lowest_33 : decode cX3_lowest 33 = .ok (.iload 5, 2) := by decide +kernel
theorem dX3_lowest_35 : decode cX3_lowest 35 = .ok (.invokestatic 67, 3) := by decide +kernel
theorem dX3_lowest_38 : decode cX3_lowest 38 = .ok (.ifCond .eq 33, 3) := by decide +kernel
theorem dX3_lowest_41 : decode cX3_lowest 41 = .ok (.aload_n 1, 1) := by decide +kernel
theorem dX3_lowest_42 : decode cX3_lowest 42 = .ok (.iload 5, 2) := by decide +kernel
theorem dX3_lowest_44 : decode cX3_lowest 44 = .ok (.invokevirtual 127, 3) := by decide +kernel
theorem dX3_lowest_47 : decode cX3_lowest 47 = .ok (.ifCond .ne 24, 3) := by decide +kernel
theorem dX3_lowest_50 : decode cX3_lowest 50 = .ok (.iload 4, 2) := by decide +kernel
theorem dX3_lowest_52 : decode cX3_lowest 52 = .ok (.aload_n 1, 1) := by decide +kernel
theorem dX3_lowest_53 : decode cX3_lowest 53 = .ok (.getfield 147, 3) := by decide +kernel
theorem dX3_lowest_56 : decode cX3_lowest 56 = .ok (.iload 5, 2) := by decide +kernel
theorem dX3_lowest_58 : decode cX3_lowest 58 = .ok (.iaload, 1) := by decide +kernel
theorem dX3_lowest_59 : decode cX3_lowest 59 = .ok (.aload_n 1, 1) := by decide +kernel
theorem dX3_lowest_60 : decode cX3_lowest 60 = .ok (.getfield 150, 3) := by decide +kernel
theorem dX3_lowest_63 : decode cX3_lowest 63 = .ok (.iload_n 2, 1) := by decide +kernel
theorem dX3_lowest_64 : decode cX3_lowest 64 = .ok (.iaload, 1) := by decide +kernel
theorem dX3_lowest_65 : decode cX3_lowest 65 = .ok (.isub, 1) := by decide +kernel
theorem dX3_lowest_66 : decode cX3_lowest 66 = .ok (.invokestatic 187, 3) := by decide +kernel
theorem dX3_lowest_69 : decode cX3_lowest 69 = .ok (.istore 4, 2) := by decide +kernel
theorem dX3_lowest_71 : decode cX3_lowest 71 = .ok (.iinc 5 1, 3) := by decide +kernel
theorem dX3_lowest_74 : decode cX3_lowest 74 = .ok (.goto (-51), 3) := by decide +kernel
theorem dX3_lowest_77 : decode cX3_lowest 77 = .ok (.iload 4, 2) := by decide +kernel
theorem dX3_lowest_79 : decode cX3_lowest 79 = .ok (.ireturn, 1) := by decide +kernel
theorem dX3_fewestTimes_0 : decode cX3_fewestTimes 0 = .ok (.iconst (-1), 1) := by decide +kernel
theorem dX3_fewestTimes_1 : decode cX3_fewestTimes 1 = .ok (.istore_n 3, 1) := by decide +kernel
theorem dX3_fewestTimes_2 : decode cX3_fewestTimes 2 = .ok (.iconst 0, 1) := by decide +kernel
theorem dX3_fewestTimes_3 : decode cX3_fewestTimes 3 = .ok (.istore 4, 2) := by decide +kernel
theorem dX3_fewestTimes_5 : decode cX3_fewestTimes 5 = .ok (.iload 4, 2) := by decide +kernel
theorem dX3_fewestTimes_7 : decode cX3_fewestTimes 7 = .ok (.iconst 1, 1) := by decide +kernel
theorem dX3_fewestTimes_8 : decode cX3_fewestTimes 8 = .ok (.aload_n 1, 1) := by decide +kernel
theorem dX3_fewestTimes_9 : decode cX3_fewestTimes 9 = .ok (.getfield 53, 3) := by decide +kernel
theorem dX3_fewestTimes_12 : decode cX3_fewestTimes 12 = .ok (.ishl, 1) := by decide +kernel
theorem dX3_fewestTimes_13 : decode cX3_fewestTimes 13 = .ok (.if_icmp .ge 41, 3) := by decide +kernel
theorem dX3_fewestTimes_16 : decode cX3_fewestTimes 16 = .ok (.iload 4, 2) := by decide +kernel
theorem dX3_fewestTimes_18 : decode cX3_fewestTimes 18 = .ok (.invokestatic 159, 3) := by decide +kernel
theorem dX3_fewestTimes_21 : decode cX3_fewestTimes 21 = .ok (.istore 5, 2) := by decide +kernel
theorem dX3_fewestTimes_23 : decode cX3_fewestTimes 23 = .ok (.iload_n 3, 1) := by decide +kernel
theorem dX3_fewestTimes_24 : decode cX3_fewestTimes 24 = .ok (.iconst (-1), 1) := by decide +kernel
theorem dX3_fewestTimes_25 : decode cX3_fewestTimes 25 = .ok (.if_icmp .eq 9, 3) := by decide +kernel
theorem dX3_fewestTimes_28 : decode cX3_fewestTimes 28 = .ok (.iload 5, 2) := by decide +kernel
theorem dX3_fewestTimes_30 : decode cX3_fewestTimes 30 = .ok (.iload_n 3, 1) := by decide +kernel
theorem dX3_fewestTimes_31 : decode cX3_fewestTimes 31 = .ok (.if_icmp .ge 17, 3) := by decide +kernel
theorem dX3_fewestTimes_34 : decode cX3_fewestTimes 34 = .ok (.aload_n 0, 1) := by decide +kernel
theorem dX3_fewestTimes_35 : decode cX3_fewestTimes 35 = .ok (.aload_n 1, 1) := by decide +kernel
theorem dX3_fewestTimes_36 : decode cX3_fewestTimes 36 = .ok (.iload_n 2, 1) := by decide +kernel
theorem dX3_fewestTimes_37 : decode cX3_fewestTimes 37 = .ok (.iload 4, 2) := by decide +kernel
theorem dX3_fewestTimes_39 : decode cX3_fewestTimes 39 = .ok (.invokevirtual 193, 3) := by decide +kernel
theorem dX3_fewestTimes_42 : decode cX3_fewestTimes 42 = .ok (.ifCond .eq 6, 3) := by decide +kernel
theorem dX3_fewestTimes_45 : decode cX3_fewestTimes 45 = .ok (.iload 5, 2) := by decide +kernel
theorem dX3_fewestTimes_47 : decode cX3_fewestTimes 47 = .ok (.istore_n 3, 1) := by decide +kernel
theorem dX3_fewestTimes_48 : decode cX3_fewestTimes 48 = .ok (.iinc 4 1, 3) := by decide +kernel
theorem dX3_fewestTimes_51 : decode cX3_fewestTimes 51 = .ok (.goto (-46), 3) := by decide +kernel
theorem dX3_fewestTimes_54 : decode cX3_fewestTimes 54 = .ok (.iload_n 3, 1) := by decide +kernel
theorem dX3_fewestTimes_55 : decode cX3_fewestTimes 55 = .ok (.ireturn, 1) := by decide +kernel
theorem dX3_spreads_0 : decode cX3_spreads 0 = .ok (.aload_n 0, 1) := by decide +kernel
theorem dX3_spreads_1 : decode cX3_spreads 1 = .ok (.aload_n 1, 1) := by decide +kernel
theorem dX3_spreads_2 : decode cX3_spreads 2 = .ok (.iload_n 2, 1) := by decide +kernel
theorem dX3_spreads_3 : decode cX3_spreads 3 = .ok (.invokevirtual 156, 3) := by decide +kernel
theorem dX3_spreads_6 : decode cX3_spreads 6 = .ok (.istore 4, 2) := by decide +kernel
theorem dX3_spreads_8 : decode cX3_spreads 8 = .ok (.aload_n 0, 1) := by decide +kernel
theorem dX3_spreads_9 : decode cX3_spreads 9 = .ok (.getfield 64, 3) := by decide +kernel
theorem dX3_spreads_12 : decode cX3_spreads 12 = .ok (.iload_n 2, 1) := by decide +kernel
theorem dX3_spreads_13 : decode cX3_spreads 13 = .ok (.invokestatic 67, 3) := by decide +kernel
theorem dX3_spreads_16 : decode cX3_spreads 16 = .ok (.ifCond .eq 12, 3) := by decide +kernel
theorem dX3_spreads_19 : decode cX3_spreads 19 = .ok (.aload_n 0, 1) := by decide +kernel
theorem dX3_spreads_20 : decode cX3_spreads 20 = .ok (.getfield 18, 3) := by decide +kernel
theorem dX3_spreads_23 : decode cX3_spreads 23 = .ok (.iload_n 2, 1) := by decide +kernel
theorem dX3_spreads_24 : decode cX3_spreads 24 = .ok (.iaload, 1) := by decide +kernel
theorem dX3_spreads_25 : decode cX3_spreads 25 = .ok (.goto 6, 3) := by decide +kernel
theorem dX3_spreads_28 : decode cX3_spreads 28 = .ok (.sipush 1000, 3) := by decide +kernel
theorem dX3_spreads_31 : decode cX3_spreads 31 = .ok (.istore 5, 2) := by decide +kernel
theorem dX3_spreads_33 : decode cX3_spreads 33 = .ok (.iload_n 3, 1) := by decide +kernel
theorem dX3_spreads_34 : decode cX3_spreads 34 = .ok (.istore 6, 2) := by decide +kernel
theorem dX3_spreads_36 : decode cX3_spreads 36 = .ok (.iconst 0, 1) := by decide +kernel
theorem dX3_spreads_37 : decode cX3_spreads 37 = .ok (.istore 7, 2) := by decide +kernel
theorem dX3_spreads_39 : decode cX3_spreads 39 = .ok (.iload 7, 2) := by decide +kernel
theorem dX3_spreads_41 : decode cX3_spreads 41 = .ok (.bipush 6, 2) := by decide +kernel
theorem dX3_spreads_43 : decode cX3_spreads 43 = .ok (.if_icmp .ge 101, 3) := by decide +kernel
theorem dX3_spreads_46 : decode cX3_spreads 46 = .ok (.iload 6, 2) := by decide +kernel
theorem dX3_spreads_48 : decode cX3_spreads 48 = .ok (.ifCond .eq 96, 3) := by decide +kernel
theorem dX3_spreads_51 : decode cX3_spreads 51 = .ok (.aload_n 0, 1) := by decide +kernel
theorem dX3_spreads_52 : decode cX3_spreads 52 = .ok (.aload_n 1, 1) := by decide +kernel
theorem dX3_spreads_53 : decode cX3_spreads 53 = .ok (.iload 6, 2) := by decide +kernel
theorem dX3_spreads_55 : decode cX3_spreads 55 = .ok (.invokevirtual 196, 3) := by decide +kernel
theorem dX3_spreads_58 : decode cX3_spreads 58 = .ok (.istore 8, 2) := by decide +kernel
theorem dX3_spreads_60 : decode cX3_spreads 60 = .ok (.aload_n 0, 1) := by decide +kernel
theorem dX3_spreads_61 : decode cX3_spreads 61 = .ok (.aload_n 1, 1) := by decide +kernel
theorem dX3_spreads_62 : decode cX3_spreads 62 = .ok (.iload 8, 2) := by decide +kernel
theorem dX3_spreads_64 : decode cX3_spreads 64 = .ok (.invokevirtual 130, 3) := by decide +kernel
theorem dX3_spreads_67 : decode cX3_spreads 67 = .ok (.istore 9, 2) := by decide +kernel
theorem dX3_spreads_69 : decode cX3_spreads 69 = .ok (.iload 4, 2) := by decide +kernel
theorem dX3_spreads_71 : decode cX3_spreads 71 = .ok (.iload 8, 2) := by decide +kernel
theorem dX3_spreads_73 : decode cX3_spreads 73 = .ok (.invokestatic 67, 3) := by decide +kernel
theorem dX3_spreads_76 : decode cX3_spreads 76 = .ok (.ifCond .eq 24, 3) := by decide +kernel
theorem dX3_spreads_79 : decode cX3_spreads 79 = .ok (.iload 9, 2) := by decide +kernel
theorem dX3_spreads_81 : decode cX3_spreads 81 = .ok (.iload 5, 2) := by decide +kernel
theorem dX3_spreads_83 : decode cX3_spreads 83 = .ok (.if_icmp .ge 17, 3) := by decide +kernel
theorem dX3_spreads_86 : decode cX3_spreads 86 = .ok (.aload_n 1, 1) := by decide +kernel
theorem dX3_spreads_87 : decode cX3_spreads 87 = .ok (.aload_n 0, 1) := by decide +kernel
theorem dX3_spreads_88 : decode cX3_spreads 88 = .ok (.getfield 9, 3) := by decide +kernel
theorem dX3_spreads_91 : decode cX3_spreads 91 = .ok (.iload 8, 2) := by decide +kernel
theorem dX3_spreads_93 : decode cX3_spreads 93 = .ok (.iaload, 1) := by decide +kernel
theorem dX3_spreads_94 : decode cX3_spreads 94 = .ok (.invokevirtual 127, 3) := by decide +kernel
theorem dX3_spreads_97 : decode cX3_spreads 97 = .ok (.ifCond .eq 5, 3) := by decide +kernel
theorem dX3_spreads_100 : decode cX3_spreads 100 = .ok (.iconst 0, 1) := by decide +kernel
theorem dX3_spreads_101 : decode cX3_spreads 101 = .ok (.ireturn, 1) := by decide +kernel
theorem dX3_spreads_102 : decode cX3_spreads 102 = .ok (.iload 9, 2) := by decide +kernel
theorem dX3_spreads_104 : decode cX3_spreads 104 = .ok (.istore 5, 2) := by decide +kernel
theorem dX3_spreads_106 : decode cX3_spreads 106 = .ok (.iload 4, 2) := by decide +kernel
theorem dX3_spreads_108 : decode cX3_spreads 108 = .ok (.aload_n 0, 1) := by decide +kernel
theorem dX3_spreads_109 : decode cX3_spreads 109 = .ok (.aload_n 1, 1) := by decide +kernel
theorem dX3_spreads_110 : decode cX3_spreads 110 = .ok (.aload_n 1, 1) := by decide +kernel
theorem dX3_spreads_111 : decode cX3_spreads 111 = .ok (.aload_n 0, 1) := by decide +kernel
theorem dX3_spreads_112 : decode cX3_spreads 112 = .ok (.getfield 9, 3) := by decide +kernel
theorem dX3_spreads_115 : decode cX3_spreads 115 = .ok (.iload 8, 2) := by decide +kernel
theorem dX3_spreads_117 : decode cX3_spreads 117 = .ok (.iaload, 1) := by decide +kernel
theorem dX3_spreads_118 : decode cX3_spreads 118 = .ok (.invokevirtual 138, 3) := by decide +kernel
theorem dX3_spreads_121 : decode cX3_spreads 121 = .ok (.invokevirtual 141, 3) := by decide +kernel
theorem dX3_spreads_124 : decode cX3_spreads 124 = .ok (.ior, 1) := by decide +kernel
theorem dX3_spreads_125 : decode cX3_spreads 125 = .ok (.istore 4, 2) := by decide +kernel
theorem dX3_spreads_127 : decode cX3_spreads 127 = .ok (.iload 6, 2) := by decide +kernel
theorem dX3_spreads_129 : decode cX3_spreads 129 = .ok (.iconst 1, 1) := by decide +kernel
theorem dX3_spreads_130 : decode cX3_spreads 130 = .ok (.iload 8, 2) := by decide +kernel
theorem dX3_spreads_132 : decode cX3_spreads 132 = .ok (.ishl, 1) := by decide +kernel
theorem dX3_spreads_133 : decode cX3_spreads 133 = .ok (.iconst (-1), 1) := by decide +kernel
theorem dX3_spreads_134 : decode cX3_spreads 134 = .ok (.ixor, 1) := by decide +kernel
theorem dX3_spreads_135 : decode cX3_spreads 135 = .ok (.iand, 1) := by decide +kernel
theorem dX3_spreads_136 : decode cX3_spreads 136 = .ok (.istore 6, 2) := by decide +kernel
theorem dX3_spreads_138 : decode cX3_spreads 138 = .ok (.iinc 7 1, 3) := by decide +kernel
theorem dX3_spreads_141 : decode cX3_spreads 141 = .ok (.goto (-102), 3) := by decide +kernel
theorem dX3_spreads_144 : decode cX3_spreads 144 = .ok (.iload 4, 2) := by decide +kernel
theorem dX3_spreads_146 : decode cX3_spreads 146 = .ok (.invokestatic 159, 3) := by decide +kernel
theorem dX3_spreads_149 : decode cX3_spreads 149 = .ok (.aload_n 1, 1) := by decide +kernel
theorem dX3_spreads_150 : decode cX3_spreads 150 = .ok (.getfield 53, 3) := by decide +kernel
theorem dX3_spreads_153 : decode cX3_spreads 153 = .ok (.if_icmp .ne 7, 3) := by decide +kernel
theorem dX3_spreads_156 : decode cX3_spreads 156 = .ok (.iconst 1, 1) := by decide +kernel
theorem dX3_spreads_157 : decode cX3_spreads 157 = .ok (.goto 4, 3) := by decide +kernel
theorem dX3_spreads_160 : decode cX3_spreads 160 = .ok (.iconst 0, 1) := by decide +kernel
theorem dX3_spreads_161 : decode cX3_spreads 161 = .ok (.ireturn, 1) := by decide +kernel
theorem dX3_highestOf_0 : decode cX3_highestOf 0 = .ok (.iconst 0, 1) := by decide +kernel
theorem dX3_highestOf_1 : decode cX3_highestOf 1 = .ok (.istore_n 3, 1) := by decide +kernel
theorem dX3_highestOf_2 : decode cX3_highestOf 2 = .ok (.sipush (-1000), 3) := by decide +kernel
theorem dX3_highestOf_5 : decode cX3_highestOf 5 = .ok (.istore 4, 2) := by decide +kernel
theorem dX3_highestOf_7 : decode cX3_highestOf 7 = .ok (.iconst 0, 1) := by decide +kernel
theorem dX3_highestOf_8 : decode cX3_highestOf 8 = .ok (.istore 5, 2) := by decide +kernel
theorem dX3_highestOf_10 : decode cX3_highestOf 10 = .ok (.iload 5, 2) := by decide +kernel
theorem dX3_highestOf_12 : decode cX3_highestOf 12 = .ok (.aload_n 1, 1) := by decide +kernel
theorem dX3_highestOf_13 : decode cX3_highestOf 13 = .ok (.getfield 53, 3) := by decide +kernel
theorem dX3_highestOf_16 : decode cX3_highestOf 16 = .ok (.if_icmp .ge 42, 3) := by decide +kernel
theorem dX3_highestOf_19 : decode cX3_highestOf 19 = .ok (.iload_n 2, 1) := by decide +kernel
theorem dX3_highestOf_20 : decode cX3_highestOf 20 = .ok (.iload 5, 2) := by decide +kernel
theorem dX3_highestOf_22 : decode cX3_highestOf 22 = .ok (.invokestatic 67, 3) := by decide +kernel
theorem dX3_highestOf_25 : decode cX3_highestOf 25 = .ok (.ifCond .eq 27, 3) := by decide +kernel
theorem dX3_highestOf_28 : decode cX3_highestOf 28 = .ok (.aload_n 0, 1) := by decide +kernel
theorem dX3_highestOf_29 : decode cX3_highestOf 29 = .ok (.aload_n 1, 1) := by decide +kernel
theorem dX3_highestOf_30 : decode cX3_highestOf 30 = .ok (.iload 5, 2) := by decide +kernel
theorem dX3_highestOf_32 : decode cX3_highestOf 32 = .ok (.invokevirtual 130, 3) := by decide +kernel
theorem dX3_highestOf_35 : decode cX3_highestOf 35 = .ok (.iload 4, 2) := by decide +kernel
theorem dX3_highestOf_37 : decode cX3_highestOf 37 = .ok (.if_icmp .le 15, 3) := by decide +kernel
theorem dX3_highestOf_40 : decode cX3_highestOf 40 = .ok (.iload 5, 2) := by decide +kernel
theorem dX3_highestOf_42 : decode cX3_highestOf 42 = .ok (.istore_n 3, 1) := by decide +kernel
theorem dX3_highestOf_43 : decode cX3_highestOf 43 = .ok (.aload_n 0, 1) := by decide +kernel
theorem dX3_highestOf_44 : decode cX3_highestOf 44 = .ok (.aload_n 1, 1) := by decide +kernel
theorem dX3_highestOf_45 : decode cX3_highestOf 45 = .ok (.iload 5, 2) := by decide +kernel
theorem dX3_highestOf_47 : decode cX3_highestOf 47 = .ok (.invokevirtual 130, 3) := by decide +kernel
theorem dX3_highestOf_50 : decode cX3_highestOf 50 = .ok (.istore 4, 2) := by decide +kernel
theorem dX3_highestOf_52 : decode cX3_highestOf 52 = .ok (.iinc 5 1, 3) := by decide +kernel
theorem dX3_highestOf_55 : decode cX3_highestOf 55 = .ok (.goto (-45), 3) := by decide +kernel
theorem dX3_highestOf_58 : decode cX3_highestOf 58 = .ok (.iload_n 3, 1) := by decide +kernel
theorem dX3_highestOf_59 : decode cX3_highestOf 59 = .ok (.ireturn, 1) := by decide +kernel
