theorem dX4_init_0 : decode cX4_init 0 = .ok (.aload_n 0, 1) := by decide +kernel
theorem dX4_init_1 : decode cX4_init 1 = .ok (.invokespecial 3, 3) := by decide +kernel
theorem dX4_init_4 : decode cX4_init 4 = .ok (.aload_n 0, 1) := by decide +kernel
theorem dX4_init_5 : decode cX4_init 5 = .ok (.new 9, 3) := by decide +kernel
theorem dX4_init_8 : decode cX4_init 8 = .ok (.dup, 1) := by decide +kernel
theorem dX4_init_9 : decode cX4_init 9 = .ok (.invokespecial 11, 3) := by decide +kernel
theorem dX4_init_12 : decode cX4_init 12 = .ok (.putfield 12, 3) := by decide +kernel
theorem dX4_init_15 : decode cX4_init 15 = .ok (.aload_n 0, 1) := by decide +kernel
theorem dX4_init_16 : decode cX4_init 16 = .ok (.new 18, 3) := by decide +kernel
theorem dX4_init_19 : decode cX4_init 19 = .ok (.dup, 1) := by decide +kernel
theorem dX4_init_20 : decode cX4_init 20 = .ok (.invokespecial 20, 3) := by decide +kernel
theorem dX4_init_23 : decode cX4_init 23 = .ok (.putfield 21, 3) := by decide +kernel
theorem dX4_init_26 : decode cX4_init 26 = .ok (.aload_n 0, 1) := by decide +kernel
theorem dX4_init_27 : decode cX4_init 27 = .ok (.new 25, 3) := by decide +kernel
theorem dX4_init_30 : decode cX4_init 30 = .ok (.dup, 1) := by decide +kernel
theorem dX4_init_31 : decode cX4_init 31 = .ok (.invokespecial 27, 3) := by decide +kernel
theorem dX4_init_34 : decode cX4_init 34 = .ok (.putfield 28, 3) := by decide +kernel
theorem dX4_init_37 : decode cX4_init 37 = .ok (.aload_n 0, 1) := by decide +kernel
theorem dX4_init_38 : decode cX4_init 38 = .ok (.new 32, 3) := by decide +kernel
theorem dX4_init_41 : decode cX4_init 41 = .ok (.dup, 1) := by decide +kernel
theorem dX4_init_42 : decode cX4_init 42 = .ok (.invokespecial 34, 3) := by decide +kernel
theorem dX4_init_45 : decode cX4_init 45 = .ok (.putfield 35, 3) := by decide +kernel
theorem dX4_init_48 : decode cX4_init 48 = .ok (.aload_n 0, 1) := by decide +kernel
theorem dX4_init_49 : decode cX4_init 49 = .ok (.iconst (-1), 1) := by decide +kernel
theorem dX4_init_50 : decode cX4_init 50 = .ok (.putfield 39, 3) := by decide +kernel
theorem dX4_init_53 : decode cX4_init 53 = .ok (.aload_n 0, 1) := by decide +kernel
theorem dX4_init_54 : decode cX4_init 54 = .ok (.iconst 3, 1) := by decide +kernel
theorem dX4_init_55 : decode cX4_init 55 = .ok (.newarray .int, 2) := by decide +kernel
theorem dX4_init_57 : decode cX4_init 57 = .ok (.putfield 43, 3) := by decide +kernel
theorem dX4_init_60 : decode cX4_init 60 = .ok (.aload_n 0, 1) := by decide +kernel
theorem dX4_init_61 : decode cX4_init 61 = .ok (.sipush 600, 3) := by decide +kernel
theorem dX4_init_64 : decode cX4_init 64 = .ok (.newarray .byte, 2) := by decide +kernel
theorem dX4_init_66 : decode cX4_init 66 = .ok (.putfield 47, 3) := by decide +kernel
theorem dX4_init_69 : decode cX4_init 69 = .ok (.return_, 1) := by decide +kernel
theorem dX4_read_0 : decode cX4_read 0 = .ok (.aload_n 1, 1) := by decide +kernel
theorem dX4_read_1 : decode cX4_read 1 = .ok (.iconst 0, 1) := by decide +kernel
theorem dX4_read_2 : decode cX4_read 2 = .ok (.aload_n 0, 1) := by decide +kernel
theorem dX4_read_3 : decode cX4_read 3 = .ok (.getfield 47, 3) := by decide +kernel
theorem dX4_read_6 : decode cX4_read 6 = .ok (.iconst 0, 1) := by decide +kernel
theorem dX4_read_7 : decode cX4_read 7 = .ok (.iload_n 2, 1) := by decide +kernel
theorem dX4_read_8 : decode cX4_read 8 = .ok (.invokestatic 51, 3) := by decide +kernel
theorem dX4_read_11 : decode cX4_read 11 = .ok (.aload_n 0, 1) := by decide +kernel
theorem dX4_read_12 : decode cX4_read 12 = .ok (.iload_n 2, 1) := by decide +kernel
theorem dX4_read_13 : decode cX4_read 13 = .ok (.putfield 57, 3) := by decide +kernel
theorem dX4_read_16 : decode cX4_read 16 = .ok (.aload_n 0, 1) := by decide +kernel
theorem dX4_read_17 : decode cX4_read 17 = .ok (.iconst 0, 1) := by decide +kernel
theorem dX4_read_18 : decode cX4_read 18 = .ok (.putfield 60, 3) := by decide +kernel
theorem dX4_read_21 : decode cX4_read 21 = .ok (.aload_n 0, 1) := by decide +kernel
theorem dX4_read_22 : decode cX4_read 22 = .ok (.iconst 0, 1) := by decide +kernel
theorem dX4_read_23 : decode cX4_read 23 = .ok (.putfield 63, 3) := by decide +kernel
theorem dX4_read_26 : decode cX4_read 26 = .ok (.aload_n 0, 1) := by decide +kernel
theorem dX4_read_27 : decode cX4_read 27 = .ok (.iconst (-1), 1) := by decide +kernel
theorem dX4_read_28 : decode cX4_read 28 = .ok (.putfield 39, 3) := by decide +kernel
theorem dX4_read_31 : decode cX4_read 31 = .ok (.aload_n 0, 1) := by decide +kernel
theorem dX4_read_32 : decode cX4_read 32 = .ok (.iload_n 3, 1) := by decide +kernel
theorem dX4_read_33 : decode cX4_read 33 = .ok (.invokevirtual 66, 3) := by decide +kernel
theorem dX4_read_36 : decode cX4_read 36 = .ok (.aload_n 0, 1) := by decide +kernel
theorem dX4_read_37 : decode cX4_read 37 = .ok (.invokevirtual 70, 3) := by decide +kernel
theorem dX4_read_40 : decode cX4_read 40 = .ok (.iconst 0, 1) := by decide +kernel
theorem dX4_read_41 : decode cX4_read 41 = .ok (.istore 4, 2) := by decide +kernel
theorem dX4_read_43 : decode cX4_read 43 = .ok (.iload 4, 2) := by decide +kernel
theorem dX4_read_45 : decode cX4_read 45 = .ok (.aload_n 0, 1) := by decide +kernel
theorem dX4_read_46 : decode cX4_read 46 = .ok (.getfield 57, 3) := by decide +kernel
theorem dX4_read_49 : decode cX4_read 49 = .ok (.if_icmp .ge 29, 3) := by decide +kernel
theorem dX4_read_52 : decode cX4_read 52 = .ok (.aload_n 0, 1) := by decide +kernel
theorem dX4_read_53 : decode cX4_read 53 = .ok (.getfield 73, 3) := by decide +kernel
theorem dX4_read_56 : decode cX4_read 56 = .ok (.ifCond .eq 22, 3) := by decide +kernel
theorem dX4_read_59 : decode cX4_read 59 = .ok (.aload_n 0, 1) := by decide +kernel
theorem dX4_read_60 : decode cX4_read 60 = .ok (.getfield 63, 3) := by decide +kernel
theorem dX4_read_63 : decode cX4_read 63 = .ok (.iconst 1, 1) := by decide +kernel
theorem dX4_read_64 : decode cX4_read 64 = .ok (.if_icmp .eq 14, 3) := by decide +kernel
theorem dX4_read_67 : decode cX4_read 67 = .ok (.aload_n 0, 1) := by decide +kernel
theorem dX4_read_68 : decode cX4_read 68 = .ok (.iload_n 3, 1) := by decide +kernel
theorem dX4_read_78 : decode cX4_read 78 = .ok (.aload_n 0, 1) := by decide +kernel
theorem dX4_read_79 : decode cX4_read 79 = .ok (.getfield 63, 3) := by decide +kernel
theorem dX4_read_82 : decode cX4_read 82 = .ok (.ifCond .ne 23, 3) := by decide +kernel
theorem dX4_read_85 : decode cX4_read 85 = .ok (.iload_n 3, 1) := by decide +kernel
theorem dX4_read_86 : decode cX4_read 86 = .ok (.ifCond .ne 19, 3) := by decide +kernel
theorem dX4_read_89 : decode cX4_read 89 = .ok (.aload_n 0, 1) := by decide +kernel
theorem dX4_read_90 : decode cX4_read 90 = .ok (.invokevirtual 79, 3) := by decide +kernel
theorem dX4_read_93 : decode cX4_read 93 = .ok (.ifCond .eq 12, 3) := by decide +kernel
theorem dX4_read_96 : decode cX4_read 96 = .ok (.aload_n 0, 1) := by decide +kernel
theorem dX4_read_97 : decode cX4_read 97 = .ok (.iconst 4, 1) := by decide +kernel
theorem dX4_read_98 : decode cX4_read 98 = .ok (.aload_n 0, 1) := by decide +kernel
theorem dX4_read_99 : decode cX4_read 99 = .ok (.getfield 57, 3) := by decide +kernel
theorem dX4_read_105 : decode cX4_read 105 = .ok (.return_, 1) := by decide +kernel
theorem dX4_clearDraft_0 : decode cX4_clearDraft 0 = .ok (.iload_n 1, 1) := by decide +kernel
theorem dX4_clearDraft_1 : decode cX4_clearDraft 1 = .ok (.ifCond .ne 23, 3) := by decide +kernel
theorem dX4_clearDraft_4 : decode cX4_clearDraft 4 = .ok (.aload_n 0, 1) := by decide +kernel
theorem dX4_clearDraft_5 : decode cX4_clearDraft 5 = .ok (.getfield 12, 3) := by decide +kernel
theorem dX4_clearDraft_8 : decode cX4_clearDraft 8 = .ok (.invokevirtual 87, 3) := by decide +kernel
theorem dX4_clearDraft_11 : decode cX4_clearDraft 11 = .ok (.aload_n 0, 1) := by decide +kernel
theorem dX4_clearDraft_12 : decode cX4_clearDraft 12 = .ok (.iconst 0, 1) := by decide +kernel
theorem dX4_clearDraft_13 : decode cX4_clearDraft 13 = .ok (.putfield 90, 3) := by decide +kernel
theorem dX4_clearDraft_16 : decode cX4_clearDraft 16 = .ok (.aload_n 0, 1) := by decide +kernel
theorem dX4_clearDraft_17 : decode cX4_clearDraft 17 = .ok (.iconst 0, 1) := by decide +kernel
theorem dX4_clearDraft_18 : decode cX4_clearDraft 18 = .ok (.putfield 93, 3) := by decide +kernel
theorem dX4_clearDraft_21 : decode cX4_clearDraft 21 = .ok (.goto 51, 3) := by decide +kernel
theorem dX4_clearDraft_24 : decode cX4_clearDraft 24 = .ok (.iload_n 1, 1) := by decide +kernel
theorem dX4_clearDraft_25 : decode cX4_clearDraft 25 = .ok (.iconst 1, 1) := by decide +kernel
theorem dX4_clearDraft_26 : decode cX4_clearDraft 26 = .ok (.if_icmp .ne 14, 3) := by decide +kernel
theorem dX4_clearDraft_29 : decode cX4_clearDraft 29 = .ok (.aload_n 0, 1) := by decide +kernel
theorem dX4_clearDraft_30 : decode cX4_clearDraft 30 = .ok (.getfield 21, 3) := by decide +kernel
theorem dX4_clearDraft_33 : decode cX4_clearDraft 33 = .ok (.iconst 0, 1) := by decide +kernel
theorem dX4_clearDraft_34 : decode cX4_clearDraft 34 = .ok (.putfield 96, 3) := by decide +kernel
theorem dX4_clearDraft_37 : decode cX4_clearDraft 37 = .ok (.goto 35, 3) := by decide +kernel
theorem dX4_clearDraft_40 : decode cX4_clearDraft 40 = .ok (.iload_n 1, 1) := by decide +kernel
theorem dX4_clearDraft_41 : decode cX4_clearDraft 41 = .ok (.iconst 2, 1) := by decide +kernel
theorem dX4_clearDraft_42 : decode cX4_clearDraft 42 = .ok (.if_icmp .ne 14, 3) := by decide +kernel
theorem dX4_clearDraft_45 : decode cX4_clearDraft 45 = .ok (.aload_n 0, 1) := by decide +kernel
theorem dX4_clearDraft_46 : decode cX4_clearDraft 46 = .ok (.getfield 28, 3) := by decide +kernel
theorem dX4_clearDraft_49 : decode cX4_clearDraft 49 = .ok (.iconst 0, 1) := by decide +kernel
theorem dX4_clearDraft_50 : decode cX4_clearDraft 50 = .ok (.putfield 99, 3) := by decide +kernel
theorem dX4_clearDraft_53 : decode cX4_clearDraft 53 = .ok (.goto 19, 3) := by decide +kernel
theorem dX4_clearDraft_56 : decode cX4_clearDraft 56 = .ok (.aload_n 0, 1) := by decide +kernel
theorem dX4_clearDraft_57 : decode cX4_clearDraft 57 = .ok (.getfield 35, 3) := by decide +kernel
theorem dX4_clearDraft_60 : decode cX4_clearDraft 60 = .ok (.iconst 0, 1) := by decide +kernel
theorem dX4_clearDraft_61 : decode cX4_clearDraft 61 = .ok (.putfield 102, 3) := by decide +kernel
theorem dX4_clearDraft_64 : decode cX4_clearDraft 64 = .ok (.aload_n 0, 1) := by decide +kernel
theorem dX4_clearDraft_65 : decode cX4_clearDraft 65 = .ok (.getfield 35, 3) := by decide +kernel
theorem dX4_clearDraft_68 : decode cX4_clearDraft 68 = .ok (.iconst 0, 1) := by decide +kernel
theorem dX4_clearDraft_69 : decode cX4_clearDraft 69 = .ok (.putfield 105, 3) := by decide +kernel
theorem dX4_clearDraft_72 : decode cX4_clearDraft 72 = .ok (.return_, 1) := by decide +kernel
theorem dX4_tellsOfMissing_0 : decode cX4_tellsOfMissing 0 = .ok (.aload_n 0, 1) := by decide +kernel
theorem dX4_tellsOfMissing_1 : decode cX4_tellsOfMissing 1 = .ok (.getfield 90, 3) := by decide +kernel
theorem dX4_tellsOfMissing_4 : decode cX4_tellsOfMissing 4 = .ok (.aload_n 0, 1) := by decide +kernel
theorem dX4_tellsOfMissing_5 : decode cX4_tellsOfMissing 5 = .ok (.getfield 12, 3) := by decide +kernel
theorem dX4_tellsOfMissing_8 : decode cX4_tellsOfMissing 8 = .ok (.getfield 108, 3) := by decide +kernel
theorem dX4_tellsOfMissing_11 : decode cX4_tellsOfMissing 11 = .ok (.ishr, 1) := by decide +kernel
theorem dX4_tellsOfMissing_12 : decode cX4_tellsOfMissing 12 = .ok (.ifCond .ne 18, 3) := by decide +kernel
theorem dX4_tellsOfMissing_15 : decode cX4_tellsOfMissing 15 = .ok (.aload_n 0, 1) := by decide +kernel
theorem dX4_tellsOfMissing_16 : decode cX4_tellsOfMissing 16 = .ok (.getfield 93, 3) := by decide +kernel
theorem dX4_tellsOfMissing_19 : decode cX4_tellsOfMissing 19 = .ok (.aload_n 0, 1) := by decide +kernel
theorem dX4_tellsOfMissing_20 : decode cX4_tellsOfMissing 20 = .ok (.getfield 12, 3) := by decide +kernel
theorem dX4_tellsOfMissing_23 : decode cX4_tellsOfMissing 23 = .ok (.getfield 111, 3) := by decide +kernel
theorem dX4_tellsOfMissing_26 : decode cX4_tellsOfMissing 26 = .ok (.ishr, 1) := by decide +kernel
theorem dX4_tellsOfMissing_27 : decode cX4_tellsOfMissing 27 = .ok (.ifCond .eq 7, 3) := by decide +kernel
theorem dX4_tellsOfMissing_30 : decode cX4_tellsOfMissing 30 = .ok (.iconst 1, 1) := by decide +kernel
theorem dX4_tellsOfMissing_31 : decode cX4_tellsOfMissing 31 = .ok (.goto 4, 3) := by decide +kernel
theorem dX4_tellsOfMissing_34 : decode cX4_tellsOfMissing 34 = .ok (.iconst 0, 1) := by decide +kernel
theorem dX4_tellsOfMissing_35 : decode cX4_tellsOfMissing 35 = .ok (.ireturn, 1) := by decide +kernel
theorem dX4_advance_0 : decode cX4_advance 0 = .ok (.aload_n 0, 1) := by decide +kernel
theorem dX4_advance_1 : decode cX4_advance 1 = .ok (.getfield 60, 3) := by decide +kernel
theorem dX4_advance_4 : decode cX4_advance 4 = .ok (.istore_n 1, 1) := by decide +kernel
theorem dX4_advance_5 : decode cX4_advance 5 = .ok (.iload_n 1, 1) := by decide +kernel
theorem dX4_advance_6 : decode cX4_advance 6 = .ok (.aload_n 0, 1) := by decide +kernel
theorem dX4_advance_7 : decode cX4_advance 7 = .ok (.getfield 57, 3) := by decide +kernel
theorem dX4_advance_10 : decode cX4_advance 10 = .ok (.if_icmp .ge 31, 3) := by decide +kernel
theorem dX4_advance_13 : decode cX4_advance 13 = .ok (.aload_n 0, 1) := by decide +kernel
theorem dX4_advance_14 : decode cX4_advance 14 = .ok (.getfield 47, 3) := by decide +kernel
theorem dX4_advance_17 : decode cX4_advance 17 = .ok (.iload_n 1, 1) := by decide +kernel
theorem dX4_advance_18 : decode cX4_advance 18 = .ok (.baload, 1) := by decide +kernel
theorem dX4_advance_19 : decode cX4_advance 19 = .ok (.bipush 10, 2) := by decide +kernel
theorem dX4_advance_21 : decode cX4_advance 21 = .ok (.if_icmp .eq 14, 3) := by decide +kernel
theorem dX4_advance_24 : decode cX4_advance 24 = .ok (.aload_n 0, 1) := by decide +kernel
theorem dX4_advance_25 : decode cX4_advance 25 = .ok (.getfield 47, 3) := by decide +kernel
theorem dX4_advance_28 : decode cX4_advance 28 = .ok (.iload_n 1, 1) := by decide +kernel
theorem dX4_advance_29 : decode cX4_advance 29 = .ok (.baload, 1) := by decide +kernel
theorem dX4_advance_30 : decode cX4_advance 30 = .ok (.bipush 32, 2) := by decide +kernel
theorem dX4_advance_32 : decode cX4_advance 32 = .ok (.if_icmp .ne 9, 3) := by decide +kernel
theorem dX4_advance_35 : decode cX4_advance 35 = .ok (.iinc 1 1, 3) := by decide +kernel
theorem dX4_advance_38 : decode cX4_advance 38 = .ok (.goto (-33), 3) := by decide +kernel
theorem dX4_advance_41 : decode cX4_advance 41 = .ok (.aload_n 0, 1) := by decide +kernel
theorem dX4_advance_42 : decode cX4_advance 42 = .ok (.iload_n 1, 1) := by decide +kernel
theorem dX4_advance_43 : decode cX4_advance 43 = .ok (.putfield 125, 3) := by decide +kernel
theorem dX4_advance_46 : decode cX4_advance 46 = .ok (.iload_n 1, 1) := by decide +kernel
theorem dX4_advance_47 : decode cX4_advance 47 = .ok (.aload_n 0, 1) := by decide +kernel
theorem dX4_advance_48 : decode cX4_advance 48 = .ok (.getfield 57, 3) := by decide +kernel
theorem dX4_advance_51 : decode cX4_advance 51 = .ok (.if_icmp .lt 11, 3) := by decide +kernel
theorem dX4_advance_54 : decode cX4_advance 54 = .ok (.aload_n 0, 1) := by decide +kernel
theorem dX4_advance_55 : decode cX4_advance 55 = .ok (.iconst 0, 1) := by decide +kernel
theorem dX4_advance_56 : decode cX4_advance 56 = .ok (.putfield 73, 3) := by decide +kernel
theorem dX4_advance_59 : decode cX4_advance 59 = .ok (.goto 90, 3) := by decide +kernel
theorem dX4_advance_62 : decode cX4_advance 62 = .ok (.aload_n 0, 1) := by decide +kernel
theorem dX4_advance_63 : decode cX4_advance 63 = .ok (.getfield 47, 3) := by decide +kernel
theorem dX4_advance_66 : decode cX4_advance 66 = .ok (.iload_n 1, 1) := by decide +kernel
theorem dX4_advance_67 : decode cX4_advance 67 = .ok (.baload, 1) := by decide +kernel
theorem dX4_advance_149 : decode cX4_advance 149 = .ok (.aload_n 0, 1) := by decide +kernel
theorem dX4_advance_150 : decode cX4_advance 150 = .ok (.iload_n 1, 1) := by decide +kernel
theorem dX4_advance_151 : decode cX4_advance 151 = .ok (.putfield 60, 3) := by decide +kernel
theorem dX4_advance_154 : decode cX4_advance 154 = .ok (.return_, 1) := by decide +kernel
