theorem dX0_copyFrom_0 : decode cX0_copyFrom 0 = .ok (.aload_n 0, 1) := by decide +kernel
theorem dX0_copyFrom_1 : decode cX0_copyFrom 1 = .ok (.aload_n 1, 1) := by decide +kernel
theorem dX0_copyFrom_2 : decode cX0_copyFrom 2 = .ok (.getfield 18, 3) := by decide +kernel
theorem dX0_copyFrom_5 : decode cX0_copyFrom 5 = .ok (.putfield 18, 3) := by decide +kernel
theorem dX0_copyFrom_8 : decode cX0_copyFrom 8 = .ok (.aload_n 0, 1) := by decide +kernel
theorem dX0_copyFrom_9 : decode cX0_copyFrom 9 = .ok (.aload_n 1, 1) := by decide +kernel
theorem dX0_copyFrom_10 : decode cX0_copyFrom 10 = .ok (.getfield 22, 3) := by decide +kernel
theorem dX0_copyFrom_13 : decode cX0_copyFrom 13 = .ok (.putfield 22, 3) := by decide +kernel
theorem dX0_copyFrom_16 : decode cX0_copyFrom 16 = .ok (.aload_n 1, 1) := by decide +kernel
theorem dX0_copyFrom_17 : decode cX0_copyFrom 17 = .ok (.getfield 9, 3) := by decide +kernel
theorem dX0_copyFrom_20 : decode cX0_copyFrom 20 = .ok (.iconst 0, 1) := by decide +kernel
theorem dX0_copyFrom_21 : decode cX0_copyFrom 21 = .ok (.aload_n 0, 1) := by decide +kernel
theorem dX0_copyFrom_22 : decode cX0_copyFrom 22 = .ok (.getfield 9, 3) := by decide +kernel
theorem dX0_copyFrom_25 : decode cX0_copyFrom 25 = .ok (.iconst 0, 1) := by decide +kernel
theorem dX0_copyFrom_26 : decode cX0_copyFrom 26 = .ok (.aload_n 0, 1) := by decide +kernel
theorem dX0_copyFrom_27 : decode cX0_copyFrom 27 = .ok (.getfield 18, 3) := by decide +kernel
theorem dX0_copyFrom_30 : decode cX0_copyFrom 30 = .ok (.invokestatic 25, 3) := by decide +kernel
theorem dX0_copyFrom_33 : decode cX0_copyFrom 33 = .ok (.aload_n 1, 1) := by decide +kernel
theorem dX0_copyFrom_34 : decode cX0_copyFrom 34 = .ok (.getfield 15, 3) := by decide +kernel
theorem dX0_copyFrom_37 : decode cX0_copyFrom 37 = .ok (.iconst 0, 1) := by decide +kernel
theorem dX0_copyFrom_38 : decode cX0_copyFrom 38 = .ok (.aload_n 0, 1) := by decide +kernel
theorem dX0_copyFrom_39 : decode cX0_copyFrom 39 = .ok (.getfield 15, 3) := by decide +kernel
theorem dX0_copyFrom_42 : decode cX0_copyFrom 42 = .ok (.iconst 0, 1) := by decide +kernel
theorem dX0_copyFrom_43 : decode cX0_copyFrom 43 = .ok (.aload_n 0, 1) := by decide +kernel
theorem dX0_copyFrom_44 : decode cX0_copyFrom 44 = .ok (.getfield 18, 3) := by decide +kernel
theorem dX0_copyFrom_47 : decode cX0_copyFrom 47 = .ok (.invokestatic 25, 3) := by decide +kernel
theorem dX0_copyFrom_50 : decode cX0_copyFrom 50 = .ok (.return_, 1) := by decide +kernel
theorem dX0_longestFall_0 : decode cX0_longestFall 0 = .ok (.iconst 0, 1) := by decide +kernel
theorem dX0_longestFall_1 : decode cX0_longestFall 1 = .ok (.istore_n 1, 1) := by decide +kernel
theorem dX0_longestFall_2 : decode cX0_longestFall 2 = .ok (.iconst 0, 1) := by decide +kernel
theorem dX0_longestFall_3 : decode cX0_longestFall 3 = .ok (.istore_n 2, 1) := by decide +kernel
theorem dX0_longestFall_4 : decode cX0_longestFall 4 = .ok (.iconst 0, 1) := by decide +kernel
theorem dX0_longestFall_5 : decode cX0_longestFall 5 = .ok (.istore_n 3, 1) := by decide +kernel
theorem dX0_longestFall_6 : decode cX0_longestFall 6 = .ok (.iload_n 3, 1) := by decide +kernel
theorem dX0_longestFall_7 : decode cX0_longestFall 7 = .ok (.aload_n 0, 1) := by decide +kernel
theorem dX0_longestFall_8 : decode cX0_longestFall 8 = .ok (.getfield 18, 3) := by decide +kernel
theorem dX0_longestFall_11 : decode cX0_longestFall 11 = .ok (.if_icmp .ge 44, 3) := by decide +kernel
theorem dX0_longestFall_14 : decode cX0_longestFall 14 = .ok (.iload_n 3, 1) := by decide +kernel
theorem dX0_longestFall_15 : decode cX0_longestFall 15 = .ok (.ifCond .le 26, 3) := by decide +kernel
theorem dX0_longestFall_18 : decode cX0_longestFall 18 = .ok (.aload_n 0, 1) := by decide +kernel
theorem dX0_longestFall_19 : decode cX0_longestFall 19 = .ok (.getfield 15, 3) := by decide +kernel
theorem dX0_longestFall_22 : decode cX0_longestFall 22 = .ok (.iload_n 3, 1) := by decide +kernel
theorem dX0_longestFall_23 : decode cX0_longestFall 23 = .ok (.iaload, 1) := by decide +kernel
theorem dX0_longestFall_24 : decode cX0_longestFall 24 = .ok (.aload_n 0, 1) := by decide +kernel
theorem dX0_longestFall_25 : decode cX0_longestFall 25 = .ok (.getfield 15, 3) := by decide +kernel
theorem dX0_longestFall_28 : decode cX0_longestFall 28 = .ok (.iload_n 3, 1) := by decide +kernel
theorem dX0_longestFall_29 : decode cX0_longestFall 29 = .ok (.iconst 1, 1) := by decide +kernel
theorem dX0_longestFall_30 : decode cX0_longestFall 30 = .ok (.isub, 1) := by decide +kernel
theorem dX0_longestFall_31 : decode cX0_longestFall 31 = .ok (.iaload, 1) := by decide +kernel
theorem dX0_longestFall_32 : decode cX0_longestFall 32 = .ok (.if_icmp .ge 9, 3) := by decide +kernel
theorem dX0_longestFall_35 : decode cX0_longestFall 35 = .ok (.iload_n 2, 1) := by decide +kernel
theorem dX0_longestFall_36 : decode cX0_longestFall 36 = .ok (.iconst 1, 1) := by decide +kernel
theorem dX0_longestFall_37 : decode cX0_longestFall 37 = .ok (.iadd, 1) := by decide +kernel
theorem dX0_longestFall_38 : decode cX0_longestFall 38 = .ok (.goto 4, 3) := by decide +kernel
theorem dX0_longestFall_41 : decode cX0_longestFall 41 = .ok (.iconst 1, 1) := by decide +kernel
theorem dX0_longestFall_42 : decode cX0_longestFall 42 = .ok (.istore_n 2, 1) := by decide +kernel
theorem dX0_longestFall_43 : decode cX0_longestFall 43 = .ok (.iload_n 1, 1) := by decide +kernel
theorem dX0_longestFall_44 : decode cX0_longestFall 44 = .ok (.iload_n 2, 1) := by decide +kernel
theorem dX0_longestFall_45 : decode cX0_longestFall 45 = .ok (.invokestatic 31, 3) := by decide +kernel
theorem dX0_longestFall_48 : decode cX0_longestFall 48 = .ok (.istore_n 1, 1) := by decide +kernel
theorem dX0_longestFall_49 : decode cX0_longestFall 49 = .ok (.iinc 3 1, 3) := by decide +kernel
theorem dX0_longestFall_52 : decode cX0_longestFall 52 = .ok (.goto (-46), 3) := by decide +kernel
theorem dX0_longestFall_55 : decode cX0_longestFall 55 = .ok (.iload_n 1, 1) := by decide +kernel
theorem dX0_longestFall_56 : decode cX0_longestFall 56 = .ok (.ireturn, 1) := by decide +kernel
theorem dX0_look_0 : decode cX0_look 0 = .ok (.iload_n 1, 1) := by decide +kernel
theorem dX0_look_1 : decode cX0_look 1 = .ok (.ifCond .ne 8, 3) := by decide +kernel
theorem dX0_look_4 : decode cX0_look 4 = .ok (.aload_n 0, 1) := by decide +kernel
theorem dX0_look_5 : decode cX0_look 5 = .ok (.getfield 18, 3) := by decide +kernel
theorem dX0_look_8 : decode cX0_look 8 = .ok (.ireturn, 1) := by decide +kernel
theorem dX0_look_9 : decode cX0_look 9 = .ok (.iload_n 1, 1) := by decide +kernel
theorem dX0_look_10 : decode cX0_look 10 = .ok (.iconst 1, 1) := by decide +kernel
theorem dX0_look_11 : decode cX0_look 11 = .ok (.if_icmp .ne 8, 3) := by decide +kernel
theorem dX0_look_14 : decode cX0_look 14 = .ok (.aload_n 0, 1) := by decide +kernel
theorem dX0_look_15 : decode cX0_look 15 = .ok (.getfield 22, 3) := by decide +kernel
theorem dX0_look_18 : decode cX0_look 18 = .ok (.ireturn, 1) := by decide +kernel
theorem dX0_look_19 : decode cX0_look 19 = .ok (.iload_n 1, 1) := by decide +kernel
theorem dX0_look_20 : decode cX0_look 20 = .ok (.iconst 3, 1) := by decide +kernel
theorem dX0_look_21 : decode cX0_look 21 = .ok (.if_icmp .ne 8, 3) := by decide +kernel
theorem dX0_look_24 : decode cX0_look 24 = .ok (.aload_n 0, 1) := by decide +kernel
theorem dX0_look_25 : decode cX0_look 25 = .ok (.invokevirtual 37, 3) := by decide +kernel
theorem dX0_look_28 : decode cX0_look 28 = .ok (.ireturn, 1) := by decide +kernel
theorem dX0_look_29 : decode cX0_look 29 = .ok (.iload_n 1, 1) := by decide +kernel
theorem dX0_look_30 : decode cX0_look 30 = .ok (.bipush 10, 2) := by decide +kernel
theorem dX0_look_32 : decode cX0_look 32 = .ok (.if_icmp .lt 24, 3) := by decide +kernel
theorem dX0_look_35 : decode cX0_look 35 = .ok (.iload_n 1, 1) := by decide +kernel
theorem dX0_look_36 : decode cX0_look 36 = .ok (.bipush 10, 2) := by decide +kernel
theorem dX0_look_38 : decode cX0_look 38 = .ok (.aload_n 0, 1) := by decide +kernel
theorem dX0_look_39 : decode cX0_look 39 = .ok (.getfield 18, 3) := by decide +kernel
theorem dX0_look_42 : decode cX0_look 42 = .ok (.iadd, 1) := by decide +kernel
theorem dX0_look_43 : decode cX0_look 43 = .ok (.if_icmp .ge 13, 3) := by decide +kernel
theorem dX0_look_46 : decode cX0_look 46 = .ok (.aload_n 0, 1) := by decide +kernel
theorem dX0_look_47 : decode cX0_look 47 = .ok (.getfield 9, 3) := by decide +kernel
theorem dX0_look_50 : decode cX0_look 50 = .ok (.iload_n 1, 1) := by decide +kernel
theorem dX0_look_51 : decode cX0_look 51 = .ok (.bipush 10, 2) := by decide +kernel
theorem dX0_look_53 : decode cX0_look 53 = .ok (.isub, 1) := by decide +kernel
theorem dX0_look_54 : decode cX0_look 54 = .ok (.iaload, 1) := by decide +kernel
theorem dX0_look_55 : decode cX0_look 55 = .ok (.ireturn, 1) := by decide +kernel
theorem dX0_look_56 : decode cX0_look 56 = .ok (.iload_n 1, 1) := by decide +kernel
theorem dX0_look_57 : decode cX0_look 57 = .ok (.bipush 20, 2) := by decide +kernel
theorem dX0_look_59 : decode cX0_look 59 = .ok (.if_icmp .lt 26, 3) := by decide +kernel
theorem dX0_look_62 : decode cX0_look 62 = .ok (.iload_n 1, 1) := by decide +kernel
theorem dX0_look_63 : decode cX0_look 63 = .ok (.bipush 20, 2) := by decide +kernel
theorem dX0_look_65 : decode cX0_look 65 = .ok (.aload_n 0, 1) := by decide +kernel
theorem dX0_look_66 : decode cX0_look 66 = .ok (.getfield 18, 3) := by decide +kernel
theorem dX0_look_69 : decode cX0_look 69 = .ok (.iadd, 1) := by decide +kernel
theorem dX0_look_70 : decode cX0_look 70 = .ok (.if_icmp .ge 15, 3) := by decide +kernel
theorem dX0_look_73 : decode cX0_look 73 = .ok (.aload_n 0, 1) := by decide +kernel
theorem dX0_look_74 : decode cX0_look 74 = .ok (.getfield 15, 3) := by decide +kernel
theorem dX0_look_77 : decode cX0_look 77 = .ok (.iload_n 1, 1) := by decide +kernel
theorem dX0_look_78 : decode cX0_look 78 = .ok (.bipush 20, 2) := by decide +kernel
theorem dX0_look_80 : decode cX0_look 80 = .ok (.isub, 1) := by decide +kernel
theorem dX0_look_81 : decode cX0_look 81 = .ok (.iaload, 1) := by decide +kernel
theorem dX0_look_82 : decode cX0_look 82 = .ok (.goto 4, 3) := by decide +kernel
theorem dX0_look_85 : decode cX0_look 85 = .ok (.iconst (-1), 1) := by decide +kernel
theorem dX0_look_86 : decode cX0_look 86 = .ok (.ireturn, 1) := by decide +kernel
