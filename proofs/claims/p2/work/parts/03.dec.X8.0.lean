theorem dX8_lay_0 : decode cX8_lay 0 = .ok (.iconst 0, 1) := by decide +kernel
theorem dX8_lay_1 : decode cX8_lay 1 = .ok (.istore 4, 2) := by decide +kernel
theorem dX8_lay_3 : decode cX8_lay 3 = .ok (.iload 4, 2) := by decide +kernel
theorem dX8_lay_5 : decode cX8_lay 5 = .ok (.iload_n 1, 1) := by decide +kernel
theorem dX8_lay_6 : decode cX8_lay 6 = .ok (.if_icmp .gt 56, 3) := by decide +kernel
theorem dX8_lay_9 : decode cX8_lay 9 = .ok (.aload_n 0, 1) := by decide +kernel
theorem dX8_lay_10 : decode cX8_lay 10 = .ok (.getfield 15, 3) := by decide +kernel
theorem dX8_lay_13 : decode cX8_lay 13 = .ok (.iconst 0, 1) := by decide +kernel
theorem dX8_lay_14 : decode cX8_lay 14 = .ok (.aload_n 0, 1) := by decide +kernel
theorem dX8_lay_15 : decode cX8_lay 15 = .ok (.getfield 9, 3) := by decide +kernel
theorem dX8_lay_18 : decode cX8_lay 18 = .ok (.iconst 0, 1) := by decide +kernel
theorem dX8_lay_19 : decode cX8_lay 19 = .ok (.iload_n 2, 1) := by decide +kernel
theorem dX8_lay_20 : decode cX8_lay 20 = .ok (.iconst 1, 1) := by decide +kernel
theorem dX8_lay_21 : decode cX8_lay 21 = .ok (.iadd, 1) := by decide +kernel
theorem dX8_lay_22 : decode cX8_lay 22 = .ok (.invokestatic 18, 3) := by decide +kernel
theorem dX8_lay_25 : decode cX8_lay 25 = .ok (.iconst 0, 1) := by decide +kernel
theorem dX8_lay_26 : decode cX8_lay 26 = .ok (.istore 5, 2) := by decide +kernel
theorem dX8_lay_28 : decode cX8_lay 28 = .ok (.iload 5, 2) := by decide +kernel
theorem dX8_lay_30 : decode cX8_lay 30 = .ok (.iload_n 2, 1) := by decide +kernel
theorem dX8_lay_31 : decode cX8_lay 31 = .ok (.if_icmp .gt 25, 3) := by decide +kernel
theorem dX8_lay_34 : decode cX8_lay 34 = .ok (.aload_n 0, 1) := by decide +kernel
theorem dX8_lay_35 : decode cX8_lay 35 = .ok (.getfield 15, 3) := by decide +kernel
theorem dX8_lay_38 : decode cX8_lay 38 = .ok (.iload 5, 2) := by decide +kernel
theorem dX8_lay_40 : decode cX8_lay 40 = .ok (.aload_n 0, 1) := by decide +kernel
theorem dX8_lay_41 : decode cX8_lay 41 = .ok (.iload 4, 2) := by decide +kernel
theorem dX8_lay_43 : decode cX8_lay 43 = .ok (.iload 5, 2) := by decide +kernel
theorem dX8_lay_45 : decode cX8_lay 45 = .ok (.iload_n 3, 1) := by decide +kernel
theorem dX8_lay_46 : decode cX8_lay 46 = .ok (.invokevirtual 24, 3) := by decide +kernel
theorem dX8_lay_49 : decode cX8_lay 49 = .ok (.iastore, 1) := by decide +kernel
theorem dX8_lay_50 : decode cX8_lay 50 = .ok (.iinc 5 1, 3) := by decide +kernel
theorem dX8_lay_53 : decode cX8_lay 53 = .ok (.goto (-25), 3) := by decide +kernel
theorem dX8_lay_56 : decode cX8_lay 56 = .ok (.iinc 4 1, 3) := by decide +kernel
theorem dX8_lay_59 : decode cX8_lay 59 = .ok (.goto (-56), 3) := by decide +kernel
theorem dX8_lay_62 : decode cX8_lay 62 = .ok (.return_, 1) := by decide +kernel
theorem dX8_firstTake_0 : decode cX8_firstTake 0 = .ok (.iload_n 2, 1) := by decide +kernel
theorem dX8_firstTake_1 : decode cX8_firstTake 1 = .ok (.iconst 2, 1) := by decide +kernel
theorem dX8_firstTake_2 : decode cX8_firstTake 2 = .ok (.if_icmp .lt 17, 3) := by decide +kernel
theorem dX8_firstTake_5 : decode cX8_firstTake 5 = .ok (.aload_n 0, 1) := by decide +kernel
theorem dX8_firstTake_6 : decode cX8_firstTake 6 = .ok (.getfield 15, 3) := by decide +kernel
theorem dX8_firstTake_9 : decode cX8_firstTake 9 = .ok (.iload_n 2, 1) := by decide +kernel
theorem dX8_firstTake_10 : decode cX8_firstTake 10 = .ok (.iconst 2, 1) := by decide +kernel
theorem dX8_firstTake_11 : decode cX8_firstTake 11 = .ok (.isub, 1) := by decide +kernel
theorem dX8_firstTake_12 : decode cX8_firstTake 12 = .ok (.iaload, 1) := by decide +kernel
theorem dX8_firstTake_13 : decode cX8_firstTake 13 = .ok (.iconst (-1), 1) := by decide +kernel
theorem dX8_firstTake_14 : decode cX8_firstTake 14 = .ok (.if_icmp .ne 5, 3) := by decide +kernel
theorem dX8_firstTake_17 : decode cX8_firstTake 17 = .ok (.iconst 2, 1) := by decide +kernel
theorem dX8_firstTake_18 : decode cX8_firstTake 18 = .ok (.ireturn, 1) := by decide +kernel
theorem dX8_firstTake_19 : decode cX8_firstTake 19 = .ok (.iconst 1, 1) := by decide +kernel
theorem dX8_firstTake_20 : decode cX8_firstTake 20 = .ok (.istore 4, 2) := by decide +kernel
theorem dX8_firstTake_22 : decode cX8_firstTake 22 = .ok (.iload_n 1, 1) := by decide +kernel
theorem dX8_firstTake_23 : decode cX8_firstTake 23 = .ok (.ifCond .le 40, 3) := by decide +kernel
theorem dX8_firstTake_26 : decode cX8_firstTake 26 = .ok (.iload 4, 2) := by decide +kernel
theorem dX8_firstTake_28 : decode cX8_firstTake 28 = .ok (.iload_n 3, 1) := by decide +kernel
theorem dX8_firstTake_29 : decode cX8_firstTake 29 = .ok (.if_icmp .gt 34, 3) := by decide +kernel
theorem dX8_firstTake_32 : decode cX8_firstTake 32 = .ok (.iload 4, 2) := by decide +kernel
theorem dX8_firstTake_34 : decode cX8_firstTake 34 = .ok (.iload_n 2, 1) := by decide +kernel
theorem dX8_firstTake_35 : decode cX8_firstTake 35 = .ok (.if_icmp .gt 28, 3) := by decide +kernel
theorem dX8_firstTake_38 : decode cX8_firstTake 38 = .ok (.aload_n 0, 1) := by decide +kernel
theorem dX8_firstTake_39 : decode cX8_firstTake 39 = .ok (.getfield 9, 3) := by decide +kernel
theorem dX8_firstTake_42 : decode cX8_firstTake 42 = .ok (.iload_n 2, 1) := by decide +kernel
theorem dX8_firstTake_43 : decode cX8_firstTake 43 = .ok (.iload 4, 2) := by decide +kernel
theorem dX8_firstTake_45 : decode cX8_firstTake 45 = .ok (.isub, 1) := by decide +kernel
theorem dX8_firstTake_46 : decode cX8_firstTake 46 = .ok (.iaload, 1) := by decide +kernel
theorem dX8_firstTake_47 : decode cX8_firstTake 47 = .ok (.iconst (-1), 1) := by decide +kernel
theorem dX8_firstTake_48 : decode cX8_firstTake 48 = .ok (.if_icmp .ne 9, 3) := by decide +kernel
theorem dX8_firstTake_51 : decode cX8_firstTake 51 = .ok (.bipush 10, 2) := by decide +kernel
theorem dX8_firstTake_53 : decode cX8_firstTake 53 = .ok (.iload 4, 2) := by decide +kernel
theorem dX8_firstTake_55 : decode cX8_firstTake 55 = .ok (.iadd, 1) := by decide +kernel
theorem dX8_firstTake_56 : decode cX8_firstTake 56 = .ok (.ireturn, 1) := by decide +kernel
theorem dX8_firstTake_57 : decode cX8_firstTake 57 = .ok (.iinc 4 1, 3) := by decide +kernel
theorem dX8_firstTake_60 : decode cX8_firstTake 60 = .ok (.goto (-38), 3) := by decide +kernel
theorem dX8_firstTake_63 : decode cX8_firstTake 63 = .ok (.iconst (-1), 1) := by decide +kernel
theorem dX8_firstTake_64 : decode cX8_firstTake 64 = .ok (.ireturn, 1) := by decide +kernel
