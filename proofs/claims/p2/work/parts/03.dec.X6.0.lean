theorem dX6_copyFrom_0 : decode cX6_copyFrom 0 = .ok (.aload_n 0, 1) := by decide +kernel
theorem dX6_copyFrom_1 : decode cX6_copyFrom 1 = .ok (.aload_n 1, 1) := by decide +kernel
theorem dX6_copyFrom_2 : decode cX6_copyFrom 2 = .ok (.getfield 21, 3) := by decide +kernel
theorem dX6_copyFrom_5 : decode cX6_copyFrom 5 = .ok (.putfield 21, 3) := by decide +kernel
theorem dX6_copyFrom_8 : decode cX6_copyFrom 8 = .ok (.aload_n 1, 1) := by decide +kernel
theorem dX6_copyFrom_9 : decode cX6_copyFrom 9 = .ok (.getfield 9, 3) := by decide +kernel
theorem dX6_copyFrom_12 : decode cX6_copyFrom 12 = .ok (.iconst 0, 1) := by decide +kernel
theorem dX6_copyFrom_13 : decode cX6_copyFrom 13 = .ok (.aload_n 0, 1) := by decide +kernel
theorem dX6_copyFrom_14 : decode cX6_copyFrom 14 = .ok (.getfield 9, 3) := by decide +kernel
theorem dX6_copyFrom_17 : decode cX6_copyFrom 17 = .ok (.iconst 0, 1) := by decide +kernel
theorem dX6_copyFrom_18 : decode cX6_copyFrom 18 = .ok (.aload_n 0, 1) := by decide +kernel
theorem dX6_copyFrom_19 : decode cX6_copyFrom 19 = .ok (.getfield 21, 3) := by decide +kernel
theorem dX6_copyFrom_22 : decode cX6_copyFrom 22 = .ok (.invokestatic 25, 3) := by decide +kernel
theorem dX6_copyFrom_25 : decode cX6_copyFrom 25 = .ok (.aload_n 1, 1) := by decide +kernel
theorem dX6_copyFrom_26 : decode cX6_copyFrom 26 = .ok (.getfield 15, 3) := by decide +kernel
theorem dX6_copyFrom_29 : decode cX6_copyFrom 29 = .ok (.iconst 0, 1) := by decide +kernel
theorem dX6_copyFrom_30 : decode cX6_copyFrom 30 = .ok (.aload_n 0, 1) := by decide +kernel
theorem dX6_copyFrom_31 : decode cX6_copyFrom 31 = .ok (.getfield 15, 3) := by decide +kernel
theorem dX6_copyFrom_34 : decode cX6_copyFrom 34 = .ok (.iconst 0, 1) := by decide +kernel
theorem dX6_copyFrom_35 : decode cX6_copyFrom 35 = .ok (.aload_n 0, 1) := by decide +kernel
theorem dX6_copyFrom_36 : decode cX6_copyFrom 36 = .ok (.getfield 21, 3) := by decide +kernel
theorem dX6_copyFrom_39 : decode cX6_copyFrom 39 = .ok (.invokestatic 25, 3) := by decide +kernel
theorem dX6_copyFrom_42 : decode cX6_copyFrom 42 = .ok (.aload_n 1, 1) := by decide +kernel
theorem dX6_copyFrom_43 : decode cX6_copyFrom 43 = .ok (.getfield 18, 3) := by decide +kernel
theorem dX6_copyFrom_46 : decode cX6_copyFrom 46 = .ok (.iconst 0, 1) := by decide +kernel
theorem dX6_copyFrom_47 : decode cX6_copyFrom 47 = .ok (.aload_n 0, 1) := by decide +kernel
theorem dX6_copyFrom_48 : decode cX6_copyFrom 48 = .ok (.getfield 18, 3) := by decide +kernel
theorem dX6_copyFrom_51 : decode cX6_copyFrom 51 = .ok (.iconst 0, 1) := by decide +kernel
theorem dX6_copyFrom_52 : decode cX6_copyFrom 52 = .ok (.aload_n 0, 1) := by decide +kernel
theorem dX6_copyFrom_53 : decode cX6_copyFrom 53 = .ok (.getfield 21, 3) := by decide +kernel
theorem dX6_copyFrom_56 : decode cX6_copyFrom 56 = .ok (.invokestatic 25, 3) := by decide +kernel
theorem dX6_copyFrom_59 : decode cX6_copyFrom 59 = .ok (.return_, 1) := by decide +kernel
theorem dX6_staysWithin_0 : decode cX6_staysWithin 0 = .ok (.iconst 0, 1) := by decide +kernel
theorem dX6_staysWithin_1 : decode cX6_staysWithin 1 = .ok (.istore_n 2, 1) := by decide +kernel
theorem dX6_staysWithin_2 : decode cX6_staysWithin 2 = .ok (.iload_n 2, 1) := by decide +kernel
theorem dX6_staysWithin_3 : decode cX6_staysWithin 3 = .ok (.aload_n 0, 1) := by decide +kernel
theorem dX6_staysWithin_4 : decode cX6_staysWithin 4 = .ok (.getfield 21, 3) := by decide +kernel
theorem dX6_staysWithin_7 : decode cX6_staysWithin 7 = .ok (.if_icmp .ge 21, 3) := by decide +kernel
theorem dX6_staysWithin_10 : decode cX6_staysWithin 10 = .ok (.aload_n 0, 1) := by decide +kernel
theorem dX6_staysWithin_11 : decode cX6_staysWithin 11 = .ok (.getfield 15, 3) := by decide +kernel
theorem dX6_staysWithin_14 : decode cX6_staysWithin 14 = .ok (.iload_n 2, 1) := by decide +kernel
theorem dX6_staysWithin_15 : decode cX6_staysWithin 15 = .ok (.iaload, 1) := by decide +kernel
theorem dX6_staysWithin_16 : decode cX6_staysWithin 16 = .ok (.iload_n 1, 1) := by decide +kernel
theorem dX6_staysWithin_17 : decode cX6_staysWithin 17 = .ok (.if_icmp .lt 5, 3) := by decide +kernel
theorem dX6_staysWithin_20 : decode cX6_staysWithin 20 = .ok (.iconst 0, 1) := by decide +kernel
theorem dX6_staysWithin_21 : decode cX6_staysWithin 21 = .ok (.ireturn, 1) := by decide +kernel
theorem dX6_staysWithin_22 : decode cX6_staysWithin 22 = .ok (.iinc 2 1, 3) := by decide +kernel
theorem dX6_staysWithin_25 : decode cX6_staysWithin 25 = .ok (.goto (-23), 3) := by decide +kernel
theorem dX6_staysWithin_28 : decode cX6_staysWithin 28 = .ok (.iconst 1, 1) := by decide +kernel
theorem dX6_staysWithin_29 : decode cX6_staysWithin 29 = .ok (.ireturn, 1) := by decide +kernel
theorem dX6_look_0 : decode cX6_look 0 = .ok (.iload_n 2, 1) := by decide +kernel
theorem dX6_look_1 : decode cX6_look 1 = .ok (.tableswitch 48 0 2 #[27, 34, 41], 27) := by decide +kernel
theorem dX6_look_28 : decode cX6_look 28 = .ok (.aload_n 0, 1) := by decide +kernel
theorem dX6_look_29 : decode cX6_look 29 = .ok (.getfield 9, 3) := by decide +kernel
theorem dX6_look_32 : decode cX6_look 32 = .ok (.iload_n 1, 1) := by decide +kernel
theorem dX6_look_33 : decode cX6_look 33 = .ok (.iaload, 1) := by decide +kernel
theorem dX6_look_34 : decode cX6_look 34 = .ok (.ireturn, 1) := by decide +kernel
theorem dX6_look_35 : decode cX6_look 35 = .ok (.aload_n 0, 1) := by decide +kernel
theorem dX6_look_36 : decode cX6_look 36 = .ok (.getfield 15, 3) := by decide +kernel
theorem dX6_look_39 : decode cX6_look 39 = .ok (.iload_n 1, 1) := by decide +kernel
theorem dX6_look_40 : decode cX6_look 40 = .ok (.iaload, 1) := by decide +kernel
theorem dX6_look_41 : decode cX6_look 41 = .ok (.ireturn, 1) := by decide +kernel
theorem dX6_look_42 : decode cX6_look 42 = .ok (.aload_n 0, 1) := by decide +kernel
theorem dX6_look_43 : decode cX6_look 43 = .ok (.getfield 18, 3) := by decide +kernel
theorem dX6_look_46 : decode cX6_look 46 = .ok (.iload_n 1, 1) := by decide +kernel
theorem dX6_look_47 : decode cX6_look 47 = .ok (.iaload, 1) := by decide +kernel
theorem dX6_look_48 : decode cX6_look 48 = .ok (.ireturn, 1) := by decide +kernel
theorem dX6_look_49 : decode cX6_look 49 = .ok (.bipush (-2), 2) := by decide +kernel
theorem dX6_look_51 : decode cX6_look 51 = .ok (.ireturn, 1) := by decide +kernel
