theorem dX1_copyFrom_0 : decode cX1_copyFrom 0 = .ok (.aload_n 0, 1) := by decide +kernel
theorem dX1_copyFrom_1 : decode cX1_copyFrom 1 = .ok (.aload_n 1, 1) := by decide +kernel
theorem dX1_copyFrom_2 : decode cX1_copyFrom 2 = .ok (.getfield 21, 3) := by decide +kernel
theorem dX1_copyFrom_5 : decode cX1_copyFrom 5 = .ok (.putfield 21, 3) := by decide +kernel
theorem dX1_copyFrom_8 : decode cX1_copyFrom 8 = .ok (.aload_n 1, 1) := by decide +kernel
theorem dX1_copyFrom_9 : decode cX1_copyFrom 9 = .ok (.getfield 9, 3) := by decide +kernel
theorem dX1_copyFrom_12 : decode cX1_copyFrom 12 = .ok (.iconst 0, 1) := by decide +kernel
theorem dX1_copyFrom_13 : decode cX1_copyFrom 13 = .ok (.aload_n 0, 1) := by decide +kernel
theorem dX1_copyFrom_14 : decode cX1_copyFrom 14 = .ok (.getfield 9, 3) := by decide +kernel
theorem dX1_copyFrom_17 : decode cX1_copyFrom 17 = .ok (.iconst 0, 1) := by decide +kernel
theorem dX1_copyFrom_18 : decode cX1_copyFrom 18 = .ok (.aload_n 0, 1) := by decide +kernel
theorem dX1_copyFrom_19 : decode cX1_copyFrom 19 = .ok (.getfield 21, 3) := by decide +kernel
theorem dX1_copyFrom_22 : decode cX1_copyFrom 22 = .ok (.invokestatic 25, 3) := by decide +kernel
theorem dX1_copyFrom_25 : decode cX1_copyFrom 25 = .ok (.aload_n 1, 1) := by decide +kernel
theorem dX1_copyFrom_26 : decode cX1_copyFrom 26 = .ok (.getfield 15, 3) := by decide +kernel
theorem dX1_copyFrom_29 : decode cX1_copyFrom 29 = .ok (.iconst 0, 1) := by decide +kernel
theorem dX1_copyFrom_30 : decode cX1_copyFrom 30 = .ok (.aload_n 0, 1) := by decide +kernel
theorem dX1_copyFrom_31 : decode cX1_copyFrom 31 = .ok (.getfield 15, 3) := by decide +kernel
theorem dX1_copyFrom_34 : decode cX1_copyFrom 34 = .ok (.iconst 0, 1) := by decide +kernel
theorem dX1_copyFrom_35 : decode cX1_copyFrom 35 = .ok (.aload_n 0, 1) := by decide +kernel
theorem dX1_copyFrom_36 : decode cX1_copyFrom 36 = .ok (.getfield 21, 3) := by decide +kernel
theorem dX1_copyFrom_39 : decode cX1_copyFrom 39 = .ok (.invokestatic 25, 3) := by decide +kernel
theorem dX1_copyFrom_42 : decode cX1_copyFrom 42 = .ok (.aload_n 1, 1) := by decide +kernel
theorem dX1_copyFrom_43 : decode cX1_copyFrom 43 = .ok (.getfield 18, 3) := by decide +kernel
theorem dX1_copyFrom_46 : decode cX1_copyFrom 46 = .ok (.iconst 0, 1) := by decide +kernel
theorem dX1_copyFrom_47 : decode cX1_copyFrom 47 = .ok (.aload_n 0, 1) := by decide +kernel
theorem dX1_copyFrom_48 : decode cX1_copyFrom 48 = .ok (.getfield 18, 3) := by decide +kernel
theorem dX1_copyFrom_51 : decode cX1_copyFrom 51 = .ok (.iconst 0, 1) := by decide +kernel
theorem dX1_copyFrom_52 : decode cX1_copyFrom 52 = .ok (.aload_n 0, 1) := by decide +kernel
theorem dX1_copyFrom_53 : decode cX1_copyFrom 53 = .ok (.getfield 21, 3) := by decide +kernel
theorem dX1_copyFrom_56 : decode cX1_copyFrom 56 = .ok (.invokestatic 25, 3) := by decide +kernel
theorem dX1_copyFrom_59 : decode cX1_copyFrom 59 = .ok (.return_, 1) := by decide +kernel
theorem dX1_look_0 : decode cX1_look 0 = .ok (.iload_n 2, 1) := by decide +kernel
theorem dX1_look_1 : decode cX1_look 1 = .ok (.tableswitch 48 0 2 #[27, 34, 41], 27) := by decide +kernel
theorem dX1_look_28 : decode cX1_look 28 = .ok (.aload_n 0, 1) := by decide +kernel
theorem dX1_look_29 : decode cX1_look 29 = .ok (.getfield 9, 3) := by decide +kernel
theorem dX1_look_32 : decode cX1_look 32 = .ok (.iload_n 1, 1) := by decide +kernel
theorem dX1_look_33 : decode cX1_look 33 = .ok (.iaload, 1) := by decide +kernel
theorem dX1_look_34 : decode cX1_look 34 = .ok (.ireturn, 1) := by decide +kernel
theorem dX1_look_35 : decode cX1_look 35 = .ok (.aload_n 0, 1) := by decide +kernel
theorem dX1_look_36 : decode cX1_look 36 = .ok (.getfield 15, 3) := by decide +kernel
theorem dX1_look_39 : decode cX1_look 39 = .ok (.iload_n 1, 1) := by decide +kernel
theorem dX1_look_40 : decode cX1_look 40 = .ok (.iaload, 1) := by decide +kernel
theorem dX1_look_41 : decode cX1_look 41 = .ok (.ireturn, 1) := by decide +kernel
theorem dX1_look_42 : decode cX1_look 42 = .ok (.aload_n 0, 1) := by decide +kernel
theorem dX1_look_43 : decode cX1_look 43 = .ok (.getfield 18, 3) := by decide +kernel
theorem dX1_look_46 : decode cX1_look 46 = .ok (.iload_n 1, 1) := by decide +kernel
theorem dX1_look_47 : decode cX1_look 47 = .ok (.iaload, 1) := by decide +kernel
theorem dX1_look_48 : decode cX1_look 48 = .ok (.ireturn, 1) := by decide +kernel
theorem dX1_look_49 : decode cX1_look 49 = .ok (.bipush (-2), 2) := by decide +kernel
theorem dX1_look_51 : decode cX1_look 51 = .ok (.ireturn, 1) := by decide +kernel
