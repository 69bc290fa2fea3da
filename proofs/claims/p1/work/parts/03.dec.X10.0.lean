theorem dX10_init_0 : decode cX10_init 0 = .ok (.aload_n 0, 1) := by decide +kernel
theorem dX10_init_1 : decode cX10_init 1 = .ok (.invokespecial 1, 3) := by decide +kernel
theorem dX10_init_4 : decode cX10_init 4 = .ok (.aload_n 0, 1) := by decide +kernel
theorem dX10_init_5 : decode cX10_init 5 = .ok (.new 7, 3) := by decide +kernel
theorem dX10_init_8 : decode cX10_init 8 = .ok (.dup, 1) := by decide +kernel
theorem dX10_init_9 : decode cX10_init 9 = .ok (.invokespecial 9, 3) := by decide +kernel
theorem dX10_init_12 : decode cX10_init 12 = .ok (.putfield 10, 3) := by decide +kernel
theorem dX10_init_15 : decode cX10_init 15 = .ok (.aload_n 0, 1) := by decide +kernel
theorem dX10_init_16 : decode cX10_init 16 = .ok (.iconst 3, 1) := by decide +kernel
theorem dX10_init_17 : decode cX10_init 17 = .ok (.anewarray 7, 3) := by decide +kernel
theorem dX10_init_20 : decode cX10_init 20 = .ok (.putfield 16, 3) := by decide +kernel
theorem dX10_init_23 : decode cX10_init 23 = .ok (.aload_n 0, 1) := by decide +kernel
theorem dX10_init_24 : decode cX10_init 24 = .ok (.new 20, 3) := by decide +kernel
theorem dX10_init_27 : decode cX10_init 27 = .ok (.dup, 1) := by decide +kernel
theorem dX10_init_28 : decode cX10_init 28 = .ok (.invokespecial 22, 3) := by decide +kernel
theorem dX10_init_31 : decode cX10_init 31 = .ok (.putfield 23, 3) := by decide +kernel
theorem dX10_init_34 : decode cX10_init 34 = .ok (.aload_n 0, 1) := by decide +kernel
theorem dX10_init_35 : decode cX10_init 35 = .ok (.new 27, 3) := by decide +kernel
theorem dX10_init_38 : decode cX10_init 38 = .ok (.dup, 1) := by decide +kernel
theorem dX10_init_39 : decode cX10_init 39 = .ok (.invokespecial 29, 3) := by decide +kernel
theorem dX10_init_42 : decode cX10_init 42 = .ok (.putfield 30, 3) := by decide +kernel
theorem dX10_init_45 : decode cX10_init 45 = .ok (.aload_n 0, 1) := by decide +kernel
theorem dX10_init_46 : decode cX10_init 46 = .ok (.new 34, 3) := by decide +kernel
theorem dX10_init_49 : decode cX10_init 49 = .ok (.dup, 1) := by decide +kernel
theorem dX10_init_50 : decode cX10_init 50 = .ok (.invokespecial 36, 3) := by decide +kernel
theorem dX10_init_53 : decode cX10_init 53 = .ok (.putfield 37, 3) := by decide +kernel
theorem dX10_init_56 : decode cX10_init 56 = .ok (.aload_n 0, 1) := by decide +kernel
theorem dX10_init_57 : decode cX10_init 57 = .ok (.new 41, 3) := by decide +kernel
theorem dX10_init_60 : decode cX10_init 60 = .ok (.dup, 1) := by decide +kernel
theorem dX10_init_61 : decode cX10_init 61 = .ok (.invokespecial 43, 3) := by decide +kernel
theorem dX10_init_64 : decode cX10_init 64 = .ok (.putfield 44, 3) := by decide +kernel
theorem dX10_init_67 : decode cX10_init 67 = .ok (.aload_n 0, 1) := by decide +kernel
theorem dX10_init_68 : decode cX10_init 68 = .ok (.new 48, 3) := by decide +kernel
theorem dX10_init_71 : decode cX10_init 71 = .ok (.dup, 1) := by decide +kernel
theorem dX10_init_72 : decode cX10_init 72 = .ok (.invokespecial 50, 3) := by decide +kernel
theorem dX10_init_75 : decode cX10_init 75 = .ok (.putfield 51, 3) := by decide +kernel
theorem dX10_init_78 : decode cX10_init 78 = .ok (.return_, 1) := by decide +kernel
theorem dX10_feed_0 : decode cX10_feed 0 = .ok (.aload_n 0, 1) := by decide +kernel
theorem dX10_feed_1 : decode cX10_feed 1 = .ok (.getfield 10, 3) := by decide +kernel
theorem dX10_feed_4 : decode cX10_feed 4 = .ok (.getfield 55, 3) := by decide +kernel
theorem dX10_feed_7 : decode cX10_feed 7 = .ok (.bipush 20, 2) := by decide +kernel
theorem dX10_feed_9 : decode cX10_feed 9 = .ok (.iadd, 1) := by decide +kernel
theorem dX10_feed_10 : decode cX10_feed 10 = .ok (.sipush 600, 3) := by decide +kernel
theorem dX10_feed_13 : decode cX10_feed 13 = .ok (.if_icmp .le 5, 3) := by decide +kernel
theorem dX10_feed_16 : decode cX10_feed 16 = .ok (.iconst (-1), 1) := by decide +kernel
theorem dX10_feed_17 : decode cX10_feed 17 = .ok (.ireturn, 1) := by decide +kernel
theorem dX10_feed_18 : decode cX10_feed 18 = .ok (.aload_n 0, 1) := by decide +kernel
theorem dX10_feed_19 : decode cX10_feed 19 = .ok (.getfield 10, 3) := by decide +kernel
theorem dX10_feed_22 : decode cX10_feed 22 = .ok (.iload_n 1, 1) := by decide +kernel
theorem dX10_feed_23 : decode cX10_feed 23 = .ok (.invokevirtual 59, 3) := by decide +kernel
theorem dX10_feed_26 : decode cX10_feed 26 = .ok (.aload_n 0, 1) := by decide +kernel
theorem dX10_feed_27 : decode cX10_feed 27 = .ok (.getfield 10, 3) := by decide +kernel
theorem dX10_feed_30 : decode cX10_feed 30 = .ok (.iload_n 2, 1) := by decide +kernel
theorem dX10_feed_31 : decode cX10_feed 31 = .ok (.invokevirtual 59, 3) := by decide +kernel
theorem dX10_feed_34 : decode cX10_feed 34 = .ok (.aload_n 0, 1) := by decide +kernel
theorem dX10_feed_35 : decode cX10_feed 35 = .ok (.getfield 10, 3) := by decide +kernel
theorem dX10_feed_38 : decode cX10_feed 38 = .ok (.iload_n 3, 1) := by decide +kernel
theorem dX10_feed_39 : decode cX10_feed 39 = .ok (.invokevirtual 59, 3) := by decide +kernel
theorem dX10_feed_42 : decode cX10_feed 42 = .ok (.aload_n 0, 1) := by decide +kernel
theorem dX10_feed_43 : decode cX10_feed 43 = .ok (.getfield 10, 3) := by decide +kernel
theorem dX10_feed_46 : decode cX10_feed 46 = .ok (.iload 4, 2) := by decide +kernel
theorem dX10_feed_48 : decode cX10_feed 48 = .ok (.invokevirtual 59, 3) := by decide +kernel
theorem dX10_feed_51 : decode cX10_feed 51 = .ok (.aload_n 0, 1) := by decide +kernel
theorem dX10_feed_52 : decode cX10_feed 52 = .ok (.getfield 10, 3) := by decide +kernel
theorem dX10_feed_55 : decode cX10_feed 55 = .ok (.iload 5, 2) := by decide +kernel
theorem dX10_feed_57 : decode cX10_feed 57 = .ok (.invokevirtual 59, 3) := by decide +kernel
theorem dX10_feed_60 : decode cX10_feed 60 = .ok (.aload_n 0, 1) := by decide +kernel
theorem dX10_feed_61 : decode cX10_feed 61 = .ok (.getfield 10, 3) := by decide +kernel
theorem dX10_feed_64 : decode cX10_feed 64 = .ok (.getfield 55, 3) := by decide +kernel
theorem dX10_feed_67 : decode cX10_feed 67 = .ok (.ireturn, 1) := by decide +kernel
theorem dX10_end_0 : decode cX10_end 0 = .ok (.iload_n 1, 1) := by decide +kernel
theorem dX10_end_1 : decode cX10_end 1 = .ok (.ifCond .lt 14, 3) := by decide +kernel
theorem dX10_end_4 : decode cX10_end 4 = .ok (.iload_n 1, 1) := by decide +kernel
theorem dX10_end_5 : decode cX10_end 5 = .ok (.aload_n 0, 1) := by decide +kernel
theorem dX10_end_6 : decode cX10_end 6 = .ok (.getfield 10, 3) := by decide +kernel
theorem dX10_end_9 : decode cX10_end 9 = .ok (.getfield 55, 3) := by decide +kernel
theorem dX10_end_12 : decode cX10_end 12 = .ok (.if_icmp .le 5, 3) := by decide +kernel
theorem dX10_end_15 : decode cX10_end 15 = .ok (.iconst (-1), 1) := by decide +kernel
theorem dX10_end_16 : decode cX10_end 16 = .ok (.ireturn, 1) := by decide +kernel
theorem dX10_end_17 : decode cX10_end 17 = .ok (.aload_n 0, 1) := by decide +kernel
theorem dX10_end_18 : decode cX10_end 18 = .ok (.getfield 10, 3) := by decide +kernel
theorem dX10_end_21 : decode cX10_end 21 = .ok (.iload_n 1, 1) := by decide +kernel
theorem dX10_end_22 : decode cX10_end 22 = .ok (.putfield 55, 3) := by decide +kernel
theorem dX10_end_25 : decode cX10_end 25 = .ok (.iload_n 1, 1) := by decide +kernel
theorem dX10_end_26 : decode cX10_end 26 = .ok (.ireturn, 1) := by decide +kernel
theorem dX10_text_0 : decode cX10_text 0 = .ok (.aload_n 0, 1) := by decide +kernel
theorem dX10_text_1 : decode cX10_text 1 = .ok (.getfield 10, 3) := by decide +kernel
theorem dX10_text_4 : decode cX10_text 4 = .ok (.getfield 55, 3) := by decide +kernel
theorem dX10_text_7 : decode cX10_text 7 = .ok (.istore_n 3, 1) := by decide +kernel
theorem dX10_text_8 : decode cX10_text 8 = .ok (.aload_n 0, 1) := by decide +kernel
theorem dX10_text_9 : decode cX10_text 9 = .ok (.getfield 10, 3) := by decide +kernel
theorem dX10_text_12 : decode cX10_text 12 = .ok (.iconst 0, 1) := by decide +kernel
theorem dX10_text_13 : decode cX10_text 13 = .ok (.putfield 55, 3) := by decide +kernel
theorem dX10_text_16 : decode cX10_text 16 = .ok (.aload_n 0, 1) := by decide +kernel
theorem dX10_text_17 : decode cX10_text 17 = .ok (.getfield 10, 3) := by decide +kernel
theorem dX10_text_20 : decode cX10_text 20 = .ok (.iconst 0, 1) := by decide +kernel
theorem dX10_text_21 : decode cX10_text 21 = .ok (.putfield 63, 3) := by decide +kernel
theorem dX10_text_24 : decode cX10_text 24 = .ok (.aload_n 0, 1) := by decide +kernel
theorem dX10_text_25 : decode cX10_text 25 = .ok (.getfield 10, 3) := by decide +kernel
theorem dX10_text_28 : decode cX10_text 28 = .ok (.iconst (-1), 1) := by decide +kernel
theorem dX10_text_29 : decode cX10_text 29 = .ok (.putfield 66, 3) := by decide +kernel
theorem dX10_text_32 : decode cX10_text 32 = .ok (.aload_n 0, 1) := by decide +kernel
theorem dX10_text_33 : decode cX10_text 33 = .ok (.iload_n 1, 1) := by decide +kernel
theorem dX10_text_34 : decode cX10_text 34 = .ok (.iload_n 2, 1) := by decide +kernel
theorem dX10_text_35 : decode cX10_text 35 = .ok (.invokevirtual 69, 3) := by decide +kernel
theorem dX10_text_38 : decode cX10_text 38 = .ok (.istore 4, 2) := by decide +kernel
theorem dX10_text_40 : decode cX10_text 40 = .ok (.iload 4, 2) := by decide +kernel
theorem dX10_text_42 : decode cX10_text 42 = .ok (.bipush (-2), 2) := by decide +kernel
theorem dX10_text_44 : decode cX10_text 44 = .ok (.if_icmp .ne 6, 3) := by decide +kernel
theorem dX10_text_47 : decode cX10_text 47 = .ok (.bipush (-2), 2) := by decide +kernel
theorem dX10_text_49 : decode cX10_text 49 = .ok (.ireturn, 1) := by decide +kernel
theorem dX10_text_50 : decode cX10_text 50 = .ok (.aload_n 0, 1) := by decide +kernel
theorem dX10_text_51 : decode cX10_text 51 = .ok (.getfield 23, 3) := by decide +kernel
theorem dX10_text_54 : decode cX10_text 54 = .ok (.aload_n 0, 1) := by decide +kernel
theorem dX10_text_55 : decode cX10_text 55 = .ok (.getfield 10, 3) := by decide +kernel
theorem dX10_text_58 : decode cX10_text 58 = .ok (.getfield 73, 3) := by decide +kernel
theorem dX10_text_61 : decode cX10_text 61 = .ok (.iload_n 3, 1) := by decide +kernel
theorem dX10_text_62 : decode cX10_text 62 = .ok (.iload_n 1, 1) := by decide +kernel
theorem dX10_text_63 : decode cX10_text 63 = .ok (.invokevirtual 77, 3) := by decide +kernel
theorem dX10_text_66 : decode cX10_text 66 = .ok (.aload_n 0, 1) := by decide +kernel
theorem dX10_text_67 : decode cX10_text 67 = .ok (.getfield 10, 3) := by decide +kernel
theorem dX10_text_70 : decode cX10_text 70 = .ok (.aload_n 0, 1) := by decide +kernel
theorem dX10_text_71 : decode cX10_text 71 = .ok (.getfield 23, 3) := by decide +kernel
theorem dX10_text_74 : decode cX10_text 74 = .ok (.getfield 81, 3) := by decide +kernel
theorem dX10_text_77 : decode cX10_text 77 = .ok (.putfield 63, 3) := by decide +kernel
theorem dX10_text_80 : decode cX10_text 80 = .ok (.aload_n 0, 1) := by decide +kernel
theorem dX10_text_81 : decode cX10_text 81 = .ok (.getfield 10, 3) := by decide +kernel
theorem dX10_text_84 : decode cX10_text 84 = .ok (.aload_n 0, 1) := by decide +kernel
theorem dX10_text_85 : decode cX10_text 85 = .ok (.getfield 23, 3) := by decide +kernel
theorem dX10_text_88 : decode cX10_text 88 = .ok (.getfield 82, 3) := by decide +kernel
theorem dX10_text_91 : decode cX10_text 91 = .ok (.putfield 66, 3) := by decide +kernel
theorem dX10_text_94 : decode cX10_text 94 = .ok (.aload_n 0, 1) := by decide +kernel
theorem dX10_text_95 : decode cX10_text 95 = .ok (.getfield 23, 3) := by decide +kernel
theorem dX10_text_98 : decode cX10_text 98 = .ok (.getfield 81, 3) := by decide +kernel
theorem dX10_text_101 : decode cX10_text 101 = .ok (.ifCond .eq 5, 3) := by decide +kernel
theorem dX10_text_104 : decode cX10_text 104 = .ok (.iconst (-1), 1) := by decide +kernel
theorem dX10_text_105 : decode cX10_text 105 = .ok (.ireturn, 1) := by decide +kernel
theorem dX10_text_106 : decode cX10_text 106 = .ok (.aload_n 0, 1) := by decide +kernel
theorem dX10_text_107 : decode cX10_text 107 = .ok (.iload_n 1, 1) := by decide +kernel
theorem dX10_text_108 : decode cX10_text 108 = .ok (.iload 4, 2) := by decide +kernel
theorem dX10_text_110 : decode cX10_text 110 = .ok (.invokevirtual 85, 3) := by decide +kernel
theorem dX10_text_113 : decode cX10_text 113 = .ok (.iload 4, 2) := by decide +kernel
theorem dX10_text_115 : decode cX10_text 115 = .ok (.ireturn, 1) := by decide +kernel
theorem dX10_fault_0 : decode cX10_fault 0 = .ok (.iload_n 1, 1) := by decide +kernel
theorem dX10_fault_1 : decode cX10_fault 1 = .ok (.ifCond .ne 11, 3) := by decide +kernel
theorem dX10_fault_4 : decode cX10_fault 4 = .ok (.aload_n 0, 1) := by decide +kernel
theorem dX10_fault_5 : decode cX10_fault 5 = .ok (.getfield 10, 3) := by decide +kernel
theorem dX10_fault_8 : decode cX10_fault 8 = .ok (.getfield 63, 3) := by decide +kernel
theorem dX10_fault_11 : decode cX10_fault 11 = .ok (.ireturn, 1) := by decide +kernel
theorem dX10_fault_12 : decode cX10_fault 12 = .ok (.iload_n 1, 1) := by decide +kernel
theorem dX10_fault_13 : decode cX10_fault 13 = .ok (.iconst 1, 1) := by decide +kernel
theorem dX10_fault_14 : decode cX10_fault 14 = .ok (.if_icmp .ne 13, 3) := by decide +kernel
theorem dX10_fault_17 : decode cX10_fault 17 = .ok (.aload_n 0, 1) := by decide +kernel
theorem dX10_fault_18 : decode cX10_fault 18 = .ok (.getfield 10, 3) := by decide +kernel
theorem dX10_fault_21 : decode cX10_fault 21 = .ok (.getfield 66, 3) := by decide +kernel
theorem dX10_fault_24 : decode cX10_fault 24 = .ok (.goto 4, 3) := by decide +kernel
theorem dX10_fault_27 : decode cX10_fault 27 = .ok (.iconst (-1), 1) := by decide +kernel
theorem dX10_fault_28 : decode cX10_fault 28 = .ok (.ireturn, 1) := by decide +kernel
theorem dX10_land_0 : decode cX10_land 0 = .ok (.aload_n 0, 1) := by decide +kernel
theorem dX10_land_1 : decode cX10_land 1 = .ok (.iload_n 1, 1) := by decide +kernel
theorem dX10_land_2 : decode cX10_land 2 = .ok (.invokevirtual 89, 3) := by decide +kernel
theorem dX10_land_5 : decode cX10_land 5 = .ok (.astore_n 3, 1) := by decide +kernel
theorem dX10_land_6 : decode cX10_land 6 = .ok (.aload_n 3, 1) := by decide +kernel
theorem dX10_land_7 : decode cX10_land 7 = .ok (.ifnonnull 7, 3) := by decide +kernel
theorem dX10_land_10 : decode cX10_land 10 = .ok (.iconst (-1), 1) := by decide +kernel
theorem dX10_land_11 : decode cX10_land 11 = .ok (.goto 8, 3) := by decide +kernel
theorem dX10_land_14 : decode cX10_land 14 = .ok (.aload_n 3, 1) := by decide +kernel
theorem dX10_land_15 : decode cX10_land 15 = .ok (.iload_n 2, 1) := by decide +kernel
theorem dX10_land_19 : decode cX10_land 19 = .ok (.ireturn, 1) := by decide +kernel
theorem dX10_echo_0 : decode cX10_echo 0 = .ok (.aload_n 0, 1) := by decide +kernel
theorem dX10_echo_1 : decode cX10_echo 1 = .ok (.iload_n 1, 1) := by decide +kernel
theorem dX10_echo_2 : decode cX10_echo 2 = .ok (.invokevirtual 89, 3) := by decide +kernel
theorem dX10_echo_5 : decode cX10_echo 5 = .ok (.astore 4, 2) := by decide +kernel
theorem dX10_echo_7 : decode cX10_echo 7 = .ok (.aload 4, 2) := by decide +kernel
theorem dX10_echo_9 : decode cX10_echo 9 = .ok (.ifnull 16, 3) := by decide +kernel
theorem dX10_echo_12 : decode cX10_echo 12 = .ok (.iload_n 2, 1) := by decide +kernel
theorem dX10_echo_13 : decode cX10_echo 13 = .ok (.ifCond .lt 12, 3) := by decide +kernel
theorem dX10_echo_16 : decode cX10_echo 16 = .ok (.iload_n 2, 1) := by decide +kernel
theorem dX10_echo_17 : decode cX10_echo 17 = .ok (.aload 4, 2) := by decide +kernel
theorem dX10_echo_19 : decode cX10_echo 19 = .ok (.getfield 99, 3) := by decide +kernel
theorem dX10_echo_22 : decode cX10_echo 22 = .ok (.if_icmp .lt 5, 3) := by decide +kernel
theorem dX10_echo_25 : decode cX10_echo 25 = .ok (.iconst (-1), 1) := by decide +kernel
theorem dX10_echo_26 : decode cX10_echo 26 = .ok (.ireturn, 1) := by decide +kernel
theorem dX10_echo_27 : decode cX10_echo 27 = .ok (.iload_n 3, 1) := by decide +kernel
theorem dX10_echo_28 : decode cX10_echo 28 = .ok (.ifCond .ne 11, 3) := by decide +kernel
theorem dX10_echo_31 : decode cX10_echo 31 = .ok (.aload 4, 2) := by decide +kernel
theorem dX10_echo_33 : decode cX10_echo 33 = .ok (.getfield 102, 3) := by decide +kernel
theorem dX10_echo_36 : decode cX10_echo 36 = .ok (.iload_n 2, 1) := by decide +kernel
theorem dX10_echo_37 : decode cX10_echo 37 = .ok (.iaload, 1) := by decide +kernel
theorem dX10_echo_38 : decode cX10_echo 38 = .ok (.ireturn, 1) := by decide +kernel
theorem dX10_echo_39 : decode cX10_echo 39 = .ok (.iload_n 3, 1) := by decide +kernel
theorem dX10_echo_40 : decode cX10_echo 40 = .ok (.iconst 1, 1) := by decide +kernel
theorem dX10_echo_41 : decode cX10_echo 41 = .ok (.if_icmp .ne 13, 3) := by decide +kernel
theorem dX10_echo_44 : decode cX10_echo 44 = .ok (.aload 4, 2) := by decide +kernel
theorem dX10_echo_46 : decode cX10_echo 46 = .ok (.getfield 106, 3) := by decide +kernel
theorem dX10_echo_49 : decode cX10_echo 49 = .ok (.iload_n 2, 1) := by decide +kernel
theorem dX10_echo_50 : decode cX10_echo 50 = .ok (.iaload, 1) := by decide +kernel
theorem dX10_echo_51 : decode cX10_echo 51 = .ok (.goto 4, 3) := by decide +kernel
theorem dX10_echo_54 : decode cX10_echo 54 = .ok (.iconst (-1), 1) := by decide +kernel
theorem dX10_echo_55 : decode cX10_echo 55 = .ok (.ireturn, 1) := by decide +kernel
theorem dX10_deed_0 : decode cX10_deed 0 = .ok (.aload_n 0, 1) := by decide +kernel
theorem dX10_deed_1 : decode cX10_deed 1 = .ok (.iload_n 1, 1) := by decide +kernel
theorem dX10_deed_2 : decode cX10_deed 2 = .ok (.invokevirtual 109, 3) := by decide +kernel
theorem dX10_deed_5 : decode cX10_deed 5 = .ok (.astore 4, 2) := by decide +kernel
theorem dX10_deed_7 : decode cX10_deed 7 = .ok (.aload 4, 2) := by decide +kernel
theorem dX10_deed_9 : decode cX10_deed 9 = .ok (.ifnonnull 6, 3) := by decide +kernel
theorem dX10_deed_12 : decode cX10_deed 12 = .ok (.bipush (-2), 2) := by decide +kernel
theorem dX10_deed_14 : decode cX10_deed 14 = .ok (.ireturn, 1) := by decide +kernel
theorem dX10_deed_15 : decode cX10_deed 15 = .ok (.iload_n 2, 1) := by decide +kernel
theorem dX10_deed_16 : decode cX10_deed 16 = .ok (.iconst (-1), 1) := by decide +kernel
theorem dX10_deed_17 : decode cX10_deed 17 = .ok (.if_icmp .ne 13, 3) := by decide +kernel
theorem dX10_deed_20 : decode cX10_deed 20 = .ok (.iload_n 3, 1) := by decide +kernel
theorem dX10_deed_21 : decode cX10_deed 21 = .ok (.ifCond .ne 9, 3) := by decide +kernel
theorem dX10_deed_24 : decode cX10_deed 24 = .ok (.aload 4, 2) := by decide +kernel
theorem dX10_deed_26 : decode cX10_deed 26 = .ok (.getfield 113, 3) := by decide +kernel
theorem dX10_deed_29 : decode cX10_deed 29 = .ok (.ireturn, 1) := by decide +kernel
theorem dX10_deed_30 : decode cX10_deed 30 = .ok (.iload_n 2, 1) := by decide +kernel
theorem dX10_deed_31 : decode cX10_deed 31 = .ok (.ifCond .lt 12, 3) := by decide +kernel
theorem dX10_deed_34 : decode cX10_deed 34 = .ok (.iload_n 2, 1) := by decide +kernel
theorem dX10_deed_35 : decode cX10_deed 35 = .ok (.aload 4, 2) := by decide +kernel
theorem dX10_deed_37 : decode cX10_deed 37 = .ok (.getfield 113, 3) := by decide +kernel
theorem dX10_deed_40 : decode cX10_deed 40 = .ok (.if_icmp .lt 8, 3) := by decide +kernel
theorem dX10_deed_43 : decode cX10_deed 43 = .ok (.bipush (-2), 2) := by decide +kernel
theorem dX10_deed_45 : decode cX10_deed 45 = .ok (.goto 10, 3) := by decide +kernel
theorem dX10_deed_48 : decode cX10_deed 48 = .ok (.aload 4, 2) := by decide +kernel
theorem dX10_deed_50 : decode cX10_deed 50 = .ok (.iload_n 2, 1) := by decide +kernel
theorem dX10_deed_51 : decode cX10_deed 51 = .ok (.iload_n 3, 1) := by decide +kernel
theorem dX10_deed_55 : decode cX10_deed 55 = .ok (.ireturn, 1) := by decide +kernel
theorem dX10_stop_0 : decode cX10_stop 0 = .ok (.aload_n 0, 1) := by decide +kernel
theorem dX10_stop_1 : decode cX10_stop 1 = .ok (.iload_n 1, 1) := by decide +kernel
theorem dX10_stop_2 : decode cX10_stop 2 = .ok (.invokevirtual 89, 3) := by decide +kernel
theorem dX10_stop_5 : decode cX10_stop 5 = .ok (.astore_n 3, 1) := by decide +kernel
theorem dX10_stop_6 : decode cX10_stop 6 = .ok (.aload_n 0, 1) := by decide +kernel
theorem dX10_stop_7 : decode cX10_stop 7 = .ok (.iload_n 2, 1) := by decide +kernel
theorem dX10_stop_8 : decode cX10_stop 8 = .ok (.invokevirtual 109, 3) := by decide +kernel
theorem dX10_stop_11 : decode cX10_stop 11 = .ok (.astore 4, 2) := by decide +kernel
theorem dX10_stop_13 : decode cX10_stop 13 = .ok (.aload_n 3, 1) := by decide +kernel
theorem dX10_stop_14 : decode cX10_stop 14 = .ok (.ifnull 8, 3) := by decide +kernel
theorem dX10_stop_17 : decode cX10_stop 17 = .ok (.aload 4, 2) := by decide +kernel
theorem dX10_stop_19 : decode cX10_stop 19 = .ok (.ifnonnull 7, 3) := by decide +kernel
theorem dX10_stop_22 : decode cX10_stop 22 = .ok (.iconst (-1), 1) := by decide +kernel
theorem dX10_stop_23 : decode cX10_stop 23 = .ok (.goto 18, 3) := by decide +kernel
theorem dX10_stop_26 : decode cX10_stop 26 = .ok (.aload_n 0, 1) := by decide +kernel
theorem dX10_stop_27 : decode cX10_stop 27 = .ok (.getfield 30, 3) := by decide +kernel
theorem dX10_stop_30 : decode cX10_stop 30 = .ok (.aload_n 3, 1) := by decide +kernel
theorem dX10_stop_31 : decode cX10_stop 31 = .ok (.aload 4, 2) := by decide +kernel
theorem dX10_stop_33 : decode cX10_stop 33 = .ok (.aload 4, 2) := by decide +kernel
theorem dX10_stop_35 : decode cX10_stop 35 = .ok (.getfield 113, 3) := by decide +kernel
theorem dX10_stop_41 : decode cX10_stop 41 = .ok (.ireturn, 1) := by decide +kernel
theorem dX10_state_0 : decode cX10_state 0 = .ok (.aload_n 0, 1) := by decide +kernel
theorem dX10_state_1 : decode cX10_state 1 = .ok (.iload_n 1, 1) := by decide +kernel
theorem dX10_state_2 : decode cX10_state 2 = .ok (.iload_n 2, 1) := by decide +kernel
theorem dX10_state_3 : decode cX10_state 3 = .ok (.iload_n 3, 1) := by decide +kernel
theorem dX10_state_4 : decode cX10_state 4 = .ok (.invokevirtual 124, 3) := by decide +kernel
theorem dX10_state_7 : decode cX10_state 7 = .ok (.ifCond .eq 24, 3) := by decide +kernel
theorem dX10_state_10 : decode cX10_state 10 = .ok (.aload_n 0, 1) := by decide +kernel
theorem dX10_state_11 : decode cX10_state 11 = .ok (.getfield 30, 3) := by decide +kernel
theorem dX10_state_14 : decode cX10_state 14 = .ok (.aload_n 0, 1) := by decide +kernel
theorem dX10_state_15 : decode cX10_state 15 = .ok (.getfield 10, 3) := by decide +kernel
theorem dX10_state_18 : decode cX10_state 18 = .ok (.getfield 128, 3) := by decide +kernel
theorem dX10_state_21 : decode cX10_state 21 = .ok (.iload_n 1, 1) := by decide +kernel
theorem dX10_state_22 : decode cX10_state 22 = .ok (.aaload, 1) := by decide +kernel
theorem dX10_state_23 : decode cX10_state 23 = .ok (.iload 4, 2) := by decide +kernel
theorem dX10_state_31 : decode cX10_state 31 = .ok (.sipush (-1000), 3) := by decide +kernel
theorem dX10_state_34 : decode cX10_state 34 = .ok (.ireturn, 1) := by decide +kernel
theorem dX10_comes_0 : decode cX10_comes 0 = .ok (.aload_n 0, 1) := by decide +kernel
theorem dX10_comes_1 : decode cX10_comes 1 = .ok (.iload_n 1, 1) := by decide +kernel
theorem dX10_comes_2 : decode cX10_comes 2 = .ok (.invokevirtual 89, 3) := by decide +kernel
theorem dX10_comes_5 : decode cX10_comes 5 = .ok (.astore 4, 2) := by decide +kernel
theorem dX10_comes_7 : decode cX10_comes 7 = .ok (.aload 4, 2) := by decide +kernel
theorem dX10_comes_9 : decode cX10_comes 9 = .ok (.ifnull 21, 3) := by decide +kernel
theorem dX10_comes_12 : decode cX10_comes 12 = .ok (.aload 4, 2) := by decide +kernel
theorem dX10_comes_14 : decode cX10_comes 14 = .ok (.iload_n 2, 1) := by decide +kernel
theorem dX10_comes_30 : decode cX10_comes 30 = .ok (.iconst (-1), 1) := by decide +kernel
theorem dX10_comes_31 : decode cX10_comes 31 = .ok (.ireturn, 1) := by decide +kernel
theorem dX10_villages_0 : decode cX10_villages 0 = .ok (.aload_n 0, 1) := by decide +kernel
theorem dX10_villages_1 : decode cX10_villages 1 = .ok (.iload_n 1, 1) := by decide +kernel
theorem dX10_villages_2 : decode cX10_villages 2 = .ok (.invokevirtual 89, 3) := by decide +kernel
theorem dX10_villages_5 : decode cX10_villages 5 = .ok (.astore 4, 2) := by decide +kernel
theorem dX10_villages_7 : decode cX10_villages 7 = .ok (.aload 4, 2) := by decide +kernel
theorem dX10_villages_9 : decode cX10_villages 9 = .ok (.ifnull 22, 3) := by decide +kernel
theorem dX10_villages_12 : decode cX10_villages 12 = .ok (.iload_n 2, 1) := by decide +kernel
theorem dX10_villages_13 : decode cX10_villages 13 = .ok (.ifCond .lt 18, 3) := by decide +kernel
theorem dX10_villages_16 : decode cX10_villages 16 = .ok (.iload_n 2, 1) := by decide +kernel
theorem dX10_villages_17 : decode cX10_villages 17 = .ok (.bipush 99, 2) := by decide +kernel
theorem dX10_villages_19 : decode cX10_villages 19 = .ok (.if_icmp .gt 12, 3) := by decide +kernel
theorem dX10_villages_22 : decode cX10_villages 22 = .ok (.iload_n 3, 1) := by decide +kernel
theorem dX10_villages_23 : decode cX10_villages 23 = .ok (.ifCond .lt 8, 3) := by decide +kernel
theorem dX10_villages_26 : decode cX10_villages 26 = .ok (.iload_n 3, 1) := by decide +kernel
theorem dX10_villages_27 : decode cX10_villages 27 = .ok (.iconst 1, 1) := by decide +kernel
theorem dX10_villages_28 : decode cX10_villages 28 = .ok (.if_icmp .le 6, 3) := by decide +kernel
theorem dX10_villages_31 : decode cX10_villages 31 = .ok (.bipush (-2), 2) := by decide +kernel
theorem dX10_villages_33 : decode cX10_villages 33 = .ok (.ireturn, 1) := by decide +kernel
theorem dX10_villages_34 : decode cX10_villages 34 = .ok (.aload_n 0, 1) := by decide +kernel
theorem dX10_villages_35 : decode cX10_villages 35 = .ok (.getfield 37, 3) := by decide +kernel
theorem dX10_villages_38 : decode cX10_villages 38 = .ok (.aload 4, 2) := by decide +kernel
theorem dX10_best_0 : decode cX10_best 0 = .ok (.aload_n 0, 1) := by decide +kernel
theorem dX10_best_1 : decode cX10_best 1 = .ok (.iload_n 1, 1) := by decide +kernel
theorem dX10_best_2 : decode cX10_best 2 = .ok (.invokevirtual 89, 3) := by decide +kernel
theorem dX10_best_5 : decode cX10_best 5 = .ok (.astore_n 3, 1) := by decide +kernel
theorem dX10_best_6 : decode cX10_best 6 = .ok (.aload_n 3, 1) := by decide +kernel
theorem dX10_best_7 : decode cX10_best 7 = .ok (.ifnonnull 5, 3) := by decide +kernel
theorem dX10_best_10 : decode cX10_best 10 = .ok (.iconst (-1), 1) := by decide +kernel
theorem dX10_best_11 : decode cX10_best 11 = .ok (.ireturn, 1) := by decide +kernel
theorem dX10_best_12 : decode cX10_best 12 = .ok (.aload_n 0, 1) := by decide +kernel
theorem dX10_best_13 : decode cX10_best 13 = .ok (.getfield 37, 3) := by decide +kernel
theorem dX10_best_16 : decode cX10_best 16 = .ok (.aload_n 3, 1) := by decide +kernel
theorem dX10_routes_0 : decode cX10_routes 0 = .ok (.aload_n 0, 1) := by decide +kernel
theorem dX10_routes_1 : decode cX10_routes 1 = .ok (.iload_n 1, 1) := by decide +kernel
theorem dX10_routes_2 : decode cX10_routes 2 = .ok (.invokevirtual 89, 3) := by decide +kernel
theorem dX10_routes_5 : decode cX10_routes 5 = .ok (.astore 5, 2) := by decide +kernel
theorem dX10_routes_7 : decode cX10_routes 7 = .ok (.aload 5, 2) := by decide +kernel
theorem dX10_routes_9 : decode cX10_routes 9 = .ok (.ifnull 37, 3) := by decide +kernel
theorem dX10_routes_12 : decode cX10_routes 12 = .ok (.aload 5, 2) := by decide +kernel
theorem dX10_routes_14 : decode cX10_routes 14 = .ok (.iload_n 2, 1) := by decide +kernel
theorem dX10_routes_46 : decode cX10_routes 46 = .ok (.bipush (-2), 2) := by decide +kernel
theorem dX10_routes_48 : decode cX10_routes 48 = .ok (.ireturn, 1) := by decide +kernel
theorem dX10_mutes_0 : decode cX10_mutes 0 = .ok (.aload_n 0, 1) := by decide +kernel
theorem dX10_mutes_1 : decode cX10_mutes 1 = .ok (.iload_n 1, 1) := by decide +kernel
theorem dX10_mutes_2 : decode cX10_mutes 2 = .ok (.invokevirtual 89, 3) := by decide +kernel
theorem dX10_mutes_5 : decode cX10_mutes 5 = .ok (.astore 4, 2) := by decide +kernel
theorem dX10_mutes_7 : decode cX10_mutes 7 = .ok (.aload 4, 2) := by decide +kernel
theorem dX10_mutes_9 : decode cX10_mutes 9 = .ok (.ifnull 12, 3) := by decide +kernel
theorem dX10_mutes_12 : decode cX10_mutes 12 = .ok (.aload 4, 2) := by decide +kernel
theorem dX10_mutes_14 : decode cX10_mutes 14 = .ok (.iload_n 2, 1) := by decide +kernel
theorem dX10_mutes_21 : decode cX10_mutes 21 = .ok (.bipush (-2), 2) := by decide +kernel
theorem dX10_mutes_23 : decode cX10_mutes 23 = .ok (.ireturn, 1) := by decide +kernel
theorem dX10_masses_0 : decode cX10_masses 0 = .ok (.aload_n 0, 1) := by decide +kernel
theorem dX10_masses_1 : decode cX10_masses 1 = .ok (.iload_n 1, 1) := by decide +kernel
theorem dX10_masses_2 : decode cX10_masses 2 = .ok (.invokevirtual 89, 3) := by decide +kernel
theorem dX10_masses_5 : decode cX10_masses 5 = .ok (.astore 4, 2) := by decide +kernel
theorem dX10_masses_7 : decode cX10_masses 7 = .ok (.aload 4, 2) := by decide +kernel
theorem dX10_masses_9 : decode cX10_masses 9 = .ok (.ifnull 13, 3) := by decide +kernel
theorem dX10_masses_12 : decode cX10_masses 12 = .ok (.iload_n 2, 1) := by decide +kernel
theorem dX10_masses_13 : decode cX10_masses 13 = .ok (.ifCond .lt 9, 3) := by decide +kernel
theorem dX10_masses_16 : decode cX10_masses 16 = .ok (.iload_n 2, 1) := by decide +kernel
theorem dX10_masses_17 : decode cX10_masses 17 = .ok (.bipush 99, 2) := by decide +kernel
theorem dX10_masses_19 : decode cX10_masses 19 = .ok (.if_icmp .le 5, 3) := by decide +kernel
theorem dX10_masses_22 : decode cX10_masses 22 = .ok (.iconst (-1), 1) := by decide +kernel
theorem dX10_masses_23 : decode cX10_masses 23 = .ok (.ireturn, 1) := by decide +kernel
theorem dX10_masses_24 : decode cX10_masses 24 = .ok (.aload_n 0, 1) := by decide +kernel
theorem dX10_masses_25 : decode cX10_masses 25 = .ok (.getfield 37, 3) := by decide +kernel
theorem dX10_masses_28 : decode cX10_masses 28 = .ok (.aload 4, 2) := by decide +kernel
theorem dX10_masses_30 : decode cX10_masses 30 = .ok (.iload_n 2, 1) := by decide +kernel
theorem dX10_fact_0 : decode cX10_fact 0 = .ok (.aload_n 0, 1) := by decide +kernel
theorem dX10_fact_1 : decode cX10_fact 1 = .ok (.iload_n 1, 1) := by decide +kernel
theorem dX10_fact_2 : decode cX10_fact 2 = .ok (.invokevirtual 196, 3) := by decide +kernel
theorem dX10_fact_5 : decode cX10_fact 5 = .ok (.astore 4, 2) := by decide +kernel
theorem dX10_fact_7 : decode cX10_fact 7 = .ok (.aload 4, 2) := by decide +kernel
theorem dX10_fact_9 : decode cX10_fact 9 = .ok (.ifnonnull 6, 3) := by decide +kernel
theorem dX10_fact_12 : decode cX10_fact 12 = .ok (.bipush (-2), 2) := by decide +kernel
theorem dX10_fact_14 : decode cX10_fact 14 = .ok (.ireturn, 1) := by decide +kernel
theorem dX10_fact_15 : decode cX10_fact 15 = .ok (.iload_n 2, 1) := by decide +kernel
theorem dX10_fact_16 : decode cX10_fact 16 = .ok (.iconst (-1), 1) := by decide +kernel
theorem dX10_fact_17 : decode cX10_fact 17 = .ok (.if_icmp .ne 13, 3) := by decide +kernel
theorem dX10_fact_20 : decode cX10_fact 20 = .ok (.iload_n 3, 1) := by decide +kernel
theorem dX10_fact_21 : decode cX10_fact 21 = .ok (.ifCond .ne 9, 3) := by decide +kernel
theorem dX10_fact_24 : decode cX10_fact 24 = .ok (.aload 4, 2) := by decide +kernel
theorem dX10_fact_26 : decode cX10_fact 26 = .ok (.getfield 200, 3) := by decide +kernel
theorem dX10_fact_29 : decode cX10_fact 29 = .ok (.ireturn, 1) := by decide +kernel
theorem dX10_fact_30 : decode cX10_fact 30 = .ok (.iload_n 2, 1) := by decide +kernel
theorem dX10_fact_31 : decode cX10_fact 31 = .ok (.ifCond .lt 12, 3) := by decide +kernel
theorem dX10_fact_34 : decode cX10_fact 34 = .ok (.iload_n 2, 1) := by decide +kernel
theorem dX10_fact_35 : decode cX10_fact 35 = .ok (.aload 4, 2) := by decide +kernel
theorem dX10_fact_37 : decode cX10_fact 37 = .ok (.getfield 200, 3) := by decide +kernel
theorem dX10_fact_40 : decode cX10_fact 40 = .ok (.if_icmp .lt 8, 3) := by decide +kernel
theorem dX10_fact_43 : decode cX10_fact 43 = .ok (.bipush (-2), 2) := by decide +kernel
theorem dX10_fact_45 : decode cX10_fact 45 = .ok (.goto 10, 3) := by decide +kernel
theorem dX10_fact_48 : decode cX10_fact 48 = .ok (.aload 4, 2) := by decide +kernel
theorem dX10_fact_50 : decode cX10_fact 50 = .ok (.iload_n 2, 1) := by decide +kernel
theorem dX10_fact_51 : decode cX10_fact 51 = .ok (.iload_n 3, 1) := by decide +kernel
theorem dX10_fact_55 : decode cX10_fact 55 = .ok (.ireturn, 1) := by decide +kernel
theorem dX10_fits_0 : decode cX10_fits 0 = .ok (.aload_n 0, 1) := by decide +kernel
theorem dX10_fits_1 : decode cX10_fits 1 = .ok (.iload_n 1, 1) := by decide +kernel
theorem dX10_fits_2 : decode cX10_fits 2 = .ok (.invokevirtual 89, 3) := by decide +kernel
theorem dX10_fits_5 : decode cX10_fits 5 = .ok (.astore 4, 2) := by decide +kernel
theorem dX10_fits_7 : decode cX10_fits 7 = .ok (.aload_n 0, 1) := by decide +kernel
theorem dX10_fits_8 : decode cX10_fits 8 = .ok (.iload_n 2, 1) := by decide +kernel
theorem dX10_fits_9 : decode cX10_fits 9 = .ok (.invokevirtual 196, 3) := by decide +kernel
theorem dX10_fits_12 : decode cX10_fits 12 = .ok (.astore 5, 2) := by decide +kernel
theorem dX10_fits_14 : decode cX10_fits 14 = .ok (.aload 4, 2) := by decide +kernel
theorem dX10_fits_16 : decode cX10_fits 16 = .ok (.ifnull 21, 3) := by decide +kernel
theorem dX10_fits_19 : decode cX10_fits 19 = .ok (.aload 5, 2) := by decide +kernel
theorem dX10_fits_21 : decode cX10_fits 21 = .ok (.ifnull 16, 3) := by decide +kernel
theorem dX10_fits_24 : decode cX10_fits 24 = .ok (.aload 5, 2) := by decide +kernel
theorem dX10_fits_26 : decode cX10_fits 26 = .ok (.aload 4, 2) := by decide +kernel
theorem dX10_fits_28 : decode cX10_fits 28 = .ok (.getfield 206, 3) := by decide +kernel
theorem dX10_fits_37 : decode cX10_fits 37 = .ok (.bipush (-2), 2) := by decide +kernel
theorem dX10_fits_39 : decode cX10_fits 39 = .ok (.ireturn, 1) := by decide +kernel
theorem dX10_choir_0 : decode cX10_choir 0 = .ok (.aload_n 0, 1) := by decide +kernel
theorem dX10_choir_1 : decode cX10_choir 1 = .ok (.iload_n 1, 1) := by decide +kernel
theorem dX10_choir_2 : decode cX10_choir 2 = .ok (.invokevirtual 219, 3) := by decide +kernel
theorem dX10_choir_5 : decode cX10_choir 5 = .ok (.astore_n 3, 1) := by decide +kernel
theorem dX10_choir_6 : decode cX10_choir 6 = .ok (.aload_n 3, 1) := by decide +kernel
theorem dX10_choir_7 : decode cX10_choir 7 = .ok (.ifnonnull 5, 3) := by decide +kernel
theorem dX10_choir_10 : decode cX10_choir 10 = .ok (.iconst (-1), 1) := by decide +kernel
theorem dX10_choir_11 : decode cX10_choir 11 = .ok (.ireturn, 1) := by decide +kernel
theorem dX10_choir_12 : decode cX10_choir 12 = .ok (.iload_n 2, 1) := by decide +kernel
theorem dX10_choir_13 : decode cX10_choir 13 = .ok (.iconst 2, 1) := by decide +kernel
theorem dX10_choir_14 : decode cX10_choir 14 = .ok (.if_icmp .ne 14, 3) := by decide +kernel
theorem dX10_choir_17 : decode cX10_choir 17 = .ok (.aload_n 0, 1) := by decide +kernel
theorem dX10_choir_18 : decode cX10_choir 18 = .ok (.getfield 44, 3) := by decide +kernel
theorem dX10_choir_21 : decode cX10_choir 21 = .ok (.aload_n 3, 1) := by decide +kernel
theorem dX10_choir_28 : decode cX10_choir 28 = .ok (.aload_n 3, 1) := by decide +kernel
theorem dX10_choir_29 : decode cX10_choir 29 = .ok (.iload_n 2, 1) := by decide +kernel
theorem dX10_orders_0 : decode cX10_orders 0 = .ok (.aload_n 0, 1) := by decide +kernel
theorem dX10_orders_1 : decode cX10_orders 1 = .ok (.iload_n 1, 1) := by decide +kernel
theorem dX10_orders_2 : decode cX10_orders 2 = .ok (.invokevirtual 219, 3) := by decide +kernel
theorem dX10_orders_5 : decode cX10_orders 5 = .ok (.astore_n 2, 1) := by decide +kernel
theorem dX10_orders_6 : decode cX10_orders 6 = .ok (.aload_n 2, 1) := by decide +kernel
theorem dX10_orders_7 : decode cX10_orders 7 = .ok (.ifnonnull 7, 3) := by decide +kernel
theorem dX10_orders_10 : decode cX10_orders 10 = .ok (.ldc2_w 230, 3) := by decide +kernel
theorem dX10_orders_13 : decode cX10_orders 13 = .ok (.lreturn, 1) := by decide +kernel
theorem dX10_orders_14 : decode cX10_orders 14 = .ok (.aload_n 0, 1) := by decide +kernel
theorem dX10_orders_15 : decode cX10_orders 15 = .ok (.getfield 44, 3) := by decide +kernel
theorem dX10_orders_18 : decode cX10_orders 18 = .ok (.aload_n 2, 1) := by decide +kernel
theorem dX10_order_0 : decode cX10_order 0 = .ok (.aload_n 0, 1) := by decide +kernel
theorem dX10_order_1 : decode cX10_order 1 = .ok (.iload_n 1, 1) := by decide +kernel
theorem dX10_order_2 : decode cX10_order 2 = .ok (.invokevirtual 219, 3) := by decide +kernel
theorem dX10_order_5 : decode cX10_order 5 = .ok (.astore_n 3, 1) := by decide +kernel
theorem dX10_order_6 : decode cX10_order 6 = .ok (.aload_n 3, 1) := by decide +kernel
theorem dX10_order_7 : decode cX10_order 7 = .ok (.ifnull 15, 3) := by decide +kernel
theorem dX10_order_10 : decode cX10_order 10 = .ok (.iload_n 2, 1) := by decide +kernel
theorem dX10_order_11 : decode cX10_order 11 = .ok (.ifCond .lt 11, 3) := by decide +kernel
theorem dX10_order_14 : decode cX10_order 14 = .ok (.iload_n 2, 1) := by decide +kernel
theorem dX10_order_15 : decode cX10_order 15 = .ok (.aload_n 3, 1) := by decide +kernel
theorem dX10_order_16 : decode cX10_order 16 = .ok (.getfield 238, 3) := by decide +kernel
theorem dX10_order_19 : decode cX10_order 19 = .ok (.if_icmp .lt 5, 3) := by decide +kernel
theorem dX10_order_22 : decode cX10_order 22 = .ok (.iconst (-1), 1) := by decide +kernel
theorem dX10_order_23 : decode cX10_order 23 = .ok (.ireturn, 1) := by decide +kernel
theorem dX10_order_24 : decode cX10_order 24 = .ok (.aload_n 0, 1) := by decide +kernel
theorem dX10_order_25 : decode cX10_order 25 = .ok (.getfield 44, 3) := by decide +kernel
theorem dX10_order_28 : decode cX10_order 28 = .ok (.aload_n 3, 1) := by decide +kernel
theorem dX10_trade_0 : decode cX10_trade 0 = .ok (.iload_n 1, 1) := by decide +kernel
theorem dX10_trade_1 : decode cX10_trade 1 = .ok (.ifCond .lt 30, 3) := by decide +kernel
theorem dX10_trade_4 : decode cX10_trade 4 = .ok (.iload_n 1, 1) := by decide +kernel
theorem dX10_trade_5 : decode cX10_trade 5 = .ok (.bipush 60, 2) := by decide +kernel
theorem dX10_trade_7 : decode cX10_trade 7 = .ok (.if_icmp .gt 24, 3) := by decide +kernel
theorem dX10_trade_10 : decode cX10_trade 10 = .ok (.iload_n 2, 1) := by decide +kernel
theorem dX10_trade_11 : decode cX10_trade 11 = .ok (.ifCond .lt 20, 3) := by decide +kernel
theorem dX10_trade_14 : decode cX10_trade 14 = .ok (.iload_n 2, 1) := by decide +kernel
theorem dX10_trade_15 : decode cX10_trade 15 = .ok (.bipush 60, 2) := by decide +kernel
theorem dX10_trade_17 : decode cX10_trade 17 = .ok (.if_icmp .gt 14, 3) := by decide +kernel
theorem dX10_trade_20 : decode cX10_trade 20 = .ok (.iload_n 3, 1) := by decide +kernel
theorem dX10_trade_21 : decode cX10_trade 21 = .ok (.iconst 1, 1) := by decide +kernel
theorem dX10_trade_22 : decode cX10_trade 22 = .ok (.if_icmp .lt 9, 3) := by decide +kernel
theorem dX10_trade_25 : decode cX10_trade 25 = .ok (.iload_n 3, 1) := by decide +kernel
theorem dX10_trade_26 : decode cX10_trade 26 = .ok (.bipush 9, 2) := by decide +kernel
theorem dX10_trade_28 : decode cX10_trade 28 = .ok (.if_icmp .le 6, 3) := by decide +kernel
theorem dX10_trade_31 : decode cX10_trade 31 = .ok (.bipush (-2), 2) := by decide +kernel
theorem dX10_trade_33 : decode cX10_trade 33 = .ok (.ireturn, 1) := by decide +kernel
theorem dX10_trade_34 : decode cX10_trade 34 = .ok (.aload_n 0, 1) := by decide +kernel
theorem dX10_trade_35 : decode cX10_trade 35 = .ok (.getfield 51, 3) := by decide +kernel
theorem dX10_trade_38 : decode cX10_trade 38 = .ok (.iload_n 1, 1) := by decide +kernel
theorem dX10_trade_39 : decode cX10_trade 39 = .ok (.iload_n 2, 1) := by decide +kernel
theorem dX10_trade_40 : decode cX10_trade 40 = .ok (.iload_n 3, 1) := by decide +kernel
theorem dX10_trade_41 : decode cX10_trade 41 = .ok (.invokevirtual 245, 3) := by decide +kernel
theorem dX10_trade_44 : decode cX10_trade 44 = .ok (.aload_n 0, 1) := by decide +kernel
theorem dX10_trade_45 : decode cX10_trade 45 = .ok (.getfield 51, 3) := by decide +kernel
theorem dX10_trade_48 : decode cX10_trade 48 = .ok (.iload_n 1, 1) := by decide +kernel
theorem dX10_trade_49 : decode cX10_trade 49 = .ok (.iload_n 2, 1) := by decide +kernel
theorem dX10_trade_50 : decode cX10_trade 50 = .ok (.iload_n 3, 1) := by decide +kernel
theorem dX10_trade_51 : decode cX10_trade 51 = .ok (.invokevirtual 249, 3) := by decide +kernel
theorem dX10_trade_54 : decode cX10_trade 54 = .ok (.istore 5, 2) := by decide +kernel
theorem dX10_trade_56 : decode cX10_trade 56 = .ok (.iload 4, 2) := by decide +kernel
theorem dX10_trade_58 : decode cX10_trade 58 = .ok (.ifCond .eq 6, 3) := by decide +kernel
theorem dX10_trade_61 : decode cX10_trade 61 = .ok (.iload 5, 2) := by decide +kernel
theorem dX10_trade_63 : decode cX10_trade 63 = .ok (.ireturn, 1) := by decide +kernel
theorem dX10_trade_64 : decode cX10_trade 64 = .ok (.iload 5, 2) := by decide +kernel
theorem dX10_trade_66 : decode cX10_trade 66 = .ok (.iconst (-1), 1) := by decide +kernel
theorem dX10_trade_67 : decode cX10_trade 67 = .ok (.if_icmp .ne 7, 3) := by decide +kernel
theorem dX10_trade_70 : decode cX10_trade 70 = .ok (.iconst 0, 1) := by decide +kernel
theorem dX10_trade_71 : decode cX10_trade 71 = .ok (.goto 4, 3) := by decide +kernel
theorem dX10_trade_74 : decode cX10_trade 74 = .ok (.iconst 1, 1) := by decide +kernel
theorem dX10_trade_75 : decode cX10_trade 75 = .ok (.ireturn, 1) := by decide +kernel
theorem dX10_odds_0 : decode cX10_odds 0 = .ok (.aload_n 0, 1) := by decide +kernel
theorem dX10_odds_1 : decode cX10_odds 1 = .ok (.iload_n 1, 1) := by decide +kernel
theorem dX10_odds_2 : decode cX10_odds 2 = .ok (.invokevirtual 89, 3) := by decide +kernel
theorem dX10_odds_5 : decode cX10_odds 5 = .ok (.astore 4, 2) := by decide +kernel
theorem dX10_odds_7 : decode cX10_odds 7 = .ok (.aload_n 0, 1) := by decide +kernel
theorem dX10_odds_8 : decode cX10_odds 8 = .ok (.iload_n 2, 1) := by decide +kernel
theorem dX10_odds_9 : decode cX10_odds 9 = .ok (.invokevirtual 109, 3) := by decide +kernel
theorem dX10_odds_12 : decode cX10_odds 12 = .ok (.astore 5, 2) := by decide +kernel
theorem dX10_odds_14 : decode cX10_odds 14 = .ok (.aload 4, 2) := by decide +kernel
theorem dX10_odds_16 : decode cX10_odds 16 = .ok (.ifnull 17, 3) := by decide +kernel
theorem dX10_odds_19 : decode cX10_odds 19 = .ok (.aload 5, 2) := by decide +kernel
theorem dX10_odds_21 : decode cX10_odds 21 = .ok (.ifnull 12, 3) := by decide +kernel
theorem dX10_odds_24 : decode cX10_odds 24 = .ok (.iload_n 3, 1) := by decide +kernel
theorem dX10_odds_25 : decode cX10_odds 25 = .ok (.ifCond .lt 8, 3) := by decide +kernel
theorem dX10_odds_28 : decode cX10_odds 28 = .ok (.iload_n 3, 1) := by decide +kernel
theorem dX10_odds_29 : decode cX10_odds 29 = .ok (.iconst 2, 1) := by decide +kernel
theorem dX10_odds_30 : decode cX10_odds 30 = .ok (.if_icmp .le 7, 3) := by decide +kernel
theorem dX10_odds_33 : decode cX10_odds 33 = .ok (.ldc2_w 230, 3) := by decide +kernel
theorem dX10_odds_36 : decode cX10_odds 36 = .ok (.lreturn, 1) := by decide +kernel
theorem dX10_odds_37 : decode cX10_odds 37 = .ok (.aload_n 0, 1) := by decide +kernel
theorem dX10_odds_38 : decode cX10_odds 38 = .ok (.getfield 30, 3) := by decide +kernel
theorem dX10_odds_41 : decode cX10_odds 41 = .ok (.aload 4, 2) := by decide +kernel
theorem dX10_odds_43 : decode cX10_odds 43 = .ok (.aload 5, 2) := by decide +kernel
theorem dX10_odds_45 : decode cX10_odds 45 = .ok (.aload 5, 2) := by decide +kernel
theorem dX10_odds_47 : decode cX10_odds 47 = .ok (.getfield 113, 3) := by decide +kernel
theorem dX10_drawn_0 : decode cX10_drawn 0 = .ok (.aload_n 0, 1) := by decide +kernel
theorem dX10_drawn_1 : decode cX10_drawn 1 = .ok (.iload_n 1, 1) := by decide +kernel
theorem dX10_drawn_2 : decode cX10_drawn 2 = .ok (.invokevirtual 89, 3) := by decide +kernel
theorem dX10_drawn_5 : decode cX10_drawn 5 = .ok (.astore 5, 2) := by decide +kernel
theorem dX10_drawn_7 : decode cX10_drawn 7 = .ok (.aload 5, 2) := by decide +kernel
theorem dX10_drawn_9 : decode cX10_drawn 9 = .ok (.ifnull 21, 3) := by decide +kernel
theorem dX10_drawn_12 : decode cX10_drawn 12 = .ok (.aload 5, 2) := by decide +kernel
theorem dX10_drawn_14 : decode cX10_drawn 14 = .ok (.getfield 266, 3) := by decide +kernel
theorem dX10_drawn_17 : decode cX10_drawn 17 = .ok (.ifCond .eq 13, 3) := by decide +kernel
theorem dX10_drawn_20 : decode cX10_drawn 20 = .ok (.iload_n 3, 1) := by decide +kernel
theorem dX10_drawn_21 : decode cX10_drawn 21 = .ok (.ifCond .lt 9, 3) := by decide +kernel
theorem dX10_drawn_24 : decode cX10_drawn 24 = .ok (.iload_n 3, 1) := by decide +kernel
theorem dX10_drawn_25 : decode cX10_drawn 25 = .ok (.bipush 60, 2) := by decide +kernel
theorem dX10_drawn_27 : decode cX10_drawn 27 = .ok (.if_icmp .le 7, 3) := by decide +kernel
theorem dX10_drawn_30 : decode cX10_drawn 30 = .ok (.sipush (-1000), 3) := by decide +kernel
theorem dX10_drawn_33 : decode cX10_drawn 33 = .ok (.ireturn, 1) := by decide +kernel
theorem dX10_drawn_34 : decode cX10_drawn 34 = .ok (.aload_n 0, 1) := by decide +kernel
theorem dX10_drawn_35 : decode cX10_drawn 35 = .ok (.getfield 30, 3) := by decide +kernel
theorem dX10_drawn_38 : decode cX10_drawn 38 = .ok (.aload 5, 2) := by decide +kernel
theorem dX10_drawn_40 : decode cX10_drawn 40 = .ok (.iload_n 2, 1) := by decide +kernel
theorem dX10_drawn_41 : decode cX10_drawn 41 = .ok (.iload_n 3, 1) := by decide +kernel
theorem dX10_psalm_0 : decode cX10_psalm 0 = .ok (.aload_n 0, 1) := by decide +kernel
theorem dX10_psalm_1 : decode cX10_psalm 1 = .ok (.iload_n 1, 1) := by decide +kernel
theorem dX10_psalm_2 : decode cX10_psalm 2 = .ok (.invokevirtual 89, 3) := by decide +kernel
theorem dX10_psalm_5 : decode cX10_psalm 5 = .ok (.astore 5, 2) := by decide +kernel
theorem dX10_psalm_7 : decode cX10_psalm 7 = .ok (.aload 5, 2) := by decide +kernel
theorem dX10_psalm_9 : decode cX10_psalm 9 = .ok (.ifnull 33, 3) := by decide +kernel
theorem dX10_psalm_12 : decode cX10_psalm 12 = .ok (.aload 5, 2) := by decide +kernel
theorem dX10_psalm_14 : decode cX10_psalm 14 = .ok (.iload_n 2, 1) := by decide +kernel
theorem dX10_psalm_42 : decode cX10_psalm 42 = .ok (.bipush (-2), 2) := by decide +kernel
theorem dX10_psalm_44 : decode cX10_psalm 44 = .ok (.ireturn, 1) := by decide +kernel
theorem dX10_meet_0 : decode cX10_meet 0 = .ok (.aload_n 0, 1) := by decide +kernel
theorem dX10_meet_1 : decode cX10_meet 1 = .ok (.iload_n 1, 1) := by decide +kernel
theorem dX10_meet_2 : decode cX10_meet 2 = .ok (.invokevirtual 89, 3) := by decide +kernel
theorem dX10_meet_5 : decode cX10_meet 5 = .ok (.astore 5, 2) := by decide +kernel
theorem dX10_meet_7 : decode cX10_meet 7 = .ok (.aload 5, 2) := by decide +kernel
theorem dX10_meet_9 : decode cX10_meet 9 = .ok (.ifnull 26, 3) := by decide +kernel
theorem dX10_meet_12 : decode cX10_meet 12 = .ok (.aload 5, 2) := by decide +kernel
theorem dX10_meet_14 : decode cX10_meet 14 = .ok (.iload_n 2, 1) := by decide +kernel
theorem dX10_meet_35 : decode cX10_meet 35 = .ok (.iconst (-1), 1) := by decide +kernel
theorem dX10_meet_36 : decode cX10_meet 36 = .ok (.ireturn, 1) := by decide +kernel
theorem dX10_carry_0 : decode cX10_carry 0 = .ok (.aload_n 0, 1) := by decide +kernel
theorem dX10_carry_1 : decode cX10_carry 1 = .ok (.iload_n 1, 1) := by decide +kernel
theorem dX10_carry_2 : decode cX10_carry 2 = .ok (.invokevirtual 89, 3) := by decide +kernel
theorem dX10_carry_5 : decode cX10_carry 5 = .ok (.astore 4, 2) := by decide +kernel
theorem dX10_carry_7 : decode cX10_carry 7 = .ok (.aload 4, 2) := by decide +kernel
theorem dX10_carry_9 : decode cX10_carry 9 = .ok (.ifnull 12, 3) := by decide +kernel
theorem dX10_carry_12 : decode cX10_carry 12 = .ok (.aload 4, 2) := by decide +kernel
theorem dX10_carry_14 : decode cX10_carry 14 = .ok (.iload_n 2, 1) := by decide +kernel
theorem dX10_carry_21 : decode cX10_carry 21 = .ok (.iconst (-1), 1) := by decide +kernel
theorem dX10_carry_22 : decode cX10_carry 22 = .ok (.ireturn, 1) := by decide +kernel
theorem dX10_join_0 : decode cX10_join 0 = .ok (.aload_n 0, 1) := by decide +kernel
theorem dX10_join_1 : decode cX10_join 1 = .ok (.iload_n 1, 1) := by decide +kernel
theorem dX10_join_2 : decode cX10_join 2 = .ok (.invokevirtual 89, 3) := by decide +kernel
theorem dX10_join_5 : decode cX10_join 5 = .ok (.astore 5, 2) := by decide +kernel
theorem dX10_join_7 : decode cX10_join 7 = .ok (.aload 5, 2) := by decide +kernel
theorem dX10_join_9 : decode cX10_join 9 = .ok (.ifnull 21, 3) := by decide +kernel
theorem dX10_join_12 : decode cX10_join 12 = .ok (.aload 5, 2) := by decide +kernel
theorem dX10_join_14 : decode cX10_join 14 = .ok (.iload_n 2, 1) := by decide +kernel
theorem dX10_join_30 : decode cX10_join 30 = .ok (.iconst (-1), 1) := by decide +kernel
theorem dX10_join_31 : decode cX10_join 31 = .ok (.ireturn, 1) := by decide +kernel
theorem dX10_slopes_0 : decode cX10_slopes 0 = .ok (.aload_n 0, 1) := by decide +kernel
theorem dX10_slopes_1 : decode cX10_slopes 1 = .ok (.iload_n 1, 1) := by decide +kernel
theorem dX10_slopes_2 : decode cX10_slopes 2 = .ok (.invokevirtual 89, 3) := by decide +kernel
theorem dX10_slopes_5 : decode cX10_slopes 5 = .ok (.astore_n 3, 1) := by decide +kernel
theorem dX10_slopes_6 : decode cX10_slopes 6 = .ok (.aload_n 3, 1) := by decide +kernel
theorem dX10_slopes_7 : decode cX10_slopes 7 = .ok (.ifnonnull 5, 3) := by decide +kernel
theorem dX10_slopes_10 : decode cX10_slopes 10 = .ok (.iconst (-1), 1) := by decide +kernel
theorem dX10_slopes_11 : decode cX10_slopes 11 = .ok (.ireturn, 1) := by decide +kernel
theorem dX10_slopes_12 : decode cX10_slopes 12 = .ok (.aload_n 0, 1) := by decide +kernel
theorem dX10_slopes_13 : decode cX10_slopes 13 = .ok (.getfield 37, 3) := by decide +kernel
theorem dX10_slopes_16 : decode cX10_slopes 16 = .ok (.aload_n 3, 1) := by decide +kernel
theorem dX10_flood_0 : decode cX10_flood 0 = .ok (.aload_n 0, 1) := by decide +kernel
theorem dX10_flood_1 : decode cX10_flood 1 = .ok (.iload_n 1, 1) := by decide +kernel
theorem dX10_flood_2 : decode cX10_flood 2 = .ok (.invokevirtual 89, 3) := by decide +kernel
theorem dX10_flood_5 : decode cX10_flood 5 = .ok (.astore 5, 2) := by decide +kernel
theorem dX10_flood_7 : decode cX10_flood 7 = .ok (.aload 5, 2) := by decide +kernel
theorem dX10_flood_9 : decode cX10_flood 9 = .ok (.ifnull 26, 3) := by decide +kernel
theorem dX10_flood_12 : decode cX10_flood 12 = .ok (.aload 5, 2) := by decide +kernel
theorem dX10_flood_14 : decode cX10_flood 14 = .ok (.iload_n 2, 1) := by decide +kernel
theorem dX10_flood_35 : decode cX10_flood 35 = .ok (.iconst (-1), 1) := by decide +kernel
theorem dX10_flood_36 : decode cX10_flood 36 = .ok (.ireturn, 1) := by decide +kernel
theorem dX10_teach_0 : decode cX10_teach 0 = .ok (.iload 4, 2) := by decide +kernel
theorem dX10_teach_2 : decode cX10_teach 2 = .ok (.ifCond .lt 19, 3) := by decide +kernel
theorem dX10_teach_5 : decode cX10_teach 5 = .ok (.iload 4, 2) := by decide +kernel
theorem dX10_teach_7 : decode cX10_teach 7 = .ok (.iconst 5, 1) := by decide +kernel
theorem dX10_teach_8 : decode cX10_teach 8 = .ok (.if_icmp .ge 13, 3) := by decide +kernel
theorem dX10_teach_11 : decode cX10_teach 11 = .ok (.aload_n 0, 1) := by decide +kernel
theorem dX10_teach_12 : decode cX10_teach 12 = .ok (.iload_n 1, 1) := by decide +kernel
theorem dX10_teach_13 : decode cX10_teach 13 = .ok (.iload_n 2, 1) := by decide +kernel
theorem dX10_teach_14 : decode cX10_teach 14 = .ok (.iload_n 3, 1) := by decide +kernel
theorem dX10_teach_15 : decode cX10_teach 15 = .ok (.invokevirtual 124, 3) := by decide +kernel
theorem dX10_teach_18 : decode cX10_teach 18 = .ok (.ifCond .ne 5, 3) := by decide +kernel
theorem dX10_teach_21 : decode cX10_teach 21 = .ok (.iconst (-1), 1) := by decide +kernel
theorem dX10_teach_22 : decode cX10_teach 22 = .ok (.ireturn, 1) := by decide +kernel
theorem dX10_teach_23 : decode cX10_teach 23 = .ok (.aload_n 0, 1) := by decide +kernel
theorem dX10_teach_24 : decode cX10_teach 24 = .ok (.getfield 30, 3) := by decide +kernel
theorem dX10_teach_27 : decode cX10_teach 27 = .ok (.aload_n 0, 1) := by decide +kernel
theorem dX10_teach_28 : decode cX10_teach 28 = .ok (.getfield 10, 3) := by decide +kernel
theorem dX10_teach_31 : decode cX10_teach 31 = .ok (.getfield 128, 3) := by decide +kernel
theorem dX10_teach_34 : decode cX10_teach 34 = .ok (.iload_n 1, 1) := by decide +kernel
theorem dX10_teach_35 : decode cX10_teach 35 = .ok (.aaload, 1) := by decide +kernel
theorem dX10_teach_36 : decode cX10_teach 36 = .ok (.iload 4, 2) := by decide +kernel
theorem dX10_count_0 : decode cX10_count 0 = .ok (.iload_n 1, 1) := by decide +kernel
theorem dX10_count_1 : decode cX10_count 1 = .ok (.ifCond .lt 8, 3) := by decide +kernel
theorem dX10_count_4 : decode cX10_count 4 = .ok (.iload_n 1, 1) := by decide +kernel
theorem dX10_count_5 : decode cX10_count 5 = .ok (.iconst 4, 1) := by decide +kernel
theorem dX10_count_6 : decode cX10_count 6 = .ok (.if_icmp .lt 8, 3) := by decide +kernel
theorem dX10_count_9 : decode cX10_count 9 = .ok (.bipush (-2), 2) := by decide +kernel
theorem dX10_count_11 : decode cX10_count 11 = .ok (.goto 12, 3) := by decide +kernel
theorem dX10_count_14 : decode cX10_count 14 = .ok (.aload_n 0, 1) := by decide +kernel
theorem dX10_count_15 : decode cX10_count 15 = .ok (.getfield 10, 3) := by decide +kernel
theorem dX10_count_18 : decode cX10_count 18 = .ok (.getfield 320, 3) := by decide +kernel
theorem dX10_count_21 : decode cX10_count 21 = .ok (.iload_n 1, 1) := by decide +kernel
theorem dX10_count_22 : decode cX10_count 22 = .ok (.iaload, 1) := by decide +kernel
theorem dX10_count_23 : decode cX10_count 23 = .ok (.ireturn, 1) := by decide +kernel
theorem dX10_image_0 : decode cX10_image 0 = .ok (.iload_n 1, 1) := by decide +kernel
theorem dX10_image_1 : decode cX10_image 1 = .ok (.ifCond .lt 8, 3) := by decide +kernel
theorem dX10_image_4 : decode cX10_image 4 = .ok (.iload_n 1, 1) := by decide +kernel
theorem dX10_image_5 : decode cX10_image 5 = .ok (.iconst 3, 1) := by decide +kernel
theorem dX10_image_6 : decode cX10_image 6 = .ok (.if_icmp .lt 5, 3) := by decide +kernel
theorem dX10_image_9 : decode cX10_image 9 = .ok (.iconst 0, 1) := by decide +kernel
theorem dX10_image_10 : decode cX10_image 10 = .ok (.ireturn, 1) := by decide +kernel
theorem dX10_image_11 : decode cX10_image 11 = .ok (.aload_n 0, 1) := by decide +kernel
theorem dX10_image_12 : decode cX10_image 12 = .ok (.getfield 16, 3) := by decide +kernel
theorem dX10_image_15 : decode cX10_image 15 = .ok (.iload_n 1, 1) := by decide +kernel
theorem dX10_image_16 : decode cX10_image 16 = .ok (.aaload, 1) := by decide +kernel
theorem dX10_image_17 : decode cX10_image 17 = .ok (.ifnonnull 16, 3) := by decide +kernel
theorem dX10_image_20 : decode cX10_image 20 = .ok (.aload_n 0, 1) := by decide +kernel
theorem dX10_image_21 : decode cX10_image 21 = .ok (.getfield 16, 3) := by decide +kernel
theorem dX10_image_24 : decode cX10_image 24 = .ok (.iload_n 1, 1) := by decide +kernel
theorem dX10_image_25 : decode cX10_image 25 = .ok (.new 7, 3) := by decide +kernel
theorem dX10_image_28 : decode cX10_image 28 = .ok (.dup, 1) := by decide +kernel
theorem dX10_image_29 : decode cX10_image 29 = .ok (.invokespecial 9, 3) := by decide +kernel
theorem dX10_image_32 : decode cX10_image 32 = .ok (.aastore, 1) := by decide +kernel
theorem dX10_image_33 : decode cX10_image 33 = .ok (.aload_n 0, 1) := by decide +kernel
theorem dX10_image_34 : decode cX10_image 34 = .ok (.getfield 16, 3) := by decide +kernel
theorem dX10_image_37 : decode cX10_image 37 = .ok (.iload_n 1, 1) := by decide +kernel
theorem dX10_image_38 : decode cX10_image 38 = .ok (.aaload, 1) := by decide +kernel
theorem dX10_image_39 : decode cX10_image 39 = .ok (.aload_n 0, 1) := by decide +kernel
theorem dX10_image_40 : decode cX10_image 40 = .ok (.getfield 10, 3) := by decide +kernel
theorem dX10_image_43 : decode cX10_image 43 = .ok (.invokevirtual 323, 3) := by decide +kernel
theorem dX10_image_46 : decode cX10_image 46 = .ok (.iconst 1, 1) := by decide +kernel
theorem dX10_image_47 : decode cX10_image 47 = .ok (.ireturn, 1) := by decide +kernel
theorem dX10_again_0 : decode cX10_again 0 = .ok (.iload_n 1, 1) := by decide +kernel
theorem dX10_again_1 : decode cX10_again 1 = .ok (.ifCond .lt 17, 3) := by decide +kernel
theorem dX10_again_4 : decode cX10_again 4 = .ok (.iload_n 1, 1) := by decide +kernel
theorem dX10_again_5 : decode cX10_again 5 = .ok (.iconst 3, 1) := by decide +kernel
theorem dX10_again_6 : decode cX10_again 6 = .ok (.if_icmp .ge 12, 3) := by decide +kernel
theorem dX10_again_9 : decode cX10_again 9 = .ok (.aload_n 0, 1) := by decide +kernel
theorem dX10_again_10 : decode cX10_again 10 = .ok (.getfield 16, 3) := by decide +kernel
theorem dX10_again_13 : decode cX10_again 13 = .ok (.iload_n 1, 1) := by decide +kernel
theorem dX10_again_14 : decode cX10_again 14 = .ok (.aaload, 1) := by decide +kernel
theorem dX10_again_15 : decode cX10_again 15 = .ok (.ifnonnull 5, 3) := by decide +kernel
theorem dX10_again_18 : decode cX10_again 18 = .ok (.iconst 0, 1) := by decide +kernel
theorem dX10_again_19 : decode cX10_again 19 = .ok (.ireturn, 1) := by decide +kernel
theorem dX10_numberFor_0 : decode cX10_numberFor 0 = .ok (.iload_n 1, 1) := by decide +kernel
theorem dX10_numberFor_1 : decode cX10_numberFor 1 = .ok (.ifCond .lt 8, 3) := by decide +kernel
theorem dX10_numberFor_4 : decode cX10_numberFor 4 = .ok (.iload_n 1, 1) := by decide +kernel
theorem dX10_numberFor_5 : decode cX10_numberFor 5 = .ok (.iconst 4, 1) := by decide +kernel
theorem dX10_numberFor_6 : decode cX10_numberFor 6 = .ok (.if_icmp .lt 6, 3) := by decide +kernel
theorem dX10_numberFor_9 : decode cX10_numberFor 9 = .ok (.bipush (-2), 2) := by decide +kernel
theorem dX10_numberFor_11 : decode cX10_numberFor 11 = .ok (.ireturn, 1) := by decide +kernel
theorem dX10_numberFor_12 : decode cX10_numberFor 12 = .ok (.aload_n 0, 1) := by decide +kernel
theorem dX10_numberFor_13 : decode cX10_numberFor 13 = .ok (.getfield 10, 3) := by decide +kernel
theorem dX10_numberFor_16 : decode cX10_numberFor 16 = .ok (.getfield 320, 3) := by decide +kernel
theorem dX10_numberFor_19 : decode cX10_numberFor 19 = .ok (.iload_n 1, 1) := by decide +kernel
theorem dX10_numberFor_20 : decode cX10_numberFor 20 = .ok (.iaload, 1) := by decide +kernel
theorem dX10_numberFor_21 : decode cX10_numberFor 21 = .ok (.istore_n 3, 1) := by decide +kernel
theorem dX10_numberFor_22 : decode cX10_numberFor 22 = .ok (.iload_n 2, 1) := by decide +kernel
theorem dX10_numberFor_23 : decode cX10_numberFor 23 = .ok (.iconst (-1), 1) := by decide +kernel
theorem dX10_numberFor_24 : decode cX10_numberFor 24 = .ok (.if_icmp .ne 15, 3) := by decide +kernel
theorem dX10_numberFor_27 : decode cX10_numberFor 27 = .ok (.iload_n 3, 1) := by decide +kernel
theorem dX10_numberFor_28 : decode cX10_numberFor 28 = .ok (.iconst 2, 1) := by decide +kernel
theorem dX10_numberFor_29 : decode cX10_numberFor 29 = .ok (.if_icmp .ge 7, 3) := by decide +kernel
theorem dX10_numberFor_32 : decode cX10_numberFor 32 = .ok (.iload_n 3, 1) := by decide +kernel
theorem dX10_numberFor_33 : decode cX10_numberFor 33 = .ok (.goto 5, 3) := by decide +kernel
theorem dX10_numberFor_36 : decode cX10_numberFor 36 = .ok (.bipush (-2), 2) := by decide +kernel
theorem dX10_numberFor_38 : decode cX10_numberFor 38 = .ok (.ireturn, 1) := by decide +kernel
theorem dX10_numberFor_39 : decode cX10_numberFor 39 = .ok (.iload_n 2, 1) := by decide +kernel
theorem dX10_numberFor_40 : decode cX10_numberFor 40 = .ok (.ifCond .lt 12, 3) := by decide +kernel
theorem dX10_numberFor_43 : decode cX10_numberFor 43 = .ok (.iload_n 2, 1) := by decide +kernel
theorem dX10_numberFor_44 : decode cX10_numberFor 44 = .ok (.iload_n 3, 1) := by decide +kernel
theorem dX10_numberFor_45 : decode cX10_numberFor 45 = .ok (.if_icmp .ge 7, 3) := by decide +kernel
theorem dX10_numberFor_48 : decode cX10_numberFor 48 = .ok (.iload_n 2, 1) := by decide +kernel
theorem dX10_numberFor_49 : decode cX10_numberFor 49 = .ok (.goto 5, 3) := by decide +kernel
theorem dX10_numberFor_52 : decode cX10_numberFor 52 = .ok (.bipush (-2), 2) := by decide +kernel
theorem dX10_numberFor_54 : decode cX10_numberFor 54 = .ok (.ireturn, 1) := by decide +kernel
theorem dX10_keep_0 : decode cX10_keep 0 = .ok (.iload_n 1, 1) := by decide +kernel
theorem dX10_keep_1 : decode cX10_keep 1 = .ok (.ifCond .ne 25, 3) := by decide +kernel
theorem dX10_keep_4 : decode cX10_keep 4 = .ok (.aload_n 0, 1) := by decide +kernel
theorem dX10_keep_5 : decode cX10_keep 5 = .ok (.getfield 10, 3) := by decide +kernel
theorem dX10_keep_8 : decode cX10_keep 8 = .ok (.getfield 128, 3) := by decide +kernel
theorem dX10_keep_11 : decode cX10_keep 11 = .ok (.iload_n 2, 1) := by decide +kernel
theorem dX10_keep_12 : decode cX10_keep 12 = .ok (.aaload, 1) := by decide +kernel
theorem dX10_keep_13 : decode cX10_keep 13 = .ok (.aload_n 0, 1) := by decide +kernel
theorem dX10_keep_14 : decode cX10_keep 14 = .ok (.getfield 23, 3) := by decide +kernel
theorem dX10_keep_17 : decode cX10_keep 17 = .ok (.getfield 327, 3) := by decide +kernel
theorem dX10_keep_20 : decode cX10_keep 20 = .ok (.invokevirtual 331, 3) := by decide +kernel
theorem dX10_keep_23 : decode cX10_keep 23 = .ok (.goto 76, 3) := by decide +kernel
theorem dX10_keep_26 : decode cX10_keep 26 = .ok (.iload_n 1, 1) := by decide +kernel
theorem dX10_keep_27 : decode cX10_keep 27 = .ok (.iconst 1, 1) := by decide +kernel
theorem dX10_keep_28 : decode cX10_keep 28 = .ok (.if_icmp .ne 25, 3) := by decide +kernel
theorem dX10_keep_31 : decode cX10_keep 31 = .ok (.aload_n 0, 1) := by decide +kernel
theorem dX10_keep_32 : decode cX10_keep 32 = .ok (.getfield 10, 3) := by decide +kernel
theorem dX10_keep_35 : decode cX10_keep 35 = .ok (.getfield 333, 3) := by decide +kernel
theorem dX10_keep_38 : decode cX10_keep 38 = .ok (.iload_n 2, 1) := by decide +kernel
theorem dX10_keep_39 : decode cX10_keep 39 = .ok (.aaload, 1) := by decide +kernel
theorem dX10_keep_40 : decode cX10_keep 40 = .ok (.aload_n 0, 1) := by decide +kernel
theorem dX10_keep_41 : decode cX10_keep 41 = .ok (.getfield 23, 3) := by decide +kernel
theorem dX10_keep_44 : decode cX10_keep 44 = .ok (.getfield 337, 3) := by decide +kernel
theorem dX10_keep_47 : decode cX10_keep 47 = .ok (.invokevirtual 341, 3) := by decide +kernel
theorem dX10_keep_50 : decode cX10_keep 50 = .ok (.goto 49, 3) := by decide +kernel
theorem dX10_keep_53 : decode cX10_keep 53 = .ok (.iload_n 1, 1) := by decide +kernel
theorem dX10_keep_54 : decode cX10_keep 54 = .ok (.iconst 2, 1) := by decide +kernel
theorem dX10_keep_55 : decode cX10_keep 55 = .ok (.if_icmp .ne 25, 3) := by decide +kernel
theorem dX10_keep_58 : decode cX10_keep 58 = .ok (.aload_n 0, 1) := by decide +kernel
theorem dX10_keep_59 : decode cX10_keep 59 = .ok (.getfield 10, 3) := by decide +kernel
theorem dX10_keep_62 : decode cX10_keep 62 = .ok (.getfield 344, 3) := by decide +kernel
theorem dX10_keep_65 : decode cX10_keep 65 = .ok (.iload_n 2, 1) := by decide +kernel
theorem dX10_keep_66 : decode cX10_keep 66 = .ok (.aaload, 1) := by decide +kernel
theorem dX10_keep_67 : decode cX10_keep 67 = .ok (.aload_n 0, 1) := by decide +kernel
theorem dX10_keep_68 : decode cX10_keep 68 = .ok (.getfield 23, 3) := by decide +kernel
theorem dX10_keep_71 : decode cX10_keep 71 = .ok (.getfield 348, 3) := by decide +kernel
theorem dX10_keep_74 : decode cX10_keep 74 = .ok (.invokevirtual 352, 3) := by decide +kernel
theorem dX10_keep_77 : decode cX10_keep 77 = .ok (.goto 22, 3) := by decide +kernel
theorem dX10_keep_80 : decode cX10_keep 80 = .ok (.aload_n 0, 1) := by decide +kernel
theorem dX10_keep_81 : decode cX10_keep 81 = .ok (.getfield 10, 3) := by decide +kernel
theorem dX10_keep_84 : decode cX10_keep 84 = .ok (.getfield 355, 3) := by decide +kernel
theorem dX10_keep_87 : decode cX10_keep 87 = .ok (.iload_n 2, 1) := by decide +kernel
theorem dX10_keep_88 : decode cX10_keep 88 = .ok (.aaload, 1) := by decide +kernel
theorem dX10_keep_89 : decode cX10_keep 89 = .ok (.aload_n 0, 1) := by decide +kernel
theorem dX10_keep_90 : decode cX10_keep 90 = .ok (.getfield 23, 3) := by decide +kernel
theorem dX10_keep_93 : decode cX10_keep 93 = .ok (.getfield 359, 3) := by decide +kernel
theorem dX10_keep_96 : decode cX10_keep 96 = .ok (.invokevirtual 363, 3) := by decide +kernel
theorem dX10_keep_99 : decode cX10_keep 99 = .ok (.aload_n 0, 1) := by decide +kernel
theorem dX10_keep_100 : decode cX10_keep 100 = .ok (.getfield 10, 3) := by decide +kernel
theorem dX10_keep_103 : decode cX10_keep 103 = .ok (.getfield 320, 3) := by decide +kernel
theorem dX10_keep_106 : decode cX10_keep 106 = .ok (.iload_n 1, 1) := by decide +kernel
theorem dX10_keep_107 : decode cX10_keep 107 = .ok (.aload_n 0, 1) := by decide +kernel
theorem dX10_keep_108 : decode cX10_keep 108 = .ok (.getfield 10, 3) := by decide +kernel
theorem dX10_keep_111 : decode cX10_keep 111 = .ok (.getfield 320, 3) := by decide +kernel
theorem dX10_keep_114 : decode cX10_keep 114 = .ok (.iload_n 1, 1) := by decide +kernel
theorem dX10_keep_115 : decode cX10_keep 115 = .ok (.iaload, 1) := by decide +kernel
theorem dX10_keep_116 : decode cX10_keep 116 = .ok (.iload_n 2, 1) := by decide +kernel
theorem dX10_keep_117 : decode cX10_keep 117 = .ok (.iconst 1, 1) := by decide +kernel
theorem dX10_keep_118 : decode cX10_keep 118 = .ok (.iadd, 1) := by decide +kernel
theorem dX10_keep_119 : decode cX10_keep 119 = .ok (.invokestatic 365, 3) := by decide +kernel
theorem dX10_keep_122 : decode cX10_keep 122 = .ok (.iastore, 1) := by decide +kernel
theorem dX10_keep_123 : decode cX10_keep 123 = .ok (.return_, 1) := by decide +kernel
theorem dX10_landAt_0 : decode cX10_landAt 0 = .ok (.iload_n 1, 1) := by decide +kernel
theorem dX10_landAt_1 : decode cX10_landAt 1 = .ok (.ifCond .lt 28, 3) := by decide +kernel
theorem dX10_landAt_4 : decode cX10_landAt 4 = .ok (.iload_n 1, 1) := by decide +kernel
theorem dX10_landAt_5 : decode cX10_landAt 5 = .ok (.aload_n 0, 1) := by decide +kernel
theorem dX10_landAt_6 : decode cX10_landAt 6 = .ok (.getfield 10, 3) := by decide +kernel
theorem dX10_landAt_9 : decode cX10_landAt 9 = .ok (.getfield 320, 3) := by decide +kernel
theorem dX10_landAt_12 : decode cX10_landAt 12 = .ok (.iconst 0, 1) := by decide +kernel
theorem dX10_landAt_13 : decode cX10_landAt 13 = .ok (.iaload, 1) := by decide +kernel
theorem dX10_landAt_14 : decode cX10_landAt 14 = .ok (.if_icmp .ge 15, 3) := by decide +kernel
theorem dX10_landAt_17 : decode cX10_landAt 17 = .ok (.aload_n 0, 1) := by decide +kernel
theorem dX10_landAt_18 : decode cX10_landAt 18 = .ok (.getfield 10, 3) := by decide +kernel
theorem dX10_landAt_21 : decode cX10_landAt 21 = .ok (.getfield 128, 3) := by decide +kernel
theorem dX10_landAt_24 : decode cX10_landAt 24 = .ok (.iload_n 1, 1) := by decide +kernel
theorem dX10_landAt_25 : decode cX10_landAt 25 = .ok (.aaload, 1) := by decide +kernel
theorem dX10_landAt_26 : decode cX10_landAt 26 = .ok (.goto 4, 3) := by decide +kernel
theorem dX10_landAt_29 : decode cX10_landAt 29 = .ok (.aconst_null, 1) := by decide +kernel
theorem dX10_landAt_30 : decode cX10_landAt 30 = .ok (.areturn, 1) := by decide +kernel
theorem dX10_eveningAt_0 : decode cX10_eveningAt 0 = .ok (.iload_n 1, 1) := by decide +kernel
theorem dX10_eveningAt_1 : decode cX10_eveningAt 1 = .ok (.ifCond .lt 28, 3) := by decide +kernel
theorem dX10_eveningAt_4 : decode cX10_eveningAt 4 = .ok (.iload_n 1, 1) := by decide +kernel
theorem dX10_eveningAt_5 : decode cX10_eveningAt 5 = .ok (.aload_n 0, 1) := by decide +kernel
theorem dX10_eveningAt_6 : decode cX10_eveningAt 6 = .ok (.getfield 10, 3) := by decide +kernel
theorem dX10_eveningAt_9 : decode cX10_eveningAt 9 = .ok (.getfield 320, 3) := by decide +kernel
theorem dX10_eveningAt_12 : decode cX10_eveningAt 12 = .ok (.iconst 1, 1) := by decide +kernel
theorem dX10_eveningAt_13 : decode cX10_eveningAt 13 = .ok (.iaload, 1) := by decide +kernel
theorem dX10_eveningAt_14 : decode cX10_eveningAt 14 = .ok (.if_icmp .ge 15, 3) := by decide +kernel
theorem dX10_eveningAt_17 : decode cX10_eveningAt 17 = .ok (.aload_n 0, 1) := by decide +kernel
theorem dX10_eveningAt_18 : decode cX10_eveningAt 18 = .ok (.getfield 10, 3) := by decide +kernel
theorem dX10_eveningAt_21 : decode cX10_eveningAt 21 = .ok (.getfield 333, 3) := by decide +kernel
theorem dX10_eveningAt_24 : decode cX10_eveningAt 24 = .ok (.iload_n 1, 1) := by decide +kernel
theorem dX10_eveningAt_25 : decode cX10_eveningAt 25 = .ok (.aaload, 1) := by decide +kernel
theorem dX10_eveningAt_26 : decode cX10_eveningAt 26 = .ok (.goto 4, 3) := by decide +kernel
theorem dX10_eveningAt_29 : decode cX10_eveningAt 29 = .ok (.aconst_null, 1) := by decide +kernel
theorem dX10_eveningAt_30 : decode cX10_eveningAt 30 = .ok (.areturn, 1) := by decide +kernel
theorem dX10_sightAt_0 : decode cX10_sightAt 0 = .ok (.iload_n 1, 1) := by decide +kernel
theorem dX10_sightAt_1 : decode cX10_sightAt 1 = .ok (.ifCond .lt 28, 3) := by decide +kernel
theorem dX10_sightAt_4 : decode cX10_sightAt 4 = .ok (.iload_n 1, 1) := by decide +kernel
theorem dX10_sightAt_5 : decode cX10_sightAt 5 = .ok (.aload_n 0, 1) := by decide +kernel
theorem dX10_sightAt_6 : decode cX10_sightAt 6 = .ok (.getfield 10, 3) := by decide +kernel
theorem dX10_sightAt_9 : decode cX10_sightAt 9 = .ok (.getfield 320, 3) := by decide +kernel
theorem dX10_sightAt_12 : decode cX10_sightAt 12 = .ok (.iconst 2, 1) := by decide +kernel
theorem dX10_sightAt_13 : decode cX10_sightAt 13 = .ok (.iaload, 1) := by decide +kernel
theorem dX10_sightAt_14 : decode cX10_sightAt 14 = .ok (.if_icmp .ge 15, 3) := by decide +kernel
theorem dX10_sightAt_17 : decode cX10_sightAt 17 = .ok (.aload_n 0, 1) := by decide +kernel
theorem dX10_sightAt_18 : decode cX10_sightAt 18 = .ok (.getfield 10, 3) := by decide +kernel
theorem dX10_sightAt_21 : decode cX10_sightAt 21 = .ok (.getfield 344, 3) := by decide +kernel
theorem dX10_sightAt_24 : decode cX10_sightAt 24 = .ok (.iload_n 1, 1) := by decide +kernel
theorem dX10_sightAt_25 : decode cX10_sightAt 25 = .ok (.aaload, 1) := by decide +kernel
theorem dX10_sightAt_26 : decode cX10_sightAt 26 = .ok (.goto 4, 3) := by decide +kernel
theorem dX10_sightAt_29 : decode cX10_sightAt 29 = .ok (.aconst_null, 1) := by decide +kernel
theorem dX10_sightAt_30 : decode cX10_sightAt 30 = .ok (.areturn, 1) := by decide +kernel
theorem dX10_choirAt_0 : decode cX10_choirAt 0 = .ok (.iload_n 1, 1) := by decide +kernel
theorem dX10_choirAt_1 : decode cX10_choirAt 1 = .ok (.ifCond .lt 28, 3) := by decide +kernel
theorem dX10_choirAt_4 : decode cX10_choirAt 4 = .ok (.iload_n 1, 1) := by decide +kernel
theorem dX10_choirAt_5 : decode cX10_choirAt 5 = .ok (.aload_n 0, 1) := by decide +kernel
theorem dX10_choirAt_6 : decode cX10_choirAt 6 = .ok (.getfield 10, 3) := by decide +kernel
theorem dX10_choirAt_9 : decode cX10_choirAt 9 = .ok (.getfield 320, 3) := by decide +kernel
theorem dX10_choirAt_12 : decode cX10_choirAt 12 = .ok (.iconst 3, 1) := by decide +kernel
theorem dX10_choirAt_13 : decode cX10_choirAt 13 = .ok (.iaload, 1) := by decide +kernel
theorem dX10_choirAt_14 : decode cX10_choirAt 14 = .ok (.if_icmp .ge 15, 3) := by decide +kernel
theorem dX10_choirAt_17 : decode cX10_choirAt 17 = .ok (.aload_n 0, 1) := by decide +kernel
theorem dX10_choirAt_18 : decode cX10_choirAt 18 = .ok (.getfield 10, 3) := by decide +kernel
theorem dX10_choirAt_21 : decode cX10_choirAt 21 = .ok (.getfield 355, 3) := by decide +kernel
theorem dX10_choirAt_24 : decode cX10_choirAt 24 = .ok (.iload_n 1, 1) := by decide +kernel
theorem dX10_choirAt_25 : decode cX10_choirAt 25 = .ok (.aaload, 1) := by decide +kernel
theorem dX10_choirAt_26 : decode cX10_choirAt 26 = .ok (.goto 4, 3) := by decide +kernel
theorem dX10_choirAt_29 : decode cX10_choirAt 29 = .ok (.aconst_null, 1) := by decide +kernel
theorem dX10_choirAt_30 : decode cX10_choirAt 30 = .ok (.areturn, 1) := by decide +kernel
theorem dX10_reachState_0 : decode cX10_reachState 0 = .ok (.aload_n 0, 1) := by decide +kernel
theorem dX10_reachState_1 : decode cX10_reachState 1 = .ok (.iload_n 1, 1) := by decide +kernel
theorem dX10_reachState_2 : decode cX10_reachState 2 = .ok (.invokevirtual 89, 3) := by decide +kernel
theorem dX10_reachState_5 : decode cX10_reachState 5 = .ok (.astore 4, 2) := by decide +kernel
theorem dX10_reachState_7 : decode cX10_reachState 7 = .ok (.aload_n 0, 1) := by decide +kernel
theorem dX10_reachState_8 : decode cX10_reachState 8 = .ok (.iload_n 2, 1) := by decide +kernel
theorem dX10_reachState_9 : decode cX10_reachState 9 = .ok (.invokevirtual 109, 3) := by decide +kernel
theorem dX10_reachState_12 : decode cX10_reachState 12 = .ok (.astore 5, 2) := by decide +kernel
theorem dX10_reachState_14 : decode cX10_reachState 14 = .ok (.aload 4, 2) := by decide +kernel
theorem dX10_reachState_16 : decode cX10_reachState 16 = .ok (.ifnull 21, 3) := by decide +kernel
theorem dX10_reachState_19 : decode cX10_reachState 19 = .ok (.aload 5, 2) := by decide +kernel
theorem dX10_reachState_21 : decode cX10_reachState 21 = .ok (.ifnull 16, 3) := by decide +kernel
theorem dX10_reachState_24 : decode cX10_reachState 24 = .ok (.iload_n 3, 1) := by decide +kernel
theorem dX10_reachState_25 : decode cX10_reachState 25 = .ok (.ifCond .lt 12, 3) := by decide +kernel
theorem dX10_reachState_28 : decode cX10_reachState 28 = .ok (.iload_n 3, 1) := by decide +kernel
theorem dX10_reachState_29 : decode cX10_reachState 29 = .ok (.aload 5, 2) := by decide +kernel
theorem dX10_reachState_31 : decode cX10_reachState 31 = .ok (.getfield 113, 3) := by decide +kernel
theorem dX10_reachState_34 : decode cX10_reachState 34 = .ok (.if_icmp .le 5, 3) := by decide +kernel
theorem dX10_reachState_37 : decode cX10_reachState 37 = .ok (.iconst 0, 1) := by decide +kernel
theorem dX10_reachState_38 : decode cX10_reachState 38 = .ok (.ireturn, 1) := by decide +kernel
theorem dX10_reachState_39 : decode cX10_reachState 39 = .ok (.aload_n 0, 1) := by decide +kernel
theorem dX10_reachState_40 : decode cX10_reachState 40 = .ok (.getfield 30, 3) := by decide +kernel
theorem dX10_reachState_43 : decode cX10_reachState 43 = .ok (.aload 4, 2) := by decide +kernel
theorem dX10_reachState_45 : decode cX10_reachState 45 = .ok (.aload 5, 2) := by decide +kernel
theorem dX10_reachState_47 : decode cX10_reachState 47 = .ok (.iload_n 3, 1) := by decide +kernel
