theorem dX11_store_16 : decode cX11_store 16 = .ok (.aload_n 0, 1) := by decide +kernel
theorem dX11_store_17 : decode cX11_store 17 = .ok (.getfield 38, 3) := by decide +kernel
theorem dX11_store_20 : decode cX11_store 20 = .ok (.iload 4, 2) := by decide +kernel
theorem dX11_store_22 : decode cX11_store 22 = .ok (.iaload, 1) := by decide +kernel
theorem dX11_store_23 : decode cX11_store 23 = .ok (.iastore, 1) := by decide +kernel
theorem dX11_store_24 : decode cX11_store 24 = .ok (.iinc 4 1, 3) := by decide +kernel
theorem dX11_store_27 : decode cX11_store 27 = .ok (.goto (-24), 3) := by decide +kernel
theorem dX11_store_30 : decode cX11_store 30 = .ok (.return_, 1) := by decide +kernel
theorem dX11_storeAll_0 : decode cX11_storeAll 0 = .ok (.iload_n 1, 1) := by decide +kernel
theorem dX11_storeAll_1 : decode cX11_storeAll 1 = .ok (.tableswitch 64 0 2 #[27, 40, 52], 27) := by decide +kernel
theorem dX11_storeAll_28 : decode cX11_storeAll 28 = .ok (.aload_n 0, 1) := by decide +kernel
theorem dX11_storeAll_29 : decode cX11_storeAll 29 = .ok (.aload_n 0, 1) := by decide +kernel
theorem dX11_storeAll_30 : decode cX11_storeAll 30 = .ok (.getfield 26, 3) := by decide +kernel
theorem dX11_storeAll_33 : decode cX11_storeAll 33 = .ok (.sipush 132, 3) := by decide +kernel
theorem dX11_storeAll_36 : decode cX11_storeAll 36 = .ok (.iload_n 2, 1) := by decide +kernel
theorem dX11_storeAll_37 : decode cX11_storeAll 37 = .ok (.invokevirtual 287, 3) := by decide +kernel
theorem dX11_storeAll_40 : decode cX11_storeAll 40 = .ok (.return_, 1) := by decide +kernel
theorem dX11_storeAll_41 : decode cX11_storeAll 41 = .ok (.aload_n 0, 1) := by decide +kernel
theorem dX11_storeAll_42 : decode cX11_storeAll 42 = .ok (.aload_n 0, 1) := by decide +kernel
theorem dX11_storeAll_43 : decode cX11_storeAll 43 = .ok (.getfield 29, 3) := by decide +kernel
theorem dX11_storeAll_46 : decode cX11_storeAll 46 = .ok (.bipush 121, 2) := by decide +kernel
theorem dX11_storeAll_48 : decode cX11_storeAll 48 = .ok (.iload_n 2, 1) := by decide +kernel
theorem dX11_storeAll_49 : decode cX11_storeAll 49 = .ok (.invokevirtual 287, 3) := by decide +kernel
theorem dX11_storeAll_52 : decode cX11_storeAll 52 = .ok (.return_, 1) := by decide +kernel
theorem dX11_storeAll_53 : decode cX11_storeAll 53 = .ok (.aload_n 0, 1) := by decide +kernel
theorem dX11_storeAll_54 : decode cX11_storeAll 54 = .ok (.aload_n 0, 1) := by decide +kernel
theorem dX11_storeAll_55 : decode cX11_storeAll 55 = .ok (.getfield 32, 3) := by decide +kernel
theorem dX11_storeAll_58 : decode cX11_storeAll 58 = .ok (.bipush 31, 2) := by decide +kernel
theorem dX11_storeAll_60 : decode cX11_storeAll 60 = .ok (.iload_n 2, 1) := by decide +kernel
theorem dX11_storeAll_61 : decode cX11_storeAll 61 = .ok (.invokevirtual 287, 3) := by decide +kernel
theorem dX11_storeAll_64 : decode cX11_storeAll 64 = .ok (.return_, 1) := by decide +kernel
theorem dX11_storeAll_65 : decode cX11_storeAll 65 = .ok (.aload_n 0, 1) := by decide +kernel
theorem dX11_storeAll_66 : decode cX11_storeAll 66 = .ok (.aload_n 0, 1) := by decide +kernel
theorem dX11_storeAll_67 : decode cX11_storeAll 67 = .ok (.getfield 35, 3) := by decide +kernel
theorem dX11_storeAll_70 : decode cX11_storeAll 70 = .ok (.bipush 20, 2) := by decide +kernel
theorem dX11_storeAll_72 : decode cX11_storeAll 72 = .ok (.iload_n 2, 1) := by decide +kernel
theorem dX11_storeAll_73 : decode cX11_storeAll 73 = .ok (.invokevirtual 287, 3) := by decide +kernel
theorem dX11_storeAll_76 : decode cX11_storeAll 76 = .ok (.return_, 1) := by decide +kernel
theorem dX11_text_0 : decode cX11_text 0 = .ok (.aload_n 0, 1) := by decide +kernel
theorem dX11_text_1 : decode cX11_text 1 = .ok (.iconst 0, 1) := by decide +kernel
theorem dX11_text_2 : decode cX11_text 2 = .ok (.putfield 97, 3) := by decide +kernel
theorem dX11_text_5 : decode cX11_text 5 = .ok (.aload_n 0, 1) := by decide +kernel
theorem dX11_text_6 : decode cX11_text 6 = .ok (.aload_n 0, 1) := by decide +kernel
theorem dX11_text_7 : decode cX11_text 7 = .ok (.getfield 13, 3) := by decide +kernel
theorem dX11_text_10 : decode cX11_text 10 = .ok (.iconst 0, 1) := by decide +kernel
theorem dX11_text_11 : decode cX11_text 11 = .ok (.iaload, 1) := by decide +kernel
theorem dX11_text_12 : decode cX11_text 12 = .ok (.putfield 120, 3) := by decide +kernel
theorem dX11_text_15 : decode cX11_text 15 = .ok (.aload_n 0, 1) := by decide +kernel
theorem dX11_text_16 : decode cX11_text 16 = .ok (.getfield 13, 3) := by decide +kernel
theorem dX11_text_19 : decode cX11_text 19 = .ok (.iconst 0, 1) := by decide +kernel
theorem dX11_text_20 : decode cX11_text 20 = .ok (.iconst 0, 1) := by decide +kernel
theorem dX11_text_21 : decode cX11_text 21 = .ok (.iastore, 1) := by decide +kernel
theorem dX11_text_22 : decode cX11_text 22 = .ok (.aload_n 0, 1) := by decide +kernel
theorem dX11_text_23 : decode cX11_text 23 = .ok (.getfield 17, 3) := by decide +kernel
theorem dX11_text_26 : decode cX11_text 26 = .ok (.iconst 0, 1) := by decide +kernel
theorem dX11_text_27 : decode cX11_text 27 = .ok (.iconst 0, 1) := by decide +kernel
theorem dX11_text_28 : decode cX11_text 28 = .ok (.iastore, 1) := by decide +kernel
theorem dX11_text_29 : decode cX11_text 29 = .ok (.aload_n 0, 1) := by decide +kernel
theorem dX11_text_30 : decode cX11_text 30 = .ok (.getfield 20, 3) := by decide +kernel
theorem dX11_text_33 : decode cX11_text 33 = .ok (.iconst 0, 1) := by decide +kernel
theorem dX11_text_34 : decode cX11_text 34 = .ok (.iconst (-1), 1) := by decide +kernel
theorem dX11_text_35 : decode cX11_text 35 = .ok (.iastore, 1) := by decide +kernel
theorem dX11_text_36 : decode cX11_text 36 = .ok (.iload_n 1, 1) := by decide +kernel
theorem dX11_text_37 : decode cX11_text 37 = .ok (.iconst 0, 1) := by decide +kernel
theorem dX11_text_38 : decode cX11_text 38 = .ok (.iconst 3, 1) := by decide +kernel
theorem dX11_text_39 : decode cX11_text 39 = .ok (.invokestatic 109, 3) := by decide +kernel
theorem dX11_text_42 : decode cX11_text 42 = .ok (.ifCond .eq 30, 3) := by decide +kernel
theorem dX11_text_45 : decode cX11_text 45 = .ok (.iload_n 2, 1) := by decide +kernel
theorem dX11_text_46 : decode cX11_text 46 = .ok (.iconst (-1), 1) := by decide +kernel
theorem dX11_text_47 : decode cX11_text 47 = .ok (.if_icmp .ne 16, 3) := by decide +kernel
theorem dX11_text_50 : decode cX11_text 50 = .ok (.aload_n 0, 1) := by decide +kernel
theorem dX11_text_51 : decode cX11_text 51 = .ok (.getfield 23, 3) := by decide +kernel
theorem dX11_text_54 : decode cX11_text 54 = .ok (.iload_n 1, 1) := by decide +kernel
theorem dX11_text_55 : decode cX11_text 55 = .ok (.iaload, 1) := by decide +kernel
theorem dX11_text_56 : decode cX11_text 56 = .ok (.iconst 2, 1) := by decide +kernel
theorem dX11_text_57 : decode cX11_text 57 = .ok (.if_icmp .ne 18, 3) := by decide +kernel
theorem dX11_text_60 : decode cX11_text 60 = .ok (.goto 12, 3) := by decide +kernel
theorem dX11_text_63 : decode cX11_text 63 = .ok (.aload_n 0, 1) := by decide +kernel
theorem dX11_text_64 : decode cX11_text 64 = .ok (.iload_n 1, 1) := by decide +kernel
theorem dX11_text_65 : decode cX11_text 65 = .ok (.iload_n 2, 1) := by decide +kernel
theorem dX11_text_66 : decode cX11_text 66 = .ok (.invokevirtual 291, 3) := by decide +kernel
theorem dX11_text_69 : decode cX11_text 69 = .ok (.ifCond .ne 6, 3) := by decide +kernel
theorem dX11_text_72 : decode cX11_text 72 = .ok (.bipush (-2), 2) := by decide +kernel
theorem dX11_text_74 : decode cX11_text 74 = .ok (.ireturn, 1) := by decide +kernel
theorem dX11_text_75 : decode cX11_text 75 = .ok (.aload_n 0, 1) := by decide +kernel
theorem dX11_text_76 : decode cX11_text 76 = .ok (.iload_n 1, 1) := by decide +kernel
theorem dX11_text_77 : decode cX11_text 77 = .ok (.invokevirtual 294, 3) := by decide +kernel
theorem dX11_text_80 : decode cX11_text 80 = .ok (.ifCond .ne 5, 3) := by decide +kernel
theorem dX11_text_83 : decode cX11_text 83 = .ok (.iconst (-1), 1) := by decide +kernel
theorem dX11_text_84 : decode cX11_text 84 = .ok (.ireturn, 1) := by decide +kernel
theorem dX11_text_85 : decode cX11_text 85 = .ok (.iload_n 2, 1) := by decide +kernel
theorem dX11_text_86 : decode cX11_text 86 = .ok (.iconst (-1), 1) := by decide +kernel
theorem dX11_text_87 : decode cX11_text 87 = .ok (.if_icmp .ne 12, 3) := by decide +kernel
theorem dX11_text_90 : decode cX11_text 90 = .ok (.aload_n 0, 1) := by decide +kernel
theorem dX11_text_91 : decode cX11_text 91 = .ok (.getfield 23, 3) := by decide +kernel
theorem dX11_text_94 : decode cX11_text 94 = .ok (.iload_n 1, 1) := by decide +kernel
theorem dX11_text_95 : decode cX11_text 95 = .ok (.iaload, 1) := by decide +kernel
theorem dX11_text_96 : decode cX11_text 96 = .ok (.goto 4, 3) := by decide +kernel
theorem dX11_text_99 : decode cX11_text 99 = .ok (.iload_n 2, 1) := by decide +kernel
theorem dX11_text_100 : decode cX11_text 100 = .ok (.istore_n 3, 1) := by decide +kernel
theorem dX11_text_101 : decode cX11_text 101 = .ok (.aload_n 0, 1) := by decide +kernel
theorem dX11_text_102 : decode cX11_text 102 = .ok (.getfield 23, 3) := by decide +kernel
theorem dX11_text_105 : decode cX11_text 105 = .ok (.iload_n 1, 1) := by decide +kernel
theorem dX11_text_106 : decode cX11_text 106 = .ok (.dup2, 1) := by decide +kernel
theorem dX11_text_107 : decode cX11_text 107 = .ok (.iaload, 1) := by decide +kernel
theorem dX11_text_108 : decode cX11_text 108 = .ok (.iload_n 2, 1) := by decide +kernel
theorem dX11_text_109 : decode cX11_text 109 = .ok (.iconst (-1), 1) := by decide +kernel
theorem dX11_text_110 : decode cX11_text 110 = .ok (.if_icmp .ne 7, 3) := by decide +kernel
theorem dX11_text_113 : decode cX11_text 113 = .ok (.iconst 1, 1) := by decide +kernel
theorem dX11_text_114 : decode cX11_text 114 = .ok (.goto 4, 3) := by decide +kernel
theorem dX11_text_117 : decode cX11_text 117 = .ok (.iconst 0, 1) := by decide +kernel
theorem dX11_text_118 : decode cX11_text 118 = .ok (.iadd, 1) := by decide +kernel
theorem dX11_text_119 : decode cX11_text 119 = .ok (.iastore, 1) := by decide +kernel
theorem dX11_text_120 : decode cX11_text 120 = .ok (.aload_n 0, 1) := by decide +kernel
theorem dX11_text_121 : decode cX11_text 121 = .ok (.iload_n 1, 1) := by decide +kernel
theorem dX11_text_122 : decode cX11_text 122 = .ok (.iload_n 3, 1) := by decide +kernel
theorem dX11_text_123 : decode cX11_text 123 = .ok (.invokevirtual 297, 3) := by decide +kernel
theorem dX11_text_126 : decode cX11_text 126 = .ok (.iload_n 3, 1) := by decide +kernel
theorem dX11_text_127 : decode cX11_text 127 = .ok (.ireturn, 1) := by decide +kernel
theorem dX11_fault_0 : decode cX11_fault 0 = .ok (.aload_n 0, 1) := by decide +kernel
theorem dX11_fault_1 : decode cX11_fault 1 = .ok (.iconst 0, 1) := by decide +kernel
theorem dX11_fault_2 : decode cX11_fault 2 = .ok (.putfield 97, 3) := by decide +kernel
theorem dX11_fault_5 : decode cX11_fault 5 = .ok (.iload_n 1, 1) := by decide +kernel
theorem dX11_fault_6 : decode cX11_fault 6 = .ok (.ifCond .ne 12, 3) := by decide +kernel
theorem dX11_fault_9 : decode cX11_fault 9 = .ok (.aload_n 0, 1) := by decide +kernel
theorem dX11_fault_10 : decode cX11_fault 10 = .ok (.getfield 17, 3) := by decide +kernel
theorem dX11_fault_13 : decode cX11_fault 13 = .ok (.iconst 0, 1) := by decide +kernel
theorem dX11_fault_14 : decode cX11_fault 14 = .ok (.iaload, 1) := by decide +kernel
theorem dX11_fault_15 : decode cX11_fault 15 = .ok (.goto 18, 3) := by decide +kernel
theorem dX11_fault_18 : decode cX11_fault 18 = .ok (.iload_n 1, 1) := by decide +kernel
theorem dX11_fault_19 : decode cX11_fault 19 = .ok (.iconst 1, 1) := by decide +kernel
theorem dX11_fault_20 : decode cX11_fault 20 = .ok (.if_icmp .ne 12, 3) := by decide +kernel
theorem dX11_fault_23 : decode cX11_fault 23 = .ok (.aload_n 0, 1) := by decide +kernel
theorem dX11_fault_24 : decode cX11_fault 24 = .ok (.getfield 20, 3) := by decide +kernel
theorem dX11_fault_27 : decode cX11_fault 27 = .ok (.iconst 0, 1) := by decide +kernel
theorem dX11_fault_28 : decode cX11_fault 28 = .ok (.iaload, 1) := by decide +kernel
theorem dX11_fault_29 : decode cX11_fault 29 = .ok (.goto 4, 3) := by decide +kernel
theorem dX11_fault_32 : decode cX11_fault 32 = .ok (.iconst (-1), 1) := by decide +kernel
theorem dX11_fault_33 : decode cX11_fault 33 = .ok (.ireturn, 1) := by decide +kernel
theorem dX11_hand_0 : decode cX11_hand 0 = .ok (.aload_n 0, 1) := by decide +kernel
theorem dX11_hand_1 : decode cX11_hand 1 = .ok (.iconst 0, 1) := by decide +kernel
theorem dX11_hand_2 : decode cX11_hand 2 = .ok (.iload_n 1, 1) := by decide +kernel
theorem dX11_hand_3 : decode cX11_hand 3 = .ok (.invokevirtual 291, 3) := by decide +kernel
theorem dX11_hand_6 : decode cX11_hand 6 = .ok (.ifCond .ne 5, 3) := by decide +kernel
theorem dX11_hand_9 : decode cX11_hand 9 = .ok (.iconst 0, 1) := by decide +kernel
theorem dX11_hand_10 : decode cX11_hand 10 = .ok (.ireturn, 1) := by decide +kernel
theorem dX11_hand_11 : decode cX11_hand 11 = .ok (.aload_n 0, 1) := by decide +kernel
theorem dX11_hand_12 : decode cX11_hand 12 = .ok (.iload_n 1, 1) := by decide +kernel
theorem dX11_hand_13 : decode cX11_hand 13 = .ok (.putfield 300, 3) := by decide +kernel
theorem dX11_hand_16 : decode cX11_hand 16 = .ok (.aload_n 0, 1) := by decide +kernel
theorem dX11_hand_17 : decode cX11_hand 17 = .ok (.aload_n 0, 1) := by decide +kernel
theorem dX11_hand_18 : decode cX11_hand 18 = .ok (.iconst 0, 1) := by decide +kernel
theorem dX11_land_0 : decode cX11_land 0 = .ok (.aload_n 0, 1) := by decide +kernel
theorem dX11_land_1 : decode cX11_land 1 = .ok (.iconst 0, 1) := by decide +kernel
theorem dX11_land_2 : decode cX11_land 2 = .ok (.putfield 97, 3) := by decide +kernel
theorem dX11_land_5 : decode cX11_land 5 = .ok (.aload_n 0, 1) := by decide +kernel
theorem dX11_land_6 : decode cX11_land 6 = .ok (.iload_n 1, 1) := by decide +kernel
theorem dX11_land_7 : decode cX11_land 7 = .ok (.invokevirtual 313, 3) := by decide +kernel
theorem dX11_land_10 : decode cX11_land 10 = .ok (.ifCond .ne 5, 3) := by decide +kernel
theorem dX11_land_13 : decode cX11_land 13 = .ok (.iconst (-1), 1) := by decide +kernel
theorem dX11_land_14 : decode cX11_land 14 = .ok (.ireturn, 1) := by decide +kernel
theorem dX11_land_15 : decode cX11_land 15 = .ok (.iload_n 2, 1) := by decide +kernel
theorem dX11_land_16 : decode cX11_land 16 = .ok (.bipush 60, 2) := by decide +kernel
theorem dX11_land_18 : decode cX11_land 18 = .ok (.sipush 140, 3) := by decide +kernel
theorem dX11_land_21 : decode cX11_land 21 = .ok (.invokestatic 109, 3) := by decide +kernel
theorem dX11_land_24 : decode cX11_land 24 = .ok (.ifCond .eq 49, 3) := by decide +kernel
theorem dX11_land_27 : decode cX11_land 27 = .ok (.iload_n 2, 1) := by decide +kernel
theorem dX11_land_28 : decode cX11_land 28 = .ok (.bipush 60, 2) := by decide +kernel
theorem dX11_land_30 : decode cX11_land 30 = .ok (.isub, 1) := by decide +kernel
theorem dX11_land_31 : decode cX11_land 31 = .ok (.bipush 9, 2) := by decide +kernel
theorem dX11_land_33 : decode cX11_land 33 = .ok (.idiv, 1) := by decide +kernel
theorem dX11_land_34 : decode cX11_land 34 = .ok (.istore_n 3, 1) := by decide +kernel
theorem dX11_land_35 : decode cX11_land 35 = .ok (.iload_n 2, 1) := by decide +kernel
theorem dX11_land_36 : decode cX11_land 36 = .ok (.bipush 60, 2) := by decide +kernel
theorem dX11_land_38 : decode cX11_land 38 = .ok (.isub, 1) := by decide +kernel
theorem dX11_land_39 : decode cX11_land 39 = .ok (.bipush 9, 2) := by decide +kernel
theorem dX11_land_41 : decode cX11_land 41 = .ok (.irem, 1) := by decide +kernel
theorem dX11_land_42 : decode cX11_land 42 = .ok (.istore 4, 2) := by decide +kernel
theorem dX11_land_44 : decode cX11_land 44 = .ok (.aload_n 0, 1) := by decide +kernel
theorem dX11_land_45 : decode cX11_land 45 = .ok (.iload_n 3, 1) := by decide +kernel
theorem dX11_land_73 : decode cX11_land 73 = .ok (.iload_n 2, 1) := by decide +kernel
theorem dX11_land_74 : decode cX11_land 74 = .ok (.bipush 10, 2) := by decide +kernel
theorem dX11_land_76 : decode cX11_land 76 = .ok (.irem, 1) := by decide +kernel
theorem dX11_land_77 : decode cX11_land 77 = .ok (.istore_n 3, 1) := by decide +kernel
theorem dX11_land_78 : decode cX11_land 78 = .ok (.iload_n 2, 1) := by decide +kernel
theorem dX11_land_79 : decode cX11_land 79 = .ok (.bipush 10, 2) := by decide +kernel
theorem dX11_land_81 : decode cX11_land 81 = .ok (.idiv, 1) := by decide +kernel
theorem dX11_land_82 : decode cX11_land 82 = .ok (.tableswitch 136 1 5 #[34, 52, 73, 94, 115], 34) := by decide +kernel
theorem dX11_land_116 : decode cX11_land 116 = .ok (.aload_n 0, 1) := by decide +kernel
theorem dX11_land_117 : decode cX11_land 117 = .ok (.iload_n 3, 1) := by decide +kernel
theorem dX11_land_134 : decode cX11_land 134 = .ok (.aload_n 0, 1) := by decide +kernel
theorem dX11_land_135 : decode cX11_land 135 = .ok (.iload_n 3, 1) := by decide +kernel
theorem dX11_land_155 : decode cX11_land 155 = .ok (.aload_n 0, 1) := by decide +kernel
theorem dX11_land_156 : decode cX11_land 156 = .ok (.iload_n 3, 1) := by decide +kernel
theorem dX11_land_176 : decode cX11_land 176 = .ok (.aload_n 0, 1) := by decide +kernel
theorem dX11_land_177 : decode cX11_land 177 = .ok (.iload_n 3, 1) := by decide +kernel
theorem dX11_land_197 : decode cX11_land 197 = .ok (.aload_n 0, 1) := by decide +kernel
theorem dX11_land_198 : decode cX11_land 198 = .ok (.iload_n 3, 1) := by decide +kernel
theorem dX11_land_218 : decode cX11_land 218 = .ok (.iload_n 2, 1) := by decide +kernel
theorem dX11_land_219 : decode cX11_land 219 = .ok (.iconst 0, 1) := by decide +kernel
theorem dX11_land_220 : decode cX11_land 220 = .ok (.bipush 6, 2) := by decide +kernel
theorem dX11_land_222 : decode cX11_land 222 = .ok (.invokestatic 109, 3) := by decide +kernel
theorem dX11_land_225 : decode cX11_land 225 = .ok (.ifCond .eq 11, 3) := by decide +kernel
theorem dX11_land_228 : decode cX11_land 228 = .ok (.aload_n 0, 1) := by decide +kernel
theorem dX11_land_229 : decode cX11_land 229 = .ok (.iload_n 2, 1) := by decide +kernel
theorem dX11_land_236 : decode cX11_land 236 = .ok (.iconst (-1), 1) := by decide +kernel
theorem dX11_land_237 : decode cX11_land 237 = .ok (.ireturn, 1) := by decide +kernel
theorem dX11_echo_0 : decode cX11_echo 0 = .ok (.aload_n 0, 1) := by decide +kernel
theorem dX11_echo_1 : decode cX11_echo 1 = .ok (.iconst 0, 1) := by decide +kernel
theorem dX11_echo_2 : decode cX11_echo 2 = .ok (.putfield 97, 3) := by decide +kernel
theorem dX11_echo_5 : decode cX11_echo 5 = .ok (.aload_n 0, 1) := by decide +kernel
theorem dX11_echo_6 : decode cX11_echo 6 = .ok (.iload_n 1, 1) := by decide +kernel
theorem dX11_echo_7 : decode cX11_echo 7 = .ok (.invokevirtual 313, 3) := by decide +kernel
theorem dX11_echo_10 : decode cX11_echo 10 = .ok (.ifCond .eq 42, 3) := by decide +kernel
theorem dX11_echo_13 : decode cX11_echo 13 = .ok (.iload_n 2, 1) := by decide +kernel
theorem dX11_echo_14 : decode cX11_echo 14 = .ok (.iconst 0, 1) := by decide +kernel
theorem dX11_echo_15 : decode cX11_echo 15 = .ok (.aload_n 0, 1) := by decide +kernel
theorem dX11_echo_16 : decode cX11_echo 16 = .ok (.iconst 4, 1) := by decide +kernel
theorem dX11_echo_52 : decode cX11_echo 52 = .ok (.iconst (-1), 1) := by decide +kernel
theorem dX11_echo_53 : decode cX11_echo 53 = .ok (.ireturn, 1) := by decide +kernel
theorem dX11_hasEvening_0 : decode cX11_hasEvening 0 = .ok (.aload_n 0, 1) := by decide +kernel
theorem dX11_hasEvening_1 : decode cX11_hasEvening 1 = .ok (.iload_n 1, 1) := by decide +kernel
theorem dX11_hasEvening_2 : decode cX11_hasEvening 2 = .ok (.putfield 328, 3) := by decide +kernel
theorem dX11_hasEvening_5 : decode cX11_hasEvening 5 = .ok (.aload_n 0, 1) := by decide +kernel
theorem dX11_hasEvening_6 : decode cX11_hasEvening 6 = .ok (.iconst 1, 1) := by decide +kernel
theorem dX11_hasEvening_7 : decode cX11_hasEvening 7 = .ok (.iload_n 1, 1) := by decide +kernel
theorem dX11_hasEvening_8 : decode cX11_hasEvening 8 = .ok (.invokevirtual 291, 3) := by decide +kernel
theorem dX11_hasEvening_11 : decode cX11_hasEvening 11 = .ok (.ireturn, 1) := by decide +kernel
theorem dX11_deed_0 : decode cX11_deed 0 = .ok (.aload_n 0, 1) := by decide +kernel
theorem dX11_deed_1 : decode cX11_deed 1 = .ok (.iconst 0, 1) := by decide +kernel
theorem dX11_deed_2 : decode cX11_deed 2 = .ok (.putfield 97, 3) := by decide +kernel
theorem dX11_deed_5 : decode cX11_deed 5 = .ok (.aload_n 0, 1) := by decide +kernel
theorem dX11_deed_6 : decode cX11_deed 6 = .ok (.iload_n 1, 1) := by decide +kernel
theorem dX11_deed_7 : decode cX11_deed 7 = .ok (.invokevirtual 331, 3) := by decide +kernel
theorem dX11_deed_10 : decode cX11_deed 10 = .ok (.ifCond .ne 6, 3) := by decide +kernel
theorem dX11_deed_13 : decode cX11_deed 13 = .ok (.bipush (-2), 2) := by decide +kernel
theorem dX11_deed_15 : decode cX11_deed 15 = .ok (.ireturn, 1) := by decide +kernel
theorem dX11_deed_16 : decode cX11_deed 16 = .ok (.iload_n 2, 1) := by decide +kernel
theorem dX11_deed_17 : decode cX11_deed 17 = .ok (.iconst (-1), 1) := by decide +kernel
theorem dX11_deed_18 : decode cX11_deed 18 = .ok (.if_icmp .ne 17, 3) := by decide +kernel
theorem dX11_deed_21 : decode cX11_deed 21 = .ok (.iload_n 3, 1) := by decide +kernel
theorem dX11_deed_22 : decode cX11_deed 22 = .ok (.ifCond .ne 10, 3) := by decide +kernel
theorem dX11_deed_25 : decode cX11_deed 25 = .ok (.aload_n 0, 1) := by decide +kernel
theorem dX11_deed_32 : decode cX11_deed 32 = .ok (.bipush (-2), 2) := by decide +kernel
theorem dX11_deed_34 : decode cX11_deed 34 = .ok (.ireturn, 1) := by decide +kernel
theorem dX11_deed_35 : decode cX11_deed 35 = .ok (.iload_n 2, 1) := by decide +kernel
theorem dX11_deed_36 : decode cX11_deed 36 = .ok (.iconst 0, 1) := by decide +kernel
theorem dX11_deed_37 : decode cX11_deed 37 = .ok (.aload_n 0, 1) := by decide +kernel
theorem dX11_layAll_0 : decode cX11_layAll 0 = .ok (.aload_n 0, 1) := by decide +kernel
theorem dX11_layAll_1 : decode cX11_layAll 1 = .ok (.iload_n 2, 1) := by decide +kernel
theorem dX11_layAll_2 : decode cX11_layAll 2 = .ok (.invokevirtual 331, 3) := by decide +kernel
theorem dX11_layAll_5 : decode cX11_layAll 5 = .ok (.ifCond .eq 15, 3) := by decide +kernel
theorem dX11_layAll_8 : decode cX11_layAll 8 = .ok (.aload_n 0, 1) := by decide +kernel
theorem dX11_layAll_9 : decode cX11_layAll 9 = .ok (.iload_n 1, 1) := by decide +kernel
theorem dX11_layAll_10 : decode cX11_layAll 10 = .ok (.invokevirtual 313, 3) := by decide +kernel
theorem dX11_layAll_13 : decode cX11_layAll 13 = .ok (.ifCond .eq 7, 3) := by decide +kernel
theorem dX11_layAll_16 : decode cX11_layAll 16 = .ok (.iconst 1, 1) := by decide +kernel
theorem dX11_layAll_17 : decode cX11_layAll 17 = .ok (.goto 4, 3) := by decide +kernel
theorem dX11_layAll_20 : decode cX11_layAll 20 = .ok (.iconst 0, 1) := by decide +kernel
theorem dX11_layAll_21 : decode cX11_layAll 21 = .ok (.ireturn, 1) := by decide +kernel
theorem dX11_stop_0 : decode cX11_stop 0 = .ok (.aload_n 0, 1) := by decide +kernel
theorem dX11_stop_1 : decode cX11_stop 1 = .ok (.iconst 0, 1) := by decide +kernel
theorem dX11_stop_2 : decode cX11_stop 2 = .ok (.putfield 97, 3) := by decide +kernel
theorem dX11_stop_5 : decode cX11_stop 5 = .ok (.aload_n 0, 1) := by decide +kernel
theorem dX11_stop_6 : decode cX11_stop 6 = .ok (.iload_n 1, 1) := by decide +kernel
theorem dX11_stop_7 : decode cX11_stop 7 = .ok (.iload_n 2, 1) := by decide +kernel
theorem dX11_stop_8 : decode cX11_stop 8 = .ok (.invokevirtual 383, 3) := by decide +kernel
theorem dX11_stop_11 : decode cX11_stop 11 = .ok (.ifCond .eq 14, 3) := by decide +kernel
theorem dX11_stop_14 : decode cX11_stop 14 = .ok (.aload_n 0, 1) := by decide +kernel
theorem dX11_stop_15 : decode cX11_stop 15 = .ok (.aload_n 0, 1) := by decide +kernel
theorem dX11_stop_25 : decode cX11_stop 25 = .ok (.iconst (-1), 1) := by decide +kernel
theorem dX11_stop_26 : decode cX11_stop 26 = .ok (.ireturn, 1) := by decide +kernel
theorem dX11_state_0 : decode cX11_state 0 = .ok (.aload_n 0, 1) := by decide +kernel
theorem dX11_state_1 : decode cX11_state 1 = .ok (.iconst 0, 1) := by decide +kernel
theorem dX11_state_2 : decode cX11_state 2 = .ok (.putfield 97, 3) := by decide +kernel
theorem dX11_state_5 : decode cX11_state 5 = .ok (.aload_n 0, 1) := by decide +kernel
theorem dX11_state_6 : decode cX11_state 6 = .ok (.iload_n 1, 1) := by decide +kernel
theorem dX11_state_7 : decode cX11_state 7 = .ok (.iload_n 2, 1) := by decide +kernel
theorem dX11_state_8 : decode cX11_state 8 = .ok (.invokevirtual 383, 3) := by decide +kernel
theorem dX11_state_11 : decode cX11_state 11 = .ok (.ifCond .eq 33, 3) := by decide +kernel
theorem dX11_state_14 : decode cX11_state 14 = .ok (.iload_n 3, 1) := by decide +kernel
theorem dX11_state_15 : decode cX11_state 15 = .ok (.iconst 0, 1) := by decide +kernel
theorem dX11_state_16 : decode cX11_state 16 = .ok (.aload_n 0, 1) := by decide +kernel
theorem dX11_state_44 : decode cX11_state 44 = .ok (.sipush (-1000), 3) := by decide +kernel
theorem dX11_state_47 : decode cX11_state 47 = .ok (.ireturn, 1) := by decide +kernel
theorem dX11_comes_0 : decode cX11_comes 0 = .ok (.aload_n 0, 1) := by decide +kernel
theorem dX11_comes_1 : decode cX11_comes 1 = .ok (.iconst 0, 1) := by decide +kernel
theorem dX11_comes_2 : decode cX11_comes 2 = .ok (.putfield 97, 3) := by decide +kernel
theorem dX11_comes_5 : decode cX11_comes 5 = .ok (.aload_n 0, 1) := by decide +kernel
theorem dX11_comes_6 : decode cX11_comes 6 = .ok (.iload_n 1, 1) := by decide +kernel
theorem dX11_comes_7 : decode cX11_comes 7 = .ok (.invokevirtual 313, 3) := by decide +kernel
theorem dX11_comes_10 : decode cX11_comes 10 = .ok (.ifCond .eq 19, 3) := by decide +kernel
theorem dX11_comes_13 : decode cX11_comes 13 = .ok (.aload_n 0, 1) := by decide +kernel
theorem dX11_comes_14 : decode cX11_comes 14 = .ok (.iload_n 2, 1) := by decide +kernel
theorem dX11_comes_29 : decode cX11_comes 29 = .ok (.iconst (-1), 1) := by decide +kernel
theorem dX11_comes_30 : decode cX11_comes 30 = .ok (.ireturn, 1) := by decide +kernel
