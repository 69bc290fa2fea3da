theorem dX11_villages_0 : decode cX11_villages 0 = .ok (.aload_n 0, 1) := by decide +kernel
theorem dX11_villages_1 : decode cX11_villages 1 = .ok (.iconst 0, 1) := by decide +kernel
theorem dX11_villages_2 : decode cX11_villages 2 = .ok (.putfield 97, 3) := by decide +kernel
theorem dX11_villages_5 : decode cX11_villages 5 = .ok (.aload_n 0, 1) := by decide +kernel
theorem dX11_villages_6 : decode cX11_villages 6 = .ok (.iload_n 1, 1) := by decide +kernel
theorem dX11_villages_7 : decode cX11_villages 7 = .ok (.invokevirtual 313, 3) := by decide +kernel
theorem dX11_villages_10 : decode cX11_villages 10 = .ok (.ifCond .eq 22, 3) := by decide +kernel
theorem dX11_villages_13 : decode cX11_villages 13 = .ok (.iload_n 2, 1) := by decide +kernel
theorem dX11_villages_14 : decode cX11_villages 14 = .ok (.iconst 0, 1) := by decide +kernel
theorem dX11_villages_15 : decode cX11_villages 15 = .ok (.bipush 99, 2) := by decide +kernel
theorem dX11_villages_17 : decode cX11_villages 17 = .ok (.invokestatic 109, 3) := by decide +kernel
theorem dX11_villages_20 : decode cX11_villages 20 = .ok (.ifCond .eq 12, 3) := by decide +kernel
theorem dX11_villages_23 : decode cX11_villages 23 = .ok (.iload_n 3, 1) := by decide +kernel
theorem dX11_villages_24 : decode cX11_villages 24 = .ok (.iconst 0, 1) := by decide +kernel
theorem dX11_villages_25 : decode cX11_villages 25 = .ok (.iconst 1, 1) := by decide +kernel
theorem dX11_villages_26 : decode cX11_villages 26 = .ok (.invokestatic 109, 3) := by decide +kernel
theorem dX11_villages_29 : decode cX11_villages 29 = .ok (.ifCond .ne 6, 3) := by decide +kernel
theorem dX11_villages_32 : decode cX11_villages 32 = .ok (.bipush (-2), 2) := by decide +kernel
theorem dX11_villages_34 : decode cX11_villages 34 = .ok (.ireturn, 1) := by decide +kernel
theorem dX11_villages_35 : decode cX11_villages 35 = .ok (.aload_n 0, 1) := by decide +kernel
theorem dX11_villages_36 : decode cX11_villages 36 = .ok (.iload_n 2, 1) := by decide +kernel
theorem dX11_best_0 : decode cX11_best 0 = .ok (.aload_n 0, 1) := by decide +kernel
theorem dX11_best_1 : decode cX11_best 1 = .ok (.iconst 0, 1) := by decide +kernel
theorem dX11_best_2 : decode cX11_best 2 = .ok (.putfield 97, 3) := by decide +kernel
theorem dX11_best_5 : decode cX11_best 5 = .ok (.aload_n 0, 1) := by decide +kernel
theorem dX11_best_6 : decode cX11_best 6 = .ok (.iload_n 1, 1) := by decide +kernel
theorem dX11_best_7 : decode cX11_best 7 = .ok (.invokevirtual 313, 3) := by decide +kernel
theorem dX11_best_10 : decode cX11_best 10 = .ok (.ifCond .ne 5, 3) := by decide +kernel
theorem dX11_best_13 : decode cX11_best 13 = .ok (.iconst (-1), 1) := by decide +kernel
theorem dX11_best_14 : decode cX11_best 14 = .ok (.ireturn, 1) := by decide +kernel
theorem dX11_best_15 : decode cX11_best 15 = .ok (.iconst (-1), 1) := by decide +kernel
theorem dX11_best_16 : decode cX11_best 16 = .ok (.istore_n 3, 1) := by decide +kernel
theorem dX11_best_17 : decode cX11_best 17 = .ok (.ldc_w 410, 3) := by decide +kernel
theorem dX11_best_20 : decode cX11_best 20 = .ok (.istore 4, 2) := by decide +kernel
theorem dX11_best_22 : decode cX11_best 22 = .ok (.iconst 0, 1) := by decide +kernel
theorem dX11_best_23 : decode cX11_best 23 = .ok (.istore 5, 2) := by decide +kernel
theorem dX11_best_25 : decode cX11_best 25 = .ok (.iload 5, 2) := by decide +kernel
theorem dX11_best_27 : decode cX11_best 27 = .ok (.aload_n 0, 1) := by decide +kernel
theorem dX11_best_28 : decode cX11_best 28 = .ok (.getfield 307, 3) := by decide +kernel
theorem dX11_best_31 : decode cX11_best 31 = .ok (.if_icmp .ge 60, 3) := by decide +kernel
theorem dX11_best_34 : decode cX11_best 34 = .ok (.aload_n 0, 1) := by decide +kernel
theorem dX11_best_35 : decode cX11_best 35 = .ok (.iload 5, 2) := by decide +kernel
theorem dX11_best_37 : decode cX11_best 37 = .ok (.iconst 0, 1) := by decide +kernel
theorem dX11_best_91 : decode cX11_best 91 = .ok (.iload_n 3, 1) := by decide +kernel
theorem dX11_best_92 : decode cX11_best 92 = .ok (.iconst (-1), 1) := by decide +kernel
theorem dX11_best_93 : decode cX11_best 93 = .ok (.if_icmp .eq 7, 3) := by decide +kernel
theorem dX11_best_96 : decode cX11_best 96 = .ok (.iload_n 2, 1) := by decide +kernel
theorem dX11_best_97 : decode cX11_best 97 = .ok (.ifCond .ne 7, 3) := by decide +kernel
theorem dX11_best_100 : decode cX11_best 100 = .ok (.iload_n 3, 1) := by decide +kernel
theorem dX11_best_101 : decode cX11_best 101 = .ok (.goto 5, 3) := by decide +kernel
theorem dX11_best_104 : decode cX11_best 104 = .ok (.iload 4, 2) := by decide +kernel
theorem dX11_best_106 : decode cX11_best 106 = .ok (.ireturn, 1) := by decide +kernel
theorem dX11_routes_0 : decode cX11_routes 0 = .ok (.aload_n 0, 1) := by decide +kernel
theorem dX11_routes_1 : decode cX11_routes 1 = .ok (.iconst 0, 1) := by decide +kernel
theorem dX11_routes_2 : decode cX11_routes 2 = .ok (.putfield 97, 3) := by decide +kernel
theorem dX11_routes_5 : decode cX11_routes 5 = .ok (.aload_n 0, 1) := by decide +kernel
theorem dX11_routes_6 : decode cX11_routes 6 = .ok (.iload_n 1, 1) := by decide +kernel
theorem dX11_routes_7 : decode cX11_routes 7 = .ok (.invokevirtual 313, 3) := by decide +kernel
theorem dX11_routes_10 : decode cX11_routes 10 = .ok (.ifCond .eq 34, 3) := by decide +kernel
theorem dX11_routes_13 : decode cX11_routes 13 = .ok (.aload_n 0, 1) := by decide +kernel
theorem dX11_routes_14 : decode cX11_routes 14 = .ok (.iload_n 2, 1) := by decide +kernel
theorem dX11_routes_44 : decode cX11_routes 44 = .ok (.bipush (-2), 2) := by decide +kernel
theorem dX11_routes_46 : decode cX11_routes 46 = .ok (.ireturn, 1) := by decide +kernel
theorem dX11_mutes_0 : decode cX11_mutes 0 = .ok (.aload_n 0, 1) := by decide +kernel
theorem dX11_mutes_1 : decode cX11_mutes 1 = .ok (.iconst 0, 1) := by decide +kernel
theorem dX11_mutes_2 : decode cX11_mutes 2 = .ok (.putfield 97, 3) := by decide +kernel
theorem dX11_mutes_5 : decode cX11_mutes 5 = .ok (.aload_n 0, 1) := by decide +kernel
theorem dX11_mutes_6 : decode cX11_mutes 6 = .ok (.iload_n 1, 1) := by decide +kernel
theorem dX11_mutes_7 : decode cX11_mutes 7 = .ok (.invokevirtual 313, 3) := by decide +kernel
theorem dX11_mutes_10 : decode cX11_mutes 10 = .ok (.ifCond .eq 45, 3) := by decide +kernel
theorem dX11_mutes_13 : decode cX11_mutes 13 = .ok (.aload_n 0, 1) := by decide +kernel
theorem dX11_mutes_14 : decode cX11_mutes 14 = .ok (.iload_n 2, 1) := by decide +kernel
theorem dX11_mutes_55 : decode cX11_mutes 55 = .ok (.bipush (-2), 2) := by decide +kernel
theorem dX11_mutes_57 : decode cX11_mutes 57 = .ok (.ireturn, 1) := by decide +kernel
theorem dX11_masses_0 : decode cX11_masses 0 = .ok (.aload_n 0, 1) := by decide +kernel
theorem dX11_masses_1 : decode cX11_masses 1 = .ok (.iconst 0, 1) := by decide +kernel
theorem dX11_masses_2 : decode cX11_masses 2 = .ok (.putfield 97, 3) := by decide +kernel
theorem dX11_masses_5 : decode cX11_masses 5 = .ok (.aload_n 0, 1) := by decide +kernel
theorem dX11_masses_6 : decode cX11_masses 6 = .ok (.iload_n 1, 1) := by decide +kernel
theorem dX11_masses_7 : decode cX11_masses 7 = .ok (.invokevirtual 313, 3) := by decide +kernel
theorem dX11_masses_10 : decode cX11_masses 10 = .ok (.ifCond .eq 13, 3) := by decide +kernel
theorem dX11_masses_13 : decode cX11_masses 13 = .ok (.iload_n 2, 1) := by decide +kernel
theorem dX11_masses_14 : decode cX11_masses 14 = .ok (.iconst 0, 1) := by decide +kernel
theorem dX11_masses_15 : decode cX11_masses 15 = .ok (.bipush 99, 2) := by decide +kernel
theorem dX11_masses_17 : decode cX11_masses 17 = .ok (.invokestatic 109, 3) := by decide +kernel
theorem dX11_masses_20 : decode cX11_masses 20 = .ok (.ifCond .ne 5, 3) := by decide +kernel
theorem dX11_masses_23 : decode cX11_masses 23 = .ok (.iconst (-1), 1) := by decide +kernel
theorem dX11_masses_24 : decode cX11_masses 24 = .ok (.ireturn, 1) := by decide +kernel
theorem dX11_masses_25 : decode cX11_masses 25 = .ok (.aload_n 0, 1) := by decide +kernel
theorem dX11_hasSight_0 : decode cX11_hasSight 0 = .ok (.aload_n 0, 1) := by decide +kernel
theorem dX11_hasSight_1 : decode cX11_hasSight 1 = .ok (.iload_n 1, 1) := by decide +kernel
theorem dX11_hasSight_2 : decode cX11_hasSight 2 = .ok (.putfield 457, 3) := by decide +kernel
theorem dX11_hasSight_5 : decode cX11_hasSight 5 = .ok (.aload_n 0, 1) := by decide +kernel
theorem dX11_hasSight_6 : decode cX11_hasSight 6 = .ok (.iconst 2, 1) := by decide +kernel
theorem dX11_hasSight_7 : decode cX11_hasSight 7 = .ok (.iload_n 1, 1) := by decide +kernel
theorem dX11_hasSight_8 : decode cX11_hasSight 8 = .ok (.invokevirtual 291, 3) := by decide +kernel
theorem dX11_hasSight_11 : decode cX11_hasSight 11 = .ok (.ireturn, 1) := by decide +kernel
theorem dX11_fact_0 : decode cX11_fact 0 = .ok (.aload_n 0, 1) := by decide +kernel
theorem dX11_fact_1 : decode cX11_fact 1 = .ok (.iconst 0, 1) := by decide +kernel
theorem dX11_fact_2 : decode cX11_fact 2 = .ok (.putfield 97, 3) := by decide +kernel
theorem dX11_fact_5 : decode cX11_fact 5 = .ok (.aload_n 0, 1) := by decide +kernel
theorem dX11_fact_6 : decode cX11_fact 6 = .ok (.iload_n 1, 1) := by decide +kernel
theorem dX11_fact_7 : decode cX11_fact 7 = .ok (.invokevirtual 460, 3) := by decide +kernel
theorem dX11_fact_10 : decode cX11_fact 10 = .ok (.ifCond .ne 6, 3) := by decide +kernel
theorem dX11_fact_13 : decode cX11_fact 13 = .ok (.bipush (-2), 2) := by decide +kernel
theorem dX11_fact_15 : decode cX11_fact 15 = .ok (.ireturn, 1) := by decide +kernel
theorem dX11_fact_16 : decode cX11_fact 16 = .ok (.iload_n 2, 1) := by decide +kernel
theorem dX11_fact_17 : decode cX11_fact 17 = .ok (.iconst (-1), 1) := by decide +kernel
theorem dX11_fact_18 : decode cX11_fact 18 = .ok (.if_icmp .ne 17, 3) := by decide +kernel
theorem dX11_fact_21 : decode cX11_fact 21 = .ok (.iload_n 3, 1) := by decide +kernel
theorem dX11_fact_22 : decode cX11_fact 22 = .ok (.ifCond .ne 10, 3) := by decide +kernel
theorem dX11_fact_25 : decode cX11_fact 25 = .ok (.aload_n 0, 1) := by decide +kernel
theorem dX11_fact_32 : decode cX11_fact 32 = .ok (.bipush (-2), 2) := by decide +kernel
theorem dX11_fact_34 : decode cX11_fact 34 = .ok (.ireturn, 1) := by decide +kernel
theorem dX11_fact_35 : decode cX11_fact 35 = .ok (.iload_n 2, 1) := by decide +kernel
theorem dX11_fact_36 : decode cX11_fact 36 = .ok (.iconst 0, 1) := by decide +kernel
theorem dX11_fact_37 : decode cX11_fact 37 = .ok (.aload_n 0, 1) := by decide +kernel
theorem dX11_fits_0 : decode cX11_fits 0 = .ok (.aload_n 0, 1) := by decide +kernel
theorem dX11_fits_1 : decode cX11_fits 1 = .ok (.iconst 0, 1) := by decide +kernel
theorem dX11_fits_2 : decode cX11_fits 2 = .ok (.putfield 97, 3) := by decide +kernel
theorem dX11_fits_5 : decode cX11_fits 5 = .ok (.aload_n 0, 1) := by decide +kernel
theorem dX11_fits_6 : decode cX11_fits 6 = .ok (.iload_n 2, 1) := by decide +kernel
theorem dX11_fits_7 : decode cX11_fits 7 = .ok (.invokevirtual 460, 3) := by decide +kernel
theorem dX11_fits_10 : decode cX11_fits 10 = .ok (.ifCond .eq 11, 3) := by decide +kernel
theorem dX11_fits_13 : decode cX11_fits 13 = .ok (.aload_n 0, 1) := by decide +kernel
theorem dX11_fits_14 : decode cX11_fits 14 = .ok (.iload_n 1, 1) := by decide +kernel
theorem dX11_fits_15 : decode cX11_fits 15 = .ok (.invokevirtual 313, 3) := by decide +kernel
theorem dX11_fits_18 : decode cX11_fits 18 = .ok (.ifCond .ne 6, 3) := by decide +kernel
theorem dX11_fits_21 : decode cX11_fits 21 = .ok (.bipush (-2), 2) := by decide +kernel
theorem dX11_fits_23 : decode cX11_fits 23 = .ok (.ireturn, 1) := by decide +kernel
theorem dX11_fits_24 : decode cX11_fits 24 = .ok (.iconst 0, 1) := by decide +kernel
theorem dX11_fits_25 : decode cX11_fits 25 = .ok (.istore 4, 2) := by decide +kernel
theorem dX11_fits_27 : decode cX11_fits 27 = .ok (.iload 4, 2) := by decide +kernel
theorem dX11_fits_29 : decode cX11_fits 29 = .ok (.aload_n 0, 1) := by decide +kernel
theorem dX11_hasChoir_0 : decode cX11_hasChoir 0 = .ok (.aload_n 0, 1) := by decide +kernel
theorem dX11_hasChoir_1 : decode cX11_hasChoir 1 = .ok (.iload_n 1, 1) := by decide +kernel
theorem dX11_hasChoir_2 : decode cX11_hasChoir 2 = .ok (.putfield 475, 3) := by decide +kernel
theorem dX11_hasChoir_5 : decode cX11_hasChoir 5 = .ok (.aload_n 0, 1) := by decide +kernel
theorem dX11_hasChoir_6 : decode cX11_hasChoir 6 = .ok (.iconst 3, 1) := by decide +kernel
theorem dX11_hasChoir_7 : decode cX11_hasChoir 7 = .ok (.iload_n 1, 1) := by decide +kernel
theorem dX11_hasChoir_8 : decode cX11_hasChoir 8 = .ok (.invokevirtual 291, 3) := by decide +kernel
theorem dX11_hasChoir_11 : decode cX11_hasChoir 11 = .ok (.ifCond .ne 5, 3) := by decide +kernel
theorem dX11_hasChoir_14 : decode cX11_hasChoir 14 = .ok (.iconst 0, 1) := by decide +kernel
theorem dX11_hasChoir_15 : decode cX11_hasChoir 15 = .ok (.ireturn, 1) := by decide +kernel
theorem dX11_hasChoir_16 : decode cX11_hasChoir 16 = .ok (.aload_n 0, 1) := by decide +kernel
theorem dX11_hasChoir_17 : decode cX11_hasChoir 17 = .ok (.aload_n 0, 1) := by decide +kernel
theorem dX11_hasChoir_18 : decode cX11_hasChoir 18 = .ok (.getfield 35, 3) := by decide +kernel
theorem dX11_hasChoir_21 : decode cX11_hasChoir 21 = .ok (.bipush 20, 2) := by decide +kernel
theorem dX11_hasChoir_23 : decode cX11_hasChoir 23 = .ok (.iload_n 1, 1) := by decide +kernel
theorem dX11_hasChoir_24 : decode cX11_hasChoir 24 = .ok (.imul, 1) := by decide +kernel
theorem dX11_hasChoir_25 : decode cX11_hasChoir 25 = .ok (.iaload, 1) := by decide +kernel
theorem dX11_hasChoir_26 : decode cX11_hasChoir 26 = .ok (.putfield 478, 3) := by decide +kernel
theorem dX11_hasChoir_29 : decode cX11_hasChoir 29 = .ok (.iconst 1, 1) := by decide +kernel
theorem dX11_hasChoir_30 : decode cX11_hasChoir 30 = .ok (.ireturn, 1) := by decide +kernel
theorem dX11_choir_0 : decode cX11_choir 0 = .ok (.aload_n 0, 1) := by decide +kernel
theorem dX11_choir_1 : decode cX11_choir 1 = .ok (.iconst 0, 1) := by decide +kernel
theorem dX11_choir_2 : decode cX11_choir 2 = .ok (.putfield 97, 3) := by decide +kernel
theorem dX11_choir_5 : decode cX11_choir 5 = .ok (.aload_n 0, 1) := by decide +kernel
theorem dX11_choir_6 : decode cX11_choir 6 = .ok (.iload_n 1, 1) := by decide +kernel
theorem dX11_choir_7 : decode cX11_choir 7 = .ok (.invokevirtual 491, 3) := by decide +kernel
theorem dX11_choir_10 : decode cX11_choir 10 = .ok (.ifCond .ne 5, 3) := by decide +kernel
theorem dX11_choir_13 : decode cX11_choir 13 = .ok (.iconst (-1), 1) := by decide +kernel
theorem dX11_choir_14 : decode cX11_choir 14 = .ok (.ireturn, 1) := by decide +kernel
theorem dX11_choir_15 : decode cX11_choir 15 = .ok (.iload_n 2, 1) := by decide +kernel
theorem dX11_choir_16 : decode cX11_choir 16 = .ok (.bipush 10, 2) := by decide +kernel
theorem dX11_choir_18 : decode cX11_choir 18 = .ok (.bipush 9, 2) := by decide +kernel
theorem dX11_choir_20 : decode cX11_choir 20 = .ok (.aload_n 0, 1) := by decide +kernel
theorem dX11_choir_21 : decode cX11_choir 21 = .ok (.getfield 478, 3) := by decide +kernel
theorem dX11_choir_24 : decode cX11_choir 24 = .ok (.iadd, 1) := by decide +kernel
theorem dX11_choir_25 : decode cX11_choir 25 = .ok (.invokestatic 109, 3) := by decide +kernel
theorem dX11_choir_28 : decode cX11_choir 28 = .ok (.ifCond .eq 13, 3) := by decide +kernel
theorem dX11_choir_31 : decode cX11_choir 31 = .ok (.aload_n 0, 1) := by decide +kernel
theorem dX11_choir_32 : decode cX11_choir 32 = .ok (.iload_n 2, 1) := by decide +kernel
theorem dX11_choir_33 : decode cX11_choir 33 = .ok (.bipush 10, 2) := by decide +kernel
theorem dX11_choir_35 : decode cX11_choir 35 = .ok (.isub, 1) := by decide +kernel
theorem dX11_choir_36 : decode cX11_choir 36 = .ok (.iconst 0, 1) := by decide +kernel
theorem dX11_choir_41 : decode cX11_choir 41 = .ok (.iload_n 2, 1) := by decide +kernel
theorem dX11_choir_42 : decode cX11_choir 42 = .ok (.bipush 20, 2) := by decide +kernel
theorem dX11_choir_44 : decode cX11_choir 44 = .ok (.bipush 19, 2) := by decide +kernel
theorem dX11_choir_46 : decode cX11_choir 46 = .ok (.aload_n 0, 1) := by decide +kernel
theorem dX11_choir_47 : decode cX11_choir 47 = .ok (.getfield 478, 3) := by decide +kernel
theorem dX11_choir_50 : decode cX11_choir 50 = .ok (.iadd, 1) := by decide +kernel
theorem dX11_choir_51 : decode cX11_choir 51 = .ok (.invokestatic 109, 3) := by decide +kernel
theorem dX11_choir_54 : decode cX11_choir 54 = .ok (.ifCond .eq 13, 3) := by decide +kernel
theorem dX11_choir_57 : decode cX11_choir 57 = .ok (.aload_n 0, 1) := by decide +kernel
theorem dX11_choir_58 : decode cX11_choir 58 = .ok (.iload_n 2, 1) := by decide +kernel
theorem dX11_choir_59 : decode cX11_choir 59 = .ok (.bipush 20, 2) := by decide +kernel
theorem dX11_choir_61 : decode cX11_choir 61 = .ok (.isub, 1) := by decide +kernel
theorem dX11_choir_62 : decode cX11_choir 62 = .ok (.iconst 1, 1) := by decide +kernel
theorem dX11_choir_67 : decode cX11_choir 67 = .ok (.iload_n 2, 1) := by decide +kernel
theorem dX11_choir_68 : decode cX11_choir 68 = .ok (.ifCond .ne 10, 3) := by decide +kernel
theorem dX11_choir_71 : decode cX11_choir 71 = .ok (.aload_n 0, 1) := by decide +kernel
theorem dX11_choir_72 : decode cX11_choir 72 = .ok (.getfield 478, 3) := by decide +kernel
theorem dX11_choir_75 : decode cX11_choir 75 = .ok (.goto 40, 3) := by decide +kernel
theorem dX11_choir_78 : decode cX11_choir 78 = .ok (.iload_n 2, 1) := by decide +kernel
theorem dX11_choir_79 : decode cX11_choir 79 = .ok (.iconst 1, 1) := by decide +kernel
theorem dX11_choir_80 : decode cX11_choir 80 = .ok (.if_icmp .ne 10, 3) := by decide +kernel
theorem dX11_choir_83 : decode cX11_choir 83 = .ok (.aload_n 0, 1) := by decide +kernel
theorem dX11_choir_90 : decode cX11_choir 90 = .ok (.iload_n 2, 1) := by decide +kernel
theorem dX11_choir_91 : decode cX11_choir 91 = .ok (.iconst 2, 1) := by decide +kernel
theorem dX11_choir_92 : decode cX11_choir 92 = .ok (.if_icmp .ne 10, 3) := by decide +kernel
theorem dX11_choir_95 : decode cX11_choir 95 = .ok (.aload_n 0, 1) := by decide +kernel
theorem dX11_choir_102 : decode cX11_choir 102 = .ok (.iload_n 2, 1) := by decide +kernel
theorem dX11_choir_103 : decode cX11_choir 103 = .ok (.iconst 3, 1) := by decide +kernel
theorem dX11_choir_104 : decode cX11_choir 104 = .ok (.if_icmp .ne 10, 3) := by decide +kernel
theorem dX11_choir_107 : decode cX11_choir 107 = .ok (.aload_n 0, 1) := by decide +kernel
theorem dX11_choir_114 : decode cX11_choir 114 = .ok (.iconst (-1), 1) := by decide +kernel
theorem dX11_choir_115 : decode cX11_choir 115 = .ok (.ireturn, 1) := by decide +kernel
theorem dX11_orders_0 : decode cX11_orders 0 = .ok (.aload_n 0, 1) := by decide +kernel
theorem dX11_orders_1 : decode cX11_orders 1 = .ok (.iconst 0, 1) := by decide +kernel
theorem dX11_orders_2 : decode cX11_orders 2 = .ok (.putfield 97, 3) := by decide +kernel
theorem dX11_orders_5 : decode cX11_orders 5 = .ok (.aload_n 0, 1) := by decide +kernel
theorem dX11_orders_6 : decode cX11_orders 6 = .ok (.iload_n 1, 1) := by decide +kernel
theorem dX11_orders_7 : decode cX11_orders 7 = .ok (.invokevirtual 491, 3) := by decide +kernel
theorem dX11_orders_10 : decode cX11_orders 10 = .ok (.ifCond .eq 14, 3) := by decide +kernel
theorem dX11_orders_13 : decode cX11_orders 13 = .ok (.aload_n 0, 1) := by decide +kernel
theorem dX11_orders_14 : decode cX11_orders 14 = .ok (.aload_n 0, 1) := by decide +kernel
theorem dX11_orders_24 : decode cX11_orders 24 = .ok (.ldc2_w 503, 3) := by decide +kernel
theorem dX11_orders_27 : decode cX11_orders 27 = .ok (.lreturn, 1) := by decide +kernel
theorem dX11_order_0 : decode cX11_order 0 = .ok (.aload_n 0, 1) := by decide +kernel
theorem dX11_order_1 : decode cX11_order 1 = .ok (.iconst 0, 1) := by decide +kernel
theorem dX11_order_2 : decode cX11_order 2 = .ok (.putfield 97, 3) := by decide +kernel
theorem dX11_order_5 : decode cX11_order 5 = .ok (.aload_n 0, 1) := by decide +kernel
theorem dX11_order_6 : decode cX11_order 6 = .ok (.iload_n 1, 1) := by decide +kernel
theorem dX11_order_7 : decode cX11_order 7 = .ok (.invokevirtual 491, 3) := by decide +kernel
theorem dX11_order_10 : decode cX11_order 10 = .ok (.ifCond .eq 30, 3) := by decide +kernel
theorem dX11_order_13 : decode cX11_order 13 = .ok (.iload_n 2, 1) := by decide +kernel
theorem dX11_order_14 : decode cX11_order 14 = .ok (.iconst 0, 1) := by decide +kernel
theorem dX11_order_15 : decode cX11_order 15 = .ok (.aload_n 0, 1) := by decide +kernel
theorem dX11_order_16 : decode cX11_order 16 = .ok (.getfield 478, 3) := by decide +kernel
theorem dX11_order_19 : decode cX11_order 19 = .ok (.iconst 1, 1) := by decide +kernel
theorem dX11_order_20 : decode cX11_order 20 = .ok (.isub, 1) := by decide +kernel
theorem dX11_order_21 : decode cX11_order 21 = .ok (.invokestatic 109, 3) := by decide +kernel
theorem dX11_order_24 : decode cX11_order 24 = .ok (.ifCond .eq 16, 3) := by decide +kernel
theorem dX11_order_27 : decode cX11_order 27 = .ok (.aload_n 0, 1) := by decide +kernel
theorem dX11_order_28 : decode cX11_order 28 = .ok (.aload_n 0, 1) := by decide +kernel
theorem dX11_order_40 : decode cX11_order 40 = .ok (.iconst (-1), 1) := by decide +kernel
theorem dX11_order_41 : decode cX11_order 41 = .ok (.ireturn, 1) := by decide +kernel
theorem dX11_won_0 : decode cX11_won 0 = .ok (.iload_n 1, 1) := by decide +kernel
theorem dX11_won_1 : decode cX11_won 1 = .ok (.ifCond .lt 25, 3) := by decide +kernel
theorem dX11_won_4 : decode cX11_won 4 = .ok (.iload_n 2, 1) := by decide +kernel
theorem dX11_won_5 : decode cX11_won 5 = .ok (.ifCond .lt 21, 3) := by decide +kernel
theorem dX11_won_8 : decode cX11_won 8 = .ok (.aload_n 0, 1) := by decide +kernel
theorem dX11_won_9 : decode cX11_won 9 = .ok (.getfield 88, 3) := by decide +kernel
theorem dX11_won_12 : decode cX11_won 12 = .ok (.bipush 61, 2) := by decide +kernel
theorem dX11_won_14 : decode cX11_won 14 = .ok (.iload_n 1, 1) := by decide +kernel
theorem dX11_won_15 : decode cX11_won 15 = .ok (.imul, 1) := by decide +kernel
theorem dX11_won_16 : decode cX11_won 16 = .ok (.iload_n 2, 1) := by decide +kernel
theorem dX11_won_17 : decode cX11_won 17 = .ok (.iadd, 1) := by decide +kernel
theorem dX11_won_18 : decode cX11_won 18 = .ok (.baload, 1) := by decide +kernel
theorem dX11_won_19 : decode cX11_won 19 = .ok (.ifCond .eq 7, 3) := by decide +kernel
theorem dX11_won_22 : decode cX11_won 22 = .ok (.iconst 1, 1) := by decide +kernel
theorem dX11_won_23 : decode cX11_won 23 = .ok (.goto 4, 3) := by decide +kernel
theorem dX11_won_26 : decode cX11_won 26 = .ok (.iconst 0, 1) := by decide +kernel
theorem dX11_won_27 : decode cX11_won 27 = .ok (.ireturn, 1) := by decide +kernel
theorem dX11_isGood_0 : decode cX11_isGood 0 = .ok (.iload_n 1, 1) := by decide +kernel
theorem dX11_isGood_1 : decode cX11_isGood 1 = .ok (.iload_n 3, 1) := by decide +kernel
theorem dX11_isGood_2 : decode cX11_isGood 2 = .ok (.if_icmp .lt 27, 3) := by decide +kernel
theorem dX11_isGood_5 : decode cX11_isGood 5 = .ok (.iload_n 2, 1) := by decide +kernel
theorem dX11_isGood_6 : decode cX11_isGood 6 = .ok (.iload 4, 2) := by decide +kernel
theorem dX11_isGood_8 : decode cX11_isGood 8 = .ok (.if_icmp .lt 21, 3) := by decide +kernel
theorem dX11_isGood_11 : decode cX11_isGood 11 = .ok (.aload_n 0, 1) := by decide +kernel
theorem dX11_isGood_12 : decode cX11_isGood 12 = .ok (.iload_n 1, 1) := by decide +kernel
theorem dX11_isGood_13 : decode cX11_isGood 13 = .ok (.iload_n 3, 1) := by decide +kernel
theorem dX11_isGood_14 : decode cX11_isGood 14 = .ok (.isub, 1) := by decide +kernel
theorem dX11_isGood_15 : decode cX11_isGood 15 = .ok (.iload_n 2, 1) := by decide +kernel
theorem dX11_isGood_16 : decode cX11_isGood 16 = .ok (.iload 4, 2) := by decide +kernel
theorem dX11_isGood_18 : decode cX11_isGood 18 = .ok (.isub, 1) := by decide +kernel
theorem dX11_isGood_19 : decode cX11_isGood 19 = .ok (.invokevirtual 505, 3) := by decide +kernel
theorem dX11_isGood_22 : decode cX11_isGood 22 = .ok (.ifCond .ne 7, 3) := by decide +kernel
theorem dX11_isGood_25 : decode cX11_isGood 25 = .ok (.iconst 1, 1) := by decide +kernel
theorem dX11_isGood_26 : decode cX11_isGood 26 = .ok (.goto 4, 3) := by decide +kernel
theorem dX11_isGood_29 : decode cX11_isGood 29 = .ok (.iconst 0, 1) := by decide +kernel
theorem dX11_isGood_30 : decode cX11_isGood 30 = .ok (.ireturn, 1) := by decide +kernel
theorem dX11_firstTake_0 : decode cX11_firstTake 0 = .ok (.aload_n 0, 1) := by decide +kernel
theorem dX11_firstTake_1 : decode cX11_firstTake 1 = .ok (.iload_n 1, 1) := by decide +kernel
theorem dX11_firstTake_2 : decode cX11_firstTake 2 = .ok (.iload_n 2, 1) := by decide +kernel
theorem dX11_firstTake_3 : decode cX11_firstTake 3 = .ok (.iconst 0, 1) := by decide +kernel
theorem dX11_firstTake_4 : decode cX11_firstTake 4 = .ok (.iconst 2, 1) := by decide +kernel
theorem dX11_firstTake_5 : decode cX11_firstTake 5 = .ok (.invokevirtual 508, 3) := by decide +kernel
theorem dX11_firstTake_8 : decode cX11_firstTake 8 = .ok (.ifCond .eq 5, 3) := by decide +kernel
theorem dX11_firstTake_11 : decode cX11_firstTake 11 = .ok (.iconst 2, 1) := by decide +kernel
theorem dX11_firstTake_12 : decode cX11_firstTake 12 = .ok (.ireturn, 1) := by decide +kernel
theorem dX11_firstTake_13 : decode cX11_firstTake 13 = .ok (.iconst 1, 1) := by decide +kernel
theorem dX11_firstTake_14 : decode cX11_firstTake 14 = .ok (.istore 4, 2) := by decide +kernel
theorem dX11_firstTake_16 : decode cX11_firstTake 16 = .ok (.iload 4, 2) := by decide +kernel
theorem dX11_firstTake_18 : decode cX11_firstTake 18 = .ok (.iload_n 3, 1) := by decide +kernel
theorem dX11_firstTake_19 : decode cX11_firstTake 19 = .ok (.if_icmp .gt 27, 3) := by decide +kernel
theorem dX11_firstTake_22 : decode cX11_firstTake 22 = .ok (.aload_n 0, 1) := by decide +kernel
theorem dX11_firstTake_23 : decode cX11_firstTake 23 = .ok (.iload_n 1, 1) := by decide +kernel
theorem dX11_firstTake_24 : decode cX11_firstTake 24 = .ok (.iload_n 2, 1) := by decide +kernel
theorem dX11_firstTake_25 : decode cX11_firstTake 25 = .ok (.iconst 1, 1) := by decide +kernel
theorem dX11_firstTake_26 : decode cX11_firstTake 26 = .ok (.iload 4, 2) := by decide +kernel
theorem dX11_firstTake_28 : decode cX11_firstTake 28 = .ok (.invokevirtual 508, 3) := by decide +kernel
theorem dX11_firstTake_31 : decode cX11_firstTake 31 = .ok (.ifCond .eq 9, 3) := by decide +kernel
theorem dX11_firstTake_34 : decode cX11_firstTake 34 = .ok (.bipush 10, 2) := by decide +kernel
theorem dX11_firstTake_36 : decode cX11_firstTake 36 = .ok (.iload 4, 2) := by decide +kernel
theorem dX11_firstTake_38 : decode cX11_firstTake 38 = .ok (.iadd, 1) := by decide +kernel
theorem dX11_firstTake_39 : decode cX11_firstTake 39 = .ok (.ireturn, 1) := by decide +kernel
theorem dX11_firstTake_40 : decode cX11_firstTake 40 = .ok (.iinc 4 1, 3) := by decide +kernel
theorem dX11_firstTake_43 : decode cX11_firstTake 43 = .ok (.goto (-27), 3) := by decide +kernel
theorem dX11_firstTake_46 : decode cX11_firstTake 46 = .ok (.iconst (-1), 1) := by decide +kernel
theorem dX11_firstTake_47 : decode cX11_firstTake 47 = .ok (.ireturn, 1) := by decide +kernel
theorem dX11_trade_0 : decode cX11_trade 0 = .ok (.aload_n 0, 1) := by decide +kernel
theorem dX11_trade_1 : decode cX11_trade 1 = .ok (.iconst 0, 1) := by decide +kernel
theorem dX11_trade_2 : decode cX11_trade 2 = .ok (.putfield 97, 3) := by decide +kernel
theorem dX11_trade_5 : decode cX11_trade 5 = .ok (.iload_n 1, 1) := by decide +kernel
theorem dX11_trade_6 : decode cX11_trade 6 = .ok (.iconst 0, 1) := by decide +kernel
theorem dX11_trade_7 : decode cX11_trade 7 = .ok (.bipush 60, 2) := by decide +kernel
theorem dX11_trade_9 : decode cX11_trade 9 = .ok (.invokestatic 109, 3) := by decide +kernel
theorem dX11_trade_12 : decode cX11_trade 12 = .ok (.ifCond .eq 23, 3) := by decide +kernel
theorem dX11_trade_15 : decode cX11_trade 15 = .ok (.iload_n 2, 1) := by decide +kernel
theorem dX11_trade_16 : decode cX11_trade 16 = .ok (.iconst 0, 1) := by decide +kernel
theorem dX11_trade_17 : decode cX11_trade 17 = .ok (.bipush 60, 2) := by decide +kernel
theorem dX11_trade_19 : decode cX11_trade 19 = .ok (.invokestatic 109, 3) := by decide +kernel
theorem dX11_trade_22 : decode cX11_trade 22 = .ok (.ifCond .eq 13, 3) := by decide +kernel
theorem dX11_trade_25 : decode cX11_trade 25 = .ok (.iload_n 3, 1) := by decide +kernel
theorem dX11_trade_26 : decode cX11_trade 26 = .ok (.iconst 1, 1) := by decide +kernel
theorem dX11_trade_27 : decode cX11_trade 27 = .ok (.bipush 9, 2) := by decide +kernel
theorem dX11_trade_29 : decode cX11_trade 29 = .ok (.invokestatic 109, 3) := by decide +kernel
theorem dX11_trade_32 : decode cX11_trade 32 = .ok (.ifCond .ne 6, 3) := by decide +kernel
theorem dX11_trade_35 : decode cX11_trade 35 = .ok (.bipush (-2), 2) := by decide +kernel
theorem dX11_trade_37 : decode cX11_trade 37 = .ok (.ireturn, 1) := by decide +kernel
theorem dX11_trade_38 : decode cX11_trade 38 = .ok (.iconst 0, 1) := by decide +kernel
theorem dX11_trade_39 : decode cX11_trade 39 = .ok (.istore 5, 2) := by decide +kernel
theorem dX11_trade_41 : decode cX11_trade 41 = .ok (.iload 5, 2) := by decide +kernel
theorem dX11_trade_43 : decode cX11_trade 43 = .ok (.iload_n 1, 1) := by decide +kernel
theorem dX11_trade_44 : decode cX11_trade 44 = .ok (.if_icmp .gt 55, 3) := by decide +kernel
theorem dX11_trade_47 : decode cX11_trade 47 = .ok (.iconst 0, 1) := by decide +kernel
theorem dX11_trade_48 : decode cX11_trade 48 = .ok (.istore 6, 2) := by decide +kernel
theorem dX11_trade_50 : decode cX11_trade 50 = .ok (.iload 6, 2) := by decide +kernel
theorem dX11_trade_52 : decode cX11_trade 52 = .ok (.iload_n 2, 1) := by decide +kernel
theorem dX11_trade_53 : decode cX11_trade 53 = .ok (.if_icmp .gt 40, 3) := by decide +kernel
theorem dX11_trade_56 : decode cX11_trade 56 = .ok (.aload_n 0, 1) := by decide +kernel
theorem dX11_trade_57 : decode cX11_trade 57 = .ok (.getfield 88, 3) := by decide +kernel
theorem dX11_trade_60 : decode cX11_trade 60 = .ok (.bipush 61, 2) := by decide +kernel
theorem dX11_trade_62 : decode cX11_trade 62 = .ok (.iload 5, 2) := by decide +kernel
theorem dX11_trade_64 : decode cX11_trade 64 = .ok (.imul, 1) := by decide +kernel
theorem dX11_trade_65 : decode cX11_trade 65 = .ok (.iload 6, 2) := by decide +kernel
theorem dX11_trade_67 : decode cX11_trade 67 = .ok (.iadd, 1) := by decide +kernel
theorem dX11_trade_68 : decode cX11_trade 68 = .ok (.aload_n 0, 1) := by decide +kernel
theorem dX11_trade_69 : decode cX11_trade 69 = .ok (.iload 5, 2) := by decide +kernel
theorem dX11_trade_71 : decode cX11_trade 71 = .ok (.iload 6, 2) := by decide +kernel
theorem dX11_trade_73 : decode cX11_trade 73 = .ok (.iload_n 3, 1) := by decide +kernel
theorem dX11_trade_74 : decode cX11_trade 74 = .ok (.invokevirtual 511, 3) := by decide +kernel
theorem dX11_trade_77 : decode cX11_trade 77 = .ok (.iconst (-1), 1) := by decide +kernel
theorem dX11_trade_78 : decode cX11_trade 78 = .ok (.if_icmp .eq 7, 3) := by decide +kernel
theorem dX11_trade_81 : decode cX11_trade 81 = .ok (.iconst 1, 1) := by decide +kernel
theorem dX11_trade_82 : decode cX11_trade 82 = .ok (.goto 4, 3) := by decide +kernel
theorem dX11_trade_85 : decode cX11_trade 85 = .ok (.iconst 0, 1) := by decide +kernel
theorem dX11_trade_86 : decode cX11_trade 86 = .ok (.bastore, 1) := by decide +kernel
theorem dX11_trade_87 : decode cX11_trade 87 = .ok (.iinc 6 1, 3) := by decide +kernel
theorem dX11_trade_90 : decode cX11_trade 90 = .ok (.goto (-40), 3) := by decide +kernel
theorem dX11_trade_93 : decode cX11_trade 93 = .ok (.iinc 5 1, 3) := by decide +kernel
theorem dX11_trade_96 : decode cX11_trade 96 = .ok (.goto (-55), 3) := by decide +kernel
