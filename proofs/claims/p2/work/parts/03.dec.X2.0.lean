theorem dX2_copyFrom_0 : decode cX2_copyFrom 0 = .ok (.aload_n 0, 1) := by decide +kernel
theorem dX2_copyFrom_1 : decode cX2_copyFrom 1 = .ok (.aload_n 1, 1) := by decide +kernel
theorem dX2_copyFrom_2 : decode cX2_copyFrom 2 = .ok (.getfield 43, 3) := by decide +kernel
theorem dX2_copyFrom_5 : decode cX2_copyFrom 5 = .ok (.putfield 43, 3) := by decide +kernel
theorem dX2_copyFrom_8 : decode cX2_copyFrom 8 = .ok (.aload_n 0, 1) := by decide +kernel
theorem dX2_copyFrom_9 : decode cX2_copyFrom 9 = .ok (.aload_n 1, 1) := by decide +kernel
theorem dX2_copyFrom_10 : decode cX2_copyFrom 10 = .ok (.getfield 46, 3) := by decide +kernel
theorem dX2_copyFrom_13 : decode cX2_copyFrom 13 = .ok (.putfield 46, 3) := by decide +kernel
theorem dX2_copyFrom_16 : decode cX2_copyFrom 16 = .ok (.aload_n 0, 1) := by decide +kernel
theorem dX2_copyFrom_17 : decode cX2_copyFrom 17 = .ok (.aload_n 1, 1) := by decide +kernel
theorem dX2_copyFrom_18 : decode cX2_copyFrom 18 = .ok (.getfield 49, 3) := by decide +kernel
theorem dX2_copyFrom_21 : decode cX2_copyFrom 21 = .ok (.putfield 49, 3) := by decide +kernel
theorem dX2_copyFrom_24 : decode cX2_copyFrom 24 = .ok (.aload_n 0, 1) := by decide +kernel
theorem dX2_copyFrom_25 : decode cX2_copyFrom 25 = .ok (.aload_n 1, 1) := by decide +kernel
theorem dX2_copyFrom_26 : decode cX2_copyFrom 26 = .ok (.getfield 52, 3) := by decide +kernel
theorem dX2_copyFrom_29 : decode cX2_copyFrom 29 = .ok (.putfield 52, 3) := by decide +kernel
theorem dX2_copyFrom_32 : decode cX2_copyFrom 32 = .ok (.aload_n 0, 1) := by decide +kernel
theorem dX2_copyFrom_33 : decode cX2_copyFrom 33 = .ok (.aload_n 1, 1) := by decide +kernel
theorem dX2_copyFrom_34 : decode cX2_copyFrom 34 = .ok (.getfield 55, 3) := by decide +kernel
theorem dX2_copyFrom_37 : decode cX2_copyFrom 37 = .ok (.putfield 55, 3) := by decide +kernel
theorem dX2_copyFrom_40 : decode cX2_copyFrom 40 = .ok (.aload_n 0, 1) := by decide +kernel
theorem dX2_copyFrom_41 : decode cX2_copyFrom 41 = .ok (.aload_n 1, 1) := by decide +kernel
theorem dX2_copyFrom_42 : decode cX2_copyFrom 42 = .ok (.getfield 9, 3) := by decide +kernel
theorem dX2_copyFrom_45 : decode cX2_copyFrom 45 = .ok (.putfield 9, 3) := by decide +kernel
theorem dX2_copyFrom_48 : decode cX2_copyFrom 48 = .ok (.aload_n 0, 1) := by decide +kernel
theorem dX2_copyFrom_49 : decode cX2_copyFrom 49 = .ok (.aload_n 1, 1) := by decide +kernel
theorem dX2_copyFrom_50 : decode cX2_copyFrom 50 = .ok (.getfield 15, 3) := by decide +kernel
theorem dX2_copyFrom_53 : decode cX2_copyFrom 53 = .ok (.putfield 15, 3) := by decide +kernel
theorem dX2_copyFrom_56 : decode cX2_copyFrom 56 = .ok (.aload_n 1, 1) := by decide +kernel
theorem dX2_copyFrom_57 : decode cX2_copyFrom 57 = .ok (.getfield 18, 3) := by decide +kernel
theorem dX2_copyFrom_60 : decode cX2_copyFrom 60 = .ok (.iconst 0, 1) := by decide +kernel
theorem dX2_copyFrom_61 : decode cX2_copyFrom 61 = .ok (.aload_n 0, 1) := by decide +kernel
theorem dX2_copyFrom_62 : decode cX2_copyFrom 62 = .ok (.getfield 18, 3) := by decide +kernel
theorem dX2_copyFrom_65 : decode cX2_copyFrom 65 = .ok (.iconst 0, 1) := by decide +kernel
theorem dX2_copyFrom_66 : decode cX2_copyFrom 66 = .ok (.bipush 9, 2) := by decide +kernel
theorem dX2_copyFrom_68 : decode cX2_copyFrom 68 = .ok (.invokestatic 64, 3) := by decide +kernel
theorem dX2_copyFrom_71 : decode cX2_copyFrom 71 = .ok (.aload_n 1, 1) := by decide +kernel
theorem dX2_copyFrom_72 : decode cX2_copyFrom 72 = .ok (.getfield 22, 3) := by decide +kernel
theorem dX2_copyFrom_75 : decode cX2_copyFrom 75 = .ok (.iconst 0, 1) := by decide +kernel
theorem dX2_copyFrom_76 : decode cX2_copyFrom 76 = .ok (.aload_n 0, 1) := by decide +kernel
theorem dX2_copyFrom_77 : decode cX2_copyFrom 77 = .ok (.getfield 22, 3) := by decide +kernel
theorem dX2_copyFrom_80 : decode cX2_copyFrom 80 = .ok (.iconst 0, 1) := by decide +kernel
theorem dX2_copyFrom_81 : decode cX2_copyFrom 81 = .ok (.bipush 9, 2) := by decide +kernel
theorem dX2_copyFrom_83 : decode cX2_copyFrom 83 = .ok (.invokestatic 64, 3) := by decide +kernel
theorem dX2_copyFrom_86 : decode cX2_copyFrom 86 = .ok (.aload_n 1, 1) := by decide +kernel
theorem dX2_copyFrom_87 : decode cX2_copyFrom 87 = .ok (.getfield 25, 3) := by decide +kernel
theorem dX2_copyFrom_90 : decode cX2_copyFrom 90 = .ok (.iconst 0, 1) := by decide +kernel
theorem dX2_copyFrom_91 : decode cX2_copyFrom 91 = .ok (.aload_n 0, 1) := by decide +kernel
theorem dX2_copyFrom_92 : decode cX2_copyFrom 92 = .ok (.getfield 25, 3) := by decide +kernel
theorem dX2_copyFrom_95 : decode cX2_copyFrom 95 = .ok (.iconst 0, 1) := by decide +kernel
theorem dX2_copyFrom_96 : decode cX2_copyFrom 96 = .ok (.bipush 81, 2) := by decide +kernel
theorem dX2_copyFrom_98 : decode cX2_copyFrom 98 = .ok (.invokestatic 64, 3) := by decide +kernel
theorem dX2_copyFrom_101 : decode cX2_copyFrom 101 = .ok (.aload_n 1, 1) := by decide +kernel
theorem dX2_copyFrom_102 : decode cX2_copyFrom 102 = .ok (.getfield 28, 3) := by decide +kernel
theorem dX2_copyFrom_105 : decode cX2_copyFrom 105 = .ok (.iconst 0, 1) := by decide +kernel
theorem dX2_copyFrom_106 : decode cX2_copyFrom 106 = .ok (.aload_n 0, 1) := by decide +kernel
theorem dX2_copyFrom_107 : decode cX2_copyFrom 107 = .ok (.getfield 28, 3) := by decide +kernel
theorem dX2_copyFrom_110 : decode cX2_copyFrom 110 = .ok (.iconst 0, 1) := by decide +kernel
theorem dX2_copyFrom_111 : decode cX2_copyFrom 111 = .ok (.iconst 4, 1) := by decide +kernel
theorem dX2_copyFrom_112 : decode cX2_copyFrom 112 = .ok (.invokestatic 64, 3) := by decide +kernel
theorem dX2_copyFrom_115 : decode cX2_copyFrom 115 = .ok (.aload_n 1, 1) := by decide +kernel
theorem dX2_copyFrom_116 : decode cX2_copyFrom 116 = .ok (.getfield 31, 3) := by decide +kernel
theorem dX2_copyFrom_119 : decode cX2_copyFrom 119 = .ok (.iconst 0, 1) := by decide +kernel
theorem dX2_copyFrom_120 : decode cX2_copyFrom 120 = .ok (.aload_n 0, 1) := by decide +kernel
theorem dX2_copyFrom_121 : decode cX2_copyFrom 121 = .ok (.getfield 31, 3) := by decide +kernel
theorem dX2_copyFrom_124 : decode cX2_copyFrom 124 = .ok (.iconst 0, 1) := by decide +kernel
theorem dX2_copyFrom_125 : decode cX2_copyFrom 125 = .ok (.iconst 4, 1) := by decide +kernel
theorem dX2_copyFrom_126 : decode cX2_copyFrom 126 = .ok (.invokestatic 64, 3) := by decide +kernel
theorem dX2_copyFrom_129 : decode cX2_copyFrom 129 = .ok (.aload_n 1, 1) := by decide +kernel
theorem dX2_copyFrom_130 : decode cX2_copyFrom 130 = .ok (.getfield 34, 3) := by decide +kernel
theorem dX2_copyFrom_133 : decode cX2_copyFrom 133 = .ok (.iconst 0, 1) := by decide +kernel
theorem dX2_copyFrom_134 : decode cX2_copyFrom 134 = .ok (.aload_n 0, 1) := by decide +kernel
theorem dX2_copyFrom_135 : decode cX2_copyFrom 135 = .ok (.getfield 34, 3) := by decide +kernel
theorem dX2_copyFrom_138 : decode cX2_copyFrom 138 = .ok (.iconst 0, 1) := by decide +kernel
theorem dX2_copyFrom_139 : decode cX2_copyFrom 139 = .ok (.bipush 6, 2) := by decide +kernel
theorem dX2_copyFrom_141 : decode cX2_copyFrom 141 = .ok (.invokestatic 64, 3) := by decide +kernel
theorem dX2_copyFrom_144 : decode cX2_copyFrom 144 = .ok (.aload_n 1, 1) := by decide +kernel
theorem dX2_copyFrom_145 : decode cX2_copyFrom 145 = .ok (.getfield 37, 3) := by decide +kernel
theorem dX2_copyFrom_148 : decode cX2_copyFrom 148 = .ok (.iconst 0, 1) := by decide +kernel
theorem dX2_copyFrom_149 : decode cX2_copyFrom 149 = .ok (.aload_n 0, 1) := by decide +kernel
theorem dX2_copyFrom_150 : decode cX2_copyFrom 150 = .ok (.getfield 37, 3) := by decide +kernel
theorem dX2_copyFrom_153 : decode cX2_copyFrom 153 = .ok (.iconst 0, 1) := by decide +kernel
theorem dX2_copyFrom_154 : decode cX2_copyFrom 154 = .ok (.bipush 6, 2) := by decide +kernel
theorem dX2_copyFrom_156 : decode cX2_copyFrom 156 = .ok (.invokestatic 64, 3) := by decide +kernel
theorem dX2_copyFrom_159 : decode cX2_copyFrom 159 = .ok (.aload_n 1, 1) := by decide +kernel
theorem dX2_copyFrom_160 : decode cX2_copyFrom 160 = .ok (.getfield 40, 3) := by decide +kernel
theorem dX2_copyFrom_163 : decode cX2_copyFrom 163 = .ok (.iconst 0, 1) := by decide +kernel
theorem dX2_copyFrom_164 : decode cX2_copyFrom 164 = .ok (.aload_n 0, 1) := by decide +kernel
theorem dX2_copyFrom_165 : decode cX2_copyFrom 165 = .ok (.getfield 40, 3) := by decide +kernel
theorem dX2_copyFrom_168 : decode cX2_copyFrom 168 = .ok (.iconst 0, 1) := by decide +kernel
theorem dX2_copyFrom_169 : decode cX2_copyFrom 169 = .ok (.bipush 6, 2) := by decide +kernel
theorem dX2_copyFrom_171 : decode cX2_copyFrom 171 = .ok (.invokestatic 64, 3) := by decide +kernel
theorem dX2_copyFrom_174 : decode cX2_copyFrom 174 = .ok (.return_, 1) := by decide +kernel
theorem dX2_hasHut_0 : decode cX2_hasHut 0 = .ok (.iload_n 1, 1) := by decide +kernel
theorem dX2_hasHut_1 : decode cX2_hasHut 1 = .ok (.ifCond .lt 15, 3) := by decide +kernel
theorem dX2_hasHut_4 : decode cX2_hasHut 4 = .ok (.iload_n 1, 1) := by decide +kernel
theorem dX2_hasHut_5 : decode cX2_hasHut 5 = .ok (.aload_n 0, 1) := by decide +kernel
theorem dX2_hasHut_6 : decode cX2_hasHut 6 = .ok (.getfield 43, 3) := by decide +kernel
theorem dX2_hasHut_9 : decode cX2_hasHut 9 = .ok (.if_icmp .ge 7, 3) := by decide +kernel
theorem dX2_hasHut_12 : decode cX2_hasHut 12 = .ok (.iconst 1, 1) := by decide +kernel
theorem dX2_hasHut_13 : decode cX2_hasHut 13 = .ok (.goto 4, 3) := by decide +kernel
theorem dX2_hasHut_16 : decode cX2_hasHut 16 = .ok (.iconst 0, 1) := by decide +kernel
theorem dX2_hasHut_17 : decode cX2_hasHut 17 = .ok (.ireturn, 1) := by decide +kernel
theorem dX2_hasSinger_0 : decode cX2_hasSinger 0 = .ok (.iload_n 1, 1) := by decide +kernel
theorem dX2_hasSinger_1 : decode cX2_hasSinger 1 = .ok (.ifCond .lt 15, 3) := by decide +kernel
theorem dX2_hasSinger_4 : decode cX2_hasSinger 4 = .ok (.iload_n 1, 1) := by decide +kernel
theorem dX2_hasSinger_5 : decode cX2_hasSinger 5 = .ok (.aload_n 0, 1) := by decide +kernel
theorem dX2_hasSinger_6 : decode cX2_hasSinger 6 = .ok (.getfield 46, 3) := by decide +kernel
theorem dX2_hasSinger_9 : decode cX2_hasSinger 9 = .ok (.if_icmp .ge 7, 3) := by decide +kernel
theorem dX2_hasSinger_12 : decode cX2_hasSinger 12 = .ok (.iconst 1, 1) := by decide +kernel
theorem dX2_hasSinger_13 : decode cX2_hasSinger 13 = .ok (.goto 4, 3) := by decide +kernel
theorem dX2_hasSinger_16 : decode cX2_hasSinger 16 = .ok (.iconst 0, 1) := by decide +kernel
theorem dX2_hasSinger_17 : decode cX2_hasSinger 17 = .ok (.ireturn, 1) := by decide +kernel
theorem dX2_isDam_0 : decode cX2_isDam 0 = .ok (.aload_n 0, 1) := by decide +kernel
theorem dX2_isDam_1 : decode cX2_isDam 1 = .ok (.getfield 52, 3) := by decide +kernel
theorem dX2_isDam_4 : decode cX2_isDam 4 = .ok (.iload_n 1, 1) := by decide +kernel
theorem dX2_isDam_5 : decode cX2_isDam 5 = .ok (.ishr, 1) := by decide +kernel
theorem dX2_isDam_6 : decode cX2_isDam 6 = .ok (.iconst 1, 1) := by decide +kernel
theorem dX2_isDam_7 : decode cX2_isDam 7 = .ok (.iand, 1) := by decide +kernel
theorem dX2_isDam_8 : decode cX2_isDam 8 = .ok (.ifCond .eq 7, 3) := by decide +kernel
theorem dX2_isDam_11 : decode cX2_isDam 11 = .ok (.iconst 1, 1) := by decide +kernel
theorem dX2_isDam_12 : decode cX2_isDam 12 = .ok (.goto 4, 3) := by decide +kernel
theorem dX2_isDam_15 : decode cX2_isDam 15 = .ok (.iconst 0, 1) := by decide +kernel
theorem dX2_isDam_16 : decode cX2_isDam 16 = .ok (.ireturn, 1) := by decide +kernel
theorem dX2_isOpen_0 : decode cX2_isOpen 0 = .ok (.aload_n 0, 1) := by decide +kernel
theorem dX2_isOpen_1 : decode cX2_isOpen 1 = .ok (.iload_n 1, 1) := by decide +kernel
theorem dX2_isOpen_2 : decode cX2_isOpen 2 = .ok (.invokevirtual 70, 3) := by decide +kernel
theorem dX2_isOpen_5 : decode cX2_isOpen 5 = .ok (.ifCond .eq 15, 3) := by decide +kernel
theorem dX2_isOpen_8 : decode cX2_isOpen 8 = .ok (.aload_n 0, 1) := by decide +kernel
theorem dX2_isOpen_9 : decode cX2_isOpen 9 = .ok (.iload_n 1, 1) := by decide +kernel
theorem dX2_isOpen_10 : decode cX2_isOpen 10 = .ok (.invokevirtual 74, 3) := by decide +kernel
theorem dX2_isOpen_13 : decode cX2_isOpen 13 = .ok (.ifCond .ne 7, 3) := by decide +kernel
theorem dX2_isOpen_16 : decode cX2_isOpen 16 = .ok (.iconst 1, 1) := by decide +kernel
theorem dX2_isOpen_17 : decode cX2_isOpen 17 = .ok (.goto 4, 3) := by decide +kernel
theorem dX2_isOpen_20 : decode cX2_isOpen 20 = .ok (.iconst 0, 1) := by decide +kernel
theorem dX2_isOpen_21 : decode cX2_isOpen 21 = .ok (.ireturn, 1) := by decide +kernel
theorem dX2_leads_0 : decode cX2_leads 0 = .ok (.aload_n 0, 1) := by decide +kernel
theorem dX2_leads_1 : decode cX2_leads 1 = .ok (.getfield 25, 3) := by decide +kernel
theorem dX2_leads_4 : decode cX2_leads 4 = .ok (.iload_n 1, 1) := by decide +kernel
theorem dX2_leads_5 : decode cX2_leads 5 = .ok (.bipush 9, 2) := by decide +kernel
theorem dX2_leads_7 : decode cX2_leads 7 = .ok (.imul, 1) := by decide +kernel
theorem dX2_leads_8 : decode cX2_leads 8 = .ok (.iload_n 2, 1) := by decide +kernel
theorem dX2_leads_9 : decode cX2_leads 9 = .ok (.iadd, 1) := by decide +kernel
theorem dX2_leads_10 : decode cX2_leads 10 = .ok (.iaload, 1) := by decide +kernel
theorem dX2_leads_11 : decode cX2_leads 11 = .ok (.ifCond .le 38, 3) := by decide +kernel
theorem dX2_leads_14 : decode cX2_leads 14 = .ok (.aload_n 0, 1) := by decide +kernel
theorem dX2_leads_15 : decode cX2_leads 15 = .ok (.getfield 18, 3) := by decide +kernel
theorem dX2_leads_18 : decode cX2_leads 18 = .ok (.iload_n 2, 1) := by decide +kernel
theorem dX2_leads_19 : decode cX2_leads 19 = .ok (.iaload, 1) := by decide +kernel
theorem dX2_leads_20 : decode cX2_leads 20 = .ok (.aload_n 0, 1) := by decide +kernel
theorem dX2_leads_21 : decode cX2_leads 21 = .ok (.getfield 18, 3) := by decide +kernel
theorem dX2_leads_24 : decode cX2_leads 24 = .ok (.iload_n 1, 1) := by decide +kernel
theorem dX2_leads_25 : decode cX2_leads 25 = .ok (.iaload, 1) := by decide +kernel
theorem dX2_leads_26 : decode cX2_leads 26 = .ok (.if_icmp .ge 23, 3) := by decide +kernel
theorem dX2_leads_29 : decode cX2_leads 29 = .ok (.aload_n 0, 1) := by decide +kernel
theorem dX2_leads_30 : decode cX2_leads 30 = .ok (.iload_n 1, 1) := by decide +kernel
theorem dX2_leads_31 : decode cX2_leads 31 = .ok (.invokevirtual 74, 3) := by decide +kernel
theorem dX2_leads_34 : decode cX2_leads 34 = .ok (.ifCond .ne 15, 3) := by decide +kernel
theorem dX2_leads_37 : decode cX2_leads 37 = .ok (.aload_n 0, 1) := by decide +kernel
theorem dX2_leads_38 : decode cX2_leads 38 = .ok (.iload_n 2, 1) := by decide +kernel
theorem dX2_leads_39 : decode cX2_leads 39 = .ok (.invokevirtual 74, 3) := by decide +kernel
theorem dX2_leads_42 : decode cX2_leads 42 = .ok (.ifCond .ne 7, 3) := by decide +kernel
theorem dX2_leads_45 : decode cX2_leads 45 = .ok (.iconst 1, 1) := by decide +kernel
theorem dX2_leads_46 : decode cX2_leads 46 = .ok (.goto 4, 3) := by decide +kernel
theorem dX2_leads_49 : decode cX2_leads 49 = .ok (.iconst 0, 1) := by decide +kernel
theorem dX2_leads_50 : decode cX2_leads 50 = .ok (.ireturn, 1) := by decide +kernel
theorem dX2_earshot_0 : decode cX2_earshot 0 = .ok (.aload_n 0, 1) := by decide +kernel
theorem dX2_earshot_1 : decode cX2_earshot 1 = .ok (.iload_n 1, 1) := by decide +kernel
theorem dX2_earshot_2 : decode cX2_earshot 2 = .ok (.invokevirtual 74, 3) := by decide +kernel
theorem dX2_earshot_5 : decode cX2_earshot 5 = .ok (.ifCond .eq 7, 3) := by decide +kernel
theorem dX2_earshot_8 : decode cX2_earshot 8 = .ok (.iconst 0, 1) := by decide +kernel
theorem dX2_earshot_9 : decode cX2_earshot 9 = .ok (.goto 6, 3) := by decide +kernel
theorem dX2_earshot_12 : decode cX2_earshot 12 = .ok (.iconst 1, 1) := by decide +kernel
theorem dX2_earshot_13 : decode cX2_earshot 13 = .ok (.iload_n 1, 1) := by decide +kernel
theorem dX2_earshot_14 : decode cX2_earshot 14 = .ok (.ishl, 1) := by decide +kernel
theorem dX2_earshot_15 : decode cX2_earshot 15 = .ok (.istore_n 2, 1) := by decide +kernel
theorem dX2_earshot_16 : decode cX2_earshot 16 = .ok (.iconst 0, 1) := by decide +kernel
theorem dX2_earshot_17 : decode cX2_earshot 17 = .ok (.istore_n 3, 1) := by decide +kernel
theorem dX2_earshot_18 : decode cX2_earshot 18 = .ok (.iload_n 3, 1) := by decide +kernel
theorem dX2_earshot_19 : decode cX2_earshot 19 = .ok (.aload_n 0, 1) := by decide +kernel
theorem dX2_earshot_20 : decode cX2_earshot 20 = .ok (.getfield 55, 3) := by decide +kernel
theorem dX2_earshot_23 : decode cX2_earshot 23 = .ok (.if_icmp .ge 43, 3) := by decide +kernel
theorem dX2_earshot_26 : decode cX2_earshot 26 = .ok (.aload_n 0, 1) := by decide +kernel
theorem dX2_earshot_27 : decode cX2_earshot 27 = .ok (.getfield 28, 3) := by decide +kernel
theorem dX2_earshot_30 : decode cX2_earshot 30 = .ok (.iload_n 3, 1) := by decide +kernel
theorem dX2_earshot_31 : decode cX2_earshot 31 = .ok (.iaload, 1) := by decide +kernel
theorem dX2_earshot_32 : decode cX2_earshot 32 = .ok (.iload_n 1, 1) := by decide +kernel
theorem dX2_earshot_33 : decode cX2_earshot 33 = .ok (.if_icmp .ne 27, 3) := by decide +kernel
theorem dX2_earshot_36 : decode cX2_earshot 36 = .ok (.aload_n 0, 1) := by decide +kernel
theorem dX2_earshot_37 : decode cX2_earshot 37 = .ok (.aload_n 0, 1) := by decide +kernel
theorem dX2_earshot_38 : decode cX2_earshot 38 = .ok (.getfield 31, 3) := by decide +kernel
theorem dX2_earshot_41 : decode cX2_earshot 41 = .ok (.iload_n 3, 1) := by decide +kernel
theorem dX2_earshot_42 : decode cX2_earshot 42 = .ok (.iaload, 1) := by decide +kernel
theorem dX2_earshot_43 : decode cX2_earshot 43 = .ok (.invokevirtual 74, 3) := by decide +kernel
theorem dX2_earshot_46 : decode cX2_earshot 46 = .ok (.ifCond .ne 14, 3) := by decide +kernel
theorem dX2_earshot_49 : decode cX2_earshot 49 = .ok (.iload_n 2, 1) := by decide +kernel
theorem dX2_earshot_50 : decode cX2_earshot 50 = .ok (.iconst 1, 1) := by decide +kernel
theorem dX2_earshot_51 : decode cX2_earshot 51 = .ok (.aload_n 0, 1) := by decide +kernel
theorem dX2_earshot_52 : decode cX2_earshot 52 = .ok (.getfield 31, 3) := by decide +kernel
theorem dX2_earshot_55 : decode cX2_earshot 55 = .ok (.iload_n 3, 1) := by decide +kernel
theorem dX2_earshot_56 : decode cX2_earshot 56 = .ok (.iaload, 1) := by decide +kernel
theorem dX2_earshot_57 : decode cX2_earshot 57 = .ok (.ishl, 1) := by decide +kernel
theorem dX2_earshot_58 : decode cX2_earshot 58 = .ok (.ior, 1) := by decide +kernel
theorem dX2_earshot_59 : decode cX2_earshot 59 = .ok (.istore_n 2, 1) := by decide +kernel
theorem dX2_earshot_60 : decode cX2_earshot 60 = .ok (.iinc 3 1, 3) := by decide +kernel
theorem dX2_earshot_63 : decode cX2_earshot 63 = .ok (.goto (-45), 3) := by decide +kernel
theorem dX2_earshot_66 : decode cX2_earshot 66 = .ok (.iload_n 2, 1) := by decide +kernel
theorem dX2_earshot_67 : decode cX2_earshot 67 = .ok (.ireturn, 1) := by decide +kernel
theorem dX2_highest_0 : decode cX2_highest 0 = .ok (.iconst (-1), 1) := by decide +kernel
theorem dX2_highest_1 : decode cX2_highest 1 = .ok (.istore_n 2, 1) := by decide +kernel
theorem dX2_highest_2 : decode cX2_highest 2 = .ok (.iconst 0, 1) := by decide +kernel
theorem dX2_highest_3 : decode cX2_highest 3 = .ok (.istore_n 3, 1) := by decide +kernel
theorem dX2_highest_4 : decode cX2_highest 4 = .ok (.iload_n 3, 1) := by decide +kernel
theorem dX2_highest_5 : decode cX2_highest 5 = .ok (.aload_n 0, 1) := by decide +kernel
theorem dX2_highest_6 : decode cX2_highest 6 = .ok (.getfield 43, 3) := by decide +kernel
theorem dX2_highest_9 : decode cX2_highest 9 = .ok (.if_icmp .ge 39, 3) := by decide +kernel
theorem dX2_highest_12 : decode cX2_highest 12 = .ok (.iload_n 1, 1) := by decide +kernel
theorem dX2_highest_13 : decode cX2_highest 13 = .ok (.iload_n 3, 1) := by decide +kernel
theorem dX2_highest_14 : decode cX2_highest 14 = .ok (.invokestatic 77, 3) := by decide +kernel
theorem dX2_highest_17 : decode cX2_highest 17 = .ok (.ifCond .eq 25, 3) := by decide +kernel
theorem dX2_highest_20 : decode cX2_highest 20 = .ok (.iload_n 2, 1) := by decide +kernel
theorem dX2_highest_21 : decode cX2_highest 21 = .ok (.iconst (-1), 1) := by decide +kernel
theorem dX2_highest_22 : decode cX2_highest 22 = .ok (.if_icmp .eq 18, 3) := by decide +kernel
theorem dX2_highest_25 : decode cX2_highest 25 = .ok (.aload_n 0, 1) := by decide +kernel
theorem dX2_highest_26 : decode cX2_highest 26 = .ok (.getfield 18, 3) := by decide +kernel
theorem dX2_highest_29 : decode cX2_highest 29 = .ok (.iload_n 3, 1) := by decide +kernel
theorem dX2_highest_30 : decode cX2_highest 30 = .ok (.iaload, 1) := by decide +kernel
theorem dX2_highest_31 : decode cX2_highest 31 = .ok (.aload_n 0, 1) := by decide +kernel
theorem dX2_highest_32 : decode cX2_highest 32 = .ok (.getfield 18, 3) := by decide +kernel
theorem dX2_highest_35 : decode cX2_highest 35 = .ok (.iload_n 2, 1) := by decide +kernel
theorem dX2_highest_36 : decode cX2_highest 36 = .ok (.iaload, 1) := by decide +kernel
theorem dX2_highest_37 : decode cX2_highest 37 = .ok (.if_icmp .le 5, 3) := by decide +kernel
theorem dX2_highest_40 : decode cX2_highest 40 = .ok (.iload_n 3, 1) := by decide +kernel
theorem dX2_highest_41 : decode cX2_highest 41 = .ok (.istore_n 2, 1) := by decide +kernel
theorem dX2_highest_42 : decode cX2_highest 42 = .ok (.iinc 3 1, 3) := by decide +kernel
theorem dX2_highest_45 : decode cX2_highest 45 = .ok (.goto (-41), 3) := by decide +kernel
theorem dX2_highest_48 : decode cX2_highest 48 = .ok (.iload_n 2, 1) := by decide +kernel
theorem dX2_highest_49 : decode cX2_highest 49 = .ok (.ireturn, 1) := by decide +kernel
theorem dX2_look_0 : decode cX2_look 0 = .ok (.iload_n 1, 1) := by decide +kernel
theorem dX2_look_1 : decode cX2_look 1 = .ok (.ifCond .lt 10, 3) := by decide +kernel
theorem dX2_look_4 : decode cX2_look 4 = .ok (.iload_n 1, 1) := by decide +kernel
theorem dX2_look_5 : decode cX2_look 5 = .ok (.sipush 141, 3) := by decide +kernel
theorem dX2_look_8 : decode cX2_look 8 = .ok (.if_icmp .lt 5, 3) := by decide +kernel
theorem dX2_look_11 : decode cX2_look 11 = .ok (.iconst (-1), 1) := by decide +kernel
theorem dX2_look_12 : decode cX2_look 12 = .ok (.ireturn, 1) := by decide +kernel
theorem dX2_look_13 : decode cX2_look 13 = .ok (.iload_n 1, 1) := by decide +kernel
theorem dX2_look_14 : decode cX2_look 14 = .ok (.bipush 60, 2) := by decide +kernel
theorem dX2_look_16 : decode cX2_look 16 = .ok (.if_icmp .lt 51, 3) := by decide +kernel
theorem dX2_look_19 : decode cX2_look 19 = .ok (.iload_n 1, 1) := by decide +kernel
theorem dX2_look_20 : decode cX2_look 20 = .ok (.bipush 60, 2) := by decide +kernel
theorem dX2_look_22 : decode cX2_look 22 = .ok (.isub, 1) := by decide +kernel
theorem dX2_look_23 : decode cX2_look 23 = .ok (.bipush 9, 2) := by decide +kernel
theorem dX2_look_25 : decode cX2_look 25 = .ok (.idiv, 1) := by decide +kernel
theorem dX2_look_26 : decode cX2_look 26 = .ok (.istore_n 2, 1) := by decide +kernel
theorem dX2_look_27 : decode cX2_look 27 = .ok (.iload_n 1, 1) := by decide +kernel
theorem dX2_look_28 : decode cX2_look 28 = .ok (.bipush 60, 2) := by decide +kernel
theorem dX2_look_30 : decode cX2_look 30 = .ok (.isub, 1) := by decide +kernel
theorem dX2_look_31 : decode cX2_look 31 = .ok (.bipush 9, 2) := by decide +kernel
theorem dX2_look_33 : decode cX2_look 33 = .ok (.irem, 1) := by decide +kernel
theorem dX2_look_34 : decode cX2_look 34 = .ok (.istore_n 3, 1) := by decide +kernel
theorem dX2_look_35 : decode cX2_look 35 = .ok (.aload_n 0, 1) := by decide +kernel
theorem dX2_look_36 : decode cX2_look 36 = .ok (.iload_n 2, 1) := by decide +kernel
theorem dX2_look_37 : decode cX2_look 37 = .ok (.invokevirtual 70, 3) := by decide +kernel
theorem dX2_look_40 : decode cX2_look 40 = .ok (.ifCond .eq 25, 3) := by decide +kernel
theorem dX2_look_43 : decode cX2_look 43 = .ok (.aload_n 0, 1) := by decide +kernel
theorem dX2_look_44 : decode cX2_look 44 = .ok (.iload_n 3, 1) := by decide +kernel
theorem dX2_look_45 : decode cX2_look 45 = .ok (.invokevirtual 70, 3) := by decide +kernel
theorem dX2_look_48 : decode cX2_look 48 = .ok (.ifCond .eq 17, 3) := by decide +kernel
theorem dX2_look_51 : decode cX2_look 51 = .ok (.aload_n 0, 1) := by decide +kernel
theorem dX2_look_52 : decode cX2_look 52 = .ok (.getfield 25, 3) := by decide +kernel
theorem dX2_look_55 : decode cX2_look 55 = .ok (.iload_n 2, 1) := by decide +kernel
theorem dX2_look_56 : decode cX2_look 56 = .ok (.bipush 9, 2) := by decide +kernel
theorem dX2_look_58 : decode cX2_look 58 = .ok (.imul, 1) := by decide +kernel
theorem dX2_look_59 : decode cX2_look 59 = .ok (.iload_n 3, 1) := by decide +kernel
theorem dX2_look_60 : decode cX2_look 60 = .ok (.iadd, 1) := by decide +kernel
theorem dX2_look_61 : decode cX2_look 61 = .ok (.iaload, 1) := by decide +kernel
theorem dX2_look_62 : decode cX2_look 62 = .ok (.goto 4, 3) := by decide +kernel
theorem dX2_look_65 : decode cX2_look 65 = .ok (.iconst (-1), 1) := by decide +kernel
theorem dX2_look_66 : decode cX2_look 66 = .ok (.ireturn, 1) := by decide +kernel
theorem dX2_look_67 : decode cX2_look 67 = .ok (.iload_n 1, 1) := by decide +kernel
theorem dX2_look_68 : decode cX2_look 68 = .ok (.bipush 10, 2) := by decide +kernel
theorem dX2_look_70 : decode cX2_look 70 = .ok (.if_icmp .ge 9, 3) := by decide +kernel
theorem dX2_look_73 : decode cX2_look 73 = .ok (.aload_n 0, 1) := by decide +kernel
theorem dX2_look_74 : decode cX2_look 74 = .ok (.iload_n 1, 1) := by decide +kernel
theorem dX2_look_75 : decode cX2_look 75 = .ok (.invokevirtual 81, 3) := by decide +kernel
theorem dX2_look_78 : decode cX2_look 78 = .ok (.ireturn, 1) := by decide +kernel
theorem dX2_look_79 : decode cX2_look 79 = .ok (.iload_n 1, 1) := by decide +kernel
theorem dX2_look_80 : decode cX2_look 80 = .ok (.bipush 10, 2) := by decide +kernel
theorem dX2_look_82 : decode cX2_look 82 = .ok (.irem, 1) := by decide +kernel
theorem dX2_look_83 : decode cX2_look 83 = .ok (.istore_n 2, 1) := by decide +kernel
theorem dX2_look_84 : decode cX2_look 84 = .ok (.iload_n 1, 1) := by decide +kernel
theorem dX2_look_85 : decode cX2_look 85 = .ok (.bipush 30, 2) := by decide +kernel
theorem dX2_look_87 : decode cX2_look 87 = .ok (.if_icmp .ge 15, 3) := by decide +kernel
theorem dX2_look_90 : decode cX2_look 90 = .ok (.aload_n 0, 1) := by decide +kernel
theorem dX2_look_91 : decode cX2_look 91 = .ok (.iload_n 1, 1) := by decide +kernel
theorem dX2_look_92 : decode cX2_look 92 = .ok (.bipush 10, 2) := by decide +kernel
theorem dX2_look_94 : decode cX2_look 94 = .ok (.idiv, 1) := by decide +kernel
theorem dX2_look_95 : decode cX2_look 95 = .ok (.iload_n 2, 1) := by decide +kernel
theorem dX2_look_96 : decode cX2_look 96 = .ok (.invokevirtual 85, 3) := by decide +kernel
theorem dX2_look_99 : decode cX2_look 99 = .ok (.goto 12, 3) := by decide +kernel
theorem dX2_look_102 : decode cX2_look 102 = .ok (.aload_n 0, 1) := by decide +kernel
theorem dX2_look_103 : decode cX2_look 103 = .ok (.iload_n 1, 1) := by decide +kernel
theorem dX2_look_104 : decode cX2_look 104 = .ok (.bipush 10, 2) := by decide +kernel
theorem dX2_look_106 : decode cX2_look 106 = .ok (.idiv, 1) := by decide +kernel
theorem dX2_look_107 : decode cX2_look 107 = .ok (.iload_n 2, 1) := by decide +kernel
theorem dX2_look_108 : decode cX2_look 108 = .ok (.invokevirtual 89, 3) := by decide +kernel
theorem dX2_look_111 : decode cX2_look 111 = .ok (.ireturn, 1) := by decide +kernel
theorem dX2_lookWhole_0 : decode cX2_lookWhole 0 = .ok (.iload_n 1, 1) := by decide +kernel
theorem dX2_lookWhole_1 : decode cX2_lookWhole 1 = .ok (.tableswitch 78 0 6 #[43, 48, 53, 58, 63, 68, 73], 43) := by decide +kernel
theorem dX2_lookWhole_44 : decode cX2_lookWhole 44 = .ok (.aload_n 0, 1) := by decide +kernel
theorem dX2_lookWhole_45 : decode cX2_lookWhole 45 = .ok (.getfield 43, 3) := by decide +kernel
theorem dX2_lookWhole_48 : decode cX2_lookWhole 48 = .ok (.ireturn, 1) := by decide +kernel
theorem dX2_lookWhole_49 : decode cX2_lookWhole 49 = .ok (.aload_n 0, 1) := by decide +kernel
theorem dX2_lookWhole_50 : decode cX2_lookWhole 50 = .ok (.getfield 46, 3) := by decide +kernel
theorem dX2_lookWhole_53 : decode cX2_lookWhole 53 = .ok (.ireturn, 1) := by decide +kernel
theorem dX2_lookWhole_54 : decode cX2_lookWhole 54 = .ok (.aload_n 0, 1) := by decide +kernel
theorem dX2_lookWhole_55 : decode cX2_lookWhole 55 = .ok (.getfield 49, 3) := by decide +kernel
theorem dX2_lookWhole_58 : decode cX2_lookWhole 58 = .ok (.ireturn, 1) := by decide +kernel
theorem dX2_lookWhole_59 : decode cX2_lookWhole 59 = .ok (.aload_n 0, 1) := by decide +kernel
theorem dX2_lookWhole_60 : decode cX2_lookWhole 60 = .ok (.getfield 52, 3) := by decide +kernel
theorem dX2_lookWhole_63 : decode cX2_lookWhole 63 = .ok (.ireturn, 1) := by decide +kernel
theorem dX2_lookWhole_64 : decode cX2_lookWhole 64 = .ok (.aload_n 0, 1) := by decide +kernel
theorem dX2_lookWhole_65 : decode cX2_lookWhole 65 = .ok (.getfield 55, 3) := by decide +kernel
theorem dX2_lookWhole_68 : decode cX2_lookWhole 68 = .ok (.ireturn, 1) := by decide +kernel
theorem dX2_lookWhole_69 : decode cX2_lookWhole 69 = .ok (.aload_n 0, 1) := by decide +kernel
theorem dX2_lookWhole_70 : decode cX2_lookWhole 70 = .ok (.getfield 9, 3) := by decide +kernel
theorem dX2_lookWhole_73 : decode cX2_lookWhole 73 = .ok (.ireturn, 1) := by decide +kernel
theorem dX2_lookWhole_74 : decode cX2_lookWhole 74 = .ok (.aload_n 0, 1) := by decide +kernel
theorem dX2_lookWhole_75 : decode cX2_lookWhole 75 = .ok (.getfield 15, 3) := by decide +kernel
theorem dX2_lookWhole_78 : decode cX2_lookWhole 78 = .ok (.ireturn, 1) := by decide +kernel
theorem dX2_lookWhole_79 : decode cX2_lookWhole 79 = .ok (.iconst (-1), 1) := by decide +kernel
theorem dX2_lookWhole_80 : decode cX2_lookWhole 80 = .ok (.ireturn, 1) := by decide +kernel
theorem dX2_lookHut_0 : decode cX2_lookHut 0 = .ok (.aload_n 0, 1) := by decide +kernel
theorem dX2_lookHut_1 : decode cX2_lookHut 1 = .ok (.iload_n 2, 1) := by decide +kernel
theorem dX2_lookHut_2 : decode cX2_lookHut 2 = .ok (.invokevirtual 70, 3) := by decide +kernel
theorem dX2_lookHut_5 : decode cX2_lookHut 5 = .ok (.ifCond .ne 5, 3) := by decide +kernel
theorem dX2_lookHut_8 : decode cX2_lookHut 8 = .ok (.iconst (-1), 1) := by decide +kernel
theorem dX2_lookHut_9 : decode cX2_lookHut 9 = .ok (.ireturn, 1) := by decide +kernel
theorem dX2_lookHut_10 : decode cX2_lookHut 10 = .ok (.iload_n 1, 1) := by decide +kernel
theorem dX2_lookHut_11 : decode cX2_lookHut 11 = .ok (.iconst 1, 1) := by decide +kernel
theorem dX2_lookHut_12 : decode cX2_lookHut 12 = .ok (.if_icmp .ne 12, 3) := by decide +kernel
theorem dX2_lookHut_15 : decode cX2_lookHut 15 = .ok (.aload_n 0, 1) := by decide +kernel
theorem dX2_lookHut_16 : decode cX2_lookHut 16 = .ok (.getfield 18, 3) := by decide +kernel
theorem dX2_lookHut_19 : decode cX2_lookHut 19 = .ok (.iload_n 2, 1) := by decide +kernel
theorem dX2_lookHut_20 : decode cX2_lookHut 20 = .ok (.iaload, 1) := by decide +kernel
theorem dX2_lookHut_21 : decode cX2_lookHut 21 = .ok (.goto 9, 3) := by decide +kernel
theorem dX2_lookHut_24 : decode cX2_lookHut 24 = .ok (.aload_n 0, 1) := by decide +kernel
theorem dX2_lookHut_25 : decode cX2_lookHut 25 = .ok (.getfield 22, 3) := by decide +kernel
theorem dX2_lookHut_28 : decode cX2_lookHut 28 = .ok (.iload_n 2, 1) := by decide +kernel
theorem dX2_lookHut_29 : decode cX2_lookHut 29 = .ok (.iaload, 1) := by decide +kernel
theorem dX2_lookHut_30 : decode cX2_lookHut 30 = .ok (.ireturn, 1) := by decide +kernel
theorem dX2_lookSinger_0 : decode cX2_lookSinger 0 = .ok (.aload_n 0, 1) := by decide +kernel
theorem dX2_lookSinger_1 : decode cX2_lookSinger 1 = .ok (.iload_n 2, 1) := by decide +kernel
theorem dX2_lookSinger_2 : decode cX2_lookSinger 2 = .ok (.invokevirtual 92, 3) := by decide +kernel
theorem dX2_lookSinger_5 : decode cX2_lookSinger 5 = .ok (.ifCond .ne 5, 3) := by decide +kernel
theorem dX2_lookSinger_8 : decode cX2_lookSinger 8 = .ok (.iconst (-1), 1) := by decide +kernel
theorem dX2_lookSinger_9 : decode cX2_lookSinger 9 = .ok (.ireturn, 1) := by decide +kernel
theorem dX2_lookSinger_10 : decode cX2_lookSinger 10 = .ok (.iload_n 1, 1) := by decide +kernel
theorem dX2_lookSinger_11 : decode cX2_lookSinger 11 = .ok (.iconst 3, 1) := by decide +kernel
theorem dX2_lookSinger_12 : decode cX2_lookSinger 12 = .ok (.if_icmp .ne 10, 3) := by decide +kernel
theorem dX2_lookSinger_15 : decode cX2_lookSinger 15 = .ok (.aload_n 0, 1) := by decide +kernel
theorem dX2_lookSinger_16 : decode cX2_lookSinger 16 = .ok (.getfield 34, 3) := by decide +kernel
theorem dX2_lookSinger_19 : decode cX2_lookSinger 19 = .ok (.iload_n 2, 1) := by decide +kernel
theorem dX2_lookSinger_20 : decode cX2_lookSinger 20 = .ok (.iaload, 1) := by decide +kernel
theorem dX2_lookSinger_21 : decode cX2_lookSinger 21 = .ok (.ireturn, 1) := by decide +kernel
theorem dX2_lookSinger_22 : decode cX2_lookSinger 22 = .ok (.iload_n 1, 1) := by decide +kernel
theorem dX2_lookSinger_23 : decode cX2_lookSinger 23 = .ok (.iconst 4, 1) := by decide +kernel
theorem dX2_lookSinger_24 : decode cX2_lookSinger 24 = .ok (.if_icmp .ne 12, 3) := by decide +kernel
theorem dX2_lookSinger_27 : decode cX2_lookSinger 27 = .ok (.aload_n 0, 1) := by decide +kernel
theorem dX2_lookSinger_28 : decode cX2_lookSinger 28 = .ok (.getfield 37, 3) := by decide +kernel
theorem dX2_lookSinger_31 : decode cX2_lookSinger 31 = .ok (.iload_n 2, 1) := by decide +kernel
theorem dX2_lookSinger_32 : decode cX2_lookSinger 32 = .ok (.iaload, 1) := by decide +kernel
theorem dX2_lookSinger_33 : decode cX2_lookSinger 33 = .ok (.goto 9, 3) := by decide +kernel
theorem dX2_lookSinger_36 : decode cX2_lookSinger 36 = .ok (.aload_n 0, 1) := by decide +kernel
theorem dX2_lookSinger_37 : decode cX2_lookSinger 37 = .ok (.getfield 40, 3) := by decide +kernel
theorem dX2_lookSinger_40 : decode cX2_lookSinger 40 = .ok (.iload_n 2, 1) := by decide +kernel
theorem dX2_lookSinger_41 : decode cX2_lookSinger 41 = .ok (.iaload, 1) := by decide +kernel
theorem dX2_lookSinger_42 : decode cX2_lookSinger 42 = .ok (.ireturn, 1) := by decide +kernel
