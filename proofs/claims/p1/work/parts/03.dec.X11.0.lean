theorem dX11_init_0 : decode cX11_init 0 = .ok (.aload_n 0, 1) := by decide +kernel
theorem dX11_init_1 : decode cX11_init 1 = .ok (.invokespecial 1, 3) := by decide +kernel
theorem dX11_init_4 : decode cX11_init 4 = .ok (.aload_n 0, 1) := by decide +kernel
theorem dX11_init_5 : decode cX11_init 5 = .ok (.sipush 2400, 3) := by decide +kernel
theorem dX11_init_8 : decode cX11_init 8 = .ok (.newarray .byte, 2) := by decide +kernel
theorem dX11_init_10 : decode cX11_init 10 = .ok (.putfield 7, 3) := by decide +kernel
theorem dX11_init_13 : decode cX11_init 13 = .ok (.aload_n 0, 1) := by decide +kernel
theorem dX11_init_14 : decode cX11_init 14 = .ok (.iconst 4, 1) := by decide +kernel
theorem dX11_init_15 : decode cX11_init 15 = .ok (.newarray .int, 2) := by decide +kernel
theorem dX11_init_17 : decode cX11_init 17 = .ok (.putfield 13, 3) := by decide +kernel
theorem dX11_init_20 : decode cX11_init 20 = .ok (.aload_n 0, 1) := by decide +kernel
theorem dX11_init_21 : decode cX11_init 21 = .ok (.iconst 4, 1) := by decide +kernel
theorem dX11_init_22 : decode cX11_init 22 = .ok (.newarray .int, 2) := by decide +kernel
theorem dX11_init_24 : decode cX11_init 24 = .ok (.putfield 17, 3) := by decide +kernel
theorem dX11_init_27 : decode cX11_init 27 = .ok (.aload_n 0, 1) := by decide +kernel
theorem dX11_init_28 : decode cX11_init 28 = .ok (.iconst 4, 1) := by decide +kernel
theorem dX11_init_29 : decode cX11_init 29 = .ok (.newarray .int, 2) := by decide +kernel
theorem dX11_init_31 : decode cX11_init 31 = .ok (.putfield 20, 3) := by decide +kernel
theorem dX11_init_34 : decode cX11_init 34 = .ok (.aload_n 0, 1) := by decide +kernel
theorem dX11_init_35 : decode cX11_init 35 = .ok (.bipush 16, 2) := by decide +kernel
theorem dX11_init_37 : decode cX11_init 37 = .ok (.newarray .int, 2) := by decide +kernel
theorem dX11_init_39 : decode cX11_init 39 = .ok (.putfield 23, 3) := by decide +kernel
theorem dX11_init_42 : decode cX11_init 42 = .ok (.aload_n 0, 1) := by decide +kernel
theorem dX11_init_43 : decode cX11_init 43 = .ok (.sipush 1056, 3) := by decide +kernel
theorem dX11_init_46 : decode cX11_init 46 = .ok (.newarray .int, 2) := by decide +kernel
theorem dX11_init_48 : decode cX11_init 48 = .ok (.putfield 26, 3) := by decide +kernel
theorem dX11_init_51 : decode cX11_init 51 = .ok (.aload_n 0, 1) := by decide +kernel
theorem dX11_init_52 : decode cX11_init 52 = .ok (.sipush 968, 3) := by decide +kernel
theorem dX11_init_55 : decode cX11_init 55 = .ok (.newarray .int, 2) := by decide +kernel
theorem dX11_init_57 : decode cX11_init 57 = .ok (.putfield 29, 3) := by decide +kernel
theorem dX11_init_60 : decode cX11_init 60 = .ok (.aload_n 0, 1) := by decide +kernel
theorem dX11_init_61 : decode cX11_init 61 = .ok (.sipush 248, 3) := by decide +kernel
theorem dX11_init_64 : decode cX11_init 64 = .ok (.newarray .int, 2) := by decide +kernel
theorem dX11_init_66 : decode cX11_init 66 = .ok (.putfield 32, 3) := by decide +kernel
theorem dX11_init_69 : decode cX11_init 69 = .ok (.aload_n 0, 1) := by decide +kernel
theorem dX11_init_70 : decode cX11_init 70 = .ok (.sipush 160, 3) := by decide +kernel
theorem dX11_init_73 : decode cX11_init 73 = .ok (.newarray .int, 2) := by decide +kernel
theorem dX11_init_75 : decode cX11_init 75 = .ok (.putfield 35, 3) := by decide +kernel
theorem dX11_init_78 : decode cX11_init 78 = .ok (.aload_n 0, 1) := by decide +kernel
theorem dX11_init_79 : decode cX11_init 79 = .ok (.sipush 132, 3) := by decide +kernel
theorem dX11_init_82 : decode cX11_init 82 = .ok (.newarray .int, 2) := by decide +kernel
theorem dX11_init_84 : decode cX11_init 84 = .ok (.putfield 38, 3) := by decide +kernel
theorem dX11_init_87 : decode cX11_init 87 = .ok (.aload_n 0, 1) := by decide +kernel
theorem dX11_init_88 : decode cX11_init 88 = .ok (.iconst 3, 1) := by decide +kernel
theorem dX11_init_89 : decode cX11_init 89 = .ok (.newarray .int, 2) := by decide +kernel
theorem dX11_init_91 : decode cX11_init 91 = .ok (.putfield 41, 3) := by decide +kernel
theorem dX11_init_94 : decode cX11_init 94 = .ok (.aload_n 0, 1) := by decide +kernel
theorem dX11_init_95 : decode cX11_init 95 = .ok (.bipush 6, 2) := by decide +kernel
theorem dX11_init_97 : decode cX11_init 97 = .ok (.newarray .int, 2) := by decide +kernel
theorem dX11_init_99 : decode cX11_init 99 = .ok (.putfield 44, 3) := by decide +kernel
theorem dX11_init_102 : decode cX11_init 102 = .ok (.aload_n 0, 1) := by decide +kernel
theorem dX11_init_103 : decode cX11_init 103 = .ok (.bipush 6, 2) := by decide +kernel
theorem dX11_init_105 : decode cX11_init 105 = .ok (.newarray .int, 2) := by decide +kernel
theorem dX11_init_107 : decode cX11_init 107 = .ok (.putfield 47, 3) := by decide +kernel
theorem dX11_init_110 : decode cX11_init 110 = .ok (.aload_n 0, 1) := by decide +kernel
theorem dX11_init_111 : decode cX11_init 111 = .ok (.bipush 6, 2) := by decide +kernel
theorem dX11_init_113 : decode cX11_init 113 = .ok (.newarray .int, 2) := by decide +kernel
theorem dX11_init_115 : decode cX11_init 115 = .ok (.putfield 50, 3) := by decide +kernel
theorem dX11_init_118 : decode cX11_init 118 = .ok (.aload_n 0, 1) := by decide +kernel
theorem dX11_init_119 : decode cX11_init 119 = .ok (.bipush 9, 2) := by decide +kernel
theorem dX11_init_121 : decode cX11_init 121 = .ok (.newarray .int, 2) := by decide +kernel
theorem dX11_init_123 : decode cX11_init 123 = .ok (.putfield 53, 3) := by decide +kernel
theorem dX11_init_126 : decode cX11_init 126 = .ok (.aload_n 0, 1) := by decide +kernel
theorem dX11_init_127 : decode cX11_init 127 = .ok (.iconst 5, 1) := by decide +kernel
theorem dX11_init_128 : decode cX11_init 128 = .ok (.newarray .int, 2) := by decide +kernel
theorem dX11_init_130 : decode cX11_init 130 = .ok (.putfield 56, 3) := by decide +kernel
theorem dX11_init_133 : decode cX11_init 133 = .ok (.aload_n 0, 1) := by decide +kernel
theorem dX11_init_134 : decode cX11_init 134 = .ok (.bipush 9, 2) := by decide +kernel
theorem dX11_init_136 : decode cX11_init 136 = .ok (.newarray .int, 2) := by decide +kernel
theorem dX11_init_138 : decode cX11_init 138 = .ok (.putfield 59, 3) := by decide +kernel
theorem dX11_init_141 : decode cX11_init 141 = .ok (.aload_n 0, 1) := by decide +kernel
theorem dX11_init_142 : decode cX11_init 142 = .ok (.bipush 9, 2) := by decide +kernel
theorem dX11_init_144 : decode cX11_init 144 = .ok (.newarray .int, 2) := by decide +kernel
theorem dX11_init_146 : decode cX11_init 146 = .ok (.putfield 62, 3) := by decide +kernel
theorem dX11_init_149 : decode cX11_init 149 = .ok (.aload_n 0, 1) := by decide +kernel
theorem dX11_init_150 : decode cX11_init 150 = .ok (.bipush 9, 2) := by decide +kernel
theorem dX11_init_152 : decode cX11_init 152 = .ok (.newarray .int, 2) := by decide +kernel
theorem dX11_init_154 : decode cX11_init 154 = .ok (.putfield 65, 3) := by decide +kernel
theorem dX11_init_157 : decode cX11_init 157 = .ok (.aload_n 0, 1) := by decide +kernel
theorem dX11_init_158 : decode cX11_init 158 = .ok (.bipush 9, 2) := by decide +kernel
theorem dX11_init_160 : decode cX11_init 160 = .ok (.newarray .int, 2) := by decide +kernel
theorem dX11_init_162 : decode cX11_init 162 = .ok (.putfield 68, 3) := by decide +kernel
theorem dX11_init_165 : decode cX11_init 165 = .ok (.aload_n 0, 1) := by decide +kernel
theorem dX11_init_166 : decode cX11_init 166 = .ok (.bipush 9, 2) := by decide +kernel
theorem dX11_init_168 : decode cX11_init 168 = .ok (.newarray .int, 2) := by decide +kernel
theorem dX11_init_170 : decode cX11_init 170 = .ok (.putfield 71, 3) := by decide +kernel
theorem dX11_init_173 : decode cX11_init 173 = .ok (.aload_n 0, 1) := by decide +kernel
theorem dX11_init_174 : decode cX11_init 174 = .ok (.bipush 9, 2) := by decide +kernel
theorem dX11_init_176 : decode cX11_init 176 = .ok (.newarray .boolean, 2) := by decide +kernel
theorem dX11_init_178 : decode cX11_init 178 = .ok (.putfield 74, 3) := by decide +kernel
theorem dX11_init_181 : decode cX11_init 181 = .ok (.aload_n 0, 1) := by decide +kernel
theorem dX11_init_182 : decode cX11_init 182 = .ok (.bipush 81, 2) := by decide +kernel
theorem dX11_init_184 : decode cX11_init 184 = .ok (.newarray .int, 2) := by decide +kernel
theorem dX11_init_186 : decode cX11_init 186 = .ok (.putfield 78, 3) := by decide +kernel
theorem dX11_init_189 : decode cX11_init 189 = .ok (.aload_n 0, 1) := by decide +kernel
theorem dX11_init_190 : decode cX11_init 190 = .ok (.bipush 81, 2) := by decide +kernel
theorem dX11_init_192 : decode cX11_init 192 = .ok (.newarray .int, 2) := by decide +kernel
theorem dX11_init_194 : decode cX11_init 194 = .ok (.putfield 81, 3) := by decide +kernel
theorem dX11_init_197 : decode cX11_init 197 = .ok (.aload_n 0, 1) := by decide +kernel
theorem dX11_init_198 : decode cX11_init 198 = .ok (.sipush 4608, 3) := by decide +kernel
theorem dX11_init_201 : decode cX11_init 201 = .ok (.newarray .long, 2) := by decide +kernel
theorem dX11_init_203 : decode cX11_init 203 = .ok (.putfield 84, 3) := by decide +kernel
theorem dX11_init_206 : decode cX11_init 206 = .ok (.aload_n 0, 1) := by decide +kernel
theorem dX11_init_207 : decode cX11_init 207 = .ok (.sipush 3721, 3) := by decide +kernel
theorem dX11_init_210 : decode cX11_init 210 = .ok (.newarray .boolean, 2) := by decide +kernel
theorem dX11_init_212 : decode cX11_init 212 = .ok (.putfield 88, 3) := by decide +kernel
theorem dX11_init_215 : decode cX11_init 215 = .ok (.aload_n 0, 1) := by decide +kernel
theorem dX11_init_216 : decode cX11_init 216 = .ok (.bipush 9, 2) := by decide +kernel
theorem dX11_init_218 : decode cX11_init 218 = .ok (.newarray .int, 2) := by decide +kernel
theorem dX11_init_220 : decode cX11_init 220 = .ok (.putfield 91, 3) := by decide +kernel
theorem dX11_init_223 : decode cX11_init 223 = .ok (.aload_n 0, 1) := by decide +kernel
theorem dX11_init_224 : decode cX11_init 224 = .ok (.iconst 3, 1) := by decide +kernel
theorem dX11_init_225 : decode cX11_init 225 = .ok (.newarray .boolean, 2) := by decide +kernel
theorem dX11_init_227 : decode cX11_init 227 = .ok (.putfield 94, 3) := by decide +kernel
theorem dX11_init_230 : decode cX11_init 230 = .ok (.aload_n 0, 1) := by decide +kernel
theorem dX11_init_231 : decode cX11_init 231 = .ok (.getfield 20, 3) := by decide +kernel
theorem dX11_init_234 : decode cX11_init 234 = .ok (.iconst 0, 1) := by decide +kernel
theorem dX11_init_235 : decode cX11_init 235 = .ok (.iconst (-1), 1) := by decide +kernel
theorem dX11_init_236 : decode cX11_init 236 = .ok (.iastore, 1) := by decide +kernel
theorem dX11_init_237 : decode cX11_init 237 = .ok (.return_, 1) := by decide +kernel
theorem dX11_in_0 : decode cX11_in 0 = .ok (.iload_n 0, 1) := by decide +kernel
theorem dX11_in_1 : decode cX11_in 1 = .ok (.iload_n 1, 1) := by decide +kernel
theorem dX11_in_2 : decode cX11_in 2 = .ok (.if_icmp .lt 12, 3) := by decide +kernel
theorem dX11_in_5 : decode cX11_in 5 = .ok (.iload_n 0, 1) := by decide +kernel
theorem dX11_in_6 : decode cX11_in 6 = .ok (.iload_n 2, 1) := by decide +kernel
theorem dX11_in_7 : decode cX11_in 7 = .ok (.if_icmp .gt 7, 3) := by decide +kernel
theorem dX11_in_10 : decode cX11_in 10 = .ok (.iconst 1, 1) := by decide +kernel
theorem dX11_in_11 : decode cX11_in 11 = .ok (.goto 4, 3) := by decide +kernel
theorem dX11_in_14 : decode cX11_in 14 = .ok (.iconst 0, 1) := by decide +kernel
theorem dX11_in_15 : decode cX11_in 15 = .ok (.ireturn, 1) := by decide +kernel
theorem dX11_copyRow_0 : decode cX11_copyRow 0 = .ok (.iconst 0, 1) := by decide +kernel
theorem dX11_copyRow_1 : decode cX11_copyRow 1 = .ok (.istore 4, 2) := by decide +kernel
theorem dX11_copyRow_3 : decode cX11_copyRow 3 = .ok (.iload 4, 2) := by decide +kernel
theorem dX11_copyRow_5 : decode cX11_copyRow 5 = .ok (.iload_n 1, 1) := by decide +kernel
theorem dX11_copyRow_6 : decode cX11_copyRow 6 = .ok (.if_icmp .ge 25, 3) := by decide +kernel
theorem dX11_copyRow_9 : decode cX11_copyRow 9 = .ok (.aload_n 0, 1) := by decide +kernel
theorem dX11_copyRow_10 : decode cX11_copyRow 10 = .ok (.iload_n 1, 1) := by decide +kernel
theorem dX11_copyRow_11 : decode cX11_copyRow 11 = .ok (.iload_n 3, 1) := by decide +kernel
theorem dX11_copyRow_12 : decode cX11_copyRow 12 = .ok (.imul, 1) := by decide +kernel
theorem dX11_copyRow_13 : decode cX11_copyRow 13 = .ok (.iload 4, 2) := by decide +kernel
theorem dX11_copyRow_15 : decode cX11_copyRow 15 = .ok (.iadd, 1) := by decide +kernel
theorem dX11_copyRow_16 : decode cX11_copyRow 16 = .ok (.aload_n 0, 1) := by decide +kernel
theorem dX11_copyRow_17 : decode cX11_copyRow 17 = .ok (.iload_n 1, 1) := by decide +kernel
theorem dX11_copyRow_18 : decode cX11_copyRow 18 = .ok (.iload_n 2, 1) := by decide +kernel
theorem dX11_copyRow_19 : decode cX11_copyRow 19 = .ok (.imul, 1) := by decide +kernel
theorem dX11_copyRow_20 : decode cX11_copyRow 20 = .ok (.iload 4, 2) := by decide +kernel
theorem dX11_copyRow_22 : decode cX11_copyRow 22 = .ok (.iadd, 1) := by decide +kernel
theorem dX11_copyRow_23 : decode cX11_copyRow 23 = .ok (.iaload, 1) := by decide +kernel
theorem dX11_copyRow_24 : decode cX11_copyRow 24 = .ok (.iastore, 1) := by decide +kernel
theorem dX11_copyRow_25 : decode cX11_copyRow 25 = .ok (.iinc 4 1, 3) := by decide +kernel
theorem dX11_copyRow_28 : decode cX11_copyRow 28 = .ok (.goto (-25), 3) := by decide +kernel
theorem dX11_copyRow_31 : decode cX11_copyRow 31 = .ok (.return_, 1) := by decide +kernel
theorem dX11_copyAll_0 : decode cX11_copyAll 0 = .ok (.iconst 0, 1) := by decide +kernel
theorem dX11_copyAll_1 : decode cX11_copyAll 1 = .ok (.istore_n 3, 1) := by decide +kernel
theorem dX11_copyAll_2 : decode cX11_copyAll 2 = .ok (.iload_n 3, 1) := by decide +kernel
theorem dX11_copyAll_3 : decode cX11_copyAll 3 = .ok (.sipush 600, 3) := by decide +kernel
theorem dX11_copyAll_6 : decode cX11_copyAll 6 = .ok (.if_icmp .ge 33, 3) := by decide +kernel
theorem dX11_copyAll_9 : decode cX11_copyAll 9 = .ok (.aload_n 0, 1) := by decide +kernel
theorem dX11_copyAll_10 : decode cX11_copyAll 10 = .ok (.getfield 7, 3) := by decide +kernel
theorem dX11_copyAll_13 : decode cX11_copyAll 13 = .ok (.sipush 600, 3) := by decide +kernel
theorem dX11_copyAll_16 : decode cX11_copyAll 16 = .ok (.iload_n 2, 1) := by decide +kernel
theorem dX11_copyAll_17 : decode cX11_copyAll 17 = .ok (.imul, 1) := by decide +kernel
theorem dX11_copyAll_18 : decode cX11_copyAll 18 = .ok (.iload_n 3, 1) := by decide +kernel
theorem dX11_copyAll_19 : decode cX11_copyAll 19 = .ok (.iadd, 1) := by decide +kernel
theorem dX11_copyAll_20 : decode cX11_copyAll 20 = .ok (.aload_n 0, 1) := by decide +kernel
theorem dX11_copyAll_21 : decode cX11_copyAll 21 = .ok (.getfield 7, 3) := by decide +kernel
theorem dX11_copyAll_24 : decode cX11_copyAll 24 = .ok (.sipush 600, 3) := by decide +kernel
theorem dX11_copyAll_27 : decode cX11_copyAll 27 = .ok (.iload_n 1, 1) := by decide +kernel
theorem dX11_copyAll_28 : decode cX11_copyAll 28 = .ok (.imul, 1) := by decide +kernel
theorem dX11_copyAll_29 : decode cX11_copyAll 29 = .ok (.iload_n 3, 1) := by decide +kernel
theorem dX11_copyAll_30 : decode cX11_copyAll 30 = .ok (.iadd, 1) := by decide +kernel
theorem dX11_copyAll_31 : decode cX11_copyAll 31 = .ok (.baload, 1) := by decide +kernel
theorem dX11_copyAll_32 : decode cX11_copyAll 32 = .ok (.bastore, 1) := by decide +kernel
theorem dX11_copyAll_33 : decode cX11_copyAll 33 = .ok (.iinc 3 1, 3) := by decide +kernel
theorem dX11_copyAll_36 : decode cX11_copyAll 36 = .ok (.goto (-34), 3) := by decide +kernel
theorem dX11_copyAll_39 : decode cX11_copyAll 39 = .ok (.aload_n 0, 1) := by decide +kernel
theorem dX11_copyAll_40 : decode cX11_copyAll 40 = .ok (.getfield 13, 3) := by decide +kernel
theorem dX11_copyAll_43 : decode cX11_copyAll 43 = .ok (.iconst 1, 1) := by decide +kernel
theorem dX11_copyAll_44 : decode cX11_copyAll 44 = .ok (.iload_n 1, 1) := by decide +kernel
theorem dX11_copyAll_45 : decode cX11_copyAll 45 = .ok (.iload_n 2, 1) := by decide +kernel
theorem dX11_copyAll_46 : decode cX11_copyAll 46 = .ok (.invokestatic 105, 3) := by decide +kernel
theorem dX11_copyAll_49 : decode cX11_copyAll 49 = .ok (.aload_n 0, 1) := by decide +kernel
theorem dX11_copyAll_50 : decode cX11_copyAll 50 = .ok (.getfield 17, 3) := by decide +kernel
theorem dX11_copyAll_53 : decode cX11_copyAll 53 = .ok (.iconst 1, 1) := by decide +kernel
theorem dX11_copyAll_54 : decode cX11_copyAll 54 = .ok (.iload_n 1, 1) := by decide +kernel
theorem dX11_copyAll_55 : decode cX11_copyAll 55 = .ok (.iload_n 2, 1) := by decide +kernel
theorem dX11_copyAll_56 : decode cX11_copyAll 56 = .ok (.invokestatic 105, 3) := by decide +kernel
theorem dX11_copyAll_59 : decode cX11_copyAll 59 = .ok (.aload_n 0, 1) := by decide +kernel
theorem dX11_copyAll_60 : decode cX11_copyAll 60 = .ok (.getfield 20, 3) := by decide +kernel
theorem dX11_copyAll_63 : decode cX11_copyAll 63 = .ok (.iconst 1, 1) := by decide +kernel
theorem dX11_copyAll_64 : decode cX11_copyAll 64 = .ok (.iload_n 1, 1) := by decide +kernel
theorem dX11_copyAll_65 : decode cX11_copyAll 65 = .ok (.iload_n 2, 1) := by decide +kernel
theorem dX11_copyAll_66 : decode cX11_copyAll 66 = .ok (.invokestatic 105, 3) := by decide +kernel
theorem dX11_copyAll_69 : decode cX11_copyAll 69 = .ok (.aload_n 0, 1) := by decide +kernel
theorem dX11_copyAll_70 : decode cX11_copyAll 70 = .ok (.getfield 23, 3) := by decide +kernel
theorem dX11_copyAll_73 : decode cX11_copyAll 73 = .ok (.iconst 4, 1) := by decide +kernel
theorem dX11_copyAll_74 : decode cX11_copyAll 74 = .ok (.iload_n 1, 1) := by decide +kernel
theorem dX11_copyAll_75 : decode cX11_copyAll 75 = .ok (.iload_n 2, 1) := by decide +kernel
theorem dX11_copyAll_76 : decode cX11_copyAll 76 = .ok (.invokestatic 105, 3) := by decide +kernel
theorem dX11_copyAll_79 : decode cX11_copyAll 79 = .ok (.aload_n 0, 1) := by decide +kernel
theorem dX11_copyAll_80 : decode cX11_copyAll 80 = .ok (.getfield 26, 3) := by decide +kernel
theorem dX11_copyAll_83 : decode cX11_copyAll 83 = .ok (.sipush 264, 3) := by decide +kernel
theorem dX11_copyAll_86 : decode cX11_copyAll 86 = .ok (.iload_n 1, 1) := by decide +kernel
theorem dX11_copyAll_87 : decode cX11_copyAll 87 = .ok (.iload_n 2, 1) := by decide +kernel
theorem dX11_copyAll_88 : decode cX11_copyAll 88 = .ok (.invokestatic 105, 3) := by decide +kernel
theorem dX11_copyAll_91 : decode cX11_copyAll 91 = .ok (.aload_n 0, 1) := by decide +kernel
theorem dX11_copyAll_92 : decode cX11_copyAll 92 = .ok (.getfield 29, 3) := by decide +kernel
theorem dX11_copyAll_95 : decode cX11_copyAll 95 = .ok (.sipush 242, 3) := by decide +kernel
theorem dX11_copyAll_98 : decode cX11_copyAll 98 = .ok (.iload_n 1, 1) := by decide +kernel
theorem dX11_copyAll_99 : decode cX11_copyAll 99 = .ok (.iload_n 2, 1) := by decide +kernel
theorem dX11_copyAll_100 : decode cX11_copyAll 100 = .ok (.invokestatic 105, 3) := by decide +kernel
theorem dX11_copyAll_103 : decode cX11_copyAll 103 = .ok (.aload_n 0, 1) := by decide +kernel
theorem dX11_copyAll_104 : decode cX11_copyAll 104 = .ok (.getfield 32, 3) := by decide +kernel
theorem dX11_copyAll_107 : decode cX11_copyAll 107 = .ok (.bipush 62, 2) := by decide +kernel
theorem dX11_copyAll_109 : decode cX11_copyAll 109 = .ok (.iload_n 1, 1) := by decide +kernel
theorem dX11_copyAll_110 : decode cX11_copyAll 110 = .ok (.iload_n 2, 1) := by decide +kernel
theorem dX11_copyAll_111 : decode cX11_copyAll 111 = .ok (.invokestatic 105, 3) := by decide +kernel
theorem dX11_copyAll_114 : decode cX11_copyAll 114 = .ok (.aload_n 0, 1) := by decide +kernel
theorem dX11_copyAll_115 : decode cX11_copyAll 115 = .ok (.getfield 35, 3) := by decide +kernel
theorem dX11_copyAll_118 : decode cX11_copyAll 118 = .ok (.bipush 40, 2) := by decide +kernel
theorem dX11_copyAll_120 : decode cX11_copyAll 120 = .ok (.iload_n 1, 1) := by decide +kernel
theorem dX11_copyAll_121 : decode cX11_copyAll 121 = .ok (.iload_n 2, 1) := by decide +kernel
theorem dX11_copyAll_122 : decode cX11_copyAll 122 = .ok (.invokestatic 105, 3) := by decide +kernel
theorem dX11_copyAll_125 : decode cX11_copyAll 125 = .ok (.return_, 1) := by decide +kernel
theorem dX11_is_0 : decode cX11_is 0 = .ok (.iload_n 2, 1) := by decide +kernel
theorem dX11_is_1 : decode cX11_is 1 = .ok (.iconst 0, 1) := by decide +kernel
theorem dX11_is_2 : decode cX11_is 2 = .ok (.aload_n 0, 1) := by decide +kernel
theorem dX11_is_3 : decode cX11_is 3 = .ok (.getfield 23, 3) := by decide +kernel
theorem dX11_is_6 : decode cX11_is 6 = .ok (.iload_n 1, 1) := by decide +kernel
theorem dX11_is_7 : decode cX11_is 7 = .ok (.iaload, 1) := by decide +kernel
theorem dX11_is_8 : decode cX11_is 8 = .ok (.iconst 1, 1) := by decide +kernel
theorem dX11_is_9 : decode cX11_is 9 = .ok (.isub, 1) := by decide +kernel
theorem dX11_is_10 : decode cX11_is 10 = .ok (.invokestatic 109, 3) := by decide +kernel
theorem dX11_is_13 : decode cX11_is 13 = .ok (.ireturn, 1) := by decide +kernel
theorem dX11_feed_0 : decode cX11_feed 0 = .ok (.aload_n 0, 1) := by decide +kernel
theorem dX11_feed_1 : decode cX11_feed 1 = .ok (.iconst 0, 1) := by decide +kernel
theorem dX11_feed_2 : decode cX11_feed 2 = .ok (.putfield 97, 3) := by decide +kernel
theorem dX11_feed_5 : decode cX11_feed 5 = .ok (.aload_n 0, 1) := by decide +kernel
theorem dX11_feed_6 : decode cX11_feed 6 = .ok (.getfield 13, 3) := by decide +kernel
theorem dX11_feed_9 : decode cX11_feed 9 = .ok (.iconst 0, 1) := by decide +kernel
theorem dX11_feed_10 : decode cX11_feed 10 = .ok (.iaload, 1) := by decide +kernel
theorem dX11_feed_11 : decode cX11_feed 11 = .ok (.bipush 20, 2) := by decide +kernel
theorem dX11_feed_13 : decode cX11_feed 13 = .ok (.iadd, 1) := by decide +kernel
theorem dX11_feed_14 : decode cX11_feed 14 = .ok (.sipush 600, 3) := by decide +kernel
theorem dX11_feed_17 : decode cX11_feed 17 = .ok (.if_icmp .le 5, 3) := by decide +kernel
theorem dX11_feed_20 : decode cX11_feed 20 = .ok (.iconst (-1), 1) := by decide +kernel
theorem dX11_feed_21 : decode cX11_feed 21 = .ok (.ireturn, 1) := by decide +kernel
theorem dX11_feed_22 : decode cX11_feed 22 = .ok (.aload_n 0, 1) := by decide +kernel
theorem dX11_feed_23 : decode cX11_feed 23 = .ok (.iload_n 1, 1) := by decide +kernel
theorem dX11_feed_24 : decode cX11_feed 24 = .ok (.invokevirtual 113, 3) := by decide +kernel
theorem dX11_feed_27 : decode cX11_feed 27 = .ok (.aload_n 0, 1) := by decide +kernel
theorem dX11_feed_28 : decode cX11_feed 28 = .ok (.iload_n 2, 1) := by decide +kernel
theorem dX11_feed_29 : decode cX11_feed 29 = .ok (.invokevirtual 113, 3) := by decide +kernel
theorem dX11_feed_32 : decode cX11_feed 32 = .ok (.aload_n 0, 1) := by decide +kernel
theorem dX11_feed_33 : decode cX11_feed 33 = .ok (.iload_n 3, 1) := by decide +kernel
theorem dX11_feed_34 : decode cX11_feed 34 = .ok (.invokevirtual 113, 3) := by decide +kernel
theorem dX11_feed_37 : decode cX11_feed 37 = .ok (.aload_n 0, 1) := by decide +kernel
theorem dX11_feed_38 : decode cX11_feed 38 = .ok (.iload 4, 2) := by decide +kernel
theorem dX11_feed_40 : decode cX11_feed 40 = .ok (.invokevirtual 113, 3) := by decide +kernel
theorem dX11_feed_43 : decode cX11_feed 43 = .ok (.aload_n 0, 1) := by decide +kernel
theorem dX11_feed_44 : decode cX11_feed 44 = .ok (.iload 5, 2) := by decide +kernel
theorem dX11_feed_46 : decode cX11_feed 46 = .ok (.invokevirtual 113, 3) := by decide +kernel
theorem dX11_feed_49 : decode cX11_feed 49 = .ok (.aload_n 0, 1) := by decide +kernel
theorem dX11_feed_50 : decode cX11_feed 50 = .ok (.getfield 13, 3) := by decide +kernel
theorem dX11_feed_53 : decode cX11_feed 53 = .ok (.iconst 0, 1) := by decide +kernel
theorem dX11_feed_54 : decode cX11_feed 54 = .ok (.iaload, 1) := by decide +kernel
theorem dX11_feed_55 : decode cX11_feed 55 = .ok (.ireturn, 1) := by decide +kernel
theorem dX11_four_0 : decode cX11_four 0 = .ok (.bipush 24, 2) := by decide +kernel
theorem dX11_four_2 : decode cX11_four 2 = .ok (.istore_n 2, 1) := by decide +kernel
theorem dX11_four_3 : decode cX11_four 3 = .ok (.iload_n 2, 1) := by decide +kernel
theorem dX11_four_4 : decode cX11_four 4 = .ok (.ifCond .lt 34, 3) := by decide +kernel
theorem dX11_four_7 : decode cX11_four 7 = .ok (.aload_n 0, 1) := by decide +kernel
theorem dX11_four_8 : decode cX11_four 8 = .ok (.getfield 7, 3) := by decide +kernel
theorem dX11_four_11 : decode cX11_four 11 = .ok (.aload_n 0, 1) := by decide +kernel
theorem dX11_four_12 : decode cX11_four 12 = .ok (.getfield 13, 3) := by decide +kernel
theorem dX11_four_15 : decode cX11_four 15 = .ok (.iconst 0, 1) := by decide +kernel
theorem dX11_four_16 : decode cX11_four 16 = .ok (.iaload, 1) := by decide +kernel
theorem dX11_four_17 : decode cX11_four 17 = .ok (.iload_n 1, 1) := by decide +kernel
theorem dX11_four_18 : decode cX11_four 18 = .ok (.iload_n 2, 1) := by decide +kernel
theorem dX11_four_19 : decode cX11_four 19 = .ok (.ishr, 1) := by decide +kernel
theorem dX11_four_20 : decode cX11_four 20 = .ok (.i2b, 1) := by decide +kernel
theorem dX11_four_21 : decode cX11_four 21 = .ok (.bastore, 1) := by decide +kernel
theorem dX11_four_22 : decode cX11_four 22 = .ok (.aload_n 0, 1) := by decide +kernel
theorem dX11_four_23 : decode cX11_four 23 = .ok (.getfield 13, 3) := by decide +kernel
theorem dX11_four_26 : decode cX11_four 26 = .ok (.iconst 0, 1) := by decide +kernel
theorem dX11_four_27 : decode cX11_four 27 = .ok (.dup2, 1) := by decide +kernel
theorem dX11_four_28 : decode cX11_four 28 = .ok (.iaload, 1) := by decide +kernel
theorem dX11_four_29 : decode cX11_four 29 = .ok (.iconst 1, 1) := by decide +kernel
theorem dX11_four_30 : decode cX11_four 30 = .ok (.iadd, 1) := by decide +kernel
theorem dX11_four_31 : decode cX11_four 31 = .ok (.iastore, 1) := by decide +kernel
theorem dX11_four_32 : decode cX11_four 32 = .ok (.iinc 2 (-8), 3) := by decide +kernel
theorem dX11_four_35 : decode cX11_four 35 = .ok (.goto (-32), 3) := by decide +kernel
theorem dX11_four_38 : decode cX11_four 38 = .ok (.return_, 1) := by decide +kernel
theorem dX11_end_0 : decode cX11_end 0 = .ok (.aload_n 0, 1) := by decide +kernel
theorem dX11_end_1 : decode cX11_end 1 = .ok (.iconst 0, 1) := by decide +kernel
theorem dX11_end_2 : decode cX11_end 2 = .ok (.putfield 97, 3) := by decide +kernel
theorem dX11_end_5 : decode cX11_end 5 = .ok (.iload_n 1, 1) := by decide +kernel
theorem dX11_end_6 : decode cX11_end 6 = .ok (.iconst 0, 1) := by decide +kernel
theorem dX11_end_7 : decode cX11_end 7 = .ok (.aload_n 0, 1) := by decide +kernel
theorem dX11_end_8 : decode cX11_end 8 = .ok (.getfield 13, 3) := by decide +kernel
theorem dX11_end_11 : decode cX11_end 11 = .ok (.iconst 0, 1) := by decide +kernel
theorem dX11_end_12 : decode cX11_end 12 = .ok (.iaload, 1) := by decide +kernel
theorem dX11_end_13 : decode cX11_end 13 = .ok (.invokestatic 109, 3) := by decide +kernel
theorem dX11_end_16 : decode cX11_end 16 = .ok (.ifCond .ne 5, 3) := by decide +kernel
theorem dX11_end_19 : decode cX11_end 19 = .ok (.iconst (-1), 1) := by decide +kernel
theorem dX11_end_20 : decode cX11_end 20 = .ok (.ireturn, 1) := by decide +kernel
theorem dX11_end_21 : decode cX11_end 21 = .ok (.aload_n 0, 1) := by decide +kernel
theorem dX11_end_22 : decode cX11_end 22 = .ok (.getfield 13, 3) := by decide +kernel
theorem dX11_end_25 : decode cX11_end 25 = .ok (.iconst 0, 1) := by decide +kernel
theorem dX11_end_26 : decode cX11_end 26 = .ok (.iload_n 1, 1) := by decide +kernel
theorem dX11_end_27 : decode cX11_end 27 = .ok (.iastore, 1) := by decide +kernel
theorem dX11_end_28 : decode cX11_end 28 = .ok (.iload_n 1, 1) := by decide +kernel
theorem dX11_end_29 : decode cX11_end 29 = .ok (.ireturn, 1) := by decide +kernel
theorem dX11_see_0 : decode cX11_see 0 = .ok (.aload_n 0, 1) := by decide +kernel
theorem dX11_see_1 : decode cX11_see 1 = .ok (.getfield 117, 3) := by decide +kernel
theorem dX11_see_4 : decode cX11_see 4 = .ok (.aload_n 0, 1) := by decide +kernel
theorem dX11_see_5 : decode cX11_see 5 = .ok (.getfield 120, 3) := by decide +kernel
theorem dX11_see_8 : decode cX11_see 8 = .ok (.if_icmp .ge 19, 3) := by decide +kernel
theorem dX11_see_11 : decode cX11_see 11 = .ok (.aload_n 0, 1) := by decide +kernel
theorem dX11_see_12 : decode cX11_see 12 = .ok (.getfield 7, 3) := by decide +kernel
theorem dX11_see_15 : decode cX11_see 15 = .ok (.aload_n 0, 1) := by decide +kernel
theorem dX11_see_16 : decode cX11_see 16 = .ok (.getfield 117, 3) := by decide +kernel
theorem dX11_see_19 : decode cX11_see 19 = .ok (.baload, 1) := by decide +kernel
theorem dX11_see_20 : decode cX11_see 20 = .ok (.sipush 255, 3) := by decide +kernel
theorem dX11_see_23 : decode cX11_see 23 = .ok (.iand, 1) := by decide +kernel
theorem dX11_see_24 : decode cX11_see 24 = .ok (.goto 4, 3) := by decide +kernel
theorem dX11_see_27 : decode cX11_see 27 = .ok (.iconst (-1), 1) := by decide +kernel
theorem dX11_see_28 : decode cX11_see 28 = .ok (.ireturn, 1) := by decide +kernel
theorem dX11_token_0 : decode cX11_token 0 = .ok (.aload_n 0, 1) := by decide +kernel
theorem dX11_token_1 : decode cX11_token 1 = .ok (.invokevirtual 123, 3) := by decide +kernel
theorem dX11_token_4 : decode cX11_token 4 = .ok (.bipush 10, 2) := by decide +kernel
theorem dX11_token_6 : decode cX11_token 6 = .ok (.if_icmp .eq 12, 3) := by decide +kernel
theorem dX11_token_9 : decode cX11_token 9 = .ok (.aload_n 0, 1) := by decide +kernel
theorem dX11_token_10 : decode cX11_token 10 = .ok (.invokevirtual 123, 3) := by decide +kernel
theorem dX11_token_13 : decode cX11_token 13 = .ok (.bipush 32, 2) := by decide +kernel
theorem dX11_token_15 : decode cX11_token 15 = .ok (.if_icmp .ne 16, 3) := by decide +kernel
theorem dX11_token_18 : decode cX11_token 18 = .ok (.aload_n 0, 1) := by decide +kernel
theorem dX11_token_19 : decode cX11_token 19 = .ok (.dup, 1) := by decide +kernel
theorem dX11_token_20 : decode cX11_token 20 = .ok (.getfield 117, 3) := by decide +kernel
theorem dX11_token_23 : decode cX11_token 23 = .ok (.iconst 1, 1) := by decide +kernel
theorem dX11_token_24 : decode cX11_token 24 = .ok (.iadd, 1) := by decide +kernel
theorem dX11_token_25 : decode cX11_token 25 = .ok (.putfield 117, 3) := by decide +kernel
theorem dX11_token_28 : decode cX11_token 28 = .ok (.goto (-28), 3) := by decide +kernel
theorem dX11_token_31 : decode cX11_token 31 = .ok (.aload_n 0, 1) := by decide +kernel
theorem dX11_token_32 : decode cX11_token 32 = .ok (.aload_n 0, 1) := by decide +kernel
theorem dX11_token_33 : decode cX11_token 33 = .ok (.getfield 117, 3) := by decide +kernel
theorem dX11_token_36 : decode cX11_token 36 = .ok (.putfield 127, 3) := by decide +kernel
theorem dX11_token_39 : decode cX11_token 39 = .ok (.aload_n 0, 1) := by decide +kernel
theorem dX11_token_40 : decode cX11_token 40 = .ok (.invokevirtual 123, 3) := by decide +kernel
theorem dX11_token_43 : decode cX11_token 43 = .ok (.istore_n 1, 1) := by decide +kernel
theorem dX11_token_44 : decode cX11_token 44 = .ok (.aload_n 0, 1) := by decide +kernel
theorem dX11_token_45 : decode cX11_token 45 = .ok (.lconst 0, 1) := by decide +kernel
theorem dX11_token_46 : decode cX11_token 46 = .ok (.putfield 130, 3) := by decide +kernel
theorem dX11_token_49 : decode cX11_token 49 = .ok (.iconst 0, 1) := by decide +kernel
theorem dX11_token_50 : decode cX11_token 50 = .ok (.istore_n 2, 1) := by decide +kernel
theorem dX11_token_51 : decode cX11_token 51 = .ok (.iload_n 1, 1) := by decide +kernel
theorem dX11_token_52 : decode cX11_token 52 = .ok (.ifCond .ge 11, 3) := by decide +kernel
theorem dX11_token_55 : decode cX11_token 55 = .ok (.aload_n 0, 1) := by decide +kernel
theorem dX11_token_56 : decode cX11_token 56 = .ok (.iconst 0, 1) := by decide +kernel
theorem dX11_token_57 : decode cX11_token 57 = .ok (.putfield 134, 3) := by decide +kernel
theorem dX11_token_60 : decode cX11_token 60 = .ok (.goto 206, 3) := by decide +kernel
theorem dX11_token_63 : decode cX11_token 63 = .ok (.iload_n 1, 1) := by decide +kernel
theorem dX11_token_64 : decode cX11_token 64 = .ok (.bipush 97, 2) := by decide +kernel
theorem dX11_token_66 : decode cX11_token 66 = .ok (.bipush 122, 2) := by decide +kernel
theorem dX11_token_68 : decode cX11_token 68 = .ok (.invokestatic 109, 3) := by decide +kernel
theorem dX11_token_71 : decode cX11_token 71 = .ok (.ifCond .eq 76, 3) := by decide +kernel
theorem dX11_token_74 : decode cX11_token 74 = .ok (.aload_n 0, 1) := by decide +kernel
theorem dX11_token_75 : decode cX11_token 75 = .ok (.invokevirtual 123, 3) := by decide +kernel
theorem dX11_token_78 : decode cX11_token 78 = .ok (.bipush 97, 2) := by decide +kernel
theorem dX11_token_80 : decode cX11_token 80 = .ok (.bipush 122, 2) := by decide +kernel
theorem dX11_token_82 : decode cX11_token 82 = .ok (.invokestatic 109, 3) := by decide +kernel
theorem dX11_token_85 : decode cX11_token 85 = .ok (.ifCond .eq 36, 3) := by decide +kernel
theorem dX11_token_88 : decode cX11_token 88 = .ok (.aload_n 0, 1) := by decide +kernel
theorem dX11_token_89 : decode cX11_token 89 = .ok (.aload_n 0, 1) := by decide +kernel
theorem dX11_token_90 : decode cX11_token 90 = .ok (.getfield 130, 3) := by decide +kernel
theorem dX11_token_93 : decode cX11_token 93 = .ok (.bipush 8, 2) := by decide +kernel
theorem dX11_token_95 : decode cX11_token 95 = .ok (.lshl, 1) := by decide +kernel
theorem dX11_token_96 : decode cX11_token 96 = .ok (.aload_n 0, 1) := by decide +kernel
theorem dX11_token_97 : decode cX11_token 97 = .ok (.invokevirtual 123, 3) := by decide +kernel
theorem dX11_token_100 : decode cX11_token 100 = .ok (.i2l, 1) := by decide +kernel
theorem dX11_token_101 : decode cX11_token 101 = .ok (.lor, 1) := by decide +kernel
theorem dX11_token_102 : decode cX11_token 102 = .ok (.putfield 130, 3) := by decide +kernel
theorem dX11_token_105 : decode cX11_token 105 = .ok (.aload_n 0, 1) := by decide +kernel
theorem dX11_token_106 : decode cX11_token 106 = .ok (.dup, 1) := by decide +kernel
theorem dX11_token_107 : decode cX11_token 107 = .ok (.getfield 117, 3) := by decide +kernel
theorem dX11_token_110 : decode cX11_token 110 = .ok (.iconst 1, 1) := by decide +kernel
theorem dX11_token_111 : decode cX11_token 111 = .ok (.iadd, 1) := by decide +kernel
theorem dX11_token_112 : decode cX11_token 112 = .ok (.putfield 117, 3) := by decide +kernel
theorem dX11_token_115 : decode cX11_token 115 = .ok (.iinc 2 1, 3) := by decide +kernel
theorem dX11_token_118 : decode cX11_token 118 = .ok (.goto (-44), 3) := by decide +kernel
theorem dX11_token_121 : decode cX11_token 121 = .ok (.aload_n 0, 1) := by decide +kernel
theorem dX11_token_122 : decode cX11_token 122 = .ok (.iload_n 2, 1) := by decide +kernel
theorem dX11_token_123 : decode cX11_token 123 = .ok (.bipush 8, 2) := by decide +kernel
theorem dX11_token_125 : decode cX11_token 125 = .ok (.if_icmp .le 7, 3) := by decide +kernel
theorem dX11_token_128 : decode cX11_token 128 = .ok (.lconst 0, 1) := by decide +kernel
theorem dX11_token_129 : decode cX11_token 129 = .ok (.goto 7, 3) := by decide +kernel
theorem dX11_token_132 : decode cX11_token 132 = .ok (.aload_n 0, 1) := by decide +kernel
theorem dX11_token_133 : decode cX11_token 133 = .ok (.getfield 130, 3) := by decide +kernel
theorem dX11_token_136 : decode cX11_token 136 = .ok (.putfield 130, 3) := by decide +kernel
theorem dX11_token_139 : decode cX11_token 139 = .ok (.aload_n 0, 1) := by decide +kernel
theorem dX11_token_140 : decode cX11_token 140 = .ok (.iconst 2, 1) := by decide +kernel
theorem dX11_token_141 : decode cX11_token 141 = .ok (.putfield 134, 3) := by decide +kernel
theorem dX11_token_144 : decode cX11_token 144 = .ok (.goto 122, 3) := by decide +kernel
theorem dX11_token_147 : decode cX11_token 147 = .ok (.iload_n 1, 1) := by decide +kernel
theorem dX11_token_148 : decode cX11_token 148 = .ok (.bipush 48, 2) := by decide +kernel
theorem dX11_token_150 : decode cX11_token 150 = .ok (.bipush 57, 2) := by decide +kernel
theorem dX11_token_152 : decode cX11_token 152 = .ok (.invokestatic 109, 3) := by decide +kernel
theorem dX11_token_155 : decode cX11_token 155 = .ok (.ifCond .eq 86, 3) := by decide +kernel
theorem dX11_token_158 : decode cX11_token 158 = .ok (.aload_n 0, 1) := by decide +kernel
theorem dX11_token_159 : decode cX11_token 159 = .ok (.iconst 0, 1) := by decide +kernel
theorem dX11_token_160 : decode cX11_token 160 = .ok (.putfield 137, 3) := by decide +kernel
theorem dX11_token_163 : decode cX11_token 163 = .ok (.aload_n 0, 1) := by decide +kernel
theorem dX11_token_164 : decode cX11_token 164 = .ok (.invokevirtual 123, 3) := by decide +kernel
theorem dX11_token_167 : decode cX11_token 167 = .ok (.bipush 48, 2) := by decide +kernel
theorem dX11_token_169 : decode cX11_token 169 = .ok (.bipush 57, 2) := by decide +kernel
theorem dX11_token_171 : decode cX11_token 171 = .ok (.invokestatic 109, 3) := by decide +kernel
theorem dX11_token_174 : decode cX11_token 174 = .ok (.ifCond .eq 50, 3) := by decide +kernel
theorem dX11_token_177 : decode cX11_token 177 = .ok (.aload_n 0, 1) := by decide +kernel
theorem dX11_token_178 : decode cX11_token 178 = .ok (.iload_n 2, 1) := by decide +kernel
theorem dX11_token_179 : decode cX11_token 179 = .ok (.iconst 2, 1) := by decide +kernel
theorem dX11_token_180 : decode cX11_token 180 = .ok (.if_icmp .ge 21, 3) := by decide +kernel
theorem dX11_token_183 : decode cX11_token 183 = .ok (.bipush 10, 2) := by decide +kernel
theorem dX11_token_185 : decode cX11_token 185 = .ok (.aload_n 0, 1) := by decide +kernel
theorem dX11_token_186 : decode cX11_token 186 = .ok (.getfield 137, 3) := by decide +kernel
theorem dX11_token_189 : decode cX11_token 189 = .ok (.imul, 1) := by decide +kernel
theorem dX11_token_190 : decode cX11_token 190 = .ok (.aload_n 0, 1) := by decide +kernel
theorem dX11_token_191 : decode cX11_token 191 = .ok (.invokevirtual 123, 3) := by decide +kernel
theorem dX11_token_194 : decode cX11_token 194 = .ok (.iadd, 1) := by decide +kernel
theorem dX11_token_195 : decode cX11_token 195 = .ok (.bipush 48, 2) := by decide +kernel
theorem dX11_token_197 : decode cX11_token 197 = .ok (.isub, 1) := by decide +kernel
theorem dX11_token_198 : decode cX11_token 198 = .ok (.goto 7, 3) := by decide +kernel
theorem dX11_token_201 : decode cX11_token 201 = .ok (.aload_n 0, 1) := by decide +kernel
theorem dX11_token_202 : decode cX11_token 202 = .ok (.getfield 137, 3) := by decide +kernel
theorem dX11_token_205 : decode cX11_token 205 = .ok (.putfield 137, 3) := by decide +kernel
theorem dX11_token_208 : decode cX11_token 208 = .ok (.aload_n 0, 1) := by decide +kernel
theorem dX11_token_209 : decode cX11_token 209 = .ok (.dup, 1) := by decide +kernel
theorem dX11_token_210 : decode cX11_token 210 = .ok (.getfield 117, 3) := by decide +kernel
theorem dX11_token_213 : decode cX11_token 213 = .ok (.iconst 1, 1) := by decide +kernel
theorem dX11_token_214 : decode cX11_token 214 = .ok (.iadd, 1) := by decide +kernel
theorem dX11_token_215 : decode cX11_token 215 = .ok (.putfield 117, 3) := by decide +kernel
theorem dX11_token_218 : decode cX11_token 218 = .ok (.iinc 2 1, 3) := by decide +kernel
theorem dX11_token_221 : decode cX11_token 221 = .ok (.goto (-58), 3) := by decide +kernel
theorem dX11_token_224 : decode cX11_token 224 = .ok (.aload_n 0, 1) := by decide +kernel
theorem dX11_token_225 : decode cX11_token 225 = .ok (.iload_n 2, 1) := by decide +kernel
theorem dX11_token_226 : decode cX11_token 226 = .ok (.iconst 2, 1) := by decide +kernel
theorem dX11_token_227 : decode cX11_token 227 = .ok (.if_icmp .le 7, 3) := by decide +kernel
theorem dX11_token_230 : decode cX11_token 230 = .ok (.iconst 1, 1) := by decide +kernel
theorem dX11_token_231 : decode cX11_token 231 = .ok (.goto 4, 3) := by decide +kernel
theorem dX11_token_234 : decode cX11_token 234 = .ok (.iconst 3, 1) := by decide +kernel
theorem dX11_token_235 : decode cX11_token 235 = .ok (.putfield 134, 3) := by decide +kernel
theorem dX11_token_238 : decode cX11_token 238 = .ok (.goto 28, 3) := by decide +kernel
theorem dX11_token_241 : decode cX11_token 241 = .ok (.aload_n 0, 1) := by decide +kernel
theorem dX11_token_242 : decode cX11_token 242 = .ok (.dup, 1) := by decide +kernel
theorem dX11_token_243 : decode cX11_token 243 = .ok (.getfield 117, 3) := by decide +kernel
theorem dX11_token_246 : decode cX11_token 246 = .ok (.iconst 1, 1) := by decide +kernel
theorem dX11_token_247 : decode cX11_token 247 = .ok (.iadd, 1) := by decide +kernel
theorem dX11_token_248 : decode cX11_token 248 = .ok (.putfield 117, 3) := by decide +kernel
theorem dX11_token_251 : decode cX11_token 251 = .ok (.aload_n 0, 1) := by decide +kernel
theorem dX11_token_252 : decode cX11_token 252 = .ok (.iload_n 1, 1) := by decide +kernel
theorem dX11_token_253 : decode cX11_token 253 = .ok (.bipush 59, 2) := by decide +kernel
theorem dX11_token_255 : decode cX11_token 255 = .ok (.if_icmp .ne 7, 3) := by decide +kernel
theorem dX11_token_258 : decode cX11_token 258 = .ok (.iconst 4, 1) := by decide +kernel
theorem dX11_token_259 : decode cX11_token 259 = .ok (.goto 4, 3) := by decide +kernel
theorem dX11_token_262 : decode cX11_token 262 = .ok (.iconst 1, 1) := by decide +kernel
theorem dX11_token_263 : decode cX11_token 263 = .ok (.putfield 134, 3) := by decide +kernel
theorem dX11_token_266 : decode cX11_token 266 = .ok (.return_, 1) := by decide +kernel
theorem dX11_lines_0 : decode cX11_lines 0 = .ok (.iconst 1, 1) := by decide +kernel
theorem dX11_lines_1 : decode cX11_lines 1 = .ok (.istore_n 2, 1) := by decide +kernel
theorem dX11_lines_2 : decode cX11_lines 2 = .ok (.iload_n 2, 1) := by decide +kernel
theorem dX11_lines_3 : decode cX11_lines 3 = .ok (.ifCond .eq 71, 3) := by decide +kernel
theorem dX11_lines_6 : decode cX11_lines 6 = .ok (.aload_n 0, 1) := by decide +kernel
theorem dX11_lines_7 : decode cX11_lines 7 = .ok (.getfield 134, 3) := by decide +kernel
theorem dX11_lines_10 : decode cX11_lines 10 = .ok (.ifCond .eq 64, 3) := by decide +kernel
theorem dX11_lines_13 : decode cX11_lines 13 = .ok (.aload_n 0, 1) := by decide +kernel
theorem dX11_lines_14 : decode cX11_lines 14 = .ok (.getfield 127, 3) := by decide +kernel
theorem dX11_lines_17 : decode cX11_lines 17 = .ok (.istore_n 3, 1) := by decide +kernel
theorem dX11_lines_18 : decode cX11_lines 18 = .ok (.aload_n 0, 1) := by decide +kernel
theorem dX11_lines_19 : decode cX11_lines 19 = .ok (.iconst 1, 1) := by decide +kernel
theorem dX11_lines_20 : decode cX11_lines 20 = .ok (.putfield 157, 3) := by decide +kernel
theorem dX11_lines_23 : decode cX11_lines 23 = .ok (.aload_n 0, 1) := by decide +kernel
theorem dX11_lines_24 : decode cX11_lines 24 = .ok (.iload_n 1, 1) := by decide +kernel
theorem dX11_lines_25 : decode cX11_lines 25 = .ok (.aload_n 0, 1) := by decide +kernel
theorem dX11_lines_26 : decode cX11_lines 26 = .ok (.getfield 134, 3) := by decide +kernel
theorem dX11_lines_29 : decode cX11_lines 29 = .ok (.iconst 2, 1) := by decide +kernel
theorem dX11_lines_30 : decode cX11_lines 30 = .ok (.if_icmp .ne 10, 3) := by decide +kernel
theorem dX11_lines_33 : decode cX11_lines 33 = .ok (.aload_n 0, 1) := by decide +kernel
theorem dX11_lines_34 : decode cX11_lines 34 = .ok (.getfield 130, 3) := by decide +kernel
theorem dX11_lines_37 : decode cX11_lines 37 = .ok (.goto 4, 3) := by decide +kernel
theorem dX11_lines_40 : decode cX11_lines 40 = .ok (.lconst 0, 1) := by decide +kernel
theorem dX11_lines_41 : decode cX11_lines 41 = .ok (.iload_n 3, 1) := by decide +kernel
theorem dX11_lines_74 : decode cX11_lines 74 = .ok (.iload_n 2, 1) := by decide +kernel
theorem dX11_lines_75 : decode cX11_lines 75 = .ok (.ireturn, 1) := by decide +kernel
theorem dX11_readText_0 : decode cX11_readText 0 = .ok (.iconst 0, 1) := by decide +kernel
theorem dX11_readText_1 : decode cX11_readText 1 = .ok (.istore_n 2, 1) := by decide +kernel
theorem dX11_readText_2 : decode cX11_readText 2 = .ok (.iload_n 2, 1) := by decide +kernel
theorem dX11_readText_3 : decode cX11_readText 3 = .ok (.sipush 132, 3) := by decide +kernel
theorem dX11_readText_6 : decode cX11_readText 6 = .ok (.if_icmp .ge 16, 3) := by decide +kernel
theorem dX11_readText_9 : decode cX11_readText 9 = .ok (.aload_n 0, 1) := by decide +kernel
theorem dX11_readText_10 : decode cX11_readText 10 = .ok (.getfield 38, 3) := by decide +kernel
theorem dX11_readText_13 : decode cX11_readText 13 = .ok (.iload_n 2, 1) := by decide +kernel
theorem dX11_readText_14 : decode cX11_readText 14 = .ok (.iconst 0, 1) := by decide +kernel
theorem dX11_readText_15 : decode cX11_readText 15 = .ok (.iastore, 1) := by decide +kernel
theorem dX11_readText_16 : decode cX11_readText 16 = .ok (.iinc 2 1, 3) := by decide +kernel
theorem dX11_readText_19 : decode cX11_readText 19 = .ok (.goto (-17), 3) := by decide +kernel
theorem dX11_readText_22 : decode cX11_readText 22 = .ok (.iload_n 1, 1) := by decide +kernel
theorem dX11_readText_23 : decode cX11_readText 23 = .ok (.ifCond .ne 18, 3) := by decide +kernel
theorem dX11_readText_26 : decode cX11_readText 26 = .ok (.aload_n 0, 1) := by decide +kernel
theorem dX11_readText_27 : decode cX11_readText 27 = .ok (.getfield 38, 3) := by decide +kernel
theorem dX11_readText_30 : decode cX11_readText 30 = .ok (.iconst 5, 1) := by decide +kernel
theorem dX11_readText_31 : decode cX11_readText 31 = .ok (.iconst 2, 1) := by decide +kernel
theorem dX11_readText_32 : decode cX11_readText 32 = .ok (.iastore, 1) := by decide +kernel
theorem dX11_readText_33 : decode cX11_readText 33 = .ok (.aload_n 0, 1) := by decide +kernel
theorem dX11_readText_34 : decode cX11_readText 34 = .ok (.getfield 38, 3) := by decide +kernel
theorem dX11_readText_37 : decode cX11_readText 37 = .ok (.bipush 6, 2) := by decide +kernel
theorem dX11_readText_39 : decode cX11_readText 39 = .ok (.iconst 5, 1) := by decide +kernel
theorem dX11_readText_40 : decode cX11_readText 40 = .ok (.iastore, 1) := by decide +kernel
theorem dX11_readText_41 : decode cX11_readText 41 = .ok (.aload_n 0, 1) := by decide +kernel
theorem dX11_readText_42 : decode cX11_readText 42 = .ok (.iconst (-1), 1) := by decide +kernel
theorem dX11_readText_43 : decode cX11_readText 43 = .ok (.putfield 168, 3) := by decide +kernel
theorem dX11_readText_46 : decode cX11_readText 46 = .ok (.aload_n 0, 1) := by decide +kernel
theorem dX11_readText_47 : decode cX11_readText 47 = .ok (.iconst (-1), 1) := by decide +kernel
theorem dX11_readText_48 : decode cX11_readText 48 = .ok (.putfield 184, 3) := by decide +kernel
theorem dX11_readText_51 : decode cX11_readText 51 = .ok (.aload_n 0, 1) := by decide +kernel
theorem dX11_readText_52 : decode cX11_readText 52 = .ok (.iconst 0, 1) := by decide +kernel
theorem dX11_readText_53 : decode cX11_readText 53 = .ok (.putfield 117, 3) := by decide +kernel
theorem dX11_readText_56 : decode cX11_readText 56 = .ok (.aload_n 0, 1) := by decide +kernel
theorem dX11_readText_57 : decode cX11_readText 57 = .ok (.iconst 0, 1) := by decide +kernel
theorem dX11_readText_58 : decode cX11_readText 58 = .ok (.putfield 143, 3) := by decide +kernel
theorem dX11_readText_61 : decode cX11_readText 61 = .ok (.aload_n 0, 1) := by decide +kernel
theorem dX11_readText_62 : decode cX11_readText 62 = .ok (.invokevirtual 161, 3) := by decide +kernel
theorem dX11_readText_65 : decode cX11_readText 65 = .ok (.aload_n 0, 1) := by decide +kernel
theorem dX11_readText_66 : decode cX11_readText 66 = .ok (.iload_n 1, 1) := by decide +kernel
theorem dX11_readText_67 : decode cX11_readText 67 = .ok (.invokevirtual 284, 3) := by decide +kernel
theorem dX11_readText_70 : decode cX11_readText 70 = .ok (.istore_n 2, 1) := by decide +kernel
theorem dX11_readText_71 : decode cX11_readText 71 = .ok (.iload_n 2, 1) := by decide +kernel
theorem dX11_readText_72 : decode cX11_readText 72 = .ok (.ifCond .eq 49, 3) := by decide +kernel
theorem dX11_readText_75 : decode cX11_readText 75 = .ok (.iload_n 1, 1) := by decide +kernel
theorem dX11_readText_76 : decode cX11_readText 76 = .ok (.ifCond .ne 45, 3) := by decide +kernel
theorem dX11_readText_79 : decode cX11_readText 79 = .ok (.aload_n 0, 1) := by decide +kernel
theorem dX11_readText_80 : decode cX11_readText 80 = .ok (.getfield 143, 3) := by decide +kernel
theorem dX11_readText_83 : decode cX11_readText 83 = .ok (.ifCond .ne 38, 3) := by decide +kernel
theorem dX11_readText_86 : decode cX11_readText 86 = .ok (.aload_n 0, 1) := by decide +kernel
theorem dX11_readText_87 : decode cX11_readText 87 = .ok (.getfield 168, 3) := by decide +kernel
theorem dX11_readText_90 : decode cX11_readText 90 = .ok (.aload_n 0, 1) := by decide +kernel
theorem dX11_readText_91 : decode cX11_readText 91 = .ok (.getfield 38, 3) := by decide +kernel
theorem dX11_readText_94 : decode cX11_readText 94 = .ok (.iconst 0, 1) := by decide +kernel
theorem dX11_readText_95 : decode cX11_readText 95 = .ok (.iaload, 1) := by decide +kernel
theorem dX11_readText_96 : decode cX11_readText 96 = .ok (.if_icmp .ge 16, 3) := by decide +kernel
theorem dX11_readText_99 : decode cX11_readText 99 = .ok (.aload_n 0, 1) := by decide +kernel
theorem dX11_readText_100 : decode cX11_readText 100 = .ok (.getfield 184, 3) := by decide +kernel
theorem dX11_readText_103 : decode cX11_readText 103 = .ok (.aload_n 0, 1) := by decide +kernel
theorem dX11_readText_104 : decode cX11_readText 104 = .ok (.getfield 38, 3) := by decide +kernel
theorem dX11_readText_107 : decode cX11_readText 107 = .ok (.iconst 1, 1) := by decide +kernel
theorem dX11_readText_108 : decode cX11_readText 108 = .ok (.iaload, 1) := by decide +kernel
theorem dX11_readText_109 : decode cX11_readText 109 = .ok (.if_icmp .lt 12, 3) := by decide +kernel
theorem dX11_readText_112 : decode cX11_readText 112 = .ok (.aload_n 0, 1) := by decide +kernel
theorem dX11_readText_113 : decode cX11_readText 113 = .ok (.iconst 4, 1) := by decide +kernel
theorem dX11_readText_114 : decode cX11_readText 114 = .ok (.aload_n 0, 1) := by decide +kernel
theorem dX11_readText_115 : decode cX11_readText 115 = .ok (.getfield 127, 3) := by decide +kernel
theorem dX11_readText_121 : decode cX11_readText 121 = .ok (.aload_n 0, 1) := by decide +kernel
theorem dX11_readText_122 : decode cX11_readText 122 = .ok (.getfield 17, 3) := by decide +kernel
theorem dX11_readText_125 : decode cX11_readText 125 = .ok (.iconst 0, 1) := by decide +kernel
theorem dX11_readText_126 : decode cX11_readText 126 = .ok (.iload_n 2, 1) := by decide +kernel
theorem dX11_readText_127 : decode cX11_readText 127 = .ok (.ifCond .eq 10, 3) := by decide +kernel
theorem dX11_readText_130 : decode cX11_readText 130 = .ok (.aload_n 0, 1) := by decide +kernel
theorem dX11_readText_131 : decode cX11_readText 131 = .ok (.getfield 143, 3) := by decide +kernel
theorem dX11_readText_134 : decode cX11_readText 134 = .ok (.goto 4, 3) := by decide +kernel
theorem dX11_readText_137 : decode cX11_readText 137 = .ok (.iconst 1, 1) := by decide +kernel
theorem dX11_readText_138 : decode cX11_readText 138 = .ok (.iastore, 1) := by decide +kernel
theorem dX11_readText_139 : decode cX11_readText 139 = .ok (.aload_n 0, 1) := by decide +kernel
theorem dX11_readText_140 : decode cX11_readText 140 = .ok (.getfield 20, 3) := by decide +kernel
theorem dX11_readText_143 : decode cX11_readText 143 = .ok (.iconst 0, 1) := by decide +kernel
theorem dX11_readText_144 : decode cX11_readText 144 = .ok (.iload_n 2, 1) := by decide +kernel
theorem dX11_readText_145 : decode cX11_readText 145 = .ok (.ifCond .ne 10, 3) := by decide +kernel
theorem dX11_readText_148 : decode cX11_readText 148 = .ok (.aload_n 0, 1) := by decide +kernel
theorem dX11_readText_149 : decode cX11_readText 149 = .ok (.getfield 140, 3) := by decide +kernel
theorem dX11_readText_152 : decode cX11_readText 152 = .ok (.goto 18, 3) := by decide +kernel
theorem dX11_readText_155 : decode cX11_readText 155 = .ok (.aload_n 0, 1) := by decide +kernel
theorem dX11_readText_156 : decode cX11_readText 156 = .ok (.getfield 143, 3) := by decide +kernel
theorem dX11_readText_159 : decode cX11_readText 159 = .ok (.ifCond .le 10, 3) := by decide +kernel
theorem dX11_readText_162 : decode cX11_readText 162 = .ok (.aload_n 0, 1) := by decide +kernel
theorem dX11_readText_163 : decode cX11_readText 163 = .ok (.getfield 146, 3) := by decide +kernel
theorem dX11_readText_166 : decode cX11_readText 166 = .ok (.goto 4, 3) := by decide +kernel
theorem dX11_readText_169 : decode cX11_readText 169 = .ok (.iconst (-1), 1) := by decide +kernel
theorem dX11_readText_170 : decode cX11_readText 170 = .ok (.iastore, 1) := by decide +kernel
theorem dX11_readText_171 : decode cX11_readText 171 = .ok (.aload_n 0, 1) := by decide +kernel
theorem dX11_readText_172 : decode cX11_readText 172 = .ok (.getfield 17, 3) := by decide +kernel
theorem dX11_readText_175 : decode cX11_readText 175 = .ok (.iconst 0, 1) := by decide +kernel
theorem dX11_readText_176 : decode cX11_readText 176 = .ok (.iaload, 1) := by decide +kernel
theorem dX11_readText_177 : decode cX11_readText 177 = .ok (.ifCond .ne 7, 3) := by decide +kernel
theorem dX11_readText_180 : decode cX11_readText 180 = .ok (.iconst 1, 1) := by decide +kernel
theorem dX11_readText_181 : decode cX11_readText 181 = .ok (.goto 4, 3) := by decide +kernel
theorem dX11_readText_184 : decode cX11_readText 184 = .ok (.iconst 0, 1) := by decide +kernel
theorem dX11_readText_185 : decode cX11_readText 185 = .ok (.ireturn, 1) := by decide +kernel
theorem dX11_store_0 : decode cX11_store 0 = .ok (.iconst 0, 1) := by decide +kernel
theorem dX11_store_1 : decode cX11_store 1 = .ok (.istore 4, 2) := by decide +kernel
theorem dX11_store_3 : decode cX11_store 3 = .ok (.iload 4, 2) := by decide +kernel
theorem dX11_store_5 : decode cX11_store 5 = .ok (.iload_n 2, 1) := by decide +kernel
theorem dX11_store_6 : decode cX11_store 6 = .ok (.if_icmp .ge 24, 3) := by decide +kernel
theorem dX11_store_9 : decode cX11_store 9 = .ok (.aload_n 1, 1) := by decide +kernel
theorem dX11_store_10 : decode cX11_store 10 = .ok (.iload_n 2, 1) := by decide +kernel
theorem dX11_store_11 : decode cX11_store 11 = .ok (.iload_n 3, 1) := by decide +kernel
theorem dX11_store_12 : decode cX11_store 12 = .ok (.imul, 1) := by decide +kernel
theorem dX11_store_13 : decode cX11_store 13 = .ok (.iload 4, 2) := by decide +kernel
theorem dX11_store_15 : decode cX11_store 15 = .ok (.iadd, 1) := by decide +kernel
