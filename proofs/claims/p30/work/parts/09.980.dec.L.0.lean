section
theorem bd09_980_dec_L_0_0 : ([(0, [187, 0, 7]), (3, [89]), (4, [183, 0, 9]), (7, [76]), (8, [187, 0, 10]), (11, [89]), (12, [183, 0, 12]), (15, [77]), (16, [3]), (17, [62]), (18, [29]), (19, [42])] : List (Nat × List UInt8)).all (fun x => prB x.2 ((cL_law.data.toList.drop 0).drop x.1)) = true := by decide +kernel
theorem dL_law_0 : decode cL_law 0 = .ok (.new 7, 3) := op187 (bA_at bd09_980_dec_L_0_0 0 rfl rfl) rfl
theorem dL_law_3 : decode cL_law 3 = .ok (.dup, 1) := op89 (bA_at bd09_980_dec_L_0_0 1 rfl rfl)
theorem dL_law_4 : decode cL_law 4 = .ok (.invokespecial 9, 3) := op183 (bA_at bd09_980_dec_L_0_0 2 rfl rfl) rfl
theorem dL_law_7 : decode cL_law 7 = .ok (.astore_n 1, 1) := op76 (bA_at bd09_980_dec_L_0_0 3 rfl rfl)
theorem dL_law_8 : decode cL_law 8 = .ok (.new 10, 3) := op187 (bA_at bd09_980_dec_L_0_0 4 rfl rfl) rfl
theorem dL_law_11 : decode cL_law 11 = .ok (.dup, 1) := op89 (bA_at bd09_980_dec_L_0_0 5 rfl rfl)
theorem dL_law_12 : decode cL_law 12 = .ok (.invokespecial 12, 3) := op183 (bA_at bd09_980_dec_L_0_0 6 rfl rfl) rfl
theorem dL_law_15 : decode cL_law 15 = .ok (.astore_n 2, 1) := op77 (bA_at bd09_980_dec_L_0_0 7 rfl rfl)
theorem dL_law_16 : decode cL_law 16 = .ok (.iconst 0, 1) := op3 (bA_at bd09_980_dec_L_0_0 8 rfl rfl)
theorem dL_law_17 : decode cL_law 17 = .ok (.istore_n 3, 1) := op62 (bA_at bd09_980_dec_L_0_0 9 rfl rfl)
theorem dL_law_18 : decode cL_law 18 = .ok (.iload_n 3, 1) := op29 (bA_at bd09_980_dec_L_0_0 10 rfl rfl)
theorem dL_law_19 : decode cL_law 19 = .ok (.aload_n 0, 1) := op42 (bA_at bd09_980_dec_L_0_0 11 rfl rfl)
theorem dL_law_33 : decode cL_law 33 = .ok (.tableswitch 1614 0 32 #[147, 210, 233, 266, 289, 322, 365, 408, 441, 494, 537, 580, 629, 682, 725, 784, 827, 886, 919, 942, 975, 1044, 1087, 1140, 1193, 1262, 1321, 1390, 1423, 1492, 1545, 1568, 1591], 147) := by decide +kernel
theorem bd09_980_dec_L_0_1 : ([(0, [190]), (1, [16, 6]), (3, [100]), (4, [163, 6, 93]), (7, [42]), (8, [29]), (9, [46]), (10, [16, 63]), (12, [126]), (160, [43]), (161, [42])] : List (Nat × List UInt8)).all (fun x => prB x.2 ((cL_law.data.toList.drop 20).drop x.1)) = true := by decide +kernel
theorem dL_law_20 : decode cL_law 20 = .ok (.arraylength, 1) := op190 (bA_at bd09_980_dec_L_0_1 0 rfl rfl)
theorem dL_law_21 : decode cL_law 21 = .ok (.bipush 6, 2) := op16 (bA_at bd09_980_dec_L_0_1 1 rfl rfl) (by decide +kernel)
theorem dL_law_23 : decode cL_law 23 = .ok (.isub, 1) := op100 (bA_at bd09_980_dec_L_0_1 2 rfl rfl)
theorem dL_law_24 : decode cL_law 24 = .ok (.if_icmp .gt 1629, 3) := op163 (bA_at bd09_980_dec_L_0_1 3 rfl rfl) (by decide +kernel)
theorem dL_law_27 : decode cL_law 27 = .ok (.aload_n 0, 1) := op42 (bA_at bd09_980_dec_L_0_1 4 rfl rfl)
theorem dL_law_28 : decode cL_law 28 = .ok (.iload_n 3, 1) := op29 (bA_at bd09_980_dec_L_0_1 5 rfl rfl)
theorem dL_law_29 : decode cL_law 29 = .ok (.iaload, 1) := op46 (bA_at bd09_980_dec_L_0_1 6 rfl rfl)
theorem dL_law_30 : decode cL_law 30 = .ok (.bipush 63, 2) := op16 (bA_at bd09_980_dec_L_0_1 7 rfl rfl) (by decide +kernel)
theorem dL_law_32 : decode cL_law 32 = .ok (.iand, 1) := op126 (bA_at bd09_980_dec_L_0_1 8 rfl rfl)
theorem dL_law_180 : decode cL_law 180 = .ok (.aload_n 1, 1) := op43 (bA_at bd09_980_dec_L_0_1 9 rfl rfl)
theorem dL_law_181 : decode cL_law 181 = .ok (.aload_n 0, 1) := op42 (bA_at bd09_980_dec_L_0_1 10 rfl rfl)
theorem bd09_980_dec_L_0_2 : ([(0, [29]), (1, [4]), (2, [96]), (3, [46]), (4, [42]), (5, [29]), (6, [5]), (7, [96]), (8, [46]), (9, [42]), (10, [29]), (11, [6])] : List (Nat × List UInt8)).all (fun x => prB x.2 ((cL_law.data.toList.drop 182).drop x.1)) = true := by decide +kernel
theorem dL_law_182 : decode cL_law 182 = .ok (.iload_n 3, 1) := op29 (bA_at bd09_980_dec_L_0_2 0 rfl rfl)
theorem dL_law_183 : decode cL_law 183 = .ok (.iconst 1, 1) := op4 (bA_at bd09_980_dec_L_0_2 1 rfl rfl)
theorem dL_law_184 : decode cL_law 184 = .ok (.iadd, 1) := op96 (bA_at bd09_980_dec_L_0_2 2 rfl rfl)
theorem dL_law_185 : decode cL_law 185 = .ok (.iaload, 1) := op46 (bA_at bd09_980_dec_L_0_2 3 rfl rfl)
theorem dL_law_186 : decode cL_law 186 = .ok (.aload_n 0, 1) := op42 (bA_at bd09_980_dec_L_0_2 4 rfl rfl)
theorem dL_law_187 : decode cL_law 187 = .ok (.iload_n 3, 1) := op29 (bA_at bd09_980_dec_L_0_2 5 rfl rfl)
theorem dL_law_188 : decode cL_law 188 = .ok (.iconst 2, 1) := op5 (bA_at bd09_980_dec_L_0_2 6 rfl rfl)
theorem dL_law_189 : decode cL_law 189 = .ok (.iadd, 1) := op96 (bA_at bd09_980_dec_L_0_2 7 rfl rfl)
theorem dL_law_190 : decode cL_law 190 = .ok (.iaload, 1) := op46 (bA_at bd09_980_dec_L_0_2 8 rfl rfl)
theorem dL_law_191 : decode cL_law 191 = .ok (.aload_n 0, 1) := op42 (bA_at bd09_980_dec_L_0_2 9 rfl rfl)
theorem dL_law_192 : decode cL_law 192 = .ok (.iload_n 3, 1) := op29 (bA_at bd09_980_dec_L_0_2 10 rfl rfl)
theorem dL_law_193 : decode cL_law 193 = .ok (.iconst 3, 1) := op6 (bA_at bd09_980_dec_L_0_2 11 rfl rfl)
theorem bd09_980_dec_L_0_3 : ([(0, [96]), (1, [46]), (2, [42]), (3, [29]), (4, [7]), (5, [96]), (6, [46]), (7, [42]), (8, [29]), (9, [8]), (10, [96]), (11, [46])] : List (Nat × List UInt8)).all (fun x => prB x.2 ((cL_law.data.toList.drop 194).drop x.1)) = true := by decide +kernel
theorem dL_law_194 : decode cL_law 194 = .ok (.iadd, 1) := op96 (bA_at bd09_980_dec_L_0_3 0 rfl rfl)
theorem dL_law_195 : decode cL_law 195 = .ok (.iaload, 1) := op46 (bA_at bd09_980_dec_L_0_3 1 rfl rfl)
theorem dL_law_196 : decode cL_law 196 = .ok (.aload_n 0, 1) := op42 (bA_at bd09_980_dec_L_0_3 2 rfl rfl)
theorem dL_law_197 : decode cL_law 197 = .ok (.iload_n 3, 1) := op29 (bA_at bd09_980_dec_L_0_3 3 rfl rfl)
theorem dL_law_198 : decode cL_law 198 = .ok (.iconst 4, 1) := op7 (bA_at bd09_980_dec_L_0_3 4 rfl rfl)
theorem dL_law_199 : decode cL_law 199 = .ok (.iadd, 1) := op96 (bA_at bd09_980_dec_L_0_3 5 rfl rfl)
theorem dL_law_200 : decode cL_law 200 = .ok (.iaload, 1) := op46 (bA_at bd09_980_dec_L_0_3 6 rfl rfl)
theorem dL_law_201 : decode cL_law 201 = .ok (.aload_n 0, 1) := op42 (bA_at bd09_980_dec_L_0_3 7 rfl rfl)
theorem dL_law_202 : decode cL_law 202 = .ok (.iload_n 3, 1) := op29 (bA_at bd09_980_dec_L_0_3 8 rfl rfl)
theorem dL_law_203 : decode cL_law 203 = .ok (.iconst 5, 1) := op8 (bA_at bd09_980_dec_L_0_3 9 rfl rfl)
theorem dL_law_204 : decode cL_law 204 = .ok (.iadd, 1) := op96 (bA_at bd09_980_dec_L_0_3 10 rfl rfl)
theorem dL_law_205 : decode cL_law 205 = .ok (.iaload, 1) := op46 (bA_at bd09_980_dec_L_0_3 11 rfl rfl)
theorem bd09_980_dec_L_0_4 : ([(0, [182, 0, 13]), (3, [87]), (4, [44]), (5, [42]), (6, [29]), (7, [4]), (8, [96]), (9, [46]), (10, [42]), (11, [29]), (12, [5]), (13, [96])] : List (Nat × List UInt8)).all (fun x => prB x.2 ((cL_law.data.toList.drop 206).drop x.1)) = true := by decide +kernel
theorem dL_law_206 : decode cL_law 206 = .ok (.invokevirtual 13, 3) := op182 (bA_at bd09_980_dec_L_0_4 0 rfl rfl) rfl
theorem dL_law_209 : decode cL_law 209 = .ok (.pop, 1) := op87 (bA_at bd09_980_dec_L_0_4 1 rfl rfl)
theorem dL_law_210 : decode cL_law 210 = .ok (.aload_n 2, 1) := op44 (bA_at bd09_980_dec_L_0_4 2 rfl rfl)
theorem dL_law_211 : decode cL_law 211 = .ok (.aload_n 0, 1) := op42 (bA_at bd09_980_dec_L_0_4 3 rfl rfl)
theorem dL_law_212 : decode cL_law 212 = .ok (.iload_n 3, 1) := op29 (bA_at bd09_980_dec_L_0_4 4 rfl rfl)
theorem dL_law_213 : decode cL_law 213 = .ok (.iconst 1, 1) := op4 (bA_at bd09_980_dec_L_0_4 5 rfl rfl)
theorem dL_law_214 : decode cL_law 214 = .ok (.iadd, 1) := op96 (bA_at bd09_980_dec_L_0_4 6 rfl rfl)
theorem dL_law_215 : decode cL_law 215 = .ok (.iaload, 1) := op46 (bA_at bd09_980_dec_L_0_4 7 rfl rfl)
theorem dL_law_216 : decode cL_law 216 = .ok (.aload_n 0, 1) := op42 (bA_at bd09_980_dec_L_0_4 8 rfl rfl)
theorem dL_law_217 : decode cL_law 217 = .ok (.iload_n 3, 1) := op29 (bA_at bd09_980_dec_L_0_4 9 rfl rfl)
theorem dL_law_218 : decode cL_law 218 = .ok (.iconst 2, 1) := op5 (bA_at bd09_980_dec_L_0_4 10 rfl rfl)
theorem dL_law_219 : decode cL_law 219 = .ok (.iadd, 1) := op96 (bA_at bd09_980_dec_L_0_4 11 rfl rfl)
theorem bd09_980_dec_L_0_5 : ([(0, [46]), (1, [42]), (2, [29]), (3, [6]), (4, [96]), (5, [46]), (6, [42]), (7, [29]), (8, [7]), (9, [96]), (10, [46]), (11, [42])] : List (Nat × List UInt8)).all (fun x => prB x.2 ((cL_law.data.toList.drop 220).drop x.1)) = true := by decide +kernel
theorem dL_law_220 : decode cL_law 220 = .ok (.iaload, 1) := op46 (bA_at bd09_980_dec_L_0_5 0 rfl rfl)
theorem dL_law_221 : decode cL_law 221 = .ok (.aload_n 0, 1) := op42 (bA_at bd09_980_dec_L_0_5 1 rfl rfl)
theorem dL_law_222 : decode cL_law 222 = .ok (.iload_n 3, 1) := op29 (bA_at bd09_980_dec_L_0_5 2 rfl rfl)
theorem dL_law_223 : decode cL_law 223 = .ok (.iconst 3, 1) := op6 (bA_at bd09_980_dec_L_0_5 3 rfl rfl)
theorem dL_law_224 : decode cL_law 224 = .ok (.iadd, 1) := op96 (bA_at bd09_980_dec_L_0_5 4 rfl rfl)
theorem dL_law_225 : decode cL_law 225 = .ok (.iaload, 1) := op46 (bA_at bd09_980_dec_L_0_5 5 rfl rfl)
theorem dL_law_226 : decode cL_law 226 = .ok (.aload_n 0, 1) := op42 (bA_at bd09_980_dec_L_0_5 6 rfl rfl)
theorem dL_law_227 : decode cL_law 227 = .ok (.iload_n 3, 1) := op29 (bA_at bd09_980_dec_L_0_5 7 rfl rfl)
theorem dL_law_228 : decode cL_law 228 = .ok (.iconst 4, 1) := op7 (bA_at bd09_980_dec_L_0_5 8 rfl rfl)
theorem dL_law_229 : decode cL_law 229 = .ok (.iadd, 1) := op96 (bA_at bd09_980_dec_L_0_5 9 rfl rfl)
theorem dL_law_230 : decode cL_law 230 = .ok (.iaload, 1) := op46 (bA_at bd09_980_dec_L_0_5 10 rfl rfl)
theorem dL_law_231 : decode cL_law 231 = .ok (.aload_n 0, 1) := op42 (bA_at bd09_980_dec_L_0_5 11 rfl rfl)
theorem bd09_980_dec_L_0_6 : ([(0, [29]), (1, [8]), (2, [96]), (3, [46]), (4, [182, 0, 17]), (7, [87]), (8, [167, 5, 127]), (11, [43]), (12, [42]), (13, [29]), (14, [4]), (15, [96])] : List (Nat × List UInt8)).all (fun x => prB x.2 ((cL_law.data.toList.drop 232).drop x.1)) = true := by decide +kernel
theorem dL_law_232 : decode cL_law 232 = .ok (.iload_n 3, 1) := op29 (bA_at bd09_980_dec_L_0_6 0 rfl rfl)
theorem dL_law_233 : decode cL_law 233 = .ok (.iconst 5, 1) := op8 (bA_at bd09_980_dec_L_0_6 1 rfl rfl)
theorem dL_law_234 : decode cL_law 234 = .ok (.iadd, 1) := op96 (bA_at bd09_980_dec_L_0_6 2 rfl rfl)
theorem dL_law_235 : decode cL_law 235 = .ok (.iaload, 1) := op46 (bA_at bd09_980_dec_L_0_6 3 rfl rfl)
theorem dL_law_236 : decode cL_law 236 = .ok (.invokevirtual 17, 3) := op182 (bA_at bd09_980_dec_L_0_6 4 rfl rfl) rfl
theorem dL_law_239 : decode cL_law 239 = .ok (.pop, 1) := op87 (bA_at bd09_980_dec_L_0_6 5 rfl rfl)
theorem dL_law_240 : decode cL_law 240 = .ok (.goto 1407, 3) := op167 (bA_at bd09_980_dec_L_0_6 6 rfl rfl) (by decide +kernel)
theorem dL_law_243 : decode cL_law 243 = .ok (.aload_n 1, 1) := op43 (bA_at bd09_980_dec_L_0_6 7 rfl rfl)
theorem dL_law_244 : decode cL_law 244 = .ok (.aload_n 0, 1) := op42 (bA_at bd09_980_dec_L_0_6 8 rfl rfl)
theorem dL_law_245 : decode cL_law 245 = .ok (.iload_n 3, 1) := op29 (bA_at bd09_980_dec_L_0_6 9 rfl rfl)
theorem dL_law_246 : decode cL_law 246 = .ok (.iconst 1, 1) := op4 (bA_at bd09_980_dec_L_0_6 10 rfl rfl)
theorem dL_law_247 : decode cL_law 247 = .ok (.iadd, 1) := op96 (bA_at bd09_980_dec_L_0_6 11 rfl rfl)
theorem bd09_980_dec_L_0_7 : ([(0, [46]), (1, [182, 0, 18]), (4, [87]), (5, [44]), (6, [42]), (7, [29]), (8, [4]), (9, [96]), (10, [46]), (11, [182, 0, 22]), (14, [87]), (15, [167, 5, 104])] : List (Nat × List UInt8)).all (fun x => prB x.2 ((cL_law.data.toList.drop 248).drop x.1)) = true := by decide +kernel
theorem dL_law_248 : decode cL_law 248 = .ok (.iaload, 1) := op46 (bA_at bd09_980_dec_L_0_7 0 rfl rfl)
theorem dL_law_249 : decode cL_law 249 = .ok (.invokevirtual 18, 3) := op182 (bA_at bd09_980_dec_L_0_7 1 rfl rfl) rfl
theorem dL_law_252 : decode cL_law 252 = .ok (.pop, 1) := op87 (bA_at bd09_980_dec_L_0_7 2 rfl rfl)
theorem dL_law_253 : decode cL_law 253 = .ok (.aload_n 2, 1) := op44 (bA_at bd09_980_dec_L_0_7 3 rfl rfl)
theorem dL_law_254 : decode cL_law 254 = .ok (.aload_n 0, 1) := op42 (bA_at bd09_980_dec_L_0_7 4 rfl rfl)
theorem dL_law_255 : decode cL_law 255 = .ok (.iload_n 3, 1) := op29 (bA_at bd09_980_dec_L_0_7 5 rfl rfl)
theorem dL_law_256 : decode cL_law 256 = .ok (.iconst 1, 1) := op4 (bA_at bd09_980_dec_L_0_7 6 rfl rfl)
theorem dL_law_257 : decode cL_law 257 = .ok (.iadd, 1) := op96 (bA_at bd09_980_dec_L_0_7 7 rfl rfl)
theorem dL_law_258 : decode cL_law 258 = .ok (.iaload, 1) := op46 (bA_at bd09_980_dec_L_0_7 8 rfl rfl)
theorem dL_law_259 : decode cL_law 259 = .ok (.invokevirtual 22, 3) := op182 (bA_at bd09_980_dec_L_0_7 9 rfl rfl) rfl
theorem dL_law_262 : decode cL_law 262 = .ok (.pop, 1) := op87 (bA_at bd09_980_dec_L_0_7 10 rfl rfl)
theorem dL_law_263 : decode cL_law 263 = .ok (.goto 1384, 3) := op167 (bA_at bd09_980_dec_L_0_7 11 rfl rfl) (by decide +kernel)
theorem bd09_980_dec_L_0_8 : ([(0, [43]), (1, [42]), (2, [29]), (3, [4]), (4, [96]), (5, [46]), (6, [42]), (7, [29]), (8, [5]), (9, [96]), (10, [46]), (11, [182, 0, 23])] : List (Nat × List UInt8)).all (fun x => prB x.2 ((cL_law.data.toList.drop 266).drop x.1)) = true := by decide +kernel
theorem dL_law_266 : decode cL_law 266 = .ok (.aload_n 1, 1) := op43 (bA_at bd09_980_dec_L_0_8 0 rfl rfl)
theorem dL_law_267 : decode cL_law 267 = .ok (.aload_n 0, 1) := op42 (bA_at bd09_980_dec_L_0_8 1 rfl rfl)
theorem dL_law_268 : decode cL_law 268 = .ok (.iload_n 3, 1) := op29 (bA_at bd09_980_dec_L_0_8 2 rfl rfl)
theorem dL_law_269 : decode cL_law 269 = .ok (.iconst 1, 1) := op4 (bA_at bd09_980_dec_L_0_8 3 rfl rfl)
theorem dL_law_270 : decode cL_law 270 = .ok (.iadd, 1) := op96 (bA_at bd09_980_dec_L_0_8 4 rfl rfl)
theorem dL_law_271 : decode cL_law 271 = .ok (.iaload, 1) := op46 (bA_at bd09_980_dec_L_0_8 5 rfl rfl)
theorem dL_law_272 : decode cL_law 272 = .ok (.aload_n 0, 1) := op42 (bA_at bd09_980_dec_L_0_8 6 rfl rfl)
theorem dL_law_273 : decode cL_law 273 = .ok (.iload_n 3, 1) := op29 (bA_at bd09_980_dec_L_0_8 7 rfl rfl)
theorem dL_law_274 : decode cL_law 274 = .ok (.iconst 2, 1) := op5 (bA_at bd09_980_dec_L_0_8 8 rfl rfl)
theorem dL_law_275 : decode cL_law 275 = .ok (.iadd, 1) := op96 (bA_at bd09_980_dec_L_0_8 9 rfl rfl)
theorem dL_law_276 : decode cL_law 276 = .ok (.iaload, 1) := op46 (bA_at bd09_980_dec_L_0_8 10 rfl rfl)
theorem dL_law_277 : decode cL_law 277 = .ok (.invokevirtual 23, 3) := op182 (bA_at bd09_980_dec_L_0_8 11 rfl rfl) rfl
theorem bd09_980_dec_L_0_9 : ([(0, [87]), (1, [44]), (2, [42]), (3, [29]), (4, [4]), (5, [96]), (6, [46]), (7, [42]), (8, [29]), (9, [5]), (10, [96]), (11, [46])] : List (Nat × List UInt8)).all (fun x => prB x.2 ((cL_law.data.toList.drop 280).drop x.1)) = true := by decide +kernel
theorem dL_law_280 : decode cL_law 280 = .ok (.pop, 1) := op87 (bA_at bd09_980_dec_L_0_9 0 rfl rfl)
theorem dL_law_281 : decode cL_law 281 = .ok (.aload_n 2, 1) := op44 (bA_at bd09_980_dec_L_0_9 1 rfl rfl)
theorem dL_law_282 : decode cL_law 282 = .ok (.aload_n 0, 1) := op42 (bA_at bd09_980_dec_L_0_9 2 rfl rfl)
theorem dL_law_283 : decode cL_law 283 = .ok (.iload_n 3, 1) := op29 (bA_at bd09_980_dec_L_0_9 3 rfl rfl)
theorem dL_law_284 : decode cL_law 284 = .ok (.iconst 1, 1) := op4 (bA_at bd09_980_dec_L_0_9 4 rfl rfl)
theorem dL_law_285 : decode cL_law 285 = .ok (.iadd, 1) := op96 (bA_at bd09_980_dec_L_0_9 5 rfl rfl)
theorem dL_law_286 : decode cL_law 286 = .ok (.iaload, 1) := op46 (bA_at bd09_980_dec_L_0_9 6 rfl rfl)
theorem dL_law_287 : decode cL_law 287 = .ok (.aload_n 0, 1) := op42 (bA_at bd09_980_dec_L_0_9 7 rfl rfl)
theorem dL_law_288 : decode cL_law 288 = .ok (.iload_n 3, 1) := op29 (bA_at bd09_980_dec_L_0_9 8 rfl rfl)
theorem dL_law_289 : decode cL_law 289 = .ok (.iconst 2, 1) := op5 (bA_at bd09_980_dec_L_0_9 9 rfl rfl)
theorem dL_law_290 : decode cL_law 290 = .ok (.iadd, 1) := op96 (bA_at bd09_980_dec_L_0_9 10 rfl rfl)
theorem dL_law_291 : decode cL_law 291 = .ok (.iaload, 1) := op46 (bA_at bd09_980_dec_L_0_9 11 rfl rfl)
theorem bd09_980_dec_L_0_10 : ([(0, [182, 0, 27]), (3, [87]), (4, [167, 5, 71]), (7, [43]), (8, [42]), (9, [29]), (10, [4]), (11, [96]), (12, [46]), (13, [182, 0, 28]), (16, [87]), (17, [44])] : List (Nat × List UInt8)).all (fun x => prB x.2 ((cL_law.data.toList.drop 292).drop x.1)) = true := by decide +kernel
theorem dL_law_292 : decode cL_law 292 = .ok (.invokevirtual 27, 3) := op182 (bA_at bd09_980_dec_L_0_10 0 rfl rfl) rfl
theorem dL_law_295 : decode cL_law 295 = .ok (.pop, 1) := op87 (bA_at bd09_980_dec_L_0_10 1 rfl rfl)
theorem dL_law_296 : decode cL_law 296 = .ok (.goto 1351, 3) := op167 (bA_at bd09_980_dec_L_0_10 2 rfl rfl) (by decide +kernel)
theorem dL_law_299 : decode cL_law 299 = .ok (.aload_n 1, 1) := op43 (bA_at bd09_980_dec_L_0_10 3 rfl rfl)
theorem dL_law_300 : decode cL_law 300 = .ok (.aload_n 0, 1) := op42 (bA_at bd09_980_dec_L_0_10 4 rfl rfl)
theorem dL_law_301 : decode cL_law 301 = .ok (.iload_n 3, 1) := op29 (bA_at bd09_980_dec_L_0_10 5 rfl rfl)
theorem dL_law_302 : decode cL_law 302 = .ok (.iconst 1, 1) := op4 (bA_at bd09_980_dec_L_0_10 6 rfl rfl)
theorem dL_law_303 : decode cL_law 303 = .ok (.iadd, 1) := op96 (bA_at bd09_980_dec_L_0_10 7 rfl rfl)
theorem dL_law_304 : decode cL_law 304 = .ok (.iaload, 1) := op46 (bA_at bd09_980_dec_L_0_10 8 rfl rfl)
theorem dL_law_305 : decode cL_law 305 = .ok (.invokevirtual 28, 3) := op182 (bA_at bd09_980_dec_L_0_10 9 rfl rfl) rfl
theorem dL_law_308 : decode cL_law 308 = .ok (.pop, 1) := op87 (bA_at bd09_980_dec_L_0_10 10 rfl rfl)
theorem dL_law_309 : decode cL_law 309 = .ok (.aload_n 2, 1) := op44 (bA_at bd09_980_dec_L_0_10 11 rfl rfl)
theorem bd09_980_dec_L_0_11 : ([(0, [42]), (1, [29]), (2, [4]), (3, [96]), (4, [46]), (5, [182, 0, 31]), (8, [87]), (9, [167, 5, 48]), (12, [43]), (13, [42]), (14, [29]), (15, [4])] : List (Nat × List UInt8)).all (fun x => prB x.2 ((cL_law.data.toList.drop 310).drop x.1)) = true := by decide +kernel
theorem dL_law_310 : decode cL_law 310 = .ok (.aload_n 0, 1) := op42 (bA_at bd09_980_dec_L_0_11 0 rfl rfl)
theorem dL_law_311 : decode cL_law 311 = .ok (.iload_n 3, 1) := op29 (bA_at bd09_980_dec_L_0_11 1 rfl rfl)
theorem dL_law_312 : decode cL_law 312 = .ok (.iconst 1, 1) := op4 (bA_at bd09_980_dec_L_0_11 2 rfl rfl)
theorem dL_law_313 : decode cL_law 313 = .ok (.iadd, 1) := op96 (bA_at bd09_980_dec_L_0_11 3 rfl rfl)
theorem dL_law_314 : decode cL_law 314 = .ok (.iaload, 1) := op46 (bA_at bd09_980_dec_L_0_11 4 rfl rfl)
theorem dL_law_315 : decode cL_law 315 = .ok (.invokevirtual 31, 3) := op182 (bA_at bd09_980_dec_L_0_11 5 rfl rfl) rfl
theorem dL_law_318 : decode cL_law 318 = .ok (.pop, 1) := op87 (bA_at bd09_980_dec_L_0_11 6 rfl rfl)
theorem dL_law_319 : decode cL_law 319 = .ok (.goto 1328, 3) := op167 (bA_at bd09_980_dec_L_0_11 7 rfl rfl) (by decide +kernel)
theorem dL_law_322 : decode cL_law 322 = .ok (.aload_n 1, 1) := op43 (bA_at bd09_980_dec_L_0_11 8 rfl rfl)
theorem dL_law_323 : decode cL_law 323 = .ok (.aload_n 0, 1) := op42 (bA_at bd09_980_dec_L_0_11 9 rfl rfl)
theorem dL_law_324 : decode cL_law 324 = .ok (.iload_n 3, 1) := op29 (bA_at bd09_980_dec_L_0_11 10 rfl rfl)
theorem dL_law_325 : decode cL_law 325 = .ok (.iconst 1, 1) := op4 (bA_at bd09_980_dec_L_0_11 11 rfl rfl)
theorem bd09_980_dec_L_0_12 : ([(0, [96]), (1, [46]), (2, [42]), (3, [29]), (4, [5]), (5, [96]), (6, [46]), (7, [182, 0, 32]), (10, [87]), (11, [44]), (12, [42]), (13, [29])] : List (Nat × List UInt8)).all (fun x => prB x.2 ((cL_law.data.toList.drop 326).drop x.1)) = true := by decide +kernel
theorem dL_law_326 : decode cL_law 326 = .ok (.iadd, 1) := op96 (bA_at bd09_980_dec_L_0_12 0 rfl rfl)
theorem dL_law_327 : decode cL_law 327 = .ok (.iaload, 1) := op46 (bA_at bd09_980_dec_L_0_12 1 rfl rfl)
theorem dL_law_328 : decode cL_law 328 = .ok (.aload_n 0, 1) := op42 (bA_at bd09_980_dec_L_0_12 2 rfl rfl)
theorem dL_law_329 : decode cL_law 329 = .ok (.iload_n 3, 1) := op29 (bA_at bd09_980_dec_L_0_12 3 rfl rfl)
theorem dL_law_330 : decode cL_law 330 = .ok (.iconst 2, 1) := op5 (bA_at bd09_980_dec_L_0_12 4 rfl rfl)
theorem dL_law_331 : decode cL_law 331 = .ok (.iadd, 1) := op96 (bA_at bd09_980_dec_L_0_12 5 rfl rfl)
theorem dL_law_332 : decode cL_law 332 = .ok (.iaload, 1) := op46 (bA_at bd09_980_dec_L_0_12 6 rfl rfl)
theorem dL_law_333 : decode cL_law 333 = .ok (.invokevirtual 32, 3) := op182 (bA_at bd09_980_dec_L_0_12 7 rfl rfl) rfl
theorem dL_law_336 : decode cL_law 336 = .ok (.pop, 1) := op87 (bA_at bd09_980_dec_L_0_12 8 rfl rfl)
theorem dL_law_337 : decode cL_law 337 = .ok (.aload_n 2, 1) := op44 (bA_at bd09_980_dec_L_0_12 9 rfl rfl)
theorem dL_law_338 : decode cL_law 338 = .ok (.aload_n 0, 1) := op42 (bA_at bd09_980_dec_L_0_12 10 rfl rfl)
theorem dL_law_339 : decode cL_law 339 = .ok (.iload_n 3, 1) := op29 (bA_at bd09_980_dec_L_0_12 11 rfl rfl)
theorem bd09_980_dec_L_0_13 : ([(0, [4]), (1, [96]), (2, [46]), (3, [42]), (4, [29]), (5, [5]), (6, [96]), (7, [46]), (8, [182, 0, 35]), (11, [87]), (12, [167, 5, 15]), (15, [43])] : List (Nat × List UInt8)).all (fun x => prB x.2 ((cL_law.data.toList.drop 340).drop x.1)) = true := by decide +kernel
theorem dL_law_340 : decode cL_law 340 = .ok (.iconst 1, 1) := op4 (bA_at bd09_980_dec_L_0_13 0 rfl rfl)
theorem dL_law_341 : decode cL_law 341 = .ok (.iadd, 1) := op96 (bA_at bd09_980_dec_L_0_13 1 rfl rfl)
theorem dL_law_342 : decode cL_law 342 = .ok (.iaload, 1) := op46 (bA_at bd09_980_dec_L_0_13 2 rfl rfl)
theorem dL_law_343 : decode cL_law 343 = .ok (.aload_n 0, 1) := op42 (bA_at bd09_980_dec_L_0_13 3 rfl rfl)
theorem dL_law_344 : decode cL_law 344 = .ok (.iload_n 3, 1) := op29 (bA_at bd09_980_dec_L_0_13 4 rfl rfl)
theorem dL_law_345 : decode cL_law 345 = .ok (.iconst 2, 1) := op5 (bA_at bd09_980_dec_L_0_13 5 rfl rfl)
theorem dL_law_346 : decode cL_law 346 = .ok (.iadd, 1) := op96 (bA_at bd09_980_dec_L_0_13 6 rfl rfl)
theorem dL_law_347 : decode cL_law 347 = .ok (.iaload, 1) := op46 (bA_at bd09_980_dec_L_0_13 7 rfl rfl)
theorem dL_law_348 : decode cL_law 348 = .ok (.invokevirtual 35, 3) := op182 (bA_at bd09_980_dec_L_0_13 8 rfl rfl) rfl
theorem dL_law_351 : decode cL_law 351 = .ok (.pop, 1) := op87 (bA_at bd09_980_dec_L_0_13 9 rfl rfl)
theorem dL_law_352 : decode cL_law 352 = .ok (.goto 1295, 3) := op167 (bA_at bd09_980_dec_L_0_13 10 rfl rfl) (by decide +kernel)
theorem dL_law_355 : decode cL_law 355 = .ok (.aload_n 1, 1) := op43 (bA_at bd09_980_dec_L_0_13 11 rfl rfl)
theorem bd09_980_dec_L_0_14 : ([(0, [42]), (1, [29]), (2, [4]), (3, [96]), (4, [46]), (5, [42]), (6, [29]), (7, [5]), (8, [96]), (9, [46]), (10, [42]), (11, [29])] : List (Nat × List UInt8)).all (fun x => prB x.2 ((cL_law.data.toList.drop 356).drop x.1)) = true := by decide +kernel
theorem dL_law_356 : decode cL_law 356 = .ok (.aload_n 0, 1) := op42 (bA_at bd09_980_dec_L_0_14 0 rfl rfl)
theorem dL_law_357 : decode cL_law 357 = .ok (.iload_n 3, 1) := op29 (bA_at bd09_980_dec_L_0_14 1 rfl rfl)
theorem dL_law_358 : decode cL_law 358 = .ok (.iconst 1, 1) := op4 (bA_at bd09_980_dec_L_0_14 2 rfl rfl)
theorem dL_law_359 : decode cL_law 359 = .ok (.iadd, 1) := op96 (bA_at bd09_980_dec_L_0_14 3 rfl rfl)
theorem dL_law_360 : decode cL_law 360 = .ok (.iaload, 1) := op46 (bA_at bd09_980_dec_L_0_14 4 rfl rfl)
theorem dL_law_361 : decode cL_law 361 = .ok (.aload_n 0, 1) := op42 (bA_at bd09_980_dec_L_0_14 5 rfl rfl)
theorem dL_law_362 : decode cL_law 362 = .ok (.iload_n 3, 1) := op29 (bA_at bd09_980_dec_L_0_14 6 rfl rfl)
theorem dL_law_363 : decode cL_law 363 = .ok (.iconst 2, 1) := op5 (bA_at bd09_980_dec_L_0_14 7 rfl rfl)
theorem dL_law_364 : decode cL_law 364 = .ok (.iadd, 1) := op96 (bA_at bd09_980_dec_L_0_14 8 rfl rfl)
theorem dL_law_365 : decode cL_law 365 = .ok (.iaload, 1) := op46 (bA_at bd09_980_dec_L_0_14 9 rfl rfl)
theorem dL_law_366 : decode cL_law 366 = .ok (.aload_n 0, 1) := op42 (bA_at bd09_980_dec_L_0_14 10 rfl rfl)
theorem dL_law_367 : decode cL_law 367 = .ok (.iload_n 3, 1) := op29 (bA_at bd09_980_dec_L_0_14 11 rfl rfl)
theorem bd09_980_dec_L_0_15 : ([(0, [6]), (1, [96]), (2, [46]), (3, [182, 0, 36]), (6, [87]), (7, [44]), (8, [42]), (9, [29]), (10, [4]), (11, [96]), (12, [46]), (13, [42])] : List (Nat × List UInt8)).all (fun x => prB x.2 ((cL_law.data.toList.drop 368).drop x.1)) = true := by decide +kernel
theorem dL_law_368 : decode cL_law 368 = .ok (.iconst 3, 1) := op6 (bA_at bd09_980_dec_L_0_15 0 rfl rfl)
theorem dL_law_369 : decode cL_law 369 = .ok (.iadd, 1) := op96 (bA_at bd09_980_dec_L_0_15 1 rfl rfl)
theorem dL_law_370 : decode cL_law 370 = .ok (.iaload, 1) := op46 (bA_at bd09_980_dec_L_0_15 2 rfl rfl)
theorem dL_law_371 : decode cL_law 371 = .ok (.invokevirtual 36, 3) := op182 (bA_at bd09_980_dec_L_0_15 3 rfl rfl) rfl
theorem dL_law_374 : decode cL_law 374 = .ok (.pop, 1) := op87 (bA_at bd09_980_dec_L_0_15 4 rfl rfl)
theorem dL_law_375 : decode cL_law 375 = .ok (.aload_n 2, 1) := op44 (bA_at bd09_980_dec_L_0_15 5 rfl rfl)
theorem dL_law_376 : decode cL_law 376 = .ok (.aload_n 0, 1) := op42 (bA_at bd09_980_dec_L_0_15 6 rfl rfl)
theorem dL_law_377 : decode cL_law 377 = .ok (.iload_n 3, 1) := op29 (bA_at bd09_980_dec_L_0_15 7 rfl rfl)
theorem dL_law_378 : decode cL_law 378 = .ok (.iconst 1, 1) := op4 (bA_at bd09_980_dec_L_0_15 8 rfl rfl)
theorem dL_law_379 : decode cL_law 379 = .ok (.iadd, 1) := op96 (bA_at bd09_980_dec_L_0_15 9 rfl rfl)
theorem dL_law_380 : decode cL_law 380 = .ok (.iaload, 1) := op46 (bA_at bd09_980_dec_L_0_15 10 rfl rfl)
theorem dL_law_381 : decode cL_law 381 = .ok (.aload_n 0, 1) := op42 (bA_at bd09_980_dec_L_0_15 11 rfl rfl)
theorem bd09_980_dec_L_0_16 : ([(0, [29]), (1, [5]), (2, [96]), (3, [46]), (4, [42]), (5, [29]), (6, [6]), (7, [96]), (8, [46]), (9, [182, 0, 40]), (12, [87]), (13, [167, 4, 228])] : List (Nat × List UInt8)).all (fun x => prB x.2 ((cL_law.data.toList.drop 382).drop x.1)) = true := by decide +kernel
theorem dL_law_382 : decode cL_law 382 = .ok (.iload_n 3, 1) := op29 (bA_at bd09_980_dec_L_0_16 0 rfl rfl)
theorem dL_law_383 : decode cL_law 383 = .ok (.iconst 2, 1) := op5 (bA_at bd09_980_dec_L_0_16 1 rfl rfl)
theorem dL_law_384 : decode cL_law 384 = .ok (.iadd, 1) := op96 (bA_at bd09_980_dec_L_0_16 2 rfl rfl)
theorem dL_law_385 : decode cL_law 385 = .ok (.iaload, 1) := op46 (bA_at bd09_980_dec_L_0_16 3 rfl rfl)
theorem dL_law_386 : decode cL_law 386 = .ok (.aload_n 0, 1) := op42 (bA_at bd09_980_dec_L_0_16 4 rfl rfl)
theorem dL_law_387 : decode cL_law 387 = .ok (.iload_n 3, 1) := op29 (bA_at bd09_980_dec_L_0_16 5 rfl rfl)
theorem dL_law_388 : decode cL_law 388 = .ok (.iconst 3, 1) := op6 (bA_at bd09_980_dec_L_0_16 6 rfl rfl)
theorem dL_law_389 : decode cL_law 389 = .ok (.iadd, 1) := op96 (bA_at bd09_980_dec_L_0_16 7 rfl rfl)
theorem dL_law_390 : decode cL_law 390 = .ok (.iaload, 1) := op46 (bA_at bd09_980_dec_L_0_16 8 rfl rfl)
theorem dL_law_391 : decode cL_law 391 = .ok (.invokevirtual 40, 3) := op182 (bA_at bd09_980_dec_L_0_16 9 rfl rfl) rfl
theorem dL_law_394 : decode cL_law 394 = .ok (.pop, 1) := op87 (bA_at bd09_980_dec_L_0_16 10 rfl rfl)
theorem dL_law_395 : decode cL_law 395 = .ok (.goto 1252, 3) := op167 (bA_at bd09_980_dec_L_0_16 11 rfl rfl) (by decide +kernel)
theorem bd09_980_dec_L_0_17 : ([(0, [43]), (1, [42]), (2, [29]), (3, [4]), (4, [96]), (5, [46]), (6, [42]), (7, [29]), (8, [5]), (9, [96]), (10, [46]), (11, [42])] : List (Nat × List UInt8)).all (fun x => prB x.2 ((cL_law.data.toList.drop 398).drop x.1)) = true := by decide +kernel
theorem dL_law_398 : decode cL_law 398 = .ok (.aload_n 1, 1) := op43 (bA_at bd09_980_dec_L_0_17 0 rfl rfl)
theorem dL_law_399 : decode cL_law 399 = .ok (.aload_n 0, 1) := op42 (bA_at bd09_980_dec_L_0_17 1 rfl rfl)
theorem dL_law_400 : decode cL_law 400 = .ok (.iload_n 3, 1) := op29 (bA_at bd09_980_dec_L_0_17 2 rfl rfl)
theorem dL_law_401 : decode cL_law 401 = .ok (.iconst 1, 1) := op4 (bA_at bd09_980_dec_L_0_17 3 rfl rfl)
theorem dL_law_402 : decode cL_law 402 = .ok (.iadd, 1) := op96 (bA_at bd09_980_dec_L_0_17 4 rfl rfl)
theorem dL_law_403 : decode cL_law 403 = .ok (.iaload, 1) := op46 (bA_at bd09_980_dec_L_0_17 5 rfl rfl)
theorem dL_law_404 : decode cL_law 404 = .ok (.aload_n 0, 1) := op42 (bA_at bd09_980_dec_L_0_17 6 rfl rfl)
theorem dL_law_405 : decode cL_law 405 = .ok (.iload_n 3, 1) := op29 (bA_at bd09_980_dec_L_0_17 7 rfl rfl)
theorem dL_law_406 : decode cL_law 406 = .ok (.iconst 2, 1) := op5 (bA_at bd09_980_dec_L_0_17 8 rfl rfl)
theorem dL_law_407 : decode cL_law 407 = .ok (.iadd, 1) := op96 (bA_at bd09_980_dec_L_0_17 9 rfl rfl)
theorem dL_law_408 : decode cL_law 408 = .ok (.iaload, 1) := op46 (bA_at bd09_980_dec_L_0_17 10 rfl rfl)
theorem dL_law_409 : decode cL_law 409 = .ok (.aload_n 0, 1) := op42 (bA_at bd09_980_dec_L_0_17 11 rfl rfl)
theorem bd09_980_dec_L_0_18 : ([(0, [29]), (1, [6]), (2, [96]), (3, [46]), (4, [182, 0, 41]), (7, [87]), (8, [44]), (9, [42]), (10, [29]), (11, [4]), (12, [96]), (13, [46])] : List (Nat × List UInt8)).all (fun x => prB x.2 ((cL_law.data.toList.drop 410).drop x.1)) = true := by decide +kernel
theorem dL_law_410 : decode cL_law 410 = .ok (.iload_n 3, 1) := op29 (bA_at bd09_980_dec_L_0_18 0 rfl rfl)
theorem dL_law_411 : decode cL_law 411 = .ok (.iconst 3, 1) := op6 (bA_at bd09_980_dec_L_0_18 1 rfl rfl)
theorem dL_law_412 : decode cL_law 412 = .ok (.iadd, 1) := op96 (bA_at bd09_980_dec_L_0_18 2 rfl rfl)
theorem dL_law_413 : decode cL_law 413 = .ok (.iaload, 1) := op46 (bA_at bd09_980_dec_L_0_18 3 rfl rfl)
theorem dL_law_414 : decode cL_law 414 = .ok (.invokevirtual 41, 3) := op182 (bA_at bd09_980_dec_L_0_18 4 rfl rfl) rfl
theorem dL_law_417 : decode cL_law 417 = .ok (.pop, 1) := op87 (bA_at bd09_980_dec_L_0_18 5 rfl rfl)
theorem dL_law_418 : decode cL_law 418 = .ok (.aload_n 2, 1) := op44 (bA_at bd09_980_dec_L_0_18 6 rfl rfl)
theorem dL_law_419 : decode cL_law 419 = .ok (.aload_n 0, 1) := op42 (bA_at bd09_980_dec_L_0_18 7 rfl rfl)
theorem dL_law_420 : decode cL_law 420 = .ok (.iload_n 3, 1) := op29 (bA_at bd09_980_dec_L_0_18 8 rfl rfl)
theorem dL_law_421 : decode cL_law 421 = .ok (.iconst 1, 1) := op4 (bA_at bd09_980_dec_L_0_18 9 rfl rfl)
theorem dL_law_422 : decode cL_law 422 = .ok (.iadd, 1) := op96 (bA_at bd09_980_dec_L_0_18 10 rfl rfl)
theorem dL_law_423 : decode cL_law 423 = .ok (.iaload, 1) := op46 (bA_at bd09_980_dec_L_0_18 11 rfl rfl)
theorem bd09_980_dec_L_0_19 : ([(0, [42]), (1, [29]), (2, [5]), (3, [96]), (4, [46]), (5, [42]), (6, [29]), (7, [6]), (8, [96]), (9, [46]), (10, [182, 0, 44]), (13, [87])] : List (Nat × List UInt8)).all (fun x => prB x.2 ((cL_law.data.toList.drop 424).drop x.1)) = true := by decide +kernel
theorem dL_law_424 : decode cL_law 424 = .ok (.aload_n 0, 1) := op42 (bA_at bd09_980_dec_L_0_19 0 rfl rfl)
theorem dL_law_425 : decode cL_law 425 = .ok (.iload_n 3, 1) := op29 (bA_at bd09_980_dec_L_0_19 1 rfl rfl)
theorem dL_law_426 : decode cL_law 426 = .ok (.iconst 2, 1) := op5 (bA_at bd09_980_dec_L_0_19 2 rfl rfl)
theorem dL_law_427 : decode cL_law 427 = .ok (.iadd, 1) := op96 (bA_at bd09_980_dec_L_0_19 3 rfl rfl)
theorem dL_law_428 : decode cL_law 428 = .ok (.iaload, 1) := op46 (bA_at bd09_980_dec_L_0_19 4 rfl rfl)
theorem dL_law_429 : decode cL_law 429 = .ok (.aload_n 0, 1) := op42 (bA_at bd09_980_dec_L_0_19 5 rfl rfl)
theorem dL_law_430 : decode cL_law 430 = .ok (.iload_n 3, 1) := op29 (bA_at bd09_980_dec_L_0_19 6 rfl rfl)
theorem dL_law_431 : decode cL_law 431 = .ok (.iconst 3, 1) := op6 (bA_at bd09_980_dec_L_0_19 7 rfl rfl)
theorem dL_law_432 : decode cL_law 432 = .ok (.iadd, 1) := op96 (bA_at bd09_980_dec_L_0_19 8 rfl rfl)
theorem dL_law_433 : decode cL_law 433 = .ok (.iaload, 1) := op46 (bA_at bd09_980_dec_L_0_19 9 rfl rfl)
theorem dL_law_434 : decode cL_law 434 = .ok (.invokevirtual 44, 3) := op182 (bA_at bd09_980_dec_L_0_19 10 rfl rfl) rfl
theorem dL_law_437 : decode cL_law 437 = .ok (.pop, 1) := op87 (bA_at bd09_980_dec_L_0_19 11 rfl rfl)
theorem bd09_980_dec_L_0_20 : ([(0, [167, 4, 185]), (3, [43]), (4, [42]), (5, [29]), (6, [4]), (7, [96]), (8, [46]), (9, [42]), (10, [29]), (11, [5]), (12, [96]), (13, [46])] : List (Nat × List UInt8)).all (fun x => prB x.2 ((cL_law.data.toList.drop 438).drop x.1)) = true := by decide +kernel
theorem dL_law_438 : decode cL_law 438 = .ok (.goto 1209, 3) := op167 (bA_at bd09_980_dec_L_0_20 0 rfl rfl) (by decide +kernel)
theorem dL_law_441 : decode cL_law 441 = .ok (.aload_n 1, 1) := op43 (bA_at bd09_980_dec_L_0_20 1 rfl rfl)
theorem dL_law_442 : decode cL_law 442 = .ok (.aload_n 0, 1) := op42 (bA_at bd09_980_dec_L_0_20 2 rfl rfl)
theorem dL_law_443 : decode cL_law 443 = .ok (.iload_n 3, 1) := op29 (bA_at bd09_980_dec_L_0_20 3 rfl rfl)
theorem dL_law_444 : decode cL_law 444 = .ok (.iconst 1, 1) := op4 (bA_at bd09_980_dec_L_0_20 4 rfl rfl)
theorem dL_law_445 : decode cL_law 445 = .ok (.iadd, 1) := op96 (bA_at bd09_980_dec_L_0_20 5 rfl rfl)
theorem dL_law_446 : decode cL_law 446 = .ok (.iaload, 1) := op46 (bA_at bd09_980_dec_L_0_20 6 rfl rfl)
theorem dL_law_447 : decode cL_law 447 = .ok (.aload_n 0, 1) := op42 (bA_at bd09_980_dec_L_0_20 7 rfl rfl)
theorem dL_law_448 : decode cL_law 448 = .ok (.iload_n 3, 1) := op29 (bA_at bd09_980_dec_L_0_20 8 rfl rfl)
theorem dL_law_449 : decode cL_law 449 = .ok (.iconst 2, 1) := op5 (bA_at bd09_980_dec_L_0_20 9 rfl rfl)
theorem dL_law_450 : decode cL_law 450 = .ok (.iadd, 1) := op96 (bA_at bd09_980_dec_L_0_20 10 rfl rfl)
theorem dL_law_451 : decode cL_law 451 = .ok (.iaload, 1) := op46 (bA_at bd09_980_dec_L_0_20 11 rfl rfl)
theorem bd09_980_dec_L_0_21 : ([(0, [182, 0, 45]), (3, [87]), (4, [44]), (5, [42]), (6, [29]), (7, [4]), (8, [96]), (9, [46]), (10, [42]), (11, [29]), (12, [5]), (13, [96])] : List (Nat × List UInt8)).all (fun x => prB x.2 ((cL_law.data.toList.drop 452).drop x.1)) = true := by decide +kernel
theorem dL_law_452 : decode cL_law 452 = .ok (.invokevirtual 45, 3) := op182 (bA_at bd09_980_dec_L_0_21 0 rfl rfl) rfl
theorem dL_law_455 : decode cL_law 455 = .ok (.pop, 1) := op87 (bA_at bd09_980_dec_L_0_21 1 rfl rfl)
theorem dL_law_456 : decode cL_law 456 = .ok (.aload_n 2, 1) := op44 (bA_at bd09_980_dec_L_0_21 2 rfl rfl)
theorem dL_law_457 : decode cL_law 457 = .ok (.aload_n 0, 1) := op42 (bA_at bd09_980_dec_L_0_21 3 rfl rfl)
theorem dL_law_458 : decode cL_law 458 = .ok (.iload_n 3, 1) := op29 (bA_at bd09_980_dec_L_0_21 4 rfl rfl)
theorem dL_law_459 : decode cL_law 459 = .ok (.iconst 1, 1) := op4 (bA_at bd09_980_dec_L_0_21 5 rfl rfl)
theorem dL_law_460 : decode cL_law 460 = .ok (.iadd, 1) := op96 (bA_at bd09_980_dec_L_0_21 6 rfl rfl)
theorem dL_law_461 : decode cL_law 461 = .ok (.iaload, 1) := op46 (bA_at bd09_980_dec_L_0_21 7 rfl rfl)
theorem dL_law_462 : decode cL_law 462 = .ok (.aload_n 0, 1) := op42 (bA_at bd09_980_dec_L_0_21 8 rfl rfl)
theorem dL_law_463 : decode cL_law 463 = .ok (.iload_n 3, 1) := op29 (bA_at bd09_980_dec_L_0_21 9 rfl rfl)
theorem dL_law_464 : decode cL_law 464 = .ok (.iconst 2, 1) := op5 (bA_at bd09_980_dec_L_0_21 10 rfl rfl)
theorem dL_law_465 : decode cL_law 465 = .ok (.iadd, 1) := op96 (bA_at bd09_980_dec_L_0_21 11 rfl rfl)
theorem bd09_980_dec_L_0_22 : ([(0, [46]), (1, [182, 0, 48]), (4, [87]), (5, [167, 4, 152]), (8, [43]), (9, [42]), (10, [29]), (11, [4]), (12, [96]), (13, [46]), (14, [42]), (15, [29])] : List (Nat × List UInt8)).all (fun x => prB x.2 ((cL_law.data.toList.drop 466).drop x.1)) = true := by decide +kernel
theorem dL_law_466 : decode cL_law 466 = .ok (.iaload, 1) := op46 (bA_at bd09_980_dec_L_0_22 0 rfl rfl)
theorem dL_law_467 : decode cL_law 467 = .ok (.invokevirtual 48, 3) := op182 (bA_at bd09_980_dec_L_0_22 1 rfl rfl) rfl
theorem dL_law_470 : decode cL_law 470 = .ok (.pop, 1) := op87 (bA_at bd09_980_dec_L_0_22 2 rfl rfl)
theorem dL_law_471 : decode cL_law 471 = .ok (.goto 1176, 3) := op167 (bA_at bd09_980_dec_L_0_22 3 rfl rfl) (by decide +kernel)
theorem dL_law_474 : decode cL_law 474 = .ok (.aload_n 1, 1) := op43 (bA_at bd09_980_dec_L_0_22 4 rfl rfl)
theorem dL_law_475 : decode cL_law 475 = .ok (.aload_n 0, 1) := op42 (bA_at bd09_980_dec_L_0_22 5 rfl rfl)
theorem dL_law_476 : decode cL_law 476 = .ok (.iload_n 3, 1) := op29 (bA_at bd09_980_dec_L_0_22 6 rfl rfl)
theorem dL_law_477 : decode cL_law 477 = .ok (.iconst 1, 1) := op4 (bA_at bd09_980_dec_L_0_22 7 rfl rfl)
theorem dL_law_478 : decode cL_law 478 = .ok (.iadd, 1) := op96 (bA_at bd09_980_dec_L_0_22 8 rfl rfl)
theorem dL_law_479 : decode cL_law 479 = .ok (.iaload, 1) := op46 (bA_at bd09_980_dec_L_0_22 9 rfl rfl)
theorem dL_law_480 : decode cL_law 480 = .ok (.aload_n 0, 1) := op42 (bA_at bd09_980_dec_L_0_22 10 rfl rfl)
theorem dL_law_481 : decode cL_law 481 = .ok (.iload_n 3, 1) := op29 (bA_at bd09_980_dec_L_0_22 11 rfl rfl)
theorem bd09_980_dec_L_0_23 : ([(0, [5]), (1, [96]), (2, [46]), (3, [42]), (4, [29]), (5, [6]), (6, [96]), (7, [46]), (8, [42]), (9, [29]), (10, [7]), (11, [96])] : List (Nat × List UInt8)).all (fun x => prB x.2 ((cL_law.data.toList.drop 482).drop x.1)) = true := by decide +kernel
theorem dL_law_482 : decode cL_law 482 = .ok (.iconst 2, 1) := op5 (bA_at bd09_980_dec_L_0_23 0 rfl rfl)
theorem dL_law_483 : decode cL_law 483 = .ok (.iadd, 1) := op96 (bA_at bd09_980_dec_L_0_23 1 rfl rfl)
theorem dL_law_484 : decode cL_law 484 = .ok (.iaload, 1) := op46 (bA_at bd09_980_dec_L_0_23 2 rfl rfl)
theorem dL_law_485 : decode cL_law 485 = .ok (.aload_n 0, 1) := op42 (bA_at bd09_980_dec_L_0_23 3 rfl rfl)
theorem dL_law_486 : decode cL_law 486 = .ok (.iload_n 3, 1) := op29 (bA_at bd09_980_dec_L_0_23 4 rfl rfl)
theorem dL_law_487 : decode cL_law 487 = .ok (.iconst 3, 1) := op6 (bA_at bd09_980_dec_L_0_23 5 rfl rfl)
theorem dL_law_488 : decode cL_law 488 = .ok (.iadd, 1) := op96 (bA_at bd09_980_dec_L_0_23 6 rfl rfl)
theorem dL_law_489 : decode cL_law 489 = .ok (.iaload, 1) := op46 (bA_at bd09_980_dec_L_0_23 7 rfl rfl)
theorem dL_law_490 : decode cL_law 490 = .ok (.aload_n 0, 1) := op42 (bA_at bd09_980_dec_L_0_23 8 rfl rfl)
theorem dL_law_491 : decode cL_law 491 = .ok (.iload_n 3, 1) := op29 (bA_at bd09_980_dec_L_0_23 9 rfl rfl)
theorem dL_law_492 : decode cL_law 492 = .ok (.iconst 4, 1) := op7 (bA_at bd09_980_dec_L_0_23 10 rfl rfl)
theorem dL_law_493 : decode cL_law 493 = .ok (.iadd, 1) := op96 (bA_at bd09_980_dec_L_0_23 11 rfl rfl)
theorem bd09_980_dec_L_0_24 : ([(0, [46]), (1, [182, 0, 49]), (4, [87]), (5, [44]), (6, [42]), (7, [29]), (8, [4]), (9, [96]), (10, [46]), (11, [42]), (12, [29]), (13, [5])] : List (Nat × List UInt8)).all (fun x => prB x.2 ((cL_law.data.toList.drop 494).drop x.1)) = true := by decide +kernel
theorem dL_law_494 : decode cL_law 494 = .ok (.iaload, 1) := op46 (bA_at bd09_980_dec_L_0_24 0 rfl rfl)
theorem dL_law_495 : decode cL_law 495 = .ok (.invokevirtual 49, 3) := op182 (bA_at bd09_980_dec_L_0_24 1 rfl rfl) rfl
theorem dL_law_498 : decode cL_law 498 = .ok (.pop, 1) := op87 (bA_at bd09_980_dec_L_0_24 2 rfl rfl)
theorem dL_law_499 : decode cL_law 499 = .ok (.aload_n 2, 1) := op44 (bA_at bd09_980_dec_L_0_24 3 rfl rfl)
theorem dL_law_500 : decode cL_law 500 = .ok (.aload_n 0, 1) := op42 (bA_at bd09_980_dec_L_0_24 4 rfl rfl)
theorem dL_law_501 : decode cL_law 501 = .ok (.iload_n 3, 1) := op29 (bA_at bd09_980_dec_L_0_24 5 rfl rfl)
theorem dL_law_502 : decode cL_law 502 = .ok (.iconst 1, 1) := op4 (bA_at bd09_980_dec_L_0_24 6 rfl rfl)
theorem dL_law_503 : decode cL_law 503 = .ok (.iadd, 1) := op96 (bA_at bd09_980_dec_L_0_24 7 rfl rfl)
theorem dL_law_504 : decode cL_law 504 = .ok (.iaload, 1) := op46 (bA_at bd09_980_dec_L_0_24 8 rfl rfl)
theorem dL_law_505 : decode cL_law 505 = .ok (.aload_n 0, 1) := op42 (bA_at bd09_980_dec_L_0_24 9 rfl rfl)
theorem dL_law_506 : decode cL_law 506 = .ok (.iload_n 3, 1) := op29 (bA_at bd09_980_dec_L_0_24 10 rfl rfl)
theorem dL_law_507 : decode cL_law 507 = .ok (.iconst 2, 1) := op5 (bA_at bd09_980_dec_L_0_24 11 rfl rfl)
theorem bd09_980_dec_L_0_25 : ([(0, [96]), (1, [46]), (2, [42]), (3, [29]), (4, [6]), (5, [96]), (6, [46]), (7, [42]), (8, [29]), (9, [7]), (10, [96]), (11, [46])] : List (Nat × List UInt8)).all (fun x => prB x.2 ((cL_law.data.toList.drop 508).drop x.1)) = true := by decide +kernel
theorem dL_law_508 : decode cL_law 508 = .ok (.iadd, 1) := op96 (bA_at bd09_980_dec_L_0_25 0 rfl rfl)
theorem dL_law_509 : decode cL_law 509 = .ok (.iaload, 1) := op46 (bA_at bd09_980_dec_L_0_25 1 rfl rfl)
theorem dL_law_510 : decode cL_law 510 = .ok (.aload_n 0, 1) := op42 (bA_at bd09_980_dec_L_0_25 2 rfl rfl)
theorem dL_law_511 : decode cL_law 511 = .ok (.iload_n 3, 1) := op29 (bA_at bd09_980_dec_L_0_25 3 rfl rfl)
theorem dL_law_512 : decode cL_law 512 = .ok (.iconst 3, 1) := op6 (bA_at bd09_980_dec_L_0_25 4 rfl rfl)
theorem dL_law_513 : decode cL_law 513 = .ok (.iadd, 1) := op96 (bA_at bd09_980_dec_L_0_25 5 rfl rfl)
theorem dL_law_514 : decode cL_law 514 = .ok (.iaload, 1) := op46 (bA_at bd09_980_dec_L_0_25 6 rfl rfl)
theorem dL_law_515 : decode cL_law 515 = .ok (.aload_n 0, 1) := op42 (bA_at bd09_980_dec_L_0_25 7 rfl rfl)
theorem dL_law_516 : decode cL_law 516 = .ok (.iload_n 3, 1) := op29 (bA_at bd09_980_dec_L_0_25 8 rfl rfl)
theorem dL_law_517 : decode cL_law 517 = .ok (.iconst 4, 1) := op7 (bA_at bd09_980_dec_L_0_25 9 rfl rfl)
theorem dL_law_518 : decode cL_law 518 = .ok (.iadd, 1) := op96 (bA_at bd09_980_dec_L_0_25 10 rfl rfl)
theorem dL_law_519 : decode cL_law 519 = .ok (.iaload, 1) := op46 (bA_at bd09_980_dec_L_0_25 11 rfl rfl)
theorem bd09_980_dec_L_0_26 : ([(0, [182, 0, 53]), (3, [87]), (4, [167, 4, 99]), (7, [43]), (8, [42]), (9, [29]), (10, [4]), (11, [96]), (12, [46]), (13, [42]), (14, [29]), (15, [5])] : List (Nat × List UInt8)).all (fun x => prB x.2 ((cL_law.data.toList.drop 520).drop x.1)) = true := by decide +kernel
theorem dL_law_520 : decode cL_law 520 = .ok (.invokevirtual 53, 3) := op182 (bA_at bd09_980_dec_L_0_26 0 rfl rfl) rfl
theorem dL_law_523 : decode cL_law 523 = .ok (.pop, 1) := op87 (bA_at bd09_980_dec_L_0_26 1 rfl rfl)
theorem dL_law_524 : decode cL_law 524 = .ok (.goto 1123, 3) := op167 (bA_at bd09_980_dec_L_0_26 2 rfl rfl) (by decide +kernel)
theorem dL_law_527 : decode cL_law 527 = .ok (.aload_n 1, 1) := op43 (bA_at bd09_980_dec_L_0_26 3 rfl rfl)
theorem dL_law_528 : decode cL_law 528 = .ok (.aload_n 0, 1) := op42 (bA_at bd09_980_dec_L_0_26 4 rfl rfl)
theorem dL_law_529 : decode cL_law 529 = .ok (.iload_n 3, 1) := op29 (bA_at bd09_980_dec_L_0_26 5 rfl rfl)
theorem dL_law_530 : decode cL_law 530 = .ok (.iconst 1, 1) := op4 (bA_at bd09_980_dec_L_0_26 6 rfl rfl)
theorem dL_law_531 : decode cL_law 531 = .ok (.iadd, 1) := op96 (bA_at bd09_980_dec_L_0_26 7 rfl rfl)
theorem dL_law_532 : decode cL_law 532 = .ok (.iaload, 1) := op46 (bA_at bd09_980_dec_L_0_26 8 rfl rfl)
theorem dL_law_533 : decode cL_law 533 = .ok (.aload_n 0, 1) := op42 (bA_at bd09_980_dec_L_0_26 9 rfl rfl)
theorem dL_law_534 : decode cL_law 534 = .ok (.iload_n 3, 1) := op29 (bA_at bd09_980_dec_L_0_26 10 rfl rfl)
theorem dL_law_535 : decode cL_law 535 = .ok (.iconst 2, 1) := op5 (bA_at bd09_980_dec_L_0_26 11 rfl rfl)
theorem bd09_980_dec_L_0_27 : ([(0, [96]), (1, [46]), (2, [42]), (3, [29]), (4, [6]), (5, [96]), (6, [46]), (7, [182, 0, 54]), (10, [87]), (11, [44]), (12, [42]), (13, [29])] : List (Nat × List UInt8)).all (fun x => prB x.2 ((cL_law.data.toList.drop 536).drop x.1)) = true := by decide +kernel
theorem dL_law_536 : decode cL_law 536 = .ok (.iadd, 1) := op96 (bA_at bd09_980_dec_L_0_27 0 rfl rfl)
theorem dL_law_537 : decode cL_law 537 = .ok (.iaload, 1) := op46 (bA_at bd09_980_dec_L_0_27 1 rfl rfl)
theorem dL_law_538 : decode cL_law 538 = .ok (.aload_n 0, 1) := op42 (bA_at bd09_980_dec_L_0_27 2 rfl rfl)
theorem dL_law_539 : decode cL_law 539 = .ok (.iload_n 3, 1) := op29 (bA_at bd09_980_dec_L_0_27 3 rfl rfl)
theorem dL_law_540 : decode cL_law 540 = .ok (.iconst 3, 1) := op6 (bA_at bd09_980_dec_L_0_27 4 rfl rfl)
theorem dL_law_541 : decode cL_law 541 = .ok (.iadd, 1) := op96 (bA_at bd09_980_dec_L_0_27 5 rfl rfl)
theorem dL_law_542 : decode cL_law 542 = .ok (.iaload, 1) := op46 (bA_at bd09_980_dec_L_0_27 6 rfl rfl)
theorem dL_law_543 : decode cL_law 543 = .ok (.invokevirtual 54, 3) := op182 (bA_at bd09_980_dec_L_0_27 7 rfl rfl) rfl
theorem dL_law_546 : decode cL_law 546 = .ok (.pop, 1) := op87 (bA_at bd09_980_dec_L_0_27 8 rfl rfl)
theorem dL_law_547 : decode cL_law 547 = .ok (.aload_n 2, 1) := op44 (bA_at bd09_980_dec_L_0_27 9 rfl rfl)
theorem dL_law_548 : decode cL_law 548 = .ok (.aload_n 0, 1) := op42 (bA_at bd09_980_dec_L_0_27 10 rfl rfl)
theorem dL_law_549 : decode cL_law 549 = .ok (.iload_n 3, 1) := op29 (bA_at bd09_980_dec_L_0_27 11 rfl rfl)
theorem bd09_980_dec_L_0_28 : ([(0, [4]), (1, [96]), (2, [46]), (3, [42]), (4, [29]), (5, [5]), (6, [96]), (7, [46]), (8, [42]), (9, [29]), (10, [6]), (11, [96])] : List (Nat × List UInt8)).all (fun x => prB x.2 ((cL_law.data.toList.drop 550).drop x.1)) = true := by decide +kernel
theorem dL_law_550 : decode cL_law 550 = .ok (.iconst 1, 1) := op4 (bA_at bd09_980_dec_L_0_28 0 rfl rfl)
theorem dL_law_551 : decode cL_law 551 = .ok (.iadd, 1) := op96 (bA_at bd09_980_dec_L_0_28 1 rfl rfl)
theorem dL_law_552 : decode cL_law 552 = .ok (.iaload, 1) := op46 (bA_at bd09_980_dec_L_0_28 2 rfl rfl)
theorem dL_law_553 : decode cL_law 553 = .ok (.aload_n 0, 1) := op42 (bA_at bd09_980_dec_L_0_28 3 rfl rfl)
theorem dL_law_554 : decode cL_law 554 = .ok (.iload_n 3, 1) := op29 (bA_at bd09_980_dec_L_0_28 4 rfl rfl)
theorem dL_law_555 : decode cL_law 555 = .ok (.iconst 2, 1) := op5 (bA_at bd09_980_dec_L_0_28 5 rfl rfl)
theorem dL_law_556 : decode cL_law 556 = .ok (.iadd, 1) := op96 (bA_at bd09_980_dec_L_0_28 6 rfl rfl)
theorem dL_law_557 : decode cL_law 557 = .ok (.iaload, 1) := op46 (bA_at bd09_980_dec_L_0_28 7 rfl rfl)
theorem dL_law_558 : decode cL_law 558 = .ok (.aload_n 0, 1) := op42 (bA_at bd09_980_dec_L_0_28 8 rfl rfl)
theorem dL_law_559 : decode cL_law 559 = .ok (.iload_n 3, 1) := op29 (bA_at bd09_980_dec_L_0_28 9 rfl rfl)
theorem dL_law_560 : decode cL_law 560 = .ok (.iconst 3, 1) := op6 (bA_at bd09_980_dec_L_0_28 10 rfl rfl)
theorem dL_law_561 : decode cL_law 561 = .ok (.iadd, 1) := op96 (bA_at bd09_980_dec_L_0_28 11 rfl rfl)
theorem bd09_980_dec_L_0_29 : ([(0, [46]), (1, [182, 0, 57]), (4, [87]), (5, [167, 4, 56]), (8, [43]), (9, [42]), (10, [29]), (11, [4]), (12, [96]), (13, [46]), (14, [42]), (15, [29])] : List (Nat × List UInt8)).all (fun x => prB x.2 ((cL_law.data.toList.drop 562).drop x.1)) = true := by decide +kernel
theorem dL_law_562 : decode cL_law 562 = .ok (.iaload, 1) := op46 (bA_at bd09_980_dec_L_0_29 0 rfl rfl)
theorem dL_law_563 : decode cL_law 563 = .ok (.invokevirtual 57, 3) := op182 (bA_at bd09_980_dec_L_0_29 1 rfl rfl) rfl
theorem dL_law_566 : decode cL_law 566 = .ok (.pop, 1) := op87 (bA_at bd09_980_dec_L_0_29 2 rfl rfl)
theorem dL_law_567 : decode cL_law 567 = .ok (.goto 1080, 3) := op167 (bA_at bd09_980_dec_L_0_29 3 rfl rfl) (by decide +kernel)
theorem dL_law_570 : decode cL_law 570 = .ok (.aload_n 1, 1) := op43 (bA_at bd09_980_dec_L_0_29 4 rfl rfl)
theorem dL_law_571 : decode cL_law 571 = .ok (.aload_n 0, 1) := op42 (bA_at bd09_980_dec_L_0_29 5 rfl rfl)
theorem dL_law_572 : decode cL_law 572 = .ok (.iload_n 3, 1) := op29 (bA_at bd09_980_dec_L_0_29 6 rfl rfl)
theorem dL_law_573 : decode cL_law 573 = .ok (.iconst 1, 1) := op4 (bA_at bd09_980_dec_L_0_29 7 rfl rfl)
theorem dL_law_574 : decode cL_law 574 = .ok (.iadd, 1) := op96 (bA_at bd09_980_dec_L_0_29 8 rfl rfl)
theorem dL_law_575 : decode cL_law 575 = .ok (.iaload, 1) := op46 (bA_at bd09_980_dec_L_0_29 9 rfl rfl)
theorem dL_law_576 : decode cL_law 576 = .ok (.aload_n 0, 1) := op42 (bA_at bd09_980_dec_L_0_29 10 rfl rfl)
theorem dL_law_577 : decode cL_law 577 = .ok (.iload_n 3, 1) := op29 (bA_at bd09_980_dec_L_0_29 11 rfl rfl)
theorem bd09_980_dec_L_0_30 : ([(0, [5]), (1, [96]), (2, [46]), (3, [42]), (4, [29]), (5, [6]), (6, [96]), (7, [46]), (8, [182, 0, 58]), (11, [87]), (12, [44]), (13, [42])] : List (Nat × List UInt8)).all (fun x => prB x.2 ((cL_law.data.toList.drop 578).drop x.1)) = true := by decide +kernel
theorem dL_law_578 : decode cL_law 578 = .ok (.iconst 2, 1) := op5 (bA_at bd09_980_dec_L_0_30 0 rfl rfl)
theorem dL_law_579 : decode cL_law 579 = .ok (.iadd, 1) := op96 (bA_at bd09_980_dec_L_0_30 1 rfl rfl)
theorem dL_law_580 : decode cL_law 580 = .ok (.iaload, 1) := op46 (bA_at bd09_980_dec_L_0_30 2 rfl rfl)
theorem dL_law_581 : decode cL_law 581 = .ok (.aload_n 0, 1) := op42 (bA_at bd09_980_dec_L_0_30 3 rfl rfl)
theorem dL_law_582 : decode cL_law 582 = .ok (.iload_n 3, 1) := op29 (bA_at bd09_980_dec_L_0_30 4 rfl rfl)
theorem dL_law_583 : decode cL_law 583 = .ok (.iconst 3, 1) := op6 (bA_at bd09_980_dec_L_0_30 5 rfl rfl)
theorem dL_law_584 : decode cL_law 584 = .ok (.iadd, 1) := op96 (bA_at bd09_980_dec_L_0_30 6 rfl rfl)
theorem dL_law_585 : decode cL_law 585 = .ok (.iaload, 1) := op46 (bA_at bd09_980_dec_L_0_30 7 rfl rfl)
theorem dL_law_586 : decode cL_law 586 = .ok (.invokevirtual 58, 3) := op182 (bA_at bd09_980_dec_L_0_30 8 rfl rfl) rfl
theorem dL_law_589 : decode cL_law 589 = .ok (.pop, 1) := op87 (bA_at bd09_980_dec_L_0_30 9 rfl rfl)
theorem dL_law_590 : decode cL_law 590 = .ok (.aload_n 2, 1) := op44 (bA_at bd09_980_dec_L_0_30 10 rfl rfl)
theorem dL_law_591 : decode cL_law 591 = .ok (.aload_n 0, 1) := op42 (bA_at bd09_980_dec_L_0_30 11 rfl rfl)
theorem bd09_980_dec_L_0_31 : ([(0, [29]), (1, [4]), (2, [96]), (3, [46]), (4, [42]), (5, [29]), (6, [5]), (7, [96]), (8, [46]), (9, [42]), (10, [29]), (11, [6])] : List (Nat × List UInt8)).all (fun x => prB x.2 ((cL_law.data.toList.drop 592).drop x.1)) = true := by decide +kernel
theorem dL_law_592 : decode cL_law 592 = .ok (.iload_n 3, 1) := op29 (bA_at bd09_980_dec_L_0_31 0 rfl rfl)
theorem dL_law_593 : decode cL_law 593 = .ok (.iconst 1, 1) := op4 (bA_at bd09_980_dec_L_0_31 1 rfl rfl)
theorem dL_law_594 : decode cL_law 594 = .ok (.iadd, 1) := op96 (bA_at bd09_980_dec_L_0_31 2 rfl rfl)
theorem dL_law_595 : decode cL_law 595 = .ok (.iaload, 1) := op46 (bA_at bd09_980_dec_L_0_31 3 rfl rfl)
theorem dL_law_596 : decode cL_law 596 = .ok (.aload_n 0, 1) := op42 (bA_at bd09_980_dec_L_0_31 4 rfl rfl)
theorem dL_law_597 : decode cL_law 597 = .ok (.iload_n 3, 1) := op29 (bA_at bd09_980_dec_L_0_31 5 rfl rfl)
theorem dL_law_598 : decode cL_law 598 = .ok (.iconst 2, 1) := op5 (bA_at bd09_980_dec_L_0_31 6 rfl rfl)
theorem dL_law_599 : decode cL_law 599 = .ok (.iadd, 1) := op96 (bA_at bd09_980_dec_L_0_31 7 rfl rfl)
theorem dL_law_600 : decode cL_law 600 = .ok (.iaload, 1) := op46 (bA_at bd09_980_dec_L_0_31 8 rfl rfl)
theorem dL_law_601 : decode cL_law 601 = .ok (.aload_n 0, 1) := op42 (bA_at bd09_980_dec_L_0_31 9 rfl rfl)
theorem dL_law_602 : decode cL_law 602 = .ok (.iload_n 3, 1) := op29 (bA_at bd09_980_dec_L_0_31 10 rfl rfl)
theorem dL_law_603 : decode cL_law 603 = .ok (.iconst 3, 1) := op6 (bA_at bd09_980_dec_L_0_31 11 rfl rfl)
theorem bd09_980_dec_L_0_32 : ([(0, [96]), (1, [46]), (2, [182, 0, 61]), (5, [87]), (6, [167, 4, 13]), (9, [43]), (10, [42]), (11, [29]), (12, [4]), (13, [96]), (14, [46]), (15, [42])] : List (Nat × List UInt8)).all (fun x => prB x.2 ((cL_law.data.toList.drop 604).drop x.1)) = true := by decide +kernel
theorem dL_law_604 : decode cL_law 604 = .ok (.iadd, 1) := op96 (bA_at bd09_980_dec_L_0_32 0 rfl rfl)
theorem dL_law_605 : decode cL_law 605 = .ok (.iaload, 1) := op46 (bA_at bd09_980_dec_L_0_32 1 rfl rfl)
theorem dL_law_606 : decode cL_law 606 = .ok (.invokevirtual 61, 3) := op182 (bA_at bd09_980_dec_L_0_32 2 rfl rfl) rfl
theorem dL_law_609 : decode cL_law 609 = .ok (.pop, 1) := op87 (bA_at bd09_980_dec_L_0_32 3 rfl rfl)
theorem dL_law_610 : decode cL_law 610 = .ok (.goto 1037, 3) := op167 (bA_at bd09_980_dec_L_0_32 4 rfl rfl) (by decide +kernel)
theorem dL_law_613 : decode cL_law 613 = .ok (.aload_n 1, 1) := op43 (bA_at bd09_980_dec_L_0_32 5 rfl rfl)
theorem dL_law_614 : decode cL_law 614 = .ok (.aload_n 0, 1) := op42 (bA_at bd09_980_dec_L_0_32 6 rfl rfl)
theorem dL_law_615 : decode cL_law 615 = .ok (.iload_n 3, 1) := op29 (bA_at bd09_980_dec_L_0_32 7 rfl rfl)
theorem dL_law_616 : decode cL_law 616 = .ok (.iconst 1, 1) := op4 (bA_at bd09_980_dec_L_0_32 8 rfl rfl)
theorem dL_law_617 : decode cL_law 617 = .ok (.iadd, 1) := op96 (bA_at bd09_980_dec_L_0_32 9 rfl rfl)
theorem dL_law_618 : decode cL_law 618 = .ok (.iaload, 1) := op46 (bA_at bd09_980_dec_L_0_32 10 rfl rfl)
theorem dL_law_619 : decode cL_law 619 = .ok (.aload_n 0, 1) := op42 (bA_at bd09_980_dec_L_0_32 11 rfl rfl)
theorem bd09_980_dec_L_0_33 : ([(0, [29]), (1, [5]), (2, [96]), (3, [46]), (4, [153, 0, 7]), (7, [4]), (8, [167, 0, 4]), (11, [3]), (12, [182, 0, 62]), (15, [87]), (16, [44]), (17, [42])] : List (Nat × List UInt8)).all (fun x => prB x.2 ((cL_law.data.toList.drop 620).drop x.1)) = true := by decide +kernel
theorem dL_law_620 : decode cL_law 620 = .ok (.iload_n 3, 1) := op29 (bA_at bd09_980_dec_L_0_33 0 rfl rfl)
theorem dL_law_621 : decode cL_law 621 = .ok (.iconst 2, 1) := op5 (bA_at bd09_980_dec_L_0_33 1 rfl rfl)
theorem dL_law_622 : decode cL_law 622 = .ok (.iadd, 1) := op96 (bA_at bd09_980_dec_L_0_33 2 rfl rfl)
theorem dL_law_623 : decode cL_law 623 = .ok (.iaload, 1) := op46 (bA_at bd09_980_dec_L_0_33 3 rfl rfl)
theorem dL_law_624 : decode cL_law 624 = .ok (.ifCond .eq 7, 3) := op153 (bA_at bd09_980_dec_L_0_33 4 rfl rfl) (by decide +kernel)
theorem dL_law_627 : decode cL_law 627 = .ok (.iconst 1, 1) := op4 (bA_at bd09_980_dec_L_0_33 5 rfl rfl)
theorem dL_law_628 : decode cL_law 628 = .ok (.goto 4, 3) := op167 (bA_at bd09_980_dec_L_0_33 6 rfl rfl) (by decide +kernel)
theorem dL_law_631 : decode cL_law 631 = .ok (.iconst 0, 1) := op3 (bA_at bd09_980_dec_L_0_33 7 rfl rfl)
theorem dL_law_632 : decode cL_law 632 = .ok (.invokevirtual 62, 3) := op182 (bA_at bd09_980_dec_L_0_33 8 rfl rfl) rfl
theorem dL_law_635 : decode cL_law 635 = .ok (.pop, 1) := op87 (bA_at bd09_980_dec_L_0_33 9 rfl rfl)
theorem dL_law_636 : decode cL_law 636 = .ok (.aload_n 2, 1) := op44 (bA_at bd09_980_dec_L_0_33 10 rfl rfl)
theorem dL_law_637 : decode cL_law 637 = .ok (.aload_n 0, 1) := op42 (bA_at bd09_980_dec_L_0_33 11 rfl rfl)
theorem bd09_980_dec_L_0_34 : ([(0, [29]), (1, [4]), (2, [96]), (3, [46]), (4, [42]), (5, [29]), (6, [5]), (7, [96]), (8, [46]), (9, [153, 0, 7]), (12, [4]), (13, [167, 0, 4])] : List (Nat × List UInt8)).all (fun x => prB x.2 ((cL_law.data.toList.drop 638).drop x.1)) = true := by decide +kernel
theorem dL_law_638 : decode cL_law 638 = .ok (.iload_n 3, 1) := op29 (bA_at bd09_980_dec_L_0_34 0 rfl rfl)
theorem dL_law_639 : decode cL_law 639 = .ok (.iconst 1, 1) := op4 (bA_at bd09_980_dec_L_0_34 1 rfl rfl)
theorem dL_law_640 : decode cL_law 640 = .ok (.iadd, 1) := op96 (bA_at bd09_980_dec_L_0_34 2 rfl rfl)
theorem dL_law_641 : decode cL_law 641 = .ok (.iaload, 1) := op46 (bA_at bd09_980_dec_L_0_34 3 rfl rfl)
theorem dL_law_642 : decode cL_law 642 = .ok (.aload_n 0, 1) := op42 (bA_at bd09_980_dec_L_0_34 4 rfl rfl)
theorem dL_law_643 : decode cL_law 643 = .ok (.iload_n 3, 1) := op29 (bA_at bd09_980_dec_L_0_34 5 rfl rfl)
theorem dL_law_644 : decode cL_law 644 = .ok (.iconst 2, 1) := op5 (bA_at bd09_980_dec_L_0_34 6 rfl rfl)
theorem dL_law_645 : decode cL_law 645 = .ok (.iadd, 1) := op96 (bA_at bd09_980_dec_L_0_34 7 rfl rfl)
theorem dL_law_646 : decode cL_law 646 = .ok (.iaload, 1) := op46 (bA_at bd09_980_dec_L_0_34 8 rfl rfl)
theorem dL_law_647 : decode cL_law 647 = .ok (.ifCond .eq 7, 3) := op153 (bA_at bd09_980_dec_L_0_34 9 rfl rfl) (by decide +kernel)
theorem dL_law_650 : decode cL_law 650 = .ok (.iconst 1, 1) := op4 (bA_at bd09_980_dec_L_0_34 10 rfl rfl)
theorem dL_law_651 : decode cL_law 651 = .ok (.goto 4, 3) := op167 (bA_at bd09_980_dec_L_0_34 11 rfl rfl) (by decide +kernel)
theorem bd09_980_dec_L_0_35 : ([(0, [3]), (1, [182, 0, 66]), (4, [87]), (5, [167, 3, 220]), (8, [43]), (9, [42]), (10, [29]), (11, [4]), (12, [96]), (13, [46]), (14, [42]), (15, [29])] : List (Nat × List UInt8)).all (fun x => prB x.2 ((cL_law.data.toList.drop 654).drop x.1)) = true := by decide +kernel
theorem dL_law_654 : decode cL_law 654 = .ok (.iconst 0, 1) := op3 (bA_at bd09_980_dec_L_0_35 0 rfl rfl)
theorem dL_law_655 : decode cL_law 655 = .ok (.invokevirtual 66, 3) := op182 (bA_at bd09_980_dec_L_0_35 1 rfl rfl) rfl
theorem dL_law_658 : decode cL_law 658 = .ok (.pop, 1) := op87 (bA_at bd09_980_dec_L_0_35 2 rfl rfl)
theorem dL_law_659 : decode cL_law 659 = .ok (.goto 988, 3) := op167 (bA_at bd09_980_dec_L_0_35 3 rfl rfl) (by decide +kernel)
theorem dL_law_662 : decode cL_law 662 = .ok (.aload_n 1, 1) := op43 (bA_at bd09_980_dec_L_0_35 4 rfl rfl)
theorem dL_law_663 : decode cL_law 663 = .ok (.aload_n 0, 1) := op42 (bA_at bd09_980_dec_L_0_35 5 rfl rfl)
theorem dL_law_664 : decode cL_law 664 = .ok (.iload_n 3, 1) := op29 (bA_at bd09_980_dec_L_0_35 6 rfl rfl)
theorem dL_law_665 : decode cL_law 665 = .ok (.iconst 1, 1) := op4 (bA_at bd09_980_dec_L_0_35 7 rfl rfl)
theorem dL_law_666 : decode cL_law 666 = .ok (.iadd, 1) := op96 (bA_at bd09_980_dec_L_0_35 8 rfl rfl)
theorem dL_law_667 : decode cL_law 667 = .ok (.iaload, 1) := op46 (bA_at bd09_980_dec_L_0_35 9 rfl rfl)
theorem dL_law_668 : decode cL_law 668 = .ok (.aload_n 0, 1) := op42 (bA_at bd09_980_dec_L_0_35 10 rfl rfl)
theorem dL_law_669 : decode cL_law 669 = .ok (.iload_n 3, 1) := op29 (bA_at bd09_980_dec_L_0_35 11 rfl rfl)
theorem bd09_980_dec_L_0_36 : ([(0, [5]), (1, [96]), (2, [46]), (3, [42]), (4, [29]), (5, [6]), (6, [96]), (7, [46]), (8, [42]), (9, [29]), (10, [7]), (11, [96])] : List (Nat × List UInt8)).all (fun x => prB x.2 ((cL_law.data.toList.drop 670).drop x.1)) = true := by decide +kernel
theorem dL_law_670 : decode cL_law 670 = .ok (.iconst 2, 1) := op5 (bA_at bd09_980_dec_L_0_36 0 rfl rfl)
theorem dL_law_671 : decode cL_law 671 = .ok (.iadd, 1) := op96 (bA_at bd09_980_dec_L_0_36 1 rfl rfl)
theorem dL_law_672 : decode cL_law 672 = .ok (.iaload, 1) := op46 (bA_at bd09_980_dec_L_0_36 2 rfl rfl)
theorem dL_law_673 : decode cL_law 673 = .ok (.aload_n 0, 1) := op42 (bA_at bd09_980_dec_L_0_36 3 rfl rfl)
theorem dL_law_674 : decode cL_law 674 = .ok (.iload_n 3, 1) := op29 (bA_at bd09_980_dec_L_0_36 4 rfl rfl)
theorem dL_law_675 : decode cL_law 675 = .ok (.iconst 3, 1) := op6 (bA_at bd09_980_dec_L_0_36 5 rfl rfl)
theorem dL_law_676 : decode cL_law 676 = .ok (.iadd, 1) := op96 (bA_at bd09_980_dec_L_0_36 6 rfl rfl)
theorem dL_law_677 : decode cL_law 677 = .ok (.iaload, 1) := op46 (bA_at bd09_980_dec_L_0_36 7 rfl rfl)
theorem dL_law_678 : decode cL_law 678 = .ok (.aload_n 0, 1) := op42 (bA_at bd09_980_dec_L_0_36 8 rfl rfl)
theorem dL_law_679 : decode cL_law 679 = .ok (.iload_n 3, 1) := op29 (bA_at bd09_980_dec_L_0_36 9 rfl rfl)
theorem dL_law_680 : decode cL_law 680 = .ok (.iconst 4, 1) := op7 (bA_at bd09_980_dec_L_0_36 10 rfl rfl)
theorem dL_law_681 : decode cL_law 681 = .ok (.iadd, 1) := op96 (bA_at bd09_980_dec_L_0_36 11 rfl rfl)
theorem bd09_980_dec_L_0_37 : ([(0, [46]), (1, [182, 0, 67]), (4, [87]), (5, [44]), (6, [42]), (7, [29]), (8, [4]), (9, [96]), (10, [46]), (11, [42]), (12, [29]), (13, [5])] : List (Nat × List UInt8)).all (fun x => prB x.2 ((cL_law.data.toList.drop 682).drop x.1)) = true := by decide +kernel
theorem dL_law_682 : decode cL_law 682 = .ok (.iaload, 1) := op46 (bA_at bd09_980_dec_L_0_37 0 rfl rfl)
theorem dL_law_683 : decode cL_law 683 = .ok (.invokevirtual 67, 3) := op182 (bA_at bd09_980_dec_L_0_37 1 rfl rfl) rfl
theorem dL_law_686 : decode cL_law 686 = .ok (.pop, 1) := op87 (bA_at bd09_980_dec_L_0_37 2 rfl rfl)
theorem dL_law_687 : decode cL_law 687 = .ok (.aload_n 2, 1) := op44 (bA_at bd09_980_dec_L_0_37 3 rfl rfl)
theorem dL_law_688 : decode cL_law 688 = .ok (.aload_n 0, 1) := op42 (bA_at bd09_980_dec_L_0_37 4 rfl rfl)
theorem dL_law_689 : decode cL_law 689 = .ok (.iload_n 3, 1) := op29 (bA_at bd09_980_dec_L_0_37 5 rfl rfl)
theorem dL_law_690 : decode cL_law 690 = .ok (.iconst 1, 1) := op4 (bA_at bd09_980_dec_L_0_37 6 rfl rfl)
theorem dL_law_691 : decode cL_law 691 = .ok (.iadd, 1) := op96 (bA_at bd09_980_dec_L_0_37 7 rfl rfl)
theorem dL_law_692 : decode cL_law 692 = .ok (.iaload, 1) := op46 (bA_at bd09_980_dec_L_0_37 8 rfl rfl)
theorem dL_law_693 : decode cL_law 693 = .ok (.aload_n 0, 1) := op42 (bA_at bd09_980_dec_L_0_37 9 rfl rfl)
theorem dL_law_694 : decode cL_law 694 = .ok (.iload_n 3, 1) := op29 (bA_at bd09_980_dec_L_0_37 10 rfl rfl)
theorem dL_law_695 : decode cL_law 695 = .ok (.iconst 2, 1) := op5 (bA_at bd09_980_dec_L_0_37 11 rfl rfl)
theorem bd09_980_dec_L_0_38 : ([(0, [96]), (1, [46]), (2, [42]), (3, [29]), (4, [6]), (5, [96]), (6, [46]), (7, [42]), (8, [29]), (9, [7]), (10, [96]), (11, [46])] : List (Nat × List UInt8)).all (fun x => prB x.2 ((cL_law.data.toList.drop 696).drop x.1)) = true := by decide +kernel
theorem dL_law_696 : decode cL_law 696 = .ok (.iadd, 1) := op96 (bA_at bd09_980_dec_L_0_38 0 rfl rfl)
theorem dL_law_697 : decode cL_law 697 = .ok (.iaload, 1) := op46 (bA_at bd09_980_dec_L_0_38 1 rfl rfl)
theorem dL_law_698 : decode cL_law 698 = .ok (.aload_n 0, 1) := op42 (bA_at bd09_980_dec_L_0_38 2 rfl rfl)
theorem dL_law_699 : decode cL_law 699 = .ok (.iload_n 3, 1) := op29 (bA_at bd09_980_dec_L_0_38 3 rfl rfl)
theorem dL_law_700 : decode cL_law 700 = .ok (.iconst 3, 1) := op6 (bA_at bd09_980_dec_L_0_38 4 rfl rfl)
theorem dL_law_701 : decode cL_law 701 = .ok (.iadd, 1) := op96 (bA_at bd09_980_dec_L_0_38 5 rfl rfl)
theorem dL_law_702 : decode cL_law 702 = .ok (.iaload, 1) := op46 (bA_at bd09_980_dec_L_0_38 6 rfl rfl)
theorem dL_law_703 : decode cL_law 703 = .ok (.aload_n 0, 1) := op42 (bA_at bd09_980_dec_L_0_38 7 rfl rfl)
theorem dL_law_704 : decode cL_law 704 = .ok (.iload_n 3, 1) := op29 (bA_at bd09_980_dec_L_0_38 8 rfl rfl)
theorem dL_law_705 : decode cL_law 705 = .ok (.iconst 4, 1) := op7 (bA_at bd09_980_dec_L_0_38 9 rfl rfl)
theorem dL_law_706 : decode cL_law 706 = .ok (.iadd, 1) := op96 (bA_at bd09_980_dec_L_0_38 10 rfl rfl)
theorem dL_law_707 : decode cL_law 707 = .ok (.iaload, 1) := op46 (bA_at bd09_980_dec_L_0_38 11 rfl rfl)
theorem bd09_980_dec_L_0_39 : ([(0, [182, 0, 70]), (3, [87]), (4, [167, 3, 167]), (7, [43]), (8, [42]), (9, [29]), (10, [4]), (11, [96]), (12, [46]), (13, [42]), (14, [29]), (15, [5])] : List (Nat × List UInt8)).all (fun x => prB x.2 ((cL_law.data.toList.drop 708).drop x.1)) = true := by decide +kernel
theorem dL_law_708 : decode cL_law 708 = .ok (.invokevirtual 70, 3) := op182 (bA_at bd09_980_dec_L_0_39 0 rfl rfl) rfl
theorem dL_law_711 : decode cL_law 711 = .ok (.pop, 1) := op87 (bA_at bd09_980_dec_L_0_39 1 rfl rfl)
theorem dL_law_712 : decode cL_law 712 = .ok (.goto 935, 3) := op167 (bA_at bd09_980_dec_L_0_39 2 rfl rfl) (by decide +kernel)
theorem dL_law_715 : decode cL_law 715 = .ok (.aload_n 1, 1) := op43 (bA_at bd09_980_dec_L_0_39 3 rfl rfl)
theorem dL_law_716 : decode cL_law 716 = .ok (.aload_n 0, 1) := op42 (bA_at bd09_980_dec_L_0_39 4 rfl rfl)
theorem dL_law_717 : decode cL_law 717 = .ok (.iload_n 3, 1) := op29 (bA_at bd09_980_dec_L_0_39 5 rfl rfl)
theorem dL_law_718 : decode cL_law 718 = .ok (.iconst 1, 1) := op4 (bA_at bd09_980_dec_L_0_39 6 rfl rfl)
theorem dL_law_719 : decode cL_law 719 = .ok (.iadd, 1) := op96 (bA_at bd09_980_dec_L_0_39 7 rfl rfl)
theorem dL_law_720 : decode cL_law 720 = .ok (.iaload, 1) := op46 (bA_at bd09_980_dec_L_0_39 8 rfl rfl)
theorem dL_law_721 : decode cL_law 721 = .ok (.aload_n 0, 1) := op42 (bA_at bd09_980_dec_L_0_39 9 rfl rfl)
theorem dL_law_722 : decode cL_law 722 = .ok (.iload_n 3, 1) := op29 (bA_at bd09_980_dec_L_0_39 10 rfl rfl)
theorem dL_law_723 : decode cL_law 723 = .ok (.iconst 2, 1) := op5 (bA_at bd09_980_dec_L_0_39 11 rfl rfl)
theorem bd09_980_dec_L_0_40 : ([(0, [96]), (1, [46]), (2, [42]), (3, [29]), (4, [6]), (5, [96]), (6, [46]), (7, [182, 0, 71]), (10, [87]), (11, [44]), (12, [42]), (13, [29])] : List (Nat × List UInt8)).all (fun x => prB x.2 ((cL_law.data.toList.drop 724).drop x.1)) = true := by decide +kernel
theorem dL_law_724 : decode cL_law 724 = .ok (.iadd, 1) := op96 (bA_at bd09_980_dec_L_0_40 0 rfl rfl)
theorem dL_law_725 : decode cL_law 725 = .ok (.iaload, 1) := op46 (bA_at bd09_980_dec_L_0_40 1 rfl rfl)
theorem dL_law_726 : decode cL_law 726 = .ok (.aload_n 0, 1) := op42 (bA_at bd09_980_dec_L_0_40 2 rfl rfl)
theorem dL_law_727 : decode cL_law 727 = .ok (.iload_n 3, 1) := op29 (bA_at bd09_980_dec_L_0_40 3 rfl rfl)
theorem dL_law_728 : decode cL_law 728 = .ok (.iconst 3, 1) := op6 (bA_at bd09_980_dec_L_0_40 4 rfl rfl)
theorem dL_law_729 : decode cL_law 729 = .ok (.iadd, 1) := op96 (bA_at bd09_980_dec_L_0_40 5 rfl rfl)
theorem dL_law_730 : decode cL_law 730 = .ok (.iaload, 1) := op46 (bA_at bd09_980_dec_L_0_40 6 rfl rfl)
theorem dL_law_731 : decode cL_law 731 = .ok (.invokevirtual 71, 3) := op182 (bA_at bd09_980_dec_L_0_40 7 rfl rfl) rfl
theorem dL_law_734 : decode cL_law 734 = .ok (.pop, 1) := op87 (bA_at bd09_980_dec_L_0_40 8 rfl rfl)
theorem dL_law_735 : decode cL_law 735 = .ok (.aload_n 2, 1) := op44 (bA_at bd09_980_dec_L_0_40 9 rfl rfl)
theorem dL_law_736 : decode cL_law 736 = .ok (.aload_n 0, 1) := op42 (bA_at bd09_980_dec_L_0_40 10 rfl rfl)
theorem dL_law_737 : decode cL_law 737 = .ok (.iload_n 3, 1) := op29 (bA_at bd09_980_dec_L_0_40 11 rfl rfl)
theorem bd09_980_dec_L_0_41 : ([(0, [4]), (1, [96]), (2, [46]), (3, [42]), (4, [29]), (5, [5]), (6, [96]), (7, [46]), (8, [42]), (9, [29]), (10, [6]), (11, [96])] : List (Nat × List UInt8)).all (fun x => prB x.2 ((cL_law.data.toList.drop 738).drop x.1)) = true := by decide +kernel
theorem dL_law_738 : decode cL_law 738 = .ok (.iconst 1, 1) := op4 (bA_at bd09_980_dec_L_0_41 0 rfl rfl)
theorem dL_law_739 : decode cL_law 739 = .ok (.iadd, 1) := op96 (bA_at bd09_980_dec_L_0_41 1 rfl rfl)
theorem dL_law_740 : decode cL_law 740 = .ok (.iaload, 1) := op46 (bA_at bd09_980_dec_L_0_41 2 rfl rfl)
theorem dL_law_741 : decode cL_law 741 = .ok (.aload_n 0, 1) := op42 (bA_at bd09_980_dec_L_0_41 3 rfl rfl)
theorem dL_law_742 : decode cL_law 742 = .ok (.iload_n 3, 1) := op29 (bA_at bd09_980_dec_L_0_41 4 rfl rfl)
theorem dL_law_743 : decode cL_law 743 = .ok (.iconst 2, 1) := op5 (bA_at bd09_980_dec_L_0_41 5 rfl rfl)
theorem dL_law_744 : decode cL_law 744 = .ok (.iadd, 1) := op96 (bA_at bd09_980_dec_L_0_41 6 rfl rfl)
theorem dL_law_745 : decode cL_law 745 = .ok (.iaload, 1) := op46 (bA_at bd09_980_dec_L_0_41 7 rfl rfl)
theorem dL_law_746 : decode cL_law 746 = .ok (.aload_n 0, 1) := op42 (bA_at bd09_980_dec_L_0_41 8 rfl rfl)
theorem dL_law_747 : decode cL_law 747 = .ok (.iload_n 3, 1) := op29 (bA_at bd09_980_dec_L_0_41 9 rfl rfl)
theorem dL_law_748 : decode cL_law 748 = .ok (.iconst 3, 1) := op6 (bA_at bd09_980_dec_L_0_41 10 rfl rfl)
theorem dL_law_749 : decode cL_law 749 = .ok (.iadd, 1) := op96 (bA_at bd09_980_dec_L_0_41 11 rfl rfl)
theorem bd09_980_dec_L_0_42 : ([(0, [46]), (1, [182, 0, 74]), (4, [87]), (5, [167, 3, 124]), (8, [43]), (9, [42]), (10, [29]), (11, [4]), (12, [96]), (13, [46]), (14, [42]), (15, [29])] : List (Nat × List UInt8)).all (fun x => prB x.2 ((cL_law.data.toList.drop 750).drop x.1)) = true := by decide +kernel
theorem dL_law_750 : decode cL_law 750 = .ok (.iaload, 1) := op46 (bA_at bd09_980_dec_L_0_42 0 rfl rfl)
theorem dL_law_751 : decode cL_law 751 = .ok (.invokevirtual 74, 3) := op182 (bA_at bd09_980_dec_L_0_42 1 rfl rfl) rfl
theorem dL_law_754 : decode cL_law 754 = .ok (.pop, 1) := op87 (bA_at bd09_980_dec_L_0_42 2 rfl rfl)
theorem dL_law_755 : decode cL_law 755 = .ok (.goto 892, 3) := op167 (bA_at bd09_980_dec_L_0_42 3 rfl rfl) (by decide +kernel)
theorem dL_law_758 : decode cL_law 758 = .ok (.aload_n 1, 1) := op43 (bA_at bd09_980_dec_L_0_42 4 rfl rfl)
theorem dL_law_759 : decode cL_law 759 = .ok (.aload_n 0, 1) := op42 (bA_at bd09_980_dec_L_0_42 5 rfl rfl)
theorem dL_law_760 : decode cL_law 760 = .ok (.iload_n 3, 1) := op29 (bA_at bd09_980_dec_L_0_42 6 rfl rfl)
theorem dL_law_761 : decode cL_law 761 = .ok (.iconst 1, 1) := op4 (bA_at bd09_980_dec_L_0_42 7 rfl rfl)
theorem dL_law_762 : decode cL_law 762 = .ok (.iadd, 1) := op96 (bA_at bd09_980_dec_L_0_42 8 rfl rfl)
theorem dL_law_763 : decode cL_law 763 = .ok (.iaload, 1) := op46 (bA_at bd09_980_dec_L_0_42 9 rfl rfl)
theorem dL_law_764 : decode cL_law 764 = .ok (.aload_n 0, 1) := op42 (bA_at bd09_980_dec_L_0_42 10 rfl rfl)
theorem dL_law_765 : decode cL_law 765 = .ok (.iload_n 3, 1) := op29 (bA_at bd09_980_dec_L_0_42 11 rfl rfl)
theorem bd09_980_dec_L_0_43 : ([(0, [5]), (1, [96]), (2, [46]), (3, [42]), (4, [29]), (5, [6]), (6, [96]), (7, [46]), (8, [153, 0, 7]), (11, [4]), (12, [167, 0, 4]), (15, [3])] : List (Nat × List UInt8)).all (fun x => prB x.2 ((cL_law.data.toList.drop 766).drop x.1)) = true := by decide +kernel
theorem dL_law_766 : decode cL_law 766 = .ok (.iconst 2, 1) := op5 (bA_at bd09_980_dec_L_0_43 0 rfl rfl)
theorem dL_law_767 : decode cL_law 767 = .ok (.iadd, 1) := op96 (bA_at bd09_980_dec_L_0_43 1 rfl rfl)
theorem dL_law_768 : decode cL_law 768 = .ok (.iaload, 1) := op46 (bA_at bd09_980_dec_L_0_43 2 rfl rfl)
theorem dL_law_769 : decode cL_law 769 = .ok (.aload_n 0, 1) := op42 (bA_at bd09_980_dec_L_0_43 3 rfl rfl)
theorem dL_law_770 : decode cL_law 770 = .ok (.iload_n 3, 1) := op29 (bA_at bd09_980_dec_L_0_43 4 rfl rfl)
theorem dL_law_771 : decode cL_law 771 = .ok (.iconst 3, 1) := op6 (bA_at bd09_980_dec_L_0_43 5 rfl rfl)
theorem dL_law_772 : decode cL_law 772 = .ok (.iadd, 1) := op96 (bA_at bd09_980_dec_L_0_43 6 rfl rfl)
theorem dL_law_773 : decode cL_law 773 = .ok (.iaload, 1) := op46 (bA_at bd09_980_dec_L_0_43 7 rfl rfl)
theorem dL_law_774 : decode cL_law 774 = .ok (.ifCond .eq 7, 3) := op153 (bA_at bd09_980_dec_L_0_43 8 rfl rfl) (by decide +kernel)
theorem dL_law_777 : decode cL_law 777 = .ok (.iconst 1, 1) := op4 (bA_at bd09_980_dec_L_0_43 9 rfl rfl)
theorem dL_law_778 : decode cL_law 778 = .ok (.goto 4, 3) := op167 (bA_at bd09_980_dec_L_0_43 10 rfl rfl) (by decide +kernel)
theorem dL_law_781 : decode cL_law 781 = .ok (.iconst 0, 1) := op3 (bA_at bd09_980_dec_L_0_43 11 rfl rfl)
theorem bd09_980_dec_L_0_44 : ([(0, [182, 0, 75]), (3, [87]), (4, [44]), (5, [42]), (6, [29]), (7, [4]), (8, [96]), (9, [46]), (10, [42]), (11, [29]), (12, [5]), (13, [96])] : List (Nat × List UInt8)).all (fun x => prB x.2 ((cL_law.data.toList.drop 782).drop x.1)) = true := by decide +kernel
theorem dL_law_782 : decode cL_law 782 = .ok (.invokevirtual 75, 3) := op182 (bA_at bd09_980_dec_L_0_44 0 rfl rfl) rfl
theorem dL_law_785 : decode cL_law 785 = .ok (.pop, 1) := op87 (bA_at bd09_980_dec_L_0_44 1 rfl rfl)
theorem dL_law_786 : decode cL_law 786 = .ok (.aload_n 2, 1) := op44 (bA_at bd09_980_dec_L_0_44 2 rfl rfl)
theorem dL_law_787 : decode cL_law 787 = .ok (.aload_n 0, 1) := op42 (bA_at bd09_980_dec_L_0_44 3 rfl rfl)
theorem dL_law_788 : decode cL_law 788 = .ok (.iload_n 3, 1) := op29 (bA_at bd09_980_dec_L_0_44 4 rfl rfl)
theorem dL_law_789 : decode cL_law 789 = .ok (.iconst 1, 1) := op4 (bA_at bd09_980_dec_L_0_44 5 rfl rfl)
theorem dL_law_790 : decode cL_law 790 = .ok (.iadd, 1) := op96 (bA_at bd09_980_dec_L_0_44 6 rfl rfl)
theorem dL_law_791 : decode cL_law 791 = .ok (.iaload, 1) := op46 (bA_at bd09_980_dec_L_0_44 7 rfl rfl)
theorem dL_law_792 : decode cL_law 792 = .ok (.aload_n 0, 1) := op42 (bA_at bd09_980_dec_L_0_44 8 rfl rfl)
theorem dL_law_793 : decode cL_law 793 = .ok (.iload_n 3, 1) := op29 (bA_at bd09_980_dec_L_0_44 9 rfl rfl)
theorem dL_law_794 : decode cL_law 794 = .ok (.iconst 2, 1) := op5 (bA_at bd09_980_dec_L_0_44 10 rfl rfl)
theorem dL_law_795 : decode cL_law 795 = .ok (.iadd, 1) := op96 (bA_at bd09_980_dec_L_0_44 11 rfl rfl)
theorem bd09_980_dec_L_0_45 : ([(0, [46]), (1, [42]), (2, [29]), (3, [6]), (4, [96]), (5, [46]), (6, [153, 0, 7]), (9, [4]), (10, [167, 0, 4]), (13, [3]), (14, [182, 0, 79]), (17, [87])] : List (Nat × List UInt8)).all (fun x => prB x.2 ((cL_law.data.toList.drop 796).drop x.1)) = true := by decide +kernel
theorem dL_law_796 : decode cL_law 796 = .ok (.iaload, 1) := op46 (bA_at bd09_980_dec_L_0_45 0 rfl rfl)
theorem dL_law_797 : decode cL_law 797 = .ok (.aload_n 0, 1) := op42 (bA_at bd09_980_dec_L_0_45 1 rfl rfl)
theorem dL_law_798 : decode cL_law 798 = .ok (.iload_n 3, 1) := op29 (bA_at bd09_980_dec_L_0_45 2 rfl rfl)
theorem dL_law_799 : decode cL_law 799 = .ok (.iconst 3, 1) := op6 (bA_at bd09_980_dec_L_0_45 3 rfl rfl)
theorem dL_law_800 : decode cL_law 800 = .ok (.iadd, 1) := op96 (bA_at bd09_980_dec_L_0_45 4 rfl rfl)
theorem dL_law_801 : decode cL_law 801 = .ok (.iaload, 1) := op46 (bA_at bd09_980_dec_L_0_45 5 rfl rfl)
theorem dL_law_802 : decode cL_law 802 = .ok (.ifCond .eq 7, 3) := op153 (bA_at bd09_980_dec_L_0_45 6 rfl rfl) (by decide +kernel)
theorem dL_law_805 : decode cL_law 805 = .ok (.iconst 1, 1) := op4 (bA_at bd09_980_dec_L_0_45 7 rfl rfl)
theorem dL_law_806 : decode cL_law 806 = .ok (.goto 4, 3) := op167 (bA_at bd09_980_dec_L_0_45 8 rfl rfl) (by decide +kernel)
theorem dL_law_809 : decode cL_law 809 = .ok (.iconst 0, 1) := op3 (bA_at bd09_980_dec_L_0_45 9 rfl rfl)
theorem dL_law_810 : decode cL_law 810 = .ok (.invokevirtual 79, 3) := op182 (bA_at bd09_980_dec_L_0_45 10 rfl rfl) rfl
theorem dL_law_813 : decode cL_law 813 = .ok (.pop, 1) := op87 (bA_at bd09_980_dec_L_0_45 11 rfl rfl)
theorem bd09_980_dec_L_0_46 : ([(0, [167, 3, 65]), (3, [43]), (4, [42]), (5, [29]), (6, [4]), (7, [96]), (8, [46]), (9, [42]), (10, [29]), (11, [5]), (12, [96]), (13, [46])] : List (Nat × List UInt8)).all (fun x => prB x.2 ((cL_law.data.toList.drop 814).drop x.1)) = true := by decide +kernel
theorem dL_law_814 : decode cL_law 814 = .ok (.goto 833, 3) := op167 (bA_at bd09_980_dec_L_0_46 0 rfl rfl) (by decide +kernel)
theorem dL_law_817 : decode cL_law 817 = .ok (.aload_n 1, 1) := op43 (bA_at bd09_980_dec_L_0_46 1 rfl rfl)
theorem dL_law_818 : decode cL_law 818 = .ok (.aload_n 0, 1) := op42 (bA_at bd09_980_dec_L_0_46 2 rfl rfl)
theorem dL_law_819 : decode cL_law 819 = .ok (.iload_n 3, 1) := op29 (bA_at bd09_980_dec_L_0_46 3 rfl rfl)
theorem dL_law_820 : decode cL_law 820 = .ok (.iconst 1, 1) := op4 (bA_at bd09_980_dec_L_0_46 4 rfl rfl)
theorem dL_law_821 : decode cL_law 821 = .ok (.iadd, 1) := op96 (bA_at bd09_980_dec_L_0_46 5 rfl rfl)
theorem dL_law_822 : decode cL_law 822 = .ok (.iaload, 1) := op46 (bA_at bd09_980_dec_L_0_46 6 rfl rfl)
theorem dL_law_823 : decode cL_law 823 = .ok (.aload_n 0, 1) := op42 (bA_at bd09_980_dec_L_0_46 7 rfl rfl)
theorem dL_law_824 : decode cL_law 824 = .ok (.iload_n 3, 1) := op29 (bA_at bd09_980_dec_L_0_46 8 rfl rfl)
theorem dL_law_825 : decode cL_law 825 = .ok (.iconst 2, 1) := op5 (bA_at bd09_980_dec_L_0_46 9 rfl rfl)
theorem dL_law_826 : decode cL_law 826 = .ok (.iadd, 1) := op96 (bA_at bd09_980_dec_L_0_46 10 rfl rfl)
theorem dL_law_827 : decode cL_law 827 = .ok (.iaload, 1) := op46 (bA_at bd09_980_dec_L_0_46 11 rfl rfl)
theorem bd09_980_dec_L_0_47 : ([(0, [42]), (1, [29]), (2, [6]), (3, [96]), (4, [46]), (5, [182, 0, 80]), (8, [87]), (9, [44]), (10, [42]), (11, [29]), (12, [4]), (13, [96])] : List (Nat × List UInt8)).all (fun x => prB x.2 ((cL_law.data.toList.drop 828).drop x.1)) = true := by decide +kernel
theorem dL_law_828 : decode cL_law 828 = .ok (.aload_n 0, 1) := op42 (bA_at bd09_980_dec_L_0_47 0 rfl rfl)
theorem dL_law_829 : decode cL_law 829 = .ok (.iload_n 3, 1) := op29 (bA_at bd09_980_dec_L_0_47 1 rfl rfl)
theorem dL_law_830 : decode cL_law 830 = .ok (.iconst 3, 1) := op6 (bA_at bd09_980_dec_L_0_47 2 rfl rfl)
theorem dL_law_831 : decode cL_law 831 = .ok (.iadd, 1) := op96 (bA_at bd09_980_dec_L_0_47 3 rfl rfl)
theorem dL_law_832 : decode cL_law 832 = .ok (.iaload, 1) := op46 (bA_at bd09_980_dec_L_0_47 4 rfl rfl)
theorem dL_law_833 : decode cL_law 833 = .ok (.invokevirtual 80, 3) := op182 (bA_at bd09_980_dec_L_0_47 5 rfl rfl) rfl
theorem dL_law_836 : decode cL_law 836 = .ok (.pop, 1) := op87 (bA_at bd09_980_dec_L_0_47 6 rfl rfl)
theorem dL_law_837 : decode cL_law 837 = .ok (.aload_n 2, 1) := op44 (bA_at bd09_980_dec_L_0_47 7 rfl rfl)
theorem dL_law_838 : decode cL_law 838 = .ok (.aload_n 0, 1) := op42 (bA_at bd09_980_dec_L_0_47 8 rfl rfl)
theorem dL_law_839 : decode cL_law 839 = .ok (.iload_n 3, 1) := op29 (bA_at bd09_980_dec_L_0_47 9 rfl rfl)
theorem dL_law_840 : decode cL_law 840 = .ok (.iconst 1, 1) := op4 (bA_at bd09_980_dec_L_0_47 10 rfl rfl)
theorem dL_law_841 : decode cL_law 841 = .ok (.iadd, 1) := op96 (bA_at bd09_980_dec_L_0_47 11 rfl rfl)
theorem bd09_980_dec_L_0_48 : ([(0, [46]), (1, [42]), (2, [29]), (3, [5]), (4, [96]), (5, [46]), (6, [42]), (7, [29]), (8, [6]), (9, [96]), (10, [46]), (11, [182, 0, 83])] : List (Nat × List UInt8)).all (fun x => prB x.2 ((cL_law.data.toList.drop 842).drop x.1)) = true := by decide +kernel
theorem dL_law_842 : decode cL_law 842 = .ok (.iaload, 1) := op46 (bA_at bd09_980_dec_L_0_48 0 rfl rfl)
theorem dL_law_843 : decode cL_law 843 = .ok (.aload_n 0, 1) := op42 (bA_at bd09_980_dec_L_0_48 1 rfl rfl)
theorem dL_law_844 : decode cL_law 844 = .ok (.iload_n 3, 1) := op29 (bA_at bd09_980_dec_L_0_48 2 rfl rfl)
theorem dL_law_845 : decode cL_law 845 = .ok (.iconst 2, 1) := op5 (bA_at bd09_980_dec_L_0_48 3 rfl rfl)
theorem dL_law_846 : decode cL_law 846 = .ok (.iadd, 1) := op96 (bA_at bd09_980_dec_L_0_48 4 rfl rfl)
theorem dL_law_847 : decode cL_law 847 = .ok (.iaload, 1) := op46 (bA_at bd09_980_dec_L_0_48 5 rfl rfl)
theorem dL_law_848 : decode cL_law 848 = .ok (.aload_n 0, 1) := op42 (bA_at bd09_980_dec_L_0_48 6 rfl rfl)
theorem dL_law_849 : decode cL_law 849 = .ok (.iload_n 3, 1) := op29 (bA_at bd09_980_dec_L_0_48 7 rfl rfl)
theorem dL_law_850 : decode cL_law 850 = .ok (.iconst 3, 1) := op6 (bA_at bd09_980_dec_L_0_48 8 rfl rfl)
theorem dL_law_851 : decode cL_law 851 = .ok (.iadd, 1) := op96 (bA_at bd09_980_dec_L_0_48 9 rfl rfl)
theorem dL_law_852 : decode cL_law 852 = .ok (.iaload, 1) := op46 (bA_at bd09_980_dec_L_0_48 10 rfl rfl)
theorem dL_law_853 : decode cL_law 853 = .ok (.invokevirtual 83, 3) := op182 (bA_at bd09_980_dec_L_0_48 11 rfl rfl) rfl
theorem bd09_980_dec_L_0_49 : ([(0, [87]), (1, [167, 3, 22]), (4, [43]), (5, [42]), (6, [29]), (7, [4]), (8, [96]), (9, [46]), (10, [42]), (11, [29]), (12, [5]), (13, [96])] : List (Nat × List UInt8)).all (fun x => prB x.2 ((cL_law.data.toList.drop 856).drop x.1)) = true := by decide +kernel
theorem dL_law_856 : decode cL_law 856 = .ok (.pop, 1) := op87 (bA_at bd09_980_dec_L_0_49 0 rfl rfl)
theorem dL_law_857 : decode cL_law 857 = .ok (.goto 790, 3) := op167 (bA_at bd09_980_dec_L_0_49 1 rfl rfl) (by decide +kernel)
theorem dL_law_860 : decode cL_law 860 = .ok (.aload_n 1, 1) := op43 (bA_at bd09_980_dec_L_0_49 2 rfl rfl)
theorem dL_law_861 : decode cL_law 861 = .ok (.aload_n 0, 1) := op42 (bA_at bd09_980_dec_L_0_49 3 rfl rfl)
theorem dL_law_862 : decode cL_law 862 = .ok (.iload_n 3, 1) := op29 (bA_at bd09_980_dec_L_0_49 4 rfl rfl)
theorem dL_law_863 : decode cL_law 863 = .ok (.iconst 1, 1) := op4 (bA_at bd09_980_dec_L_0_49 5 rfl rfl)
theorem dL_law_864 : decode cL_law 864 = .ok (.iadd, 1) := op96 (bA_at bd09_980_dec_L_0_49 6 rfl rfl)
theorem dL_law_865 : decode cL_law 865 = .ok (.iaload, 1) := op46 (bA_at bd09_980_dec_L_0_49 7 rfl rfl)
theorem dL_law_866 : decode cL_law 866 = .ok (.aload_n 0, 1) := op42 (bA_at bd09_980_dec_L_0_49 8 rfl rfl)
theorem dL_law_867 : decode cL_law 867 = .ok (.iload_n 3, 1) := op29 (bA_at bd09_980_dec_L_0_49 9 rfl rfl)
theorem dL_law_868 : decode cL_law 868 = .ok (.iconst 2, 1) := op5 (bA_at bd09_980_dec_L_0_49 10 rfl rfl)
theorem dL_law_869 : decode cL_law 869 = .ok (.iadd, 1) := op96 (bA_at bd09_980_dec_L_0_49 11 rfl rfl)
theorem bd09_980_dec_L_0_50 : ([(0, [46]), (1, [42]), (2, [29]), (3, [6]), (4, [96]), (5, [46]), (6, [153, 0, 7]), (9, [4]), (10, [167, 0, 4]), (13, [3]), (14, [182, 0, 84]), (17, [87])] : List (Nat × List UInt8)).all (fun x => prB x.2 ((cL_law.data.toList.drop 870).drop x.1)) = true := by decide +kernel
theorem dL_law_870 : decode cL_law 870 = .ok (.iaload, 1) := op46 (bA_at bd09_980_dec_L_0_50 0 rfl rfl)
theorem dL_law_871 : decode cL_law 871 = .ok (.aload_n 0, 1) := op42 (bA_at bd09_980_dec_L_0_50 1 rfl rfl)
theorem dL_law_872 : decode cL_law 872 = .ok (.iload_n 3, 1) := op29 (bA_at bd09_980_dec_L_0_50 2 rfl rfl)
theorem dL_law_873 : decode cL_law 873 = .ok (.iconst 3, 1) := op6 (bA_at bd09_980_dec_L_0_50 3 rfl rfl)
theorem dL_law_874 : decode cL_law 874 = .ok (.iadd, 1) := op96 (bA_at bd09_980_dec_L_0_50 4 rfl rfl)
theorem dL_law_875 : decode cL_law 875 = .ok (.iaload, 1) := op46 (bA_at bd09_980_dec_L_0_50 5 rfl rfl)
theorem dL_law_876 : decode cL_law 876 = .ok (.ifCond .eq 7, 3) := op153 (bA_at bd09_980_dec_L_0_50 6 rfl rfl) (by decide +kernel)
theorem dL_law_879 : decode cL_law 879 = .ok (.iconst 1, 1) := op4 (bA_at bd09_980_dec_L_0_50 7 rfl rfl)
theorem dL_law_880 : decode cL_law 880 = .ok (.goto 4, 3) := op167 (bA_at bd09_980_dec_L_0_50 8 rfl rfl) (by decide +kernel)
theorem dL_law_883 : decode cL_law 883 = .ok (.iconst 0, 1) := op3 (bA_at bd09_980_dec_L_0_50 9 rfl rfl)
theorem dL_law_884 : decode cL_law 884 = .ok (.invokevirtual 84, 3) := op182 (bA_at bd09_980_dec_L_0_50 10 rfl rfl) rfl
theorem dL_law_887 : decode cL_law 887 = .ok (.pop, 1) := op87 (bA_at bd09_980_dec_L_0_50 11 rfl rfl)
theorem bd09_980_dec_L_0_51 : ([(0, [44]), (1, [42]), (2, [29]), (3, [4]), (4, [96]), (5, [46]), (6, [42]), (7, [29]), (8, [5]), (9, [96]), (10, [46]), (11, [42])] : List (Nat × List UInt8)).all (fun x => prB x.2 ((cL_law.data.toList.drop 888).drop x.1)) = true := by decide +kernel
theorem dL_law_888 : decode cL_law 888 = .ok (.aload_n 2, 1) := op44 (bA_at bd09_980_dec_L_0_51 0 rfl rfl)
theorem dL_law_889 : decode cL_law 889 = .ok (.aload_n 0, 1) := op42 (bA_at bd09_980_dec_L_0_51 1 rfl rfl)
theorem dL_law_890 : decode cL_law 890 = .ok (.iload_n 3, 1) := op29 (bA_at bd09_980_dec_L_0_51 2 rfl rfl)
theorem dL_law_891 : decode cL_law 891 = .ok (.iconst 1, 1) := op4 (bA_at bd09_980_dec_L_0_51 3 rfl rfl)
theorem dL_law_892 : decode cL_law 892 = .ok (.iadd, 1) := op96 (bA_at bd09_980_dec_L_0_51 4 rfl rfl)
theorem dL_law_893 : decode cL_law 893 = .ok (.iaload, 1) := op46 (bA_at bd09_980_dec_L_0_51 5 rfl rfl)
theorem dL_law_894 : decode cL_law 894 = .ok (.aload_n 0, 1) := op42 (bA_at bd09_980_dec_L_0_51 6 rfl rfl)
theorem dL_law_895 : decode cL_law 895 = .ok (.iload_n 3, 1) := op29 (bA_at bd09_980_dec_L_0_51 7 rfl rfl)
theorem dL_law_896 : decode cL_law 896 = .ok (.iconst 2, 1) := op5 (bA_at bd09_980_dec_L_0_51 8 rfl rfl)
theorem dL_law_897 : decode cL_law 897 = .ok (.iadd, 1) := op96 (bA_at bd09_980_dec_L_0_51 9 rfl rfl)
theorem dL_law_898 : decode cL_law 898 = .ok (.iaload, 1) := op46 (bA_at bd09_980_dec_L_0_51 10 rfl rfl)
theorem dL_law_899 : decode cL_law 899 = .ok (.aload_n 0, 1) := op42 (bA_at bd09_980_dec_L_0_51 11 rfl rfl)
theorem bd09_980_dec_L_0_52 : ([(0, [29]), (1, [6]), (2, [96]), (3, [46]), (4, [153, 0, 7]), (7, [4]), (8, [167, 0, 4]), (11, [3]), (12, [182, 0, 87]), (15, [87]), (16, [167, 2, 219]), (19, [43])] : List (Nat × List UInt8)).all (fun x => prB x.2 ((cL_law.data.toList.drop 900).drop x.1)) = true := by decide +kernel
theorem dL_law_900 : decode cL_law 900 = .ok (.iload_n 3, 1) := op29 (bA_at bd09_980_dec_L_0_52 0 rfl rfl)
theorem dL_law_901 : decode cL_law 901 = .ok (.iconst 3, 1) := op6 (bA_at bd09_980_dec_L_0_52 1 rfl rfl)
theorem dL_law_902 : decode cL_law 902 = .ok (.iadd, 1) := op96 (bA_at bd09_980_dec_L_0_52 2 rfl rfl)
theorem dL_law_903 : decode cL_law 903 = .ok (.iaload, 1) := op46 (bA_at bd09_980_dec_L_0_52 3 rfl rfl)
theorem dL_law_904 : decode cL_law 904 = .ok (.ifCond .eq 7, 3) := op153 (bA_at bd09_980_dec_L_0_52 4 rfl rfl) (by decide +kernel)
theorem dL_law_907 : decode cL_law 907 = .ok (.iconst 1, 1) := op4 (bA_at bd09_980_dec_L_0_52 5 rfl rfl)
theorem dL_law_908 : decode cL_law 908 = .ok (.goto 4, 3) := op167 (bA_at bd09_980_dec_L_0_52 6 rfl rfl) (by decide +kernel)
theorem dL_law_911 : decode cL_law 911 = .ok (.iconst 0, 1) := op3 (bA_at bd09_980_dec_L_0_52 7 rfl rfl)
theorem dL_law_912 : decode cL_law 912 = .ok (.invokevirtual 87, 3) := op182 (bA_at bd09_980_dec_L_0_52 8 rfl rfl) rfl
theorem dL_law_915 : decode cL_law 915 = .ok (.pop, 1) := op87 (bA_at bd09_980_dec_L_0_52 9 rfl rfl)
theorem dL_law_916 : decode cL_law 916 = .ok (.goto 731, 3) := op167 (bA_at bd09_980_dec_L_0_52 10 rfl rfl) (by decide +kernel)
theorem dL_law_919 : decode cL_law 919 = .ok (.aload_n 1, 1) := op43 (bA_at bd09_980_dec_L_0_52 11 rfl rfl)
theorem bd09_980_dec_L_0_53 : ([(0, [42]), (1, [29]), (2, [4]), (3, [96]), (4, [46]), (5, [42]), (6, [29]), (7, [5]), (8, [96]), (9, [46]), (10, [182, 0, 88]), (13, [87])] : List (Nat × List UInt8)).all (fun x => prB x.2 ((cL_law.data.toList.drop 920).drop x.1)) = true := by decide +kernel
theorem dL_law_920 : decode cL_law 920 = .ok (.aload_n 0, 1) := op42 (bA_at bd09_980_dec_L_0_53 0 rfl rfl)
theorem dL_law_921 : decode cL_law 921 = .ok (.iload_n 3, 1) := op29 (bA_at bd09_980_dec_L_0_53 1 rfl rfl)
theorem dL_law_922 : decode cL_law 922 = .ok (.iconst 1, 1) := op4 (bA_at bd09_980_dec_L_0_53 2 rfl rfl)
theorem dL_law_923 : decode cL_law 923 = .ok (.iadd, 1) := op96 (bA_at bd09_980_dec_L_0_53 3 rfl rfl)
theorem dL_law_924 : decode cL_law 924 = .ok (.iaload, 1) := op46 (bA_at bd09_980_dec_L_0_53 4 rfl rfl)
theorem dL_law_925 : decode cL_law 925 = .ok (.aload_n 0, 1) := op42 (bA_at bd09_980_dec_L_0_53 5 rfl rfl)
theorem dL_law_926 : decode cL_law 926 = .ok (.iload_n 3, 1) := op29 (bA_at bd09_980_dec_L_0_53 6 rfl rfl)
theorem dL_law_927 : decode cL_law 927 = .ok (.iconst 2, 1) := op5 (bA_at bd09_980_dec_L_0_53 7 rfl rfl)
theorem dL_law_928 : decode cL_law 928 = .ok (.iadd, 1) := op96 (bA_at bd09_980_dec_L_0_53 8 rfl rfl)
theorem dL_law_929 : decode cL_law 929 = .ok (.iaload, 1) := op46 (bA_at bd09_980_dec_L_0_53 9 rfl rfl)
theorem dL_law_930 : decode cL_law 930 = .ok (.invokevirtual 88, 3) := op182 (bA_at bd09_980_dec_L_0_53 10 rfl rfl) rfl
theorem dL_law_933 : decode cL_law 933 = .ok (.pop, 1) := op87 (bA_at bd09_980_dec_L_0_53 11 rfl rfl)
theorem bd09_980_dec_L_0_54 : ([(0, [44]), (1, [42]), (2, [29]), (3, [4]), (4, [96]), (5, [46]), (6, [42]), (7, [29]), (8, [5]), (9, [96]), (10, [46]), (11, [182, 0, 91])] : List (Nat × List UInt8)).all (fun x => prB x.2 ((cL_law.data.toList.drop 934).drop x.1)) = true := by decide +kernel
theorem dL_law_934 : decode cL_law 934 = .ok (.aload_n 2, 1) := op44 (bA_at bd09_980_dec_L_0_54 0 rfl rfl)
theorem dL_law_935 : decode cL_law 935 = .ok (.aload_n 0, 1) := op42 (bA_at bd09_980_dec_L_0_54 1 rfl rfl)
theorem dL_law_936 : decode cL_law 936 = .ok (.iload_n 3, 1) := op29 (bA_at bd09_980_dec_L_0_54 2 rfl rfl)
theorem dL_law_937 : decode cL_law 937 = .ok (.iconst 1, 1) := op4 (bA_at bd09_980_dec_L_0_54 3 rfl rfl)
theorem dL_law_938 : decode cL_law 938 = .ok (.iadd, 1) := op96 (bA_at bd09_980_dec_L_0_54 4 rfl rfl)
theorem dL_law_939 : decode cL_law 939 = .ok (.iaload, 1) := op46 (bA_at bd09_980_dec_L_0_54 5 rfl rfl)
theorem dL_law_940 : decode cL_law 940 = .ok (.aload_n 0, 1) := op42 (bA_at bd09_980_dec_L_0_54 6 rfl rfl)
theorem dL_law_941 : decode cL_law 941 = .ok (.iload_n 3, 1) := op29 (bA_at bd09_980_dec_L_0_54 7 rfl rfl)
theorem dL_law_942 : decode cL_law 942 = .ok (.iconst 2, 1) := op5 (bA_at bd09_980_dec_L_0_54 8 rfl rfl)
theorem dL_law_943 : decode cL_law 943 = .ok (.iadd, 1) := op96 (bA_at bd09_980_dec_L_0_54 9 rfl rfl)
theorem dL_law_944 : decode cL_law 944 = .ok (.iaload, 1) := op46 (bA_at bd09_980_dec_L_0_54 10 rfl rfl)
theorem dL_law_945 : decode cL_law 945 = .ok (.invokevirtual 91, 3) := op182 (bA_at bd09_980_dec_L_0_54 11 rfl rfl) rfl
theorem bd09_980_dec_L_0_55 : ([(0, [87]), (1, [167, 2, 186]), (4, [43]), (5, [42]), (6, [29]), (7, [4]), (8, [96]), (9, [46]), (10, [182, 0, 92]), (13, [88]), (14, [44]), (15, [42])] : List (Nat × List UInt8)).all (fun x => prB x.2 ((cL_law.data.toList.drop 948).drop x.1)) = true := by decide +kernel
theorem dL_law_948 : decode cL_law 948 = .ok (.pop, 1) := op87 (bA_at bd09_980_dec_L_0_55 0 rfl rfl)
theorem dL_law_949 : decode cL_law 949 = .ok (.goto 698, 3) := op167 (bA_at bd09_980_dec_L_0_55 1 rfl rfl) (by decide +kernel)
theorem dL_law_952 : decode cL_law 952 = .ok (.aload_n 1, 1) := op43 (bA_at bd09_980_dec_L_0_55 2 rfl rfl)
theorem dL_law_953 : decode cL_law 953 = .ok (.aload_n 0, 1) := op42 (bA_at bd09_980_dec_L_0_55 3 rfl rfl)
theorem dL_law_954 : decode cL_law 954 = .ok (.iload_n 3, 1) := op29 (bA_at bd09_980_dec_L_0_55 4 rfl rfl)
theorem dL_law_955 : decode cL_law 955 = .ok (.iconst 1, 1) := op4 (bA_at bd09_980_dec_L_0_55 5 rfl rfl)
theorem dL_law_956 : decode cL_law 956 = .ok (.iadd, 1) := op96 (bA_at bd09_980_dec_L_0_55 6 rfl rfl)
theorem dL_law_957 : decode cL_law 957 = .ok (.iaload, 1) := op46 (bA_at bd09_980_dec_L_0_55 7 rfl rfl)
theorem dL_law_958 : decode cL_law 958 = .ok (.invokevirtual 92, 3) := op182 (bA_at bd09_980_dec_L_0_55 8 rfl rfl) rfl
theorem dL_law_961 : decode cL_law 961 = .ok (.pop2, 1) := op88 (bA_at bd09_980_dec_L_0_55 9 rfl rfl)
theorem dL_law_962 : decode cL_law 962 = .ok (.aload_n 2, 1) := op44 (bA_at bd09_980_dec_L_0_55 10 rfl rfl)
theorem dL_law_963 : decode cL_law 963 = .ok (.aload_n 0, 1) := op42 (bA_at bd09_980_dec_L_0_55 11 rfl rfl)
theorem bd09_980_dec_L_0_56 : ([(0, [29]), (1, [4]), (2, [96]), (3, [46]), (4, [182, 0, 96]), (7, [88]), (8, [167, 2, 163]), (11, [43]), (12, [42]), (13, [29]), (14, [4]), (15, [96])] : List (Nat × List UInt8)).all (fun x => prB x.2 ((cL_law.data.toList.drop 964).drop x.1)) = true := by decide +kernel
theorem dL_law_964 : decode cL_law 964 = .ok (.iload_n 3, 1) := op29 (bA_at bd09_980_dec_L_0_56 0 rfl rfl)
theorem dL_law_965 : decode cL_law 965 = .ok (.iconst 1, 1) := op4 (bA_at bd09_980_dec_L_0_56 1 rfl rfl)
theorem dL_law_966 : decode cL_law 966 = .ok (.iadd, 1) := op96 (bA_at bd09_980_dec_L_0_56 2 rfl rfl)
theorem dL_law_967 : decode cL_law 967 = .ok (.iaload, 1) := op46 (bA_at bd09_980_dec_L_0_56 3 rfl rfl)
theorem dL_law_968 : decode cL_law 968 = .ok (.invokevirtual 96, 3) := op182 (bA_at bd09_980_dec_L_0_56 4 rfl rfl) rfl
theorem dL_law_971 : decode cL_law 971 = .ok (.pop2, 1) := op88 (bA_at bd09_980_dec_L_0_56 5 rfl rfl)
theorem dL_law_972 : decode cL_law 972 = .ok (.goto 675, 3) := op167 (bA_at bd09_980_dec_L_0_56 6 rfl rfl) (by decide +kernel)
theorem dL_law_975 : decode cL_law 975 = .ok (.aload_n 1, 1) := op43 (bA_at bd09_980_dec_L_0_56 7 rfl rfl)
theorem dL_law_976 : decode cL_law 976 = .ok (.aload_n 0, 1) := op42 (bA_at bd09_980_dec_L_0_56 8 rfl rfl)
theorem dL_law_977 : decode cL_law 977 = .ok (.iload_n 3, 1) := op29 (bA_at bd09_980_dec_L_0_56 9 rfl rfl)
theorem dL_law_978 : decode cL_law 978 = .ok (.iconst 1, 1) := op4 (bA_at bd09_980_dec_L_0_56 10 rfl rfl)
theorem dL_law_979 : decode cL_law 979 = .ok (.iadd, 1) := op96 (bA_at bd09_980_dec_L_0_56 11 rfl rfl)
theorem bd09_980_dec_L_0_57 : ([(0, [46]), (1, [42]), (2, [29]), (3, [5]), (4, [96]), (5, [46]), (6, [182, 0, 97]), (9, [87]), (10, [44]), (11, [42]), (12, [29]), (13, [4])] : List (Nat × List UInt8)).all (fun x => prB x.2 ((cL_law.data.toList.drop 980).drop x.1)) = true := by decide +kernel
theorem dL_law_980 : decode cL_law 980 = .ok (.iaload, 1) := op46 (bA_at bd09_980_dec_L_0_57 0 rfl rfl)
theorem dL_law_981 : decode cL_law 981 = .ok (.aload_n 0, 1) := op42 (bA_at bd09_980_dec_L_0_57 1 rfl rfl)
theorem dL_law_982 : decode cL_law 982 = .ok (.iload_n 3, 1) := op29 (bA_at bd09_980_dec_L_0_57 2 rfl rfl)
theorem dL_law_983 : decode cL_law 983 = .ok (.iconst 2, 1) := op5 (bA_at bd09_980_dec_L_0_57 3 rfl rfl)
theorem dL_law_984 : decode cL_law 984 = .ok (.iadd, 1) := op96 (bA_at bd09_980_dec_L_0_57 4 rfl rfl)
theorem dL_law_985 : decode cL_law 985 = .ok (.iaload, 1) := op46 (bA_at bd09_980_dec_L_0_57 5 rfl rfl)
theorem dL_law_986 : decode cL_law 986 = .ok (.invokevirtual 97, 3) := op182 (bA_at bd09_980_dec_L_0_57 6 rfl rfl) rfl
theorem dL_law_989 : decode cL_law 989 = .ok (.pop, 1) := op87 (bA_at bd09_980_dec_L_0_57 7 rfl rfl)
theorem dL_law_990 : decode cL_law 990 = .ok (.aload_n 2, 1) := op44 (bA_at bd09_980_dec_L_0_57 8 rfl rfl)
theorem dL_law_991 : decode cL_law 991 = .ok (.aload_n 0, 1) := op42 (bA_at bd09_980_dec_L_0_57 9 rfl rfl)
theorem dL_law_992 : decode cL_law 992 = .ok (.iload_n 3, 1) := op29 (bA_at bd09_980_dec_L_0_57 10 rfl rfl)
theorem dL_law_993 : decode cL_law 993 = .ok (.iconst 1, 1) := op4 (bA_at bd09_980_dec_L_0_57 11 rfl rfl)
theorem bd09_980_dec_L_0_58 : ([(0, [96]), (1, [46]), (2, [42]), (3, [29]), (4, [5]), (5, [96]), (6, [46]), (7, [182, 0, 100]), (10, [87]), (11, [167, 2, 130]), (14, [43]), (15, [42])] : List (Nat × List UInt8)).all (fun x => prB x.2 ((cL_law.data.toList.drop 994).drop x.1)) = true := by decide +kernel
theorem dL_law_994 : decode cL_law 994 = .ok (.iadd, 1) := op96 (bA_at bd09_980_dec_L_0_58 0 rfl rfl)
theorem dL_law_995 : decode cL_law 995 = .ok (.iaload, 1) := op46 (bA_at bd09_980_dec_L_0_58 1 rfl rfl)
theorem dL_law_996 : decode cL_law 996 = .ok (.aload_n 0, 1) := op42 (bA_at bd09_980_dec_L_0_58 2 rfl rfl)
theorem dL_law_997 : decode cL_law 997 = .ok (.iload_n 3, 1) := op29 (bA_at bd09_980_dec_L_0_58 3 rfl rfl)
theorem dL_law_998 : decode cL_law 998 = .ok (.iconst 2, 1) := op5 (bA_at bd09_980_dec_L_0_58 4 rfl rfl)
theorem dL_law_999 : decode cL_law 999 = .ok (.iadd, 1) := op96 (bA_at bd09_980_dec_L_0_58 5 rfl rfl)
theorem dL_law_1000 : decode cL_law 1000 = .ok (.iaload, 1) := op46 (bA_at bd09_980_dec_L_0_58 6 rfl rfl)
theorem dL_law_1001 : decode cL_law 1001 = .ok (.invokevirtual 100, 3) := op182 (bA_at bd09_980_dec_L_0_58 7 rfl rfl) rfl
theorem dL_law_1004 : decode cL_law 1004 = .ok (.pop, 1) := op87 (bA_at bd09_980_dec_L_0_58 8 rfl rfl)
theorem dL_law_1005 : decode cL_law 1005 = .ok (.goto 642, 3) := op167 (bA_at bd09_980_dec_L_0_58 9 rfl rfl) (by decide +kernel)
theorem dL_law_1008 : decode cL_law 1008 = .ok (.aload_n 1, 1) := op43 (bA_at bd09_980_dec_L_0_58 10 rfl rfl)
theorem dL_law_1009 : decode cL_law 1009 = .ok (.aload_n 0, 1) := op42 (bA_at bd09_980_dec_L_0_58 11 rfl rfl)
theorem bd09_980_dec_L_0_59 : ([(0, [29]), (1, [4]), (2, [96]), (3, [46]), (4, [42]), (5, [29]), (6, [5]), (7, [96]), (8, [46]), (9, [42]), (10, [29]), (11, [6])] : List (Nat × List UInt8)).all (fun x => prB x.2 ((cL_law.data.toList.drop 1010).drop x.1)) = true := by decide +kernel
theorem dL_law_1010 : decode cL_law 1010 = .ok (.iload_n 3, 1) := op29 (bA_at bd09_980_dec_L_0_59 0 rfl rfl)
theorem dL_law_1011 : decode cL_law 1011 = .ok (.iconst 1, 1) := op4 (bA_at bd09_980_dec_L_0_59 1 rfl rfl)
theorem dL_law_1012 : decode cL_law 1012 = .ok (.iadd, 1) := op96 (bA_at bd09_980_dec_L_0_59 2 rfl rfl)
theorem dL_law_1013 : decode cL_law 1013 = .ok (.iaload, 1) := op46 (bA_at bd09_980_dec_L_0_59 3 rfl rfl)
theorem dL_law_1014 : decode cL_law 1014 = .ok (.aload_n 0, 1) := op42 (bA_at bd09_980_dec_L_0_59 4 rfl rfl)
theorem dL_law_1015 : decode cL_law 1015 = .ok (.iload_n 3, 1) := op29 (bA_at bd09_980_dec_L_0_59 5 rfl rfl)
theorem dL_law_1016 : decode cL_law 1016 = .ok (.iconst 2, 1) := op5 (bA_at bd09_980_dec_L_0_59 6 rfl rfl)
theorem dL_law_1017 : decode cL_law 1017 = .ok (.iadd, 1) := op96 (bA_at bd09_980_dec_L_0_59 7 rfl rfl)
theorem dL_law_1018 : decode cL_law 1018 = .ok (.iaload, 1) := op46 (bA_at bd09_980_dec_L_0_59 8 rfl rfl)
theorem dL_law_1019 : decode cL_law 1019 = .ok (.aload_n 0, 1) := op42 (bA_at bd09_980_dec_L_0_59 9 rfl rfl)
theorem dL_law_1020 : decode cL_law 1020 = .ok (.iload_n 3, 1) := op29 (bA_at bd09_980_dec_L_0_59 10 rfl rfl)
theorem dL_law_1021 : decode cL_law 1021 = .ok (.iconst 3, 1) := op6 (bA_at bd09_980_dec_L_0_59 11 rfl rfl)
theorem bd09_980_dec_L_0_60 : ([(0, [96]), (1, [46]), (2, [42]), (3, [29]), (4, [7]), (5, [96]), (6, [46]), (7, [153, 0, 7]), (10, [4]), (11, [167, 0, 4]), (14, [3]), (15, [182, 0, 101])] : List (Nat × List UInt8)).all (fun x => prB x.2 ((cL_law.data.toList.drop 1022).drop x.1)) = true := by decide +kernel
theorem dL_law_1022 : decode cL_law 1022 = .ok (.iadd, 1) := op96 (bA_at bd09_980_dec_L_0_60 0 rfl rfl)
theorem dL_law_1023 : decode cL_law 1023 = .ok (.iaload, 1) := op46 (bA_at bd09_980_dec_L_0_60 1 rfl rfl)
theorem dL_law_1024 : decode cL_law 1024 = .ok (.aload_n 0, 1) := op42 (bA_at bd09_980_dec_L_0_60 2 rfl rfl)
theorem dL_law_1025 : decode cL_law 1025 = .ok (.iload_n 3, 1) := op29 (bA_at bd09_980_dec_L_0_60 3 rfl rfl)
theorem dL_law_1026 : decode cL_law 1026 = .ok (.iconst 4, 1) := op7 (bA_at bd09_980_dec_L_0_60 4 rfl rfl)
theorem dL_law_1027 : decode cL_law 1027 = .ok (.iadd, 1) := op96 (bA_at bd09_980_dec_L_0_60 5 rfl rfl)
theorem dL_law_1028 : decode cL_law 1028 = .ok (.iaload, 1) := op46 (bA_at bd09_980_dec_L_0_60 6 rfl rfl)
theorem dL_law_1029 : decode cL_law 1029 = .ok (.ifCond .eq 7, 3) := op153 (bA_at bd09_980_dec_L_0_60 7 rfl rfl) (by decide +kernel)
theorem dL_law_1032 : decode cL_law 1032 = .ok (.iconst 1, 1) := op4 (bA_at bd09_980_dec_L_0_60 8 rfl rfl)
theorem dL_law_1033 : decode cL_law 1033 = .ok (.goto 4, 3) := op167 (bA_at bd09_980_dec_L_0_60 9 rfl rfl) (by decide +kernel)
theorem dL_law_1036 : decode cL_law 1036 = .ok (.iconst 0, 1) := op3 (bA_at bd09_980_dec_L_0_60 10 rfl rfl)
theorem dL_law_1037 : decode cL_law 1037 = .ok (.invokevirtual 101, 3) := op182 (bA_at bd09_980_dec_L_0_60 11 rfl rfl) rfl
theorem bd09_980_dec_L_0_61 : ([(0, [87]), (1, [44]), (2, [42]), (3, [29]), (4, [4]), (5, [96]), (6, [46]), (7, [42]), (8, [29]), (9, [5]), (10, [96]), (11, [46])] : List (Nat × List UInt8)).all (fun x => prB x.2 ((cL_law.data.toList.drop 1040).drop x.1)) = true := by decide +kernel
theorem dL_law_1040 : decode cL_law 1040 = .ok (.pop, 1) := op87 (bA_at bd09_980_dec_L_0_61 0 rfl rfl)
theorem dL_law_1041 : decode cL_law 1041 = .ok (.aload_n 2, 1) := op44 (bA_at bd09_980_dec_L_0_61 1 rfl rfl)
theorem dL_law_1042 : decode cL_law 1042 = .ok (.aload_n 0, 1) := op42 (bA_at bd09_980_dec_L_0_61 2 rfl rfl)
theorem dL_law_1043 : decode cL_law 1043 = .ok (.iload_n 3, 1) := op29 (bA_at bd09_980_dec_L_0_61 3 rfl rfl)
theorem dL_law_1044 : decode cL_law 1044 = .ok (.iconst 1, 1) := op4 (bA_at bd09_980_dec_L_0_61 4 rfl rfl)
theorem dL_law_1045 : decode cL_law 1045 = .ok (.iadd, 1) := op96 (bA_at bd09_980_dec_L_0_61 5 rfl rfl)
theorem dL_law_1046 : decode cL_law 1046 = .ok (.iaload, 1) := op46 (bA_at bd09_980_dec_L_0_61 6 rfl rfl)
theorem dL_law_1047 : decode cL_law 1047 = .ok (.aload_n 0, 1) := op42 (bA_at bd09_980_dec_L_0_61 7 rfl rfl)
theorem dL_law_1048 : decode cL_law 1048 = .ok (.iload_n 3, 1) := op29 (bA_at bd09_980_dec_L_0_61 8 rfl rfl)
theorem dL_law_1049 : decode cL_law 1049 = .ok (.iconst 2, 1) := op5 (bA_at bd09_980_dec_L_0_61 9 rfl rfl)
theorem dL_law_1050 : decode cL_law 1050 = .ok (.iadd, 1) := op96 (bA_at bd09_980_dec_L_0_61 10 rfl rfl)
theorem dL_law_1051 : decode cL_law 1051 = .ok (.iaload, 1) := op46 (bA_at bd09_980_dec_L_0_61 11 rfl rfl)
theorem bd09_980_dec_L_0_62 : ([(0, [42]), (1, [29]), (2, [6]), (3, [96]), (4, [46]), (5, [42]), (6, [29]), (7, [7]), (8, [96]), (9, [46]), (10, [153, 0, 7]), (13, [4])] : List (Nat × List UInt8)).all (fun x => prB x.2 ((cL_law.data.toList.drop 1052).drop x.1)) = true := by decide +kernel
theorem dL_law_1052 : decode cL_law 1052 = .ok (.aload_n 0, 1) := op42 (bA_at bd09_980_dec_L_0_62 0 rfl rfl)
theorem dL_law_1053 : decode cL_law 1053 = .ok (.iload_n 3, 1) := op29 (bA_at bd09_980_dec_L_0_62 1 rfl rfl)
theorem dL_law_1054 : decode cL_law 1054 = .ok (.iconst 3, 1) := op6 (bA_at bd09_980_dec_L_0_62 2 rfl rfl)
theorem dL_law_1055 : decode cL_law 1055 = .ok (.iadd, 1) := op96 (bA_at bd09_980_dec_L_0_62 3 rfl rfl)
theorem dL_law_1056 : decode cL_law 1056 = .ok (.iaload, 1) := op46 (bA_at bd09_980_dec_L_0_62 4 rfl rfl)
theorem dL_law_1057 : decode cL_law 1057 = .ok (.aload_n 0, 1) := op42 (bA_at bd09_980_dec_L_0_62 5 rfl rfl)
theorem dL_law_1058 : decode cL_law 1058 = .ok (.iload_n 3, 1) := op29 (bA_at bd09_980_dec_L_0_62 6 rfl rfl)
theorem dL_law_1059 : decode cL_law 1059 = .ok (.iconst 4, 1) := op7 (bA_at bd09_980_dec_L_0_62 7 rfl rfl)
theorem dL_law_1060 : decode cL_law 1060 = .ok (.iadd, 1) := op96 (bA_at bd09_980_dec_L_0_62 8 rfl rfl)
theorem dL_law_1061 : decode cL_law 1061 = .ok (.iaload, 1) := op46 (bA_at bd09_980_dec_L_0_62 9 rfl rfl)
theorem dL_law_1062 : decode cL_law 1062 = .ok (.ifCond .eq 7, 3) := op153 (bA_at bd09_980_dec_L_0_62 10 rfl rfl) (by decide +kernel)
theorem dL_law_1065 : decode cL_law 1065 = .ok (.iconst 1, 1) := op4 (bA_at bd09_980_dec_L_0_62 11 rfl rfl)
theorem bd09_980_dec_L_0_63 : ([(0, [167, 0, 4]), (3, [3]), (4, [182, 0, 105]), (7, [87]), (8, [167, 2, 61]), (11, [43]), (12, [42]), (13, [29]), (14, [4]), (15, [96]), (16, [46]), (17, [42])] : List (Nat × List UInt8)).all (fun x => prB x.2 ((cL_law.data.toList.drop 1066).drop x.1)) = true := by decide +kernel
theorem dL_law_1066 : decode cL_law 1066 = .ok (.goto 4, 3) := op167 (bA_at bd09_980_dec_L_0_63 0 rfl rfl) (by decide +kernel)
theorem dL_law_1069 : decode cL_law 1069 = .ok (.iconst 0, 1) := op3 (bA_at bd09_980_dec_L_0_63 1 rfl rfl)
theorem dL_law_1070 : decode cL_law 1070 = .ok (.invokevirtual 105, 3) := op182 (bA_at bd09_980_dec_L_0_63 2 rfl rfl) rfl
theorem dL_law_1073 : decode cL_law 1073 = .ok (.pop, 1) := op87 (bA_at bd09_980_dec_L_0_63 3 rfl rfl)
theorem dL_law_1074 : decode cL_law 1074 = .ok (.goto 573, 3) := op167 (bA_at bd09_980_dec_L_0_63 4 rfl rfl) (by decide +kernel)
theorem dL_law_1077 : decode cL_law 1077 = .ok (.aload_n 1, 1) := op43 (bA_at bd09_980_dec_L_0_63 5 rfl rfl)
theorem dL_law_1078 : decode cL_law 1078 = .ok (.aload_n 0, 1) := op42 (bA_at bd09_980_dec_L_0_63 6 rfl rfl)
theorem dL_law_1079 : decode cL_law 1079 = .ok (.iload_n 3, 1) := op29 (bA_at bd09_980_dec_L_0_63 7 rfl rfl)
theorem dL_law_1080 : decode cL_law 1080 = .ok (.iconst 1, 1) := op4 (bA_at bd09_980_dec_L_0_63 8 rfl rfl)
theorem dL_law_1081 : decode cL_law 1081 = .ok (.iadd, 1) := op96 (bA_at bd09_980_dec_L_0_63 9 rfl rfl)
theorem dL_law_1082 : decode cL_law 1082 = .ok (.iaload, 1) := op46 (bA_at bd09_980_dec_L_0_63 10 rfl rfl)
theorem dL_law_1083 : decode cL_law 1083 = .ok (.aload_n 0, 1) := op42 (bA_at bd09_980_dec_L_0_63 11 rfl rfl)
theorem bd09_980_dec_L_0_64 : ([(0, [29]), (1, [5]), (2, [96]), (3, [46]), (4, [42]), (5, [29]), (6, [6]), (7, [96]), (8, [46]), (9, [182, 0, 106]), (12, [88]), (13, [44])] : List (Nat × List UInt8)).all (fun x => prB x.2 ((cL_law.data.toList.drop 1084).drop x.1)) = true := by decide +kernel
theorem dL_law_1084 : decode cL_law 1084 = .ok (.iload_n 3, 1) := op29 (bA_at bd09_980_dec_L_0_64 0 rfl rfl)
theorem dL_law_1085 : decode cL_law 1085 = .ok (.iconst 2, 1) := op5 (bA_at bd09_980_dec_L_0_64 1 rfl rfl)
theorem dL_law_1086 : decode cL_law 1086 = .ok (.iadd, 1) := op96 (bA_at bd09_980_dec_L_0_64 2 rfl rfl)
theorem dL_law_1087 : decode cL_law 1087 = .ok (.iaload, 1) := op46 (bA_at bd09_980_dec_L_0_64 3 rfl rfl)
theorem dL_law_1088 : decode cL_law 1088 = .ok (.aload_n 0, 1) := op42 (bA_at bd09_980_dec_L_0_64 4 rfl rfl)
theorem dL_law_1089 : decode cL_law 1089 = .ok (.iload_n 3, 1) := op29 (bA_at bd09_980_dec_L_0_64 5 rfl rfl)
theorem dL_law_1090 : decode cL_law 1090 = .ok (.iconst 3, 1) := op6 (bA_at bd09_980_dec_L_0_64 6 rfl rfl)
theorem dL_law_1091 : decode cL_law 1091 = .ok (.iadd, 1) := op96 (bA_at bd09_980_dec_L_0_64 7 rfl rfl)
theorem dL_law_1092 : decode cL_law 1092 = .ok (.iaload, 1) := op46 (bA_at bd09_980_dec_L_0_64 8 rfl rfl)
theorem dL_law_1093 : decode cL_law 1093 = .ok (.invokevirtual 106, 3) := op182 (bA_at bd09_980_dec_L_0_64 9 rfl rfl) rfl
theorem dL_law_1096 : decode cL_law 1096 = .ok (.pop2, 1) := op88 (bA_at bd09_980_dec_L_0_64 10 rfl rfl)
theorem dL_law_1097 : decode cL_law 1097 = .ok (.aload_n 2, 1) := op44 (bA_at bd09_980_dec_L_0_64 11 rfl rfl)
theorem bd09_980_dec_L_0_65 : ([(0, [42]), (1, [29]), (2, [4]), (3, [96]), (4, [46]), (5, [42]), (6, [29]), (7, [5]), (8, [96]), (9, [46]), (10, [42]), (11, [29])] : List (Nat × List UInt8)).all (fun x => prB x.2 ((cL_law.data.toList.drop 1098).drop x.1)) = true := by decide +kernel
theorem dL_law_1098 : decode cL_law 1098 = .ok (.aload_n 0, 1) := op42 (bA_at bd09_980_dec_L_0_65 0 rfl rfl)
theorem dL_law_1099 : decode cL_law 1099 = .ok (.iload_n 3, 1) := op29 (bA_at bd09_980_dec_L_0_65 1 rfl rfl)
theorem dL_law_1100 : decode cL_law 1100 = .ok (.iconst 1, 1) := op4 (bA_at bd09_980_dec_L_0_65 2 rfl rfl)
theorem dL_law_1101 : decode cL_law 1101 = .ok (.iadd, 1) := op96 (bA_at bd09_980_dec_L_0_65 3 rfl rfl)
theorem dL_law_1102 : decode cL_law 1102 = .ok (.iaload, 1) := op46 (bA_at bd09_980_dec_L_0_65 4 rfl rfl)
theorem dL_law_1103 : decode cL_law 1103 = .ok (.aload_n 0, 1) := op42 (bA_at bd09_980_dec_L_0_65 5 rfl rfl)
theorem dL_law_1104 : decode cL_law 1104 = .ok (.iload_n 3, 1) := op29 (bA_at bd09_980_dec_L_0_65 6 rfl rfl)
theorem dL_law_1105 : decode cL_law 1105 = .ok (.iconst 2, 1) := op5 (bA_at bd09_980_dec_L_0_65 7 rfl rfl)
theorem dL_law_1106 : decode cL_law 1106 = .ok (.iadd, 1) := op96 (bA_at bd09_980_dec_L_0_65 8 rfl rfl)
theorem dL_law_1107 : decode cL_law 1107 = .ok (.iaload, 1) := op46 (bA_at bd09_980_dec_L_0_65 9 rfl rfl)
theorem dL_law_1108 : decode cL_law 1108 = .ok (.aload_n 0, 1) := op42 (bA_at bd09_980_dec_L_0_65 10 rfl rfl)
theorem dL_law_1109 : decode cL_law 1109 = .ok (.iload_n 3, 1) := op29 (bA_at bd09_980_dec_L_0_65 11 rfl rfl)
theorem bd09_980_dec_L_0_66 : ([(0, [6]), (1, [96]), (2, [46]), (3, [182, 0, 110]), (6, [88]), (7, [167, 2, 18]), (10, [43]), (11, [42]), (12, [29]), (13, [4]), (14, [96]), (15, [46])] : List (Nat × List UInt8)).all (fun x => prB x.2 ((cL_law.data.toList.drop 1110).drop x.1)) = true := by decide +kernel
theorem dL_law_1110 : decode cL_law 1110 = .ok (.iconst 3, 1) := op6 (bA_at bd09_980_dec_L_0_66 0 rfl rfl)
theorem dL_law_1111 : decode cL_law 1111 = .ok (.iadd, 1) := op96 (bA_at bd09_980_dec_L_0_66 1 rfl rfl)
theorem dL_law_1112 : decode cL_law 1112 = .ok (.iaload, 1) := op46 (bA_at bd09_980_dec_L_0_66 2 rfl rfl)
theorem dL_law_1113 : decode cL_law 1113 = .ok (.invokevirtual 110, 3) := op182 (bA_at bd09_980_dec_L_0_66 3 rfl rfl) rfl
theorem dL_law_1116 : decode cL_law 1116 = .ok (.pop2, 1) := op88 (bA_at bd09_980_dec_L_0_66 4 rfl rfl)
theorem dL_law_1117 : decode cL_law 1117 = .ok (.goto 530, 3) := op167 (bA_at bd09_980_dec_L_0_66 5 rfl rfl) (by decide +kernel)
theorem dL_law_1120 : decode cL_law 1120 = .ok (.aload_n 1, 1) := op43 (bA_at bd09_980_dec_L_0_66 6 rfl rfl)
theorem dL_law_1121 : decode cL_law 1121 = .ok (.aload_n 0, 1) := op42 (bA_at bd09_980_dec_L_0_66 7 rfl rfl)
theorem dL_law_1122 : decode cL_law 1122 = .ok (.iload_n 3, 1) := op29 (bA_at bd09_980_dec_L_0_66 8 rfl rfl)
theorem dL_law_1123 : decode cL_law 1123 = .ok (.iconst 1, 1) := op4 (bA_at bd09_980_dec_L_0_66 9 rfl rfl)
theorem dL_law_1124 : decode cL_law 1124 = .ok (.iadd, 1) := op96 (bA_at bd09_980_dec_L_0_66 10 rfl rfl)
theorem dL_law_1125 : decode cL_law 1125 = .ok (.iaload, 1) := op46 (bA_at bd09_980_dec_L_0_66 11 rfl rfl)
theorem bd09_980_dec_L_0_67 : ([(0, [42]), (1, [29]), (2, [5]), (3, [96]), (4, [46]), (5, [42]), (6, [29]), (7, [6]), (8, [96]), (9, [46]), (10, [42]), (11, [29])] : List (Nat × List UInt8)).all (fun x => prB x.2 ((cL_law.data.toList.drop 1126).drop x.1)) = true := by decide +kernel
theorem dL_law_1126 : decode cL_law 1126 = .ok (.aload_n 0, 1) := op42 (bA_at bd09_980_dec_L_0_67 0 rfl rfl)
theorem dL_law_1127 : decode cL_law 1127 = .ok (.iload_n 3, 1) := op29 (bA_at bd09_980_dec_L_0_67 1 rfl rfl)
theorem dL_law_1128 : decode cL_law 1128 = .ok (.iconst 2, 1) := op5 (bA_at bd09_980_dec_L_0_67 2 rfl rfl)
theorem dL_law_1129 : decode cL_law 1129 = .ok (.iadd, 1) := op96 (bA_at bd09_980_dec_L_0_67 3 rfl rfl)
theorem dL_law_1130 : decode cL_law 1130 = .ok (.iaload, 1) := op46 (bA_at bd09_980_dec_L_0_67 4 rfl rfl)
theorem dL_law_1131 : decode cL_law 1131 = .ok (.aload_n 0, 1) := op42 (bA_at bd09_980_dec_L_0_67 5 rfl rfl)
theorem dL_law_1132 : decode cL_law 1132 = .ok (.iload_n 3, 1) := op29 (bA_at bd09_980_dec_L_0_67 6 rfl rfl)
theorem dL_law_1133 : decode cL_law 1133 = .ok (.iconst 3, 1) := op6 (bA_at bd09_980_dec_L_0_67 7 rfl rfl)
theorem dL_law_1134 : decode cL_law 1134 = .ok (.iadd, 1) := op96 (bA_at bd09_980_dec_L_0_67 8 rfl rfl)
theorem dL_law_1135 : decode cL_law 1135 = .ok (.iaload, 1) := op46 (bA_at bd09_980_dec_L_0_67 9 rfl rfl)
theorem dL_law_1136 : decode cL_law 1136 = .ok (.aload_n 0, 1) := op42 (bA_at bd09_980_dec_L_0_67 10 rfl rfl)
theorem dL_law_1137 : decode cL_law 1137 = .ok (.iload_n 3, 1) := op29 (bA_at bd09_980_dec_L_0_67 11 rfl rfl)
theorem bd09_980_dec_L_0_68 : ([(0, [7]), (1, [96]), (2, [46]), (3, [182, 0, 111]), (6, [87]), (7, [44]), (8, [42]), (9, [29]), (10, [4]), (11, [96]), (12, [46]), (13, [42])] : List (Nat × List UInt8)).all (fun x => prB x.2 ((cL_law.data.toList.drop 1138).drop x.1)) = true := by decide +kernel
theorem dL_law_1138 : decode cL_law 1138 = .ok (.iconst 4, 1) := op7 (bA_at bd09_980_dec_L_0_68 0 rfl rfl)
theorem dL_law_1139 : decode cL_law 1139 = .ok (.iadd, 1) := op96 (bA_at bd09_980_dec_L_0_68 1 rfl rfl)
theorem dL_law_1140 : decode cL_law 1140 = .ok (.iaload, 1) := op46 (bA_at bd09_980_dec_L_0_68 2 rfl rfl)
theorem dL_law_1141 : decode cL_law 1141 = .ok (.invokevirtual 111, 3) := op182 (bA_at bd09_980_dec_L_0_68 3 rfl rfl) rfl
theorem dL_law_1144 : decode cL_law 1144 = .ok (.pop, 1) := op87 (bA_at bd09_980_dec_L_0_68 4 rfl rfl)
theorem dL_law_1145 : decode cL_law 1145 = .ok (.aload_n 2, 1) := op44 (bA_at bd09_980_dec_L_0_68 5 rfl rfl)
theorem dL_law_1146 : decode cL_law 1146 = .ok (.aload_n 0, 1) := op42 (bA_at bd09_980_dec_L_0_68 6 rfl rfl)
theorem dL_law_1147 : decode cL_law 1147 = .ok (.iload_n 3, 1) := op29 (bA_at bd09_980_dec_L_0_68 7 rfl rfl)
theorem dL_law_1148 : decode cL_law 1148 = .ok (.iconst 1, 1) := op4 (bA_at bd09_980_dec_L_0_68 8 rfl rfl)
theorem dL_law_1149 : decode cL_law 1149 = .ok (.iadd, 1) := op96 (bA_at bd09_980_dec_L_0_68 9 rfl rfl)
theorem dL_law_1150 : decode cL_law 1150 = .ok (.iaload, 1) := op46 (bA_at bd09_980_dec_L_0_68 10 rfl rfl)
theorem dL_law_1151 : decode cL_law 1151 = .ok (.aload_n 0, 1) := op42 (bA_at bd09_980_dec_L_0_68 11 rfl rfl)
theorem bd09_980_dec_L_0_69 : ([(0, [29]), (1, [5]), (2, [96]), (3, [46]), (4, [42]), (5, [29]), (6, [6]), (7, [96]), (8, [46]), (9, [42]), (10, [29]), (11, [7])] : List (Nat × List UInt8)).all (fun x => prB x.2 ((cL_law.data.toList.drop 1152).drop x.1)) = true := by decide +kernel
theorem dL_law_1152 : decode cL_law 1152 = .ok (.iload_n 3, 1) := op29 (bA_at bd09_980_dec_L_0_69 0 rfl rfl)
theorem dL_law_1153 : decode cL_law 1153 = .ok (.iconst 2, 1) := op5 (bA_at bd09_980_dec_L_0_69 1 rfl rfl)
theorem dL_law_1154 : decode cL_law 1154 = .ok (.iadd, 1) := op96 (bA_at bd09_980_dec_L_0_69 2 rfl rfl)
theorem dL_law_1155 : decode cL_law 1155 = .ok (.iaload, 1) := op46 (bA_at bd09_980_dec_L_0_69 3 rfl rfl)
theorem dL_law_1156 : decode cL_law 1156 = .ok (.aload_n 0, 1) := op42 (bA_at bd09_980_dec_L_0_69 4 rfl rfl)
theorem dL_law_1157 : decode cL_law 1157 = .ok (.iload_n 3, 1) := op29 (bA_at bd09_980_dec_L_0_69 5 rfl rfl)
theorem dL_law_1158 : decode cL_law 1158 = .ok (.iconst 3, 1) := op6 (bA_at bd09_980_dec_L_0_69 6 rfl rfl)
theorem dL_law_1159 : decode cL_law 1159 = .ok (.iadd, 1) := op96 (bA_at bd09_980_dec_L_0_69 7 rfl rfl)
theorem dL_law_1160 : decode cL_law 1160 = .ok (.iaload, 1) := op46 (bA_at bd09_980_dec_L_0_69 8 rfl rfl)
theorem dL_law_1161 : decode cL_law 1161 = .ok (.aload_n 0, 1) := op42 (bA_at bd09_980_dec_L_0_69 9 rfl rfl)
theorem dL_law_1162 : decode cL_law 1162 = .ok (.iload_n 3, 1) := op29 (bA_at bd09_980_dec_L_0_69 10 rfl rfl)
theorem dL_law_1163 : decode cL_law 1163 = .ok (.iconst 4, 1) := op7 (bA_at bd09_980_dec_L_0_69 11 rfl rfl)
theorem bd09_980_dec_L_0_70 : ([(0, [96]), (1, [46]), (2, [182, 0, 114]), (5, [87]), (6, [167, 1, 221]), (9, [43]), (10, [42]), (11, [29]), (12, [4]), (13, [96]), (14, [46]), (15, [42])] : List (Nat × List UInt8)).all (fun x => prB x.2 ((cL_law.data.toList.drop 1164).drop x.1)) = true := by decide +kernel
theorem dL_law_1164 : decode cL_law 1164 = .ok (.iadd, 1) := op96 (bA_at bd09_980_dec_L_0_70 0 rfl rfl)
theorem dL_law_1165 : decode cL_law 1165 = .ok (.iaload, 1) := op46 (bA_at bd09_980_dec_L_0_70 1 rfl rfl)
theorem dL_law_1166 : decode cL_law 1166 = .ok (.invokevirtual 114, 3) := op182 (bA_at bd09_980_dec_L_0_70 2 rfl rfl) rfl
theorem dL_law_1169 : decode cL_law 1169 = .ok (.pop, 1) := op87 (bA_at bd09_980_dec_L_0_70 3 rfl rfl)
theorem dL_law_1170 : decode cL_law 1170 = .ok (.goto 477, 3) := op167 (bA_at bd09_980_dec_L_0_70 4 rfl rfl) (by decide +kernel)
theorem dL_law_1173 : decode cL_law 1173 = .ok (.aload_n 1, 1) := op43 (bA_at bd09_980_dec_L_0_70 5 rfl rfl)
theorem dL_law_1174 : decode cL_law 1174 = .ok (.aload_n 0, 1) := op42 (bA_at bd09_980_dec_L_0_70 6 rfl rfl)
theorem dL_law_1175 : decode cL_law 1175 = .ok (.iload_n 3, 1) := op29 (bA_at bd09_980_dec_L_0_70 7 rfl rfl)
theorem dL_law_1176 : decode cL_law 1176 = .ok (.iconst 1, 1) := op4 (bA_at bd09_980_dec_L_0_70 8 rfl rfl)
theorem dL_law_1177 : decode cL_law 1177 = .ok (.iadd, 1) := op96 (bA_at bd09_980_dec_L_0_70 9 rfl rfl)
theorem dL_law_1178 : decode cL_law 1178 = .ok (.iaload, 1) := op46 (bA_at bd09_980_dec_L_0_70 10 rfl rfl)
theorem dL_law_1179 : decode cL_law 1179 = .ok (.aload_n 0, 1) := op42 (bA_at bd09_980_dec_L_0_70 11 rfl rfl)
theorem bd09_980_dec_L_0_71 : ([(0, [29]), (1, [5]), (2, [96]), (3, [46]), (4, [42]), (5, [29]), (6, [6]), (7, [96]), (8, [46]), (9, [42]), (10, [29]), (11, [7])] : List (Nat × List UInt8)).all (fun x => prB x.2 ((cL_law.data.toList.drop 1180).drop x.1)) = true := by decide +kernel
theorem dL_law_1180 : decode cL_law 1180 = .ok (.iload_n 3, 1) := op29 (bA_at bd09_980_dec_L_0_71 0 rfl rfl)
theorem dL_law_1181 : decode cL_law 1181 = .ok (.iconst 2, 1) := op5 (bA_at bd09_980_dec_L_0_71 1 rfl rfl)
theorem dL_law_1182 : decode cL_law 1182 = .ok (.iadd, 1) := op96 (bA_at bd09_980_dec_L_0_71 2 rfl rfl)
theorem dL_law_1183 : decode cL_law 1183 = .ok (.iaload, 1) := op46 (bA_at bd09_980_dec_L_0_71 3 rfl rfl)
theorem dL_law_1184 : decode cL_law 1184 = .ok (.aload_n 0, 1) := op42 (bA_at bd09_980_dec_L_0_71 4 rfl rfl)
theorem dL_law_1185 : decode cL_law 1185 = .ok (.iload_n 3, 1) := op29 (bA_at bd09_980_dec_L_0_71 5 rfl rfl)
theorem dL_law_1186 : decode cL_law 1186 = .ok (.iconst 3, 1) := op6 (bA_at bd09_980_dec_L_0_71 6 rfl rfl)
theorem dL_law_1187 : decode cL_law 1187 = .ok (.iadd, 1) := op96 (bA_at bd09_980_dec_L_0_71 7 rfl rfl)
theorem dL_law_1188 : decode cL_law 1188 = .ok (.iaload, 1) := op46 (bA_at bd09_980_dec_L_0_71 8 rfl rfl)
theorem dL_law_1189 : decode cL_law 1189 = .ok (.aload_n 0, 1) := op42 (bA_at bd09_980_dec_L_0_71 9 rfl rfl)
theorem dL_law_1190 : decode cL_law 1190 = .ok (.iload_n 3, 1) := op29 (bA_at bd09_980_dec_L_0_71 10 rfl rfl)
theorem dL_law_1191 : decode cL_law 1191 = .ok (.iconst 4, 1) := op7 (bA_at bd09_980_dec_L_0_71 11 rfl rfl)
theorem bd09_980_dec_L_0_72 : ([(0, [96]), (1, [46]), (2, [182, 0, 115]), (5, [87]), (6, [44]), (7, [42]), (8, [29]), (9, [4]), (10, [96]), (11, [46]), (12, [42]), (13, [29])] : List (Nat × List UInt8)).all (fun x => prB x.2 ((cL_law.data.toList.drop 1192).drop x.1)) = true := by decide +kernel
theorem dL_law_1192 : decode cL_law 1192 = .ok (.iadd, 1) := op96 (bA_at bd09_980_dec_L_0_72 0 rfl rfl)
theorem dL_law_1193 : decode cL_law 1193 = .ok (.iaload, 1) := op46 (bA_at bd09_980_dec_L_0_72 1 rfl rfl)
theorem dL_law_1194 : decode cL_law 1194 = .ok (.invokevirtual 115, 3) := op182 (bA_at bd09_980_dec_L_0_72 2 rfl rfl) rfl
theorem dL_law_1197 : decode cL_law 1197 = .ok (.pop, 1) := op87 (bA_at bd09_980_dec_L_0_72 3 rfl rfl)
theorem dL_law_1198 : decode cL_law 1198 = .ok (.aload_n 2, 1) := op44 (bA_at bd09_980_dec_L_0_72 4 rfl rfl)
theorem dL_law_1199 : decode cL_law 1199 = .ok (.aload_n 0, 1) := op42 (bA_at bd09_980_dec_L_0_72 5 rfl rfl)
theorem dL_law_1200 : decode cL_law 1200 = .ok (.iload_n 3, 1) := op29 (bA_at bd09_980_dec_L_0_72 6 rfl rfl)
theorem dL_law_1201 : decode cL_law 1201 = .ok (.iconst 1, 1) := op4 (bA_at bd09_980_dec_L_0_72 7 rfl rfl)
theorem dL_law_1202 : decode cL_law 1202 = .ok (.iadd, 1) := op96 (bA_at bd09_980_dec_L_0_72 8 rfl rfl)
theorem dL_law_1203 : decode cL_law 1203 = .ok (.iaload, 1) := op46 (bA_at bd09_980_dec_L_0_72 9 rfl rfl)
theorem dL_law_1204 : decode cL_law 1204 = .ok (.aload_n 0, 1) := op42 (bA_at bd09_980_dec_L_0_72 10 rfl rfl)
theorem dL_law_1205 : decode cL_law 1205 = .ok (.iload_n 3, 1) := op29 (bA_at bd09_980_dec_L_0_72 11 rfl rfl)
theorem bd09_980_dec_L_0_73 : ([(0, [5]), (1, [96]), (2, [46]), (3, [42]), (4, [29]), (5, [6]), (6, [96]), (7, [46]), (8, [42]), (9, [29]), (10, [7]), (11, [96])] : List (Nat × List UInt8)).all (fun x => prB x.2 ((cL_law.data.toList.drop 1206).drop x.1)) = true := by decide +kernel
theorem dL_law_1206 : decode cL_law 1206 = .ok (.iconst 2, 1) := op5 (bA_at bd09_980_dec_L_0_73 0 rfl rfl)
theorem dL_law_1207 : decode cL_law 1207 = .ok (.iadd, 1) := op96 (bA_at bd09_980_dec_L_0_73 1 rfl rfl)
theorem dL_law_1208 : decode cL_law 1208 = .ok (.iaload, 1) := op46 (bA_at bd09_980_dec_L_0_73 2 rfl rfl)
theorem dL_law_1209 : decode cL_law 1209 = .ok (.aload_n 0, 1) := op42 (bA_at bd09_980_dec_L_0_73 3 rfl rfl)
theorem dL_law_1210 : decode cL_law 1210 = .ok (.iload_n 3, 1) := op29 (bA_at bd09_980_dec_L_0_73 4 rfl rfl)
theorem dL_law_1211 : decode cL_law 1211 = .ok (.iconst 3, 1) := op6 (bA_at bd09_980_dec_L_0_73 5 rfl rfl)
theorem dL_law_1212 : decode cL_law 1212 = .ok (.iadd, 1) := op96 (bA_at bd09_980_dec_L_0_73 6 rfl rfl)
theorem dL_law_1213 : decode cL_law 1213 = .ok (.iaload, 1) := op46 (bA_at bd09_980_dec_L_0_73 7 rfl rfl)
theorem dL_law_1214 : decode cL_law 1214 = .ok (.aload_n 0, 1) := op42 (bA_at bd09_980_dec_L_0_73 8 rfl rfl)
theorem dL_law_1215 : decode cL_law 1215 = .ok (.iload_n 3, 1) := op29 (bA_at bd09_980_dec_L_0_73 9 rfl rfl)
theorem dL_law_1216 : decode cL_law 1216 = .ok (.iconst 4, 1) := op7 (bA_at bd09_980_dec_L_0_73 10 rfl rfl)
theorem dL_law_1217 : decode cL_law 1217 = .ok (.iadd, 1) := op96 (bA_at bd09_980_dec_L_0_73 11 rfl rfl)
theorem bd09_980_dec_L_0_74 : ([(0, [46]), (1, [182, 0, 118]), (4, [87]), (5, [167, 1, 168]), (8, [43]), (9, [42]), (10, [29]), (11, [4]), (12, [96]), (13, [46]), (14, [42]), (15, [29])] : List (Nat × List UInt8)).all (fun x => prB x.2 ((cL_law.data.toList.drop 1218).drop x.1)) = true := by decide +kernel
theorem dL_law_1218 : decode cL_law 1218 = .ok (.iaload, 1) := op46 (bA_at bd09_980_dec_L_0_74 0 rfl rfl)
theorem dL_law_1219 : decode cL_law 1219 = .ok (.invokevirtual 118, 3) := op182 (bA_at bd09_980_dec_L_0_74 1 rfl rfl) rfl
theorem dL_law_1222 : decode cL_law 1222 = .ok (.pop, 1) := op87 (bA_at bd09_980_dec_L_0_74 2 rfl rfl)
theorem dL_law_1223 : decode cL_law 1223 = .ok (.goto 424, 3) := op167 (bA_at bd09_980_dec_L_0_74 3 rfl rfl) (by decide +kernel)
theorem dL_law_1226 : decode cL_law 1226 = .ok (.aload_n 1, 1) := op43 (bA_at bd09_980_dec_L_0_74 4 rfl rfl)
theorem dL_law_1227 : decode cL_law 1227 = .ok (.aload_n 0, 1) := op42 (bA_at bd09_980_dec_L_0_74 5 rfl rfl)
theorem dL_law_1228 : decode cL_law 1228 = .ok (.iload_n 3, 1) := op29 (bA_at bd09_980_dec_L_0_74 6 rfl rfl)
theorem dL_law_1229 : decode cL_law 1229 = .ok (.iconst 1, 1) := op4 (bA_at bd09_980_dec_L_0_74 7 rfl rfl)
theorem dL_law_1230 : decode cL_law 1230 = .ok (.iadd, 1) := op96 (bA_at bd09_980_dec_L_0_74 8 rfl rfl)
theorem dL_law_1231 : decode cL_law 1231 = .ok (.iaload, 1) := op46 (bA_at bd09_980_dec_L_0_74 9 rfl rfl)
theorem dL_law_1232 : decode cL_law 1232 = .ok (.aload_n 0, 1) := op42 (bA_at bd09_980_dec_L_0_74 10 rfl rfl)
theorem dL_law_1233 : decode cL_law 1233 = .ok (.iload_n 3, 1) := op29 (bA_at bd09_980_dec_L_0_74 11 rfl rfl)
theorem bd09_980_dec_L_0_75 : ([(0, [5]), (1, [96]), (2, [46]), (3, [42]), (4, [29]), (5, [6]), (6, [96]), (7, [46]), (8, [42]), (9, [29]), (10, [7]), (11, [96])] : List (Nat × List UInt8)).all (fun x => prB x.2 ((cL_law.data.toList.drop 1234).drop x.1)) = true := by decide +kernel
theorem dL_law_1234 : decode cL_law 1234 = .ok (.iconst 2, 1) := op5 (bA_at bd09_980_dec_L_0_75 0 rfl rfl)
theorem dL_law_1235 : decode cL_law 1235 = .ok (.iadd, 1) := op96 (bA_at bd09_980_dec_L_0_75 1 rfl rfl)
theorem dL_law_1236 : decode cL_law 1236 = .ok (.iaload, 1) := op46 (bA_at bd09_980_dec_L_0_75 2 rfl rfl)
theorem dL_law_1237 : decode cL_law 1237 = .ok (.aload_n 0, 1) := op42 (bA_at bd09_980_dec_L_0_75 3 rfl rfl)
theorem dL_law_1238 : decode cL_law 1238 = .ok (.iload_n 3, 1) := op29 (bA_at bd09_980_dec_L_0_75 4 rfl rfl)
theorem dL_law_1239 : decode cL_law 1239 = .ok (.iconst 3, 1) := op6 (bA_at bd09_980_dec_L_0_75 5 rfl rfl)
theorem dL_law_1240 : decode cL_law 1240 = .ok (.iadd, 1) := op96 (bA_at bd09_980_dec_L_0_75 6 rfl rfl)
theorem dL_law_1241 : decode cL_law 1241 = .ok (.iaload, 1) := op46 (bA_at bd09_980_dec_L_0_75 7 rfl rfl)
theorem dL_law_1242 : decode cL_law 1242 = .ok (.aload_n 0, 1) := op42 (bA_at bd09_980_dec_L_0_75 8 rfl rfl)
theorem dL_law_1243 : decode cL_law 1243 = .ok (.iload_n 3, 1) := op29 (bA_at bd09_980_dec_L_0_75 9 rfl rfl)
theorem dL_law_1244 : decode cL_law 1244 = .ok (.iconst 4, 1) := op7 (bA_at bd09_980_dec_L_0_75 10 rfl rfl)
theorem dL_law_1245 : decode cL_law 1245 = .ok (.iadd, 1) := op96 (bA_at bd09_980_dec_L_0_75 11 rfl rfl)
theorem bd09_980_dec_L_0_76 : ([(0, [46]), (1, [153, 0, 7]), (4, [4]), (5, [167, 0, 4]), (8, [3]), (9, [182, 0, 119]), (12, [87]), (13, [44]), (14, [42]), (15, [29]), (16, [4]), (17, [96])] : List (Nat × List UInt8)).all (fun x => prB x.2 ((cL_law.data.toList.drop 1246).drop x.1)) = true := by decide +kernel
theorem dL_law_1246 : decode cL_law 1246 = .ok (.iaload, 1) := op46 (bA_at bd09_980_dec_L_0_76 0 rfl rfl)
theorem dL_law_1247 : decode cL_law 1247 = .ok (.ifCond .eq 7, 3) := op153 (bA_at bd09_980_dec_L_0_76 1 rfl rfl) (by decide +kernel)
theorem dL_law_1250 : decode cL_law 1250 = .ok (.iconst 1, 1) := op4 (bA_at bd09_980_dec_L_0_76 2 rfl rfl)
theorem dL_law_1251 : decode cL_law 1251 = .ok (.goto 4, 3) := op167 (bA_at bd09_980_dec_L_0_76 3 rfl rfl) (by decide +kernel)
theorem dL_law_1254 : decode cL_law 1254 = .ok (.iconst 0, 1) := op3 (bA_at bd09_980_dec_L_0_76 4 rfl rfl)
theorem dL_law_1255 : decode cL_law 1255 = .ok (.invokevirtual 119, 3) := op182 (bA_at bd09_980_dec_L_0_76 5 rfl rfl) rfl
theorem dL_law_1258 : decode cL_law 1258 = .ok (.pop, 1) := op87 (bA_at bd09_980_dec_L_0_76 6 rfl rfl)
theorem dL_law_1259 : decode cL_law 1259 = .ok (.aload_n 2, 1) := op44 (bA_at bd09_980_dec_L_0_76 7 rfl rfl)
theorem dL_law_1260 : decode cL_law 1260 = .ok (.aload_n 0, 1) := op42 (bA_at bd09_980_dec_L_0_76 8 rfl rfl)
theorem dL_law_1261 : decode cL_law 1261 = .ok (.iload_n 3, 1) := op29 (bA_at bd09_980_dec_L_0_76 9 rfl rfl)
theorem dL_law_1262 : decode cL_law 1262 = .ok (.iconst 1, 1) := op4 (bA_at bd09_980_dec_L_0_76 10 rfl rfl)
theorem dL_law_1263 : decode cL_law 1263 = .ok (.iadd, 1) := op96 (bA_at bd09_980_dec_L_0_76 11 rfl rfl)
theorem bd09_980_dec_L_0_77 : ([(0, [46]), (1, [42]), (2, [29]), (3, [5]), (4, [96]), (5, [46]), (6, [42]), (7, [29]), (8, [6]), (9, [96]), (10, [46]), (11, [42])] : List (Nat × List UInt8)).all (fun x => prB x.2 ((cL_law.data.toList.drop 1264).drop x.1)) = true := by decide +kernel
theorem dL_law_1264 : decode cL_law 1264 = .ok (.iaload, 1) := op46 (bA_at bd09_980_dec_L_0_77 0 rfl rfl)
theorem dL_law_1265 : decode cL_law 1265 = .ok (.aload_n 0, 1) := op42 (bA_at bd09_980_dec_L_0_77 1 rfl rfl)
theorem dL_law_1266 : decode cL_law 1266 = .ok (.iload_n 3, 1) := op29 (bA_at bd09_980_dec_L_0_77 2 rfl rfl)
theorem dL_law_1267 : decode cL_law 1267 = .ok (.iconst 2, 1) := op5 (bA_at bd09_980_dec_L_0_77 3 rfl rfl)
theorem dL_law_1268 : decode cL_law 1268 = .ok (.iadd, 1) := op96 (bA_at bd09_980_dec_L_0_77 4 rfl rfl)
theorem dL_law_1269 : decode cL_law 1269 = .ok (.iaload, 1) := op46 (bA_at bd09_980_dec_L_0_77 5 rfl rfl)
theorem dL_law_1270 : decode cL_law 1270 = .ok (.aload_n 0, 1) := op42 (bA_at bd09_980_dec_L_0_77 6 rfl rfl)
theorem dL_law_1271 : decode cL_law 1271 = .ok (.iload_n 3, 1) := op29 (bA_at bd09_980_dec_L_0_77 7 rfl rfl)
theorem dL_law_1272 : decode cL_law 1272 = .ok (.iconst 3, 1) := op6 (bA_at bd09_980_dec_L_0_77 8 rfl rfl)
theorem dL_law_1273 : decode cL_law 1273 = .ok (.iadd, 1) := op96 (bA_at bd09_980_dec_L_0_77 9 rfl rfl)
theorem dL_law_1274 : decode cL_law 1274 = .ok (.iaload, 1) := op46 (bA_at bd09_980_dec_L_0_77 10 rfl rfl)
theorem dL_law_1275 : decode cL_law 1275 = .ok (.aload_n 0, 1) := op42 (bA_at bd09_980_dec_L_0_77 11 rfl rfl)
theorem bd09_980_dec_L_0_78 : ([(0, [29]), (1, [7]), (2, [96]), (3, [46]), (4, [153, 0, 7]), (7, [4]), (8, [167, 0, 4]), (11, [3]), (12, [182, 0, 122]), (15, [87]), (16, [167, 1, 99]), (19, [43])] : List (Nat × List UInt8)).all (fun x => prB x.2 ((cL_law.data.toList.drop 1276).drop x.1)) = true := by decide +kernel
theorem dL_law_1276 : decode cL_law 1276 = .ok (.iload_n 3, 1) := op29 (bA_at bd09_980_dec_L_0_78 0 rfl rfl)
theorem dL_law_1277 : decode cL_law 1277 = .ok (.iconst 4, 1) := op7 (bA_at bd09_980_dec_L_0_78 1 rfl rfl)
theorem dL_law_1278 : decode cL_law 1278 = .ok (.iadd, 1) := op96 (bA_at bd09_980_dec_L_0_78 2 rfl rfl)
theorem dL_law_1279 : decode cL_law 1279 = .ok (.iaload, 1) := op46 (bA_at bd09_980_dec_L_0_78 3 rfl rfl)
theorem dL_law_1280 : decode cL_law 1280 = .ok (.ifCond .eq 7, 3) := op153 (bA_at bd09_980_dec_L_0_78 4 rfl rfl) (by decide +kernel)
theorem dL_law_1283 : decode cL_law 1283 = .ok (.iconst 1, 1) := op4 (bA_at bd09_980_dec_L_0_78 5 rfl rfl)
theorem dL_law_1284 : decode cL_law 1284 = .ok (.goto 4, 3) := op167 (bA_at bd09_980_dec_L_0_78 6 rfl rfl) (by decide +kernel)
theorem dL_law_1287 : decode cL_law 1287 = .ok (.iconst 0, 1) := op3 (bA_at bd09_980_dec_L_0_78 7 rfl rfl)
theorem dL_law_1288 : decode cL_law 1288 = .ok (.invokevirtual 122, 3) := op182 (bA_at bd09_980_dec_L_0_78 8 rfl rfl) rfl
theorem dL_law_1291 : decode cL_law 1291 = .ok (.pop, 1) := op87 (bA_at bd09_980_dec_L_0_78 9 rfl rfl)
theorem dL_law_1292 : decode cL_law 1292 = .ok (.goto 355, 3) := op167 (bA_at bd09_980_dec_L_0_78 10 rfl rfl) (by decide +kernel)
theorem dL_law_1295 : decode cL_law 1295 = .ok (.aload_n 1, 1) := op43 (bA_at bd09_980_dec_L_0_78 11 rfl rfl)
theorem bd09_980_dec_L_0_79 : ([(0, [42]), (1, [29]), (2, [4]), (3, [96]), (4, [46]), (5, [42]), (6, [29]), (7, [5]), (8, [96]), (9, [46]), (10, [42]), (11, [29])] : List (Nat × List UInt8)).all (fun x => prB x.2 ((cL_law.data.toList.drop 1296).drop x.1)) = true := by decide +kernel
theorem dL_law_1296 : decode cL_law 1296 = .ok (.aload_n 0, 1) := op42 (bA_at bd09_980_dec_L_0_79 0 rfl rfl)
theorem dL_law_1297 : decode cL_law 1297 = .ok (.iload_n 3, 1) := op29 (bA_at bd09_980_dec_L_0_79 1 rfl rfl)
theorem dL_law_1298 : decode cL_law 1298 = .ok (.iconst 1, 1) := op4 (bA_at bd09_980_dec_L_0_79 2 rfl rfl)
theorem dL_law_1299 : decode cL_law 1299 = .ok (.iadd, 1) := op96 (bA_at bd09_980_dec_L_0_79 3 rfl rfl)
theorem dL_law_1300 : decode cL_law 1300 = .ok (.iaload, 1) := op46 (bA_at bd09_980_dec_L_0_79 4 rfl rfl)
theorem dL_law_1301 : decode cL_law 1301 = .ok (.aload_n 0, 1) := op42 (bA_at bd09_980_dec_L_0_79 5 rfl rfl)
theorem dL_law_1302 : decode cL_law 1302 = .ok (.iload_n 3, 1) := op29 (bA_at bd09_980_dec_L_0_79 6 rfl rfl)
theorem dL_law_1303 : decode cL_law 1303 = .ok (.iconst 2, 1) := op5 (bA_at bd09_980_dec_L_0_79 7 rfl rfl)
theorem dL_law_1304 : decode cL_law 1304 = .ok (.iadd, 1) := op96 (bA_at bd09_980_dec_L_0_79 8 rfl rfl)
theorem dL_law_1305 : decode cL_law 1305 = .ok (.iaload, 1) := op46 (bA_at bd09_980_dec_L_0_79 9 rfl rfl)
theorem dL_law_1306 : decode cL_law 1306 = .ok (.aload_n 0, 1) := op42 (bA_at bd09_980_dec_L_0_79 10 rfl rfl)
theorem dL_law_1307 : decode cL_law 1307 = .ok (.iload_n 3, 1) := op29 (bA_at bd09_980_dec_L_0_79 11 rfl rfl)
theorem bd09_980_dec_L_0_80 : ([(0, [6]), (1, [96]), (2, [46]), (3, [153, 0, 7]), (6, [4]), (7, [167, 0, 4]), (10, [3]), (11, [182, 0, 123]), (14, [87]), (15, [44]), (16, [42]), (17, [29])] : List (Nat × List UInt8)).all (fun x => prB x.2 ((cL_law.data.toList.drop 1308).drop x.1)) = true := by decide +kernel
theorem dL_law_1308 : decode cL_law 1308 = .ok (.iconst 3, 1) := op6 (bA_at bd09_980_dec_L_0_80 0 rfl rfl)
theorem dL_law_1309 : decode cL_law 1309 = .ok (.iadd, 1) := op96 (bA_at bd09_980_dec_L_0_80 1 rfl rfl)
theorem dL_law_1310 : decode cL_law 1310 = .ok (.iaload, 1) := op46 (bA_at bd09_980_dec_L_0_80 2 rfl rfl)
theorem dL_law_1311 : decode cL_law 1311 = .ok (.ifCond .eq 7, 3) := op153 (bA_at bd09_980_dec_L_0_80 3 rfl rfl) (by decide +kernel)
theorem dL_law_1314 : decode cL_law 1314 = .ok (.iconst 1, 1) := op4 (bA_at bd09_980_dec_L_0_80 4 rfl rfl)
theorem dL_law_1315 : decode cL_law 1315 = .ok (.goto 4, 3) := op167 (bA_at bd09_980_dec_L_0_80 5 rfl rfl) (by decide +kernel)
theorem dL_law_1318 : decode cL_law 1318 = .ok (.iconst 0, 1) := op3 (bA_at bd09_980_dec_L_0_80 6 rfl rfl)
theorem dL_law_1319 : decode cL_law 1319 = .ok (.invokevirtual 123, 3) := op182 (bA_at bd09_980_dec_L_0_80 7 rfl rfl) rfl
theorem dL_law_1322 : decode cL_law 1322 = .ok (.pop, 1) := op87 (bA_at bd09_980_dec_L_0_80 8 rfl rfl)
theorem dL_law_1323 : decode cL_law 1323 = .ok (.aload_n 2, 1) := op44 (bA_at bd09_980_dec_L_0_80 9 rfl rfl)
theorem dL_law_1324 : decode cL_law 1324 = .ok (.aload_n 0, 1) := op42 (bA_at bd09_980_dec_L_0_80 10 rfl rfl)
theorem dL_law_1325 : decode cL_law 1325 = .ok (.iload_n 3, 1) := op29 (bA_at bd09_980_dec_L_0_80 11 rfl rfl)
theorem bd09_980_dec_L_0_81 : ([(0, [4]), (1, [96]), (2, [46]), (3, [42]), (4, [29]), (5, [5]), (6, [96]), (7, [46]), (8, [42]), (9, [29]), (10, [6]), (11, [96])] : List (Nat × List UInt8)).all (fun x => prB x.2 ((cL_law.data.toList.drop 1326).drop x.1)) = true := by decide +kernel
theorem dL_law_1326 : decode cL_law 1326 = .ok (.iconst 1, 1) := op4 (bA_at bd09_980_dec_L_0_81 0 rfl rfl)
theorem dL_law_1327 : decode cL_law 1327 = .ok (.iadd, 1) := op96 (bA_at bd09_980_dec_L_0_81 1 rfl rfl)
theorem dL_law_1328 : decode cL_law 1328 = .ok (.iaload, 1) := op46 (bA_at bd09_980_dec_L_0_81 2 rfl rfl)
theorem dL_law_1329 : decode cL_law 1329 = .ok (.aload_n 0, 1) := op42 (bA_at bd09_980_dec_L_0_81 3 rfl rfl)
theorem dL_law_1330 : decode cL_law 1330 = .ok (.iload_n 3, 1) := op29 (bA_at bd09_980_dec_L_0_81 4 rfl rfl)
theorem dL_law_1331 : decode cL_law 1331 = .ok (.iconst 2, 1) := op5 (bA_at bd09_980_dec_L_0_81 5 rfl rfl)
theorem dL_law_1332 : decode cL_law 1332 = .ok (.iadd, 1) := op96 (bA_at bd09_980_dec_L_0_81 6 rfl rfl)
theorem dL_law_1333 : decode cL_law 1333 = .ok (.iaload, 1) := op46 (bA_at bd09_980_dec_L_0_81 7 rfl rfl)
theorem dL_law_1334 : decode cL_law 1334 = .ok (.aload_n 0, 1) := op42 (bA_at bd09_980_dec_L_0_81 8 rfl rfl)
theorem dL_law_1335 : decode cL_law 1335 = .ok (.iload_n 3, 1) := op29 (bA_at bd09_980_dec_L_0_81 9 rfl rfl)
theorem dL_law_1336 : decode cL_law 1336 = .ok (.iconst 3, 1) := op6 (bA_at bd09_980_dec_L_0_81 10 rfl rfl)
theorem dL_law_1337 : decode cL_law 1337 = .ok (.iadd, 1) := op96 (bA_at bd09_980_dec_L_0_81 11 rfl rfl)
theorem bd09_980_dec_L_0_82 : ([(0, [46]), (1, [153, 0, 7]), (4, [4]), (5, [167, 0, 4]), (8, [3]), (9, [182, 0, 126]), (12, [87]), (13, [167, 1, 40]), (16, [43]), (17, [42]), (18, [29]), (19, [4])] : List (Nat × List UInt8)).all (fun x => prB x.2 ((cL_law.data.toList.drop 1338).drop x.1)) = true := by decide +kernel
theorem dL_law_1338 : decode cL_law 1338 = .ok (.iaload, 1) := op46 (bA_at bd09_980_dec_L_0_82 0 rfl rfl)
theorem dL_law_1339 : decode cL_law 1339 = .ok (.ifCond .eq 7, 3) := op153 (bA_at bd09_980_dec_L_0_82 1 rfl rfl) (by decide +kernel)
theorem dL_law_1342 : decode cL_law 1342 = .ok (.iconst 1, 1) := op4 (bA_at bd09_980_dec_L_0_82 2 rfl rfl)
theorem dL_law_1343 : decode cL_law 1343 = .ok (.goto 4, 3) := op167 (bA_at bd09_980_dec_L_0_82 3 rfl rfl) (by decide +kernel)
theorem dL_law_1346 : decode cL_law 1346 = .ok (.iconst 0, 1) := op3 (bA_at bd09_980_dec_L_0_82 4 rfl rfl)
theorem dL_law_1347 : decode cL_law 1347 = .ok (.invokevirtual 126, 3) := op182 (bA_at bd09_980_dec_L_0_82 5 rfl rfl) rfl
theorem dL_law_1350 : decode cL_law 1350 = .ok (.pop, 1) := op87 (bA_at bd09_980_dec_L_0_82 6 rfl rfl)
theorem dL_law_1351 : decode cL_law 1351 = .ok (.goto 296, 3) := op167 (bA_at bd09_980_dec_L_0_82 7 rfl rfl) (by decide +kernel)
theorem dL_law_1354 : decode cL_law 1354 = .ok (.aload_n 1, 1) := op43 (bA_at bd09_980_dec_L_0_82 8 rfl rfl)
theorem dL_law_1355 : decode cL_law 1355 = .ok (.aload_n 0, 1) := op42 (bA_at bd09_980_dec_L_0_82 9 rfl rfl)
theorem dL_law_1356 : decode cL_law 1356 = .ok (.iload_n 3, 1) := op29 (bA_at bd09_980_dec_L_0_82 10 rfl rfl)
theorem dL_law_1357 : decode cL_law 1357 = .ok (.iconst 1, 1) := op4 (bA_at bd09_980_dec_L_0_82 11 rfl rfl)
theorem bd09_980_dec_L_0_83 : ([(0, [96]), (1, [46]), (2, [42]), (3, [29]), (4, [5]), (5, [96]), (6, [46]), (7, [42]), (8, [29]), (9, [6]), (10, [96]), (11, [46])] : List (Nat × List UInt8)).all (fun x => prB x.2 ((cL_law.data.toList.drop 1358).drop x.1)) = true := by decide +kernel
theorem dL_law_1358 : decode cL_law 1358 = .ok (.iadd, 1) := op96 (bA_at bd09_980_dec_L_0_83 0 rfl rfl)
theorem dL_law_1359 : decode cL_law 1359 = .ok (.iaload, 1) := op46 (bA_at bd09_980_dec_L_0_83 1 rfl rfl)
theorem dL_law_1360 : decode cL_law 1360 = .ok (.aload_n 0, 1) := op42 (bA_at bd09_980_dec_L_0_83 2 rfl rfl)
theorem dL_law_1361 : decode cL_law 1361 = .ok (.iload_n 3, 1) := op29 (bA_at bd09_980_dec_L_0_83 3 rfl rfl)
theorem dL_law_1362 : decode cL_law 1362 = .ok (.iconst 2, 1) := op5 (bA_at bd09_980_dec_L_0_83 4 rfl rfl)
theorem dL_law_1363 : decode cL_law 1363 = .ok (.iadd, 1) := op96 (bA_at bd09_980_dec_L_0_83 5 rfl rfl)
theorem dL_law_1364 : decode cL_law 1364 = .ok (.iaload, 1) := op46 (bA_at bd09_980_dec_L_0_83 6 rfl rfl)
theorem dL_law_1365 : decode cL_law 1365 = .ok (.aload_n 0, 1) := op42 (bA_at bd09_980_dec_L_0_83 7 rfl rfl)
theorem dL_law_1366 : decode cL_law 1366 = .ok (.iload_n 3, 1) := op29 (bA_at bd09_980_dec_L_0_83 8 rfl rfl)
theorem dL_law_1367 : decode cL_law 1367 = .ok (.iconst 3, 1) := op6 (bA_at bd09_980_dec_L_0_83 9 rfl rfl)
theorem dL_law_1368 : decode cL_law 1368 = .ok (.iadd, 1) := op96 (bA_at bd09_980_dec_L_0_83 10 rfl rfl)
theorem dL_law_1369 : decode cL_law 1369 = .ok (.iaload, 1) := op46 (bA_at bd09_980_dec_L_0_83 11 rfl rfl)
theorem bd09_980_dec_L_0_84 : ([(0, [42]), (1, [29]), (2, [7]), (3, [96]), (4, [46]), (5, [153, 0, 7]), (8, [4]), (9, [167, 0, 4]), (12, [3]), (13, [182, 0, 127]), (16, [87]), (17, [44])] : List (Nat × List UInt8)).all (fun x => prB x.2 ((cL_law.data.toList.drop 1370).drop x.1)) = true := by decide +kernel
theorem dL_law_1370 : decode cL_law 1370 = .ok (.aload_n 0, 1) := op42 (bA_at bd09_980_dec_L_0_84 0 rfl rfl)
theorem dL_law_1371 : decode cL_law 1371 = .ok (.iload_n 3, 1) := op29 (bA_at bd09_980_dec_L_0_84 1 rfl rfl)
theorem dL_law_1372 : decode cL_law 1372 = .ok (.iconst 4, 1) := op7 (bA_at bd09_980_dec_L_0_84 2 rfl rfl)
theorem dL_law_1373 : decode cL_law 1373 = .ok (.iadd, 1) := op96 (bA_at bd09_980_dec_L_0_84 3 rfl rfl)
theorem dL_law_1374 : decode cL_law 1374 = .ok (.iaload, 1) := op46 (bA_at bd09_980_dec_L_0_84 4 rfl rfl)
theorem dL_law_1375 : decode cL_law 1375 = .ok (.ifCond .eq 7, 3) := op153 (bA_at bd09_980_dec_L_0_84 5 rfl rfl) (by decide +kernel)
theorem dL_law_1378 : decode cL_law 1378 = .ok (.iconst 1, 1) := op4 (bA_at bd09_980_dec_L_0_84 6 rfl rfl)
theorem dL_law_1379 : decode cL_law 1379 = .ok (.goto 4, 3) := op167 (bA_at bd09_980_dec_L_0_84 7 rfl rfl) (by decide +kernel)
theorem dL_law_1382 : decode cL_law 1382 = .ok (.iconst 0, 1) := op3 (bA_at bd09_980_dec_L_0_84 8 rfl rfl)
theorem dL_law_1383 : decode cL_law 1383 = .ok (.invokevirtual 127, 3) := op182 (bA_at bd09_980_dec_L_0_84 9 rfl rfl) rfl
theorem dL_law_1386 : decode cL_law 1386 = .ok (.pop, 1) := op87 (bA_at bd09_980_dec_L_0_84 10 rfl rfl)
theorem dL_law_1387 : decode cL_law 1387 = .ok (.aload_n 2, 1) := op44 (bA_at bd09_980_dec_L_0_84 11 rfl rfl)
theorem bd09_980_dec_L_0_85 : ([(0, [42]), (1, [29]), (2, [4]), (3, [96]), (4, [46]), (5, [42]), (6, [29]), (7, [5]), (8, [96]), (9, [46]), (10, [42]), (11, [29])] : List (Nat × List UInt8)).all (fun x => prB x.2 ((cL_law.data.toList.drop 1388).drop x.1)) = true := by decide +kernel
theorem dL_law_1388 : decode cL_law 1388 = .ok (.aload_n 0, 1) := op42 (bA_at bd09_980_dec_L_0_85 0 rfl rfl)
theorem dL_law_1389 : decode cL_law 1389 = .ok (.iload_n 3, 1) := op29 (bA_at bd09_980_dec_L_0_85 1 rfl rfl)
theorem dL_law_1390 : decode cL_law 1390 = .ok (.iconst 1, 1) := op4 (bA_at bd09_980_dec_L_0_85 2 rfl rfl)
theorem dL_law_1391 : decode cL_law 1391 = .ok (.iadd, 1) := op96 (bA_at bd09_980_dec_L_0_85 3 rfl rfl)
theorem dL_law_1392 : decode cL_law 1392 = .ok (.iaload, 1) := op46 (bA_at bd09_980_dec_L_0_85 4 rfl rfl)
theorem dL_law_1393 : decode cL_law 1393 = .ok (.aload_n 0, 1) := op42 (bA_at bd09_980_dec_L_0_85 5 rfl rfl)
theorem dL_law_1394 : decode cL_law 1394 = .ok (.iload_n 3, 1) := op29 (bA_at bd09_980_dec_L_0_85 6 rfl rfl)
theorem dL_law_1395 : decode cL_law 1395 = .ok (.iconst 2, 1) := op5 (bA_at bd09_980_dec_L_0_85 7 rfl rfl)
theorem dL_law_1396 : decode cL_law 1396 = .ok (.iadd, 1) := op96 (bA_at bd09_980_dec_L_0_85 8 rfl rfl)
theorem dL_law_1397 : decode cL_law 1397 = .ok (.iaload, 1) := op46 (bA_at bd09_980_dec_L_0_85 9 rfl rfl)
theorem dL_law_1398 : decode cL_law 1398 = .ok (.aload_n 0, 1) := op42 (bA_at bd09_980_dec_L_0_85 10 rfl rfl)
theorem dL_law_1399 : decode cL_law 1399 = .ok (.iload_n 3, 1) := op29 (bA_at bd09_980_dec_L_0_85 11 rfl rfl)
theorem bd09_980_dec_L_0_86 : ([(0, [6]), (1, [96]), (2, [46]), (3, [42]), (4, [29]), (5, [7]), (6, [96]), (7, [46]), (8, [153, 0, 7]), (11, [4]), (12, [167, 0, 4]), (15, [3])] : List (Nat × List UInt8)).all (fun x => prB x.2 ((cL_law.data.toList.drop 1400).drop x.1)) = true := by decide +kernel
theorem dL_law_1400 : decode cL_law 1400 = .ok (.iconst 3, 1) := op6 (bA_at bd09_980_dec_L_0_86 0 rfl rfl)
theorem dL_law_1401 : decode cL_law 1401 = .ok (.iadd, 1) := op96 (bA_at bd09_980_dec_L_0_86 1 rfl rfl)
theorem dL_law_1402 : decode cL_law 1402 = .ok (.iaload, 1) := op46 (bA_at bd09_980_dec_L_0_86 2 rfl rfl)
theorem dL_law_1403 : decode cL_law 1403 = .ok (.aload_n 0, 1) := op42 (bA_at bd09_980_dec_L_0_86 3 rfl rfl)
theorem dL_law_1404 : decode cL_law 1404 = .ok (.iload_n 3, 1) := op29 (bA_at bd09_980_dec_L_0_86 4 rfl rfl)
theorem dL_law_1405 : decode cL_law 1405 = .ok (.iconst 4, 1) := op7 (bA_at bd09_980_dec_L_0_86 5 rfl rfl)
theorem dL_law_1406 : decode cL_law 1406 = .ok (.iadd, 1) := op96 (bA_at bd09_980_dec_L_0_86 6 rfl rfl)
theorem dL_law_1407 : decode cL_law 1407 = .ok (.iaload, 1) := op46 (bA_at bd09_980_dec_L_0_86 7 rfl rfl)
theorem dL_law_1408 : decode cL_law 1408 = .ok (.ifCond .eq 7, 3) := op153 (bA_at bd09_980_dec_L_0_86 8 rfl rfl) (by decide +kernel)
theorem dL_law_1411 : decode cL_law 1411 = .ok (.iconst 1, 1) := op4 (bA_at bd09_980_dec_L_0_86 9 rfl rfl)
theorem dL_law_1412 : decode cL_law 1412 = .ok (.goto 4, 3) := op167 (bA_at bd09_980_dec_L_0_86 10 rfl rfl) (by decide +kernel)
theorem dL_law_1415 : decode cL_law 1415 = .ok (.iconst 0, 1) := op3 (bA_at bd09_980_dec_L_0_86 11 rfl rfl)
theorem bd09_980_dec_L_0_87 : ([(0, [182, 0, 130]), (3, [87]), (4, [167, 0, 227]), (7, [43]), (8, [42]), (9, [29]), (10, [4]), (11, [96]), (12, [46]), (13, [42]), (14, [29]), (15, [5])] : List (Nat × List UInt8)).all (fun x => prB x.2 ((cL_law.data.toList.drop 1416).drop x.1)) = true := by decide +kernel
theorem dL_law_1416 : decode cL_law 1416 = .ok (.invokevirtual 130, 3) := op182 (bA_at bd09_980_dec_L_0_87 0 rfl rfl) rfl
theorem dL_law_1419 : decode cL_law 1419 = .ok (.pop, 1) := op87 (bA_at bd09_980_dec_L_0_87 1 rfl rfl)
theorem dL_law_1420 : decode cL_law 1420 = .ok (.goto 227, 3) := op167 (bA_at bd09_980_dec_L_0_87 2 rfl rfl) (by decide +kernel)
theorem dL_law_1423 : decode cL_law 1423 = .ok (.aload_n 1, 1) := op43 (bA_at bd09_980_dec_L_0_87 3 rfl rfl)
theorem dL_law_1424 : decode cL_law 1424 = .ok (.aload_n 0, 1) := op42 (bA_at bd09_980_dec_L_0_87 4 rfl rfl)
theorem dL_law_1425 : decode cL_law 1425 = .ok (.iload_n 3, 1) := op29 (bA_at bd09_980_dec_L_0_87 5 rfl rfl)
theorem dL_law_1426 : decode cL_law 1426 = .ok (.iconst 1, 1) := op4 (bA_at bd09_980_dec_L_0_87 6 rfl rfl)
theorem dL_law_1427 : decode cL_law 1427 = .ok (.iadd, 1) := op96 (bA_at bd09_980_dec_L_0_87 7 rfl rfl)
theorem dL_law_1428 : decode cL_law 1428 = .ok (.iaload, 1) := op46 (bA_at bd09_980_dec_L_0_87 8 rfl rfl)
theorem dL_law_1429 : decode cL_law 1429 = .ok (.aload_n 0, 1) := op42 (bA_at bd09_980_dec_L_0_87 9 rfl rfl)
theorem dL_law_1430 : decode cL_law 1430 = .ok (.iload_n 3, 1) := op29 (bA_at bd09_980_dec_L_0_87 10 rfl rfl)
theorem dL_law_1431 : decode cL_law 1431 = .ok (.iconst 2, 1) := op5 (bA_at bd09_980_dec_L_0_87 11 rfl rfl)
theorem bd09_980_dec_L_0_88 : ([(0, [96]), (1, [46]), (2, [182, 0, 131]), (5, [87]), (6, [44]), (7, [42]), (8, [29]), (9, [4]), (10, [96]), (11, [46]), (12, [42]), (13, [29])] : List (Nat × List UInt8)).all (fun x => prB x.2 ((cL_law.data.toList.drop 1432).drop x.1)) = true := by decide +kernel
theorem dL_law_1432 : decode cL_law 1432 = .ok (.iadd, 1) := op96 (bA_at bd09_980_dec_L_0_88 0 rfl rfl)
theorem dL_law_1433 : decode cL_law 1433 = .ok (.iaload, 1) := op46 (bA_at bd09_980_dec_L_0_88 1 rfl rfl)
theorem dL_law_1434 : decode cL_law 1434 = .ok (.invokevirtual 131, 3) := op182 (bA_at bd09_980_dec_L_0_88 2 rfl rfl) rfl
theorem dL_law_1437 : decode cL_law 1437 = .ok (.pop, 1) := op87 (bA_at bd09_980_dec_L_0_88 3 rfl rfl)
theorem dL_law_1438 : decode cL_law 1438 = .ok (.aload_n 2, 1) := op44 (bA_at bd09_980_dec_L_0_88 4 rfl rfl)
theorem dL_law_1439 : decode cL_law 1439 = .ok (.aload_n 0, 1) := op42 (bA_at bd09_980_dec_L_0_88 5 rfl rfl)
theorem dL_law_1440 : decode cL_law 1440 = .ok (.iload_n 3, 1) := op29 (bA_at bd09_980_dec_L_0_88 6 rfl rfl)
theorem dL_law_1441 : decode cL_law 1441 = .ok (.iconst 1, 1) := op4 (bA_at bd09_980_dec_L_0_88 7 rfl rfl)
theorem dL_law_1442 : decode cL_law 1442 = .ok (.iadd, 1) := op96 (bA_at bd09_980_dec_L_0_88 8 rfl rfl)
theorem dL_law_1443 : decode cL_law 1443 = .ok (.iaload, 1) := op46 (bA_at bd09_980_dec_L_0_88 9 rfl rfl)
theorem dL_law_1444 : decode cL_law 1444 = .ok (.aload_n 0, 1) := op42 (bA_at bd09_980_dec_L_0_88 10 rfl rfl)
theorem dL_law_1445 : decode cL_law 1445 = .ok (.iload_n 3, 1) := op29 (bA_at bd09_980_dec_L_0_88 11 rfl rfl)
theorem bd09_980_dec_L_0_89 : ([(0, [5]), (1, [96]), (2, [46]), (3, [182, 0, 134]), (6, [87]), (7, [167, 0, 194]), (10, [43]), (11, [42]), (12, [29]), (13, [4]), (14, [96]), (15, [46])] : List (Nat × List UInt8)).all (fun x => prB x.2 ((cL_law.data.toList.drop 1446).drop x.1)) = true := by decide +kernel
theorem dL_law_1446 : decode cL_law 1446 = .ok (.iconst 2, 1) := op5 (bA_at bd09_980_dec_L_0_89 0 rfl rfl)
theorem dL_law_1447 : decode cL_law 1447 = .ok (.iadd, 1) := op96 (bA_at bd09_980_dec_L_0_89 1 rfl rfl)
theorem dL_law_1448 : decode cL_law 1448 = .ok (.iaload, 1) := op46 (bA_at bd09_980_dec_L_0_89 2 rfl rfl)
theorem dL_law_1449 : decode cL_law 1449 = .ok (.invokevirtual 134, 3) := op182 (bA_at bd09_980_dec_L_0_89 3 rfl rfl) rfl
theorem dL_law_1452 : decode cL_law 1452 = .ok (.pop, 1) := op87 (bA_at bd09_980_dec_L_0_89 4 rfl rfl)
theorem dL_law_1453 : decode cL_law 1453 = .ok (.goto 194, 3) := op167 (bA_at bd09_980_dec_L_0_89 5 rfl rfl) (by decide +kernel)
theorem dL_law_1456 : decode cL_law 1456 = .ok (.aload_n 1, 1) := op43 (bA_at bd09_980_dec_L_0_89 6 rfl rfl)
theorem dL_law_1457 : decode cL_law 1457 = .ok (.aload_n 0, 1) := op42 (bA_at bd09_980_dec_L_0_89 7 rfl rfl)
theorem dL_law_1458 : decode cL_law 1458 = .ok (.iload_n 3, 1) := op29 (bA_at bd09_980_dec_L_0_89 8 rfl rfl)
theorem dL_law_1459 : decode cL_law 1459 = .ok (.iconst 1, 1) := op4 (bA_at bd09_980_dec_L_0_89 9 rfl rfl)
theorem dL_law_1460 : decode cL_law 1460 = .ok (.iadd, 1) := op96 (bA_at bd09_980_dec_L_0_89 10 rfl rfl)
theorem dL_law_1461 : decode cL_law 1461 = .ok (.iaload, 1) := op46 (bA_at bd09_980_dec_L_0_89 11 rfl rfl)
theorem bd09_980_dec_L_0_90 : ([(0, [42]), (1, [29]), (2, [5]), (3, [96]), (4, [46]), (5, [42]), (6, [29]), (7, [6]), (8, [96]), (9, [46]), (10, [42]), (11, [29])] : List (Nat × List UInt8)).all (fun x => prB x.2 ((cL_law.data.toList.drop 1462).drop x.1)) = true := by decide +kernel
theorem dL_law_1462 : decode cL_law 1462 = .ok (.aload_n 0, 1) := op42 (bA_at bd09_980_dec_L_0_90 0 rfl rfl)
theorem dL_law_1463 : decode cL_law 1463 = .ok (.iload_n 3, 1) := op29 (bA_at bd09_980_dec_L_0_90 1 rfl rfl)
theorem dL_law_1464 : decode cL_law 1464 = .ok (.iconst 2, 1) := op5 (bA_at bd09_980_dec_L_0_90 2 rfl rfl)
theorem dL_law_1465 : decode cL_law 1465 = .ok (.iadd, 1) := op96 (bA_at bd09_980_dec_L_0_90 3 rfl rfl)
theorem dL_law_1466 : decode cL_law 1466 = .ok (.iaload, 1) := op46 (bA_at bd09_980_dec_L_0_90 4 rfl rfl)
theorem dL_law_1467 : decode cL_law 1467 = .ok (.aload_n 0, 1) := op42 (bA_at bd09_980_dec_L_0_90 5 rfl rfl)
theorem dL_law_1468 : decode cL_law 1468 = .ok (.iload_n 3, 1) := op29 (bA_at bd09_980_dec_L_0_90 6 rfl rfl)
theorem dL_law_1469 : decode cL_law 1469 = .ok (.iconst 3, 1) := op6 (bA_at bd09_980_dec_L_0_90 7 rfl rfl)
theorem dL_law_1470 : decode cL_law 1470 = .ok (.iadd, 1) := op96 (bA_at bd09_980_dec_L_0_90 8 rfl rfl)
theorem dL_law_1471 : decode cL_law 1471 = .ok (.iaload, 1) := op46 (bA_at bd09_980_dec_L_0_90 9 rfl rfl)
theorem dL_law_1472 : decode cL_law 1472 = .ok (.aload_n 0, 1) := op42 (bA_at bd09_980_dec_L_0_90 10 rfl rfl)
theorem dL_law_1473 : decode cL_law 1473 = .ok (.iload_n 3, 1) := op29 (bA_at bd09_980_dec_L_0_90 11 rfl rfl)
theorem bd09_980_dec_L_0_91 : ([(0, [7]), (1, [96]), (2, [46]), (3, [153, 0, 7]), (6, [4]), (7, [167, 0, 4]), (10, [3]), (11, [182, 0, 135]), (14, [44]), (15, [42]), (16, [29]), (17, [4])] : List (Nat × List UInt8)).all (fun x => prB x.2 ((cL_law.data.toList.drop 1474).drop x.1)) = true := by decide +kernel
theorem dL_law_1474 : decode cL_law 1474 = .ok (.iconst 4, 1) := op7 (bA_at bd09_980_dec_L_0_91 0 rfl rfl)
theorem dL_law_1475 : decode cL_law 1475 = .ok (.iadd, 1) := op96 (bA_at bd09_980_dec_L_0_91 1 rfl rfl)
theorem dL_law_1476 : decode cL_law 1476 = .ok (.iaload, 1) := op46 (bA_at bd09_980_dec_L_0_91 2 rfl rfl)
theorem dL_law_1477 : decode cL_law 1477 = .ok (.ifCond .eq 7, 3) := op153 (bA_at bd09_980_dec_L_0_91 3 rfl rfl) (by decide +kernel)
theorem dL_law_1480 : decode cL_law 1480 = .ok (.iconst 1, 1) := op4 (bA_at bd09_980_dec_L_0_91 4 rfl rfl)
theorem dL_law_1481 : decode cL_law 1481 = .ok (.goto 4, 3) := op167 (bA_at bd09_980_dec_L_0_91 5 rfl rfl) (by decide +kernel)
theorem dL_law_1484 : decode cL_law 1484 = .ok (.iconst 0, 1) := op3 (bA_at bd09_980_dec_L_0_91 6 rfl rfl)
theorem dL_law_1485 : decode cL_law 1485 = .ok (.invokevirtual 135, 3) := op182 (bA_at bd09_980_dec_L_0_91 7 rfl rfl) rfl
theorem dL_law_1488 : decode cL_law 1488 = .ok (.aload_n 2, 1) := op44 (bA_at bd09_980_dec_L_0_91 8 rfl rfl)
theorem dL_law_1489 : decode cL_law 1489 = .ok (.aload_n 0, 1) := op42 (bA_at bd09_980_dec_L_0_91 9 rfl rfl)
theorem dL_law_1490 : decode cL_law 1490 = .ok (.iload_n 3, 1) := op29 (bA_at bd09_980_dec_L_0_91 10 rfl rfl)
theorem dL_law_1491 : decode cL_law 1491 = .ok (.iconst 1, 1) := op4 (bA_at bd09_980_dec_L_0_91 11 rfl rfl)
theorem bd09_980_dec_L_0_92 : ([(0, [96]), (1, [46]), (2, [42]), (3, [29]), (4, [5]), (5, [96]), (6, [46]), (7, [42]), (8, [29]), (9, [6]), (10, [96]), (11, [46])] : List (Nat × List UInt8)).all (fun x => prB x.2 ((cL_law.data.toList.drop 1492).drop x.1)) = true := by decide +kernel
theorem dL_law_1492 : decode cL_law 1492 = .ok (.iadd, 1) := op96 (bA_at bd09_980_dec_L_0_92 0 rfl rfl)
theorem dL_law_1493 : decode cL_law 1493 = .ok (.iaload, 1) := op46 (bA_at bd09_980_dec_L_0_92 1 rfl rfl)
theorem dL_law_1494 : decode cL_law 1494 = .ok (.aload_n 0, 1) := op42 (bA_at bd09_980_dec_L_0_92 2 rfl rfl)
theorem dL_law_1495 : decode cL_law 1495 = .ok (.iload_n 3, 1) := op29 (bA_at bd09_980_dec_L_0_92 3 rfl rfl)
theorem dL_law_1496 : decode cL_law 1496 = .ok (.iconst 2, 1) := op5 (bA_at bd09_980_dec_L_0_92 4 rfl rfl)
theorem dL_law_1497 : decode cL_law 1497 = .ok (.iadd, 1) := op96 (bA_at bd09_980_dec_L_0_92 5 rfl rfl)
theorem dL_law_1498 : decode cL_law 1498 = .ok (.iaload, 1) := op46 (bA_at bd09_980_dec_L_0_92 6 rfl rfl)
theorem dL_law_1499 : decode cL_law 1499 = .ok (.aload_n 0, 1) := op42 (bA_at bd09_980_dec_L_0_92 7 rfl rfl)
theorem dL_law_1500 : decode cL_law 1500 = .ok (.iload_n 3, 1) := op29 (bA_at bd09_980_dec_L_0_92 8 rfl rfl)
theorem dL_law_1501 : decode cL_law 1501 = .ok (.iconst 3, 1) := op6 (bA_at bd09_980_dec_L_0_92 9 rfl rfl)
theorem dL_law_1502 : decode cL_law 1502 = .ok (.iadd, 1) := op96 (bA_at bd09_980_dec_L_0_92 10 rfl rfl)
theorem dL_law_1503 : decode cL_law 1503 = .ok (.iaload, 1) := op46 (bA_at bd09_980_dec_L_0_92 11 rfl rfl)
theorem bd09_980_dec_L_0_93 : ([(0, [42]), (1, [29]), (2, [7]), (3, [96]), (4, [46]), (5, [153, 0, 7]), (8, [4]), (9, [167, 0, 4]), (12, [3]), (13, [182, 0, 138]), (16, [159, 0, 127]), (19, [3])] : List (Nat × List UInt8)).all (fun x => prB x.2 ((cL_law.data.toList.drop 1504).drop x.1)) = true := by decide +kernel
theorem dL_law_1504 : decode cL_law 1504 = .ok (.aload_n 0, 1) := op42 (bA_at bd09_980_dec_L_0_93 0 rfl rfl)
theorem dL_law_1505 : decode cL_law 1505 = .ok (.iload_n 3, 1) := op29 (bA_at bd09_980_dec_L_0_93 1 rfl rfl)
theorem dL_law_1506 : decode cL_law 1506 = .ok (.iconst 4, 1) := op7 (bA_at bd09_980_dec_L_0_93 2 rfl rfl)
theorem dL_law_1507 : decode cL_law 1507 = .ok (.iadd, 1) := op96 (bA_at bd09_980_dec_L_0_93 3 rfl rfl)
theorem dL_law_1508 : decode cL_law 1508 = .ok (.iaload, 1) := op46 (bA_at bd09_980_dec_L_0_93 4 rfl rfl)
theorem dL_law_1509 : decode cL_law 1509 = .ok (.ifCond .eq 7, 3) := op153 (bA_at bd09_980_dec_L_0_93 5 rfl rfl) (by decide +kernel)
theorem dL_law_1512 : decode cL_law 1512 = .ok (.iconst 1, 1) := op4 (bA_at bd09_980_dec_L_0_93 6 rfl rfl)
theorem dL_law_1513 : decode cL_law 1513 = .ok (.goto 4, 3) := op167 (bA_at bd09_980_dec_L_0_93 7 rfl rfl) (by decide +kernel)
theorem dL_law_1516 : decode cL_law 1516 = .ok (.iconst 0, 1) := op3 (bA_at bd09_980_dec_L_0_93 8 rfl rfl)
theorem dL_law_1517 : decode cL_law 1517 = .ok (.invokevirtual 138, 3) := op182 (bA_at bd09_980_dec_L_0_93 9 rfl rfl) rfl
theorem dL_law_1520 : decode cL_law 1520 = .ok (.if_icmp .eq 127, 3) := op159 (bA_at bd09_980_dec_L_0_93 10 rfl rfl) (by decide +kernel)
theorem dL_law_1523 : decode cL_law 1523 = .ok (.iconst 0, 1) := op3 (bA_at bd09_980_dec_L_0_93 11 rfl rfl)
theorem bd09_980_dec_L_0_94 : ([(0, [172]), (1, [43]), (2, [42]), (3, [29]), (4, [4]), (5, [96]), (6, [46]), (7, [42]), (8, [29]), (9, [5]), (10, [96]), (11, [46])] : List (Nat × List UInt8)).all (fun x => prB x.2 ((cL_law.data.toList.drop 1524).drop x.1)) = true := by decide +kernel
theorem dL_law_1524 : decode cL_law 1524 = .ok (.ireturn, 1) := op172 (bA_at bd09_980_dec_L_0_94 0 rfl rfl)
theorem dL_law_1525 : decode cL_law 1525 = .ok (.aload_n 1, 1) := op43 (bA_at bd09_980_dec_L_0_94 1 rfl rfl)
theorem dL_law_1526 : decode cL_law 1526 = .ok (.aload_n 0, 1) := op42 (bA_at bd09_980_dec_L_0_94 2 rfl rfl)
theorem dL_law_1527 : decode cL_law 1527 = .ok (.iload_n 3, 1) := op29 (bA_at bd09_980_dec_L_0_94 3 rfl rfl)
theorem dL_law_1528 : decode cL_law 1528 = .ok (.iconst 1, 1) := op4 (bA_at bd09_980_dec_L_0_94 4 rfl rfl)
theorem dL_law_1529 : decode cL_law 1529 = .ok (.iadd, 1) := op96 (bA_at bd09_980_dec_L_0_94 5 rfl rfl)
theorem dL_law_1530 : decode cL_law 1530 = .ok (.iaload, 1) := op46 (bA_at bd09_980_dec_L_0_94 6 rfl rfl)
theorem dL_law_1531 : decode cL_law 1531 = .ok (.aload_n 0, 1) := op42 (bA_at bd09_980_dec_L_0_94 7 rfl rfl)
theorem dL_law_1532 : decode cL_law 1532 = .ok (.iload_n 3, 1) := op29 (bA_at bd09_980_dec_L_0_94 8 rfl rfl)
theorem dL_law_1533 : decode cL_law 1533 = .ok (.iconst 2, 1) := op5 (bA_at bd09_980_dec_L_0_94 9 rfl rfl)
theorem dL_law_1534 : decode cL_law 1534 = .ok (.iadd, 1) := op96 (bA_at bd09_980_dec_L_0_94 10 rfl rfl)
theorem dL_law_1535 : decode cL_law 1535 = .ok (.iaload, 1) := op46 (bA_at bd09_980_dec_L_0_94 11 rfl rfl)
theorem bd09_980_dec_L_0_95 : ([(0, [42]), (1, [29]), (2, [6]), (3, [96]), (4, [46]), (5, [42]), (6, [29]), (7, [7]), (8, [96]), (9, [46]), (10, [182, 0, 139]), (13, [87])] : List (Nat × List UInt8)).all (fun x => prB x.2 ((cL_law.data.toList.drop 1536).drop x.1)) = true := by decide +kernel
theorem dL_law_1536 : decode cL_law 1536 = .ok (.aload_n 0, 1) := op42 (bA_at bd09_980_dec_L_0_95 0 rfl rfl)
theorem dL_law_1537 : decode cL_law 1537 = .ok (.iload_n 3, 1) := op29 (bA_at bd09_980_dec_L_0_95 1 rfl rfl)
theorem dL_law_1538 : decode cL_law 1538 = .ok (.iconst 3, 1) := op6 (bA_at bd09_980_dec_L_0_95 2 rfl rfl)
theorem dL_law_1539 : decode cL_law 1539 = .ok (.iadd, 1) := op96 (bA_at bd09_980_dec_L_0_95 3 rfl rfl)
theorem dL_law_1540 : decode cL_law 1540 = .ok (.iaload, 1) := op46 (bA_at bd09_980_dec_L_0_95 4 rfl rfl)
theorem dL_law_1541 : decode cL_law 1541 = .ok (.aload_n 0, 1) := op42 (bA_at bd09_980_dec_L_0_95 5 rfl rfl)
theorem dL_law_1542 : decode cL_law 1542 = .ok (.iload_n 3, 1) := op29 (bA_at bd09_980_dec_L_0_95 6 rfl rfl)
theorem dL_law_1543 : decode cL_law 1543 = .ok (.iconst 4, 1) := op7 (bA_at bd09_980_dec_L_0_95 7 rfl rfl)
theorem dL_law_1544 : decode cL_law 1544 = .ok (.iadd, 1) := op96 (bA_at bd09_980_dec_L_0_95 8 rfl rfl)
theorem dL_law_1545 : decode cL_law 1545 = .ok (.iaload, 1) := op46 (bA_at bd09_980_dec_L_0_95 9 rfl rfl)
theorem dL_law_1546 : decode cL_law 1546 = .ok (.invokevirtual 139, 3) := op182 (bA_at bd09_980_dec_L_0_95 10 rfl rfl) rfl
theorem dL_law_1549 : decode cL_law 1549 = .ok (.pop, 1) := op87 (bA_at bd09_980_dec_L_0_95 11 rfl rfl)
theorem bd09_980_dec_L_0_96 : ([(0, [44]), (1, [42]), (2, [29]), (3, [4]), (4, [96]), (5, [46]), (6, [42]), (7, [29]), (8, [5]), (9, [96]), (10, [46]), (11, [42])] : List (Nat × List UInt8)).all (fun x => prB x.2 ((cL_law.data.toList.drop 1550).drop x.1)) = true := by decide +kernel
theorem dL_law_1550 : decode cL_law 1550 = .ok (.aload_n 2, 1) := op44 (bA_at bd09_980_dec_L_0_96 0 rfl rfl)
theorem dL_law_1551 : decode cL_law 1551 = .ok (.aload_n 0, 1) := op42 (bA_at bd09_980_dec_L_0_96 1 rfl rfl)
theorem dL_law_1552 : decode cL_law 1552 = .ok (.iload_n 3, 1) := op29 (bA_at bd09_980_dec_L_0_96 2 rfl rfl)
theorem dL_law_1553 : decode cL_law 1553 = .ok (.iconst 1, 1) := op4 (bA_at bd09_980_dec_L_0_96 3 rfl rfl)
theorem dL_law_1554 : decode cL_law 1554 = .ok (.iadd, 1) := op96 (bA_at bd09_980_dec_L_0_96 4 rfl rfl)
theorem dL_law_1555 : decode cL_law 1555 = .ok (.iaload, 1) := op46 (bA_at bd09_980_dec_L_0_96 5 rfl rfl)
theorem dL_law_1556 : decode cL_law 1556 = .ok (.aload_n 0, 1) := op42 (bA_at bd09_980_dec_L_0_96 6 rfl rfl)
theorem dL_law_1557 : decode cL_law 1557 = .ok (.iload_n 3, 1) := op29 (bA_at bd09_980_dec_L_0_96 7 rfl rfl)
theorem dL_law_1558 : decode cL_law 1558 = .ok (.iconst 2, 1) := op5 (bA_at bd09_980_dec_L_0_96 8 rfl rfl)
theorem dL_law_1559 : decode cL_law 1559 = .ok (.iadd, 1) := op96 (bA_at bd09_980_dec_L_0_96 9 rfl rfl)
theorem dL_law_1560 : decode cL_law 1560 = .ok (.iaload, 1) := op46 (bA_at bd09_980_dec_L_0_96 10 rfl rfl)
theorem dL_law_1561 : decode cL_law 1561 = .ok (.aload_n 0, 1) := op42 (bA_at bd09_980_dec_L_0_96 11 rfl rfl)
theorem bd09_980_dec_L_0_97 : ([(0, [29]), (1, [6]), (2, [96]), (3, [46]), (4, [42]), (5, [29]), (6, [7]), (7, [96]), (8, [46]), (9, [182, 0, 142]), (12, [87]), (13, [167, 0, 72])] : List (Nat × List UInt8)).all (fun x => prB x.2 ((cL_law.data.toList.drop 1562).drop x.1)) = true := by decide +kernel
theorem dL_law_1562 : decode cL_law 1562 = .ok (.iload_n 3, 1) := op29 (bA_at bd09_980_dec_L_0_97 0 rfl rfl)
theorem dL_law_1563 : decode cL_law 1563 = .ok (.iconst 3, 1) := op6 (bA_at bd09_980_dec_L_0_97 1 rfl rfl)
theorem dL_law_1564 : decode cL_law 1564 = .ok (.iadd, 1) := op96 (bA_at bd09_980_dec_L_0_97 2 rfl rfl)
theorem dL_law_1565 : decode cL_law 1565 = .ok (.iaload, 1) := op46 (bA_at bd09_980_dec_L_0_97 3 rfl rfl)
theorem dL_law_1566 : decode cL_law 1566 = .ok (.aload_n 0, 1) := op42 (bA_at bd09_980_dec_L_0_97 4 rfl rfl)
theorem dL_law_1567 : decode cL_law 1567 = .ok (.iload_n 3, 1) := op29 (bA_at bd09_980_dec_L_0_97 5 rfl rfl)
theorem dL_law_1568 : decode cL_law 1568 = .ok (.iconst 4, 1) := op7 (bA_at bd09_980_dec_L_0_97 6 rfl rfl)
theorem dL_law_1569 : decode cL_law 1569 = .ok (.iadd, 1) := op96 (bA_at bd09_980_dec_L_0_97 7 rfl rfl)
theorem dL_law_1570 : decode cL_law 1570 = .ok (.iaload, 1) := op46 (bA_at bd09_980_dec_L_0_97 8 rfl rfl)
theorem dL_law_1571 : decode cL_law 1571 = .ok (.invokevirtual 142, 3) := op182 (bA_at bd09_980_dec_L_0_97 9 rfl rfl) rfl
theorem dL_law_1574 : decode cL_law 1574 = .ok (.pop, 1) := op87 (bA_at bd09_980_dec_L_0_97 10 rfl rfl)
theorem dL_law_1575 : decode cL_law 1575 = .ok (.goto 72, 3) := op167 (bA_at bd09_980_dec_L_0_97 11 rfl rfl) (by decide +kernel)
theorem bd09_980_dec_L_0_98 : ([(0, [43]), (1, [42]), (2, [29]), (3, [4]), (4, [96]), (5, [46]), (6, [182, 0, 143]), (9, [87]), (10, [44]), (11, [42]), (12, [29]), (13, [4])] : List (Nat × List UInt8)).all (fun x => prB x.2 ((cL_law.data.toList.drop 1578).drop x.1)) = true := by decide +kernel
theorem dL_law_1578 : decode cL_law 1578 = .ok (.aload_n 1, 1) := op43 (bA_at bd09_980_dec_L_0_98 0 rfl rfl)
theorem dL_law_1579 : decode cL_law 1579 = .ok (.aload_n 0, 1) := op42 (bA_at bd09_980_dec_L_0_98 1 rfl rfl)
theorem dL_law_1580 : decode cL_law 1580 = .ok (.iload_n 3, 1) := op29 (bA_at bd09_980_dec_L_0_98 2 rfl rfl)
theorem dL_law_1581 : decode cL_law 1581 = .ok (.iconst 1, 1) := op4 (bA_at bd09_980_dec_L_0_98 3 rfl rfl)
theorem dL_law_1582 : decode cL_law 1582 = .ok (.iadd, 1) := op96 (bA_at bd09_980_dec_L_0_98 4 rfl rfl)
theorem dL_law_1583 : decode cL_law 1583 = .ok (.iaload, 1) := op46 (bA_at bd09_980_dec_L_0_98 5 rfl rfl)
theorem dL_law_1584 : decode cL_law 1584 = .ok (.invokevirtual 143, 3) := op182 (bA_at bd09_980_dec_L_0_98 6 rfl rfl) rfl
theorem dL_law_1587 : decode cL_law 1587 = .ok (.pop, 1) := op87 (bA_at bd09_980_dec_L_0_98 7 rfl rfl)
theorem dL_law_1588 : decode cL_law 1588 = .ok (.aload_n 2, 1) := op44 (bA_at bd09_980_dec_L_0_98 8 rfl rfl)
theorem dL_law_1589 : decode cL_law 1589 = .ok (.aload_n 0, 1) := op42 (bA_at bd09_980_dec_L_0_98 9 rfl rfl)
theorem dL_law_1590 : decode cL_law 1590 = .ok (.iload_n 3, 1) := op29 (bA_at bd09_980_dec_L_0_98 10 rfl rfl)
theorem dL_law_1591 : decode cL_law 1591 = .ok (.iconst 1, 1) := op4 (bA_at bd09_980_dec_L_0_98 11 rfl rfl)
theorem bd09_980_dec_L_0_99 : ([(0, [96]), (1, [46]), (2, [182, 0, 146]), (5, [87]), (6, [167, 0, 49]), (9, [43]), (10, [42]), (11, [29]), (12, [4]), (13, [96]), (14, [46]), (15, [182, 0, 147])] : List (Nat × List UInt8)).all (fun x => prB x.2 ((cL_law.data.toList.drop 1592).drop x.1)) = true := by decide +kernel
theorem dL_law_1592 : decode cL_law 1592 = .ok (.iadd, 1) := op96 (bA_at bd09_980_dec_L_0_99 0 rfl rfl)
theorem dL_law_1593 : decode cL_law 1593 = .ok (.iaload, 1) := op46 (bA_at bd09_980_dec_L_0_99 1 rfl rfl)
theorem dL_law_1594 : decode cL_law 1594 = .ok (.invokevirtual 146, 3) := op182 (bA_at bd09_980_dec_L_0_99 2 rfl rfl) rfl
theorem dL_law_1597 : decode cL_law 1597 = .ok (.pop, 1) := op87 (bA_at bd09_980_dec_L_0_99 3 rfl rfl)
theorem dL_law_1598 : decode cL_law 1598 = .ok (.goto 49, 3) := op167 (bA_at bd09_980_dec_L_0_99 4 rfl rfl) (by decide +kernel)
theorem dL_law_1601 : decode cL_law 1601 = .ok (.aload_n 1, 1) := op43 (bA_at bd09_980_dec_L_0_99 5 rfl rfl)
theorem dL_law_1602 : decode cL_law 1602 = .ok (.aload_n 0, 1) := op42 (bA_at bd09_980_dec_L_0_99 6 rfl rfl)
theorem dL_law_1603 : decode cL_law 1603 = .ok (.iload_n 3, 1) := op29 (bA_at bd09_980_dec_L_0_99 7 rfl rfl)
theorem dL_law_1604 : decode cL_law 1604 = .ok (.iconst 1, 1) := op4 (bA_at bd09_980_dec_L_0_99 8 rfl rfl)
theorem dL_law_1605 : decode cL_law 1605 = .ok (.iadd, 1) := op96 (bA_at bd09_980_dec_L_0_99 9 rfl rfl)
theorem dL_law_1606 : decode cL_law 1606 = .ok (.iaload, 1) := op46 (bA_at bd09_980_dec_L_0_99 10 rfl rfl)
theorem dL_law_1607 : decode cL_law 1607 = .ok (.invokevirtual 147, 3) := op182 (bA_at bd09_980_dec_L_0_99 11 rfl rfl) rfl
theorem bd09_980_dec_L_0_100 : ([(0, [87]), (1, [44]), (2, [42]), (3, [29]), (4, [4]), (5, [96]), (6, [46]), (7, [182, 0, 151]), (10, [87]), (11, [167, 0, 26]), (14, [43]), (15, [42])] : List (Nat × List UInt8)).all (fun x => prB x.2 ((cL_law.data.toList.drop 1610).drop x.1)) = true := by decide +kernel
theorem dL_law_1610 : decode cL_law 1610 = .ok (.pop, 1) := op87 (bA_at bd09_980_dec_L_0_100 0 rfl rfl)
theorem dL_law_1611 : decode cL_law 1611 = .ok (.aload_n 2, 1) := op44 (bA_at bd09_980_dec_L_0_100 1 rfl rfl)
theorem dL_law_1612 : decode cL_law 1612 = .ok (.aload_n 0, 1) := op42 (bA_at bd09_980_dec_L_0_100 2 rfl rfl)
theorem dL_law_1613 : decode cL_law 1613 = .ok (.iload_n 3, 1) := op29 (bA_at bd09_980_dec_L_0_100 3 rfl rfl)
theorem dL_law_1614 : decode cL_law 1614 = .ok (.iconst 1, 1) := op4 (bA_at bd09_980_dec_L_0_100 4 rfl rfl)
theorem dL_law_1615 : decode cL_law 1615 = .ok (.iadd, 1) := op96 (bA_at bd09_980_dec_L_0_100 5 rfl rfl)
theorem dL_law_1616 : decode cL_law 1616 = .ok (.iaload, 1) := op46 (bA_at bd09_980_dec_L_0_100 6 rfl rfl)
theorem dL_law_1617 : decode cL_law 1617 = .ok (.invokevirtual 151, 3) := op182 (bA_at bd09_980_dec_L_0_100 7 rfl rfl) rfl
theorem dL_law_1620 : decode cL_law 1620 = .ok (.pop, 1) := op87 (bA_at bd09_980_dec_L_0_100 8 rfl rfl)
theorem dL_law_1621 : decode cL_law 1621 = .ok (.goto 26, 3) := op167 (bA_at bd09_980_dec_L_0_100 9 rfl rfl) (by decide +kernel)
theorem dL_law_1624 : decode cL_law 1624 = .ok (.aload_n 1, 1) := op43 (bA_at bd09_980_dec_L_0_100 10 rfl rfl)
theorem dL_law_1625 : decode cL_law 1625 = .ok (.aload_n 0, 1) := op42 (bA_at bd09_980_dec_L_0_100 11 rfl rfl)
theorem bd09_980_dec_L_0_101 : ([(0, [29]), (1, [4]), (2, [96]), (3, [46]), (4, [182, 0, 152]), (7, [87]), (8, [44]), (9, [42]), (10, [29]), (11, [4]), (12, [96]), (13, [46])] : List (Nat × List UInt8)).all (fun x => prB x.2 ((cL_law.data.toList.drop 1626).drop x.1)) = true := by decide +kernel
theorem dL_law_1626 : decode cL_law 1626 = .ok (.iload_n 3, 1) := op29 (bA_at bd09_980_dec_L_0_101 0 rfl rfl)
theorem dL_law_1627 : decode cL_law 1627 = .ok (.iconst 1, 1) := op4 (bA_at bd09_980_dec_L_0_101 1 rfl rfl)
theorem dL_law_1628 : decode cL_law 1628 = .ok (.iadd, 1) := op96 (bA_at bd09_980_dec_L_0_101 2 rfl rfl)
theorem dL_law_1629 : decode cL_law 1629 = .ok (.iaload, 1) := op46 (bA_at bd09_980_dec_L_0_101 3 rfl rfl)
theorem dL_law_1630 : decode cL_law 1630 = .ok (.invokevirtual 152, 3) := op182 (bA_at bd09_980_dec_L_0_101 4 rfl rfl) rfl
theorem dL_law_1633 : decode cL_law 1633 = .ok (.pop, 1) := op87 (bA_at bd09_980_dec_L_0_101 5 rfl rfl)
theorem dL_law_1634 : decode cL_law 1634 = .ok (.aload_n 2, 1) := op44 (bA_at bd09_980_dec_L_0_101 6 rfl rfl)
theorem dL_law_1635 : decode cL_law 1635 = .ok (.aload_n 0, 1) := op42 (bA_at bd09_980_dec_L_0_101 7 rfl rfl)
theorem dL_law_1636 : decode cL_law 1636 = .ok (.iload_n 3, 1) := op29 (bA_at bd09_980_dec_L_0_101 8 rfl rfl)
theorem dL_law_1637 : decode cL_law 1637 = .ok (.iconst 1, 1) := op4 (bA_at bd09_980_dec_L_0_101 9 rfl rfl)
theorem dL_law_1638 : decode cL_law 1638 = .ok (.iadd, 1) := op96 (bA_at bd09_980_dec_L_0_101 10 rfl rfl)
theorem dL_law_1639 : decode cL_law 1639 = .ok (.iaload, 1) := op46 (bA_at bd09_980_dec_L_0_101 11 rfl rfl)
theorem bd09_980_dec_L_0_102 : ([(0, [182, 0, 155]), (3, [87]), (4, [167, 0, 3]), (7, [132, 3, 6]), (10, [167, 249, 160]), (13, [4]), (14, [172])] : List (Nat × List UInt8)).all (fun x => prB x.2 ((cL_law.data.toList.drop 1640).drop x.1)) = true := by decide +kernel
theorem dL_law_1640 : decode cL_law 1640 = .ok (.invokevirtual 155, 3) := op182 (bA_at bd09_980_dec_L_0_102 0 rfl rfl) rfl
theorem dL_law_1643 : decode cL_law 1643 = .ok (.pop, 1) := op87 (bA_at bd09_980_dec_L_0_102 1 rfl rfl)
theorem dL_law_1644 : decode cL_law 1644 = .ok (.goto 3, 3) := op167 (bA_at bd09_980_dec_L_0_102 2 rfl rfl) (by decide +kernel)
theorem dL_law_1647 : decode cL_law 1647 = .ok (.iinc 3 6, 3) := op132 (bA_at bd09_980_dec_L_0_102 3 rfl rfl) rfl (by decide +kernel)
theorem dL_law_1650 : decode cL_law 1650 = .ok (.goto (-1632), 3) := op167 (bA_at bd09_980_dec_L_0_102 4 rfl rfl) (by decide +kernel)
theorem dL_law_1653 : decode cL_law 1653 = .ok (.iconst 1, 1) := op4 (bA_at bd09_980_dec_L_0_102 5 rfl rfl)
theorem dL_law_1654 : decode cL_law 1654 = .ok (.ireturn, 1) := op172 (bA_at bd09_980_dec_L_0_102 6 rfl rfl)
end
section
set_option maxRecDepth 1000000 in
theorem bw09_9810_law_0_e : pickC [166, 0, 0, 407, 0, 0, 0, 4, 0, 0, 0, 0, 0, 0, 0, 194, 0, 0, 0, 0, 0, 0, 0, 28, 0, 0, 0, 0, 0, 0, 0, 8, 0, 0, 0, 59, 0, 0, 0, 49, 0, 0, 0, 22, 0, 0, 0, 26, 0, 0, 0, 5, 0, 0, 0, 18, 0, 0, 0, 18, 0, 0, 0, 9, 0, 0, 0, 8, 0, 0, 0, 24, 0, 0, 0, 37, 0, 0, 0, 12, 0, 0, 0, 8, 0, 0, 0, 10, 0, 0, 0, 6, 0, 0, 0, 9, 0, 0, 0, 10] lw_tbl = [Cond.classLink RL 7 RX10, Cond.instantiable RX10 7, Cond.methodLink RL 9 yX10_init, Cond.methodLink RL 13 yX10_feed, Cond.instanceMethod yX10_feed, Cond.selects RX10 yX10_feed yX10_feed, Cond.code yX10_feed cX10_feed 6 (some .int), Cond.methodLink RL 18 yX10_end, Cond.instanceMethod yX10_end, Cond.selects RX10 yX10_end yX10_end, Cond.code yX10_end cX10_end 2 (some .int), Cond.methodLink RL 23 yX10_text, Cond.instanceMethod yX10_text, Cond.selects RX10 yX10_text yX10_text, Cond.code yX10_text cX10_text 5 (some .int), Cond.methodLink RL 28 yX10_fault, Cond.instanceMethod yX10_fault, Cond.selects RX10 yX10_fault yX10_fault, Cond.code yX10_fault cX10_fault 2 (some .int), Cond.methodLink RL 32 yX10_land, Cond.instanceMethod yX10_land, Cond.selects RX10 yX10_land yX10_land, Cond.code yX10_land cX10_land 4 (some .int), Cond.methodLink RL 36 yX10_echo, Cond.instanceMethod yX10_echo, Cond.selects RX10 yX10_echo yX10_echo, Cond.code yX10_echo cX10_echo 5 (some .int), Cond.methodLink RL 41 yX10_deed, Cond.instanceMethod yX10_deed, Cond.selects RX10 yX10_deed yX10_deed, Cond.code yX10_deed cX10_deed 5 (some .int), Cond.methodLink RL 45 yX10_stop, Cond.instanceMethod yX10_stop, Cond.selects RX10 yX10_stop yX10_stop, Cond.code yX10_stop cX10_stop 5 (some .int), Cond.methodLink RL 49 yX10_state, Cond.instanceMethod yX10_state, Cond.selects RX10 yX10_state yX10_state, Cond.code yX10_state cX10_state 5 (some .int), Cond.methodLink RL 54 yX10_comes, Cond.instanceMethod yX10_comes, Cond.selects RX10 yX10_comes yX10_comes, Cond.code yX10_comes cX10_comes 5 (some .int), Cond.methodLink RL 58 yX10_villages, Cond.instanceMethod yX10_villages, Cond.selects RX10 yX10_villages yX10_villages, Cond.code yX10_villages cX10_villages 5 (some .int), Cond.methodLink RL 62 yX10_best, Cond.instanceMethod yX10_best, Cond.selects RX10 yX10_best yX10_best, Cond.code yX10_best cX10_best 5 (some .int), Cond.methodLink RL 67 yX10_routes, Cond.instanceMethod yX10_routes, Cond.selects RX10 yX10_routes yX10_routes, Cond.code yX10_routes cX10_routes 6 (some .int), Cond.methodLink RL 71 yX10_mutes, Cond.instanceMethod yX10_mutes, Cond.selects RX10 yX10_mutes yX10_mutes, Cond.code yX10_mutes cX10_mutes 5 (some .int), Cond.methodLink RL 75 yX10_masses, Cond.instanceMethod yX10_masses, Cond.selects RX10 yX10_masses yX10_masses, Cond.code yX10_masses cX10_masses 6 (some .int), Cond.methodLink RL 80 yX10_fact, Cond.instanceMethod yX10_fact, Cond.selects RX10 yX10_fact yX10_fact, Cond.code yX10_fact cX10_fact 5 (some .int), Cond.methodLink RL 84 yX10_fits, Cond.instanceMethod yX10_fits, Cond.selects RX10 yX10_fits yX10_fits, Cond.code yX10_fits cX10_fits 7 (some .int), Cond.methodLink RL 88 yX10_choir, Cond.instanceMethod yX10_choir, Cond.selects RX10 yX10_choir yX10_choir, Cond.code yX10_choir cX10_choir 4 (some .int), Cond.methodLink RL 92 yX10_orders, Cond.instanceMethod yX10_orders, Cond.selects RX10 yX10_orders yX10_orders, Cond.code yX10_orders cX10_orders 3 (some .long), Cond.methodLink RL 97 yX10_order, Cond.instanceMethod yX10_order, Cond.selects RX10 yX10_order yX10_order, Cond.code yX10_order cX10_order 4 (some .int), Cond.methodLink RL 101 yX10_trade, Cond.instanceMethod yX10_trade, Cond.selects RX10 yX10_trade yX10_trade, Cond.code yX10_trade cX10_trade 6 (some .int), Cond.methodLink RL 106 yX10_odds, Cond.instanceMethod yX10_odds, Cond.selects RX10 yX10_odds yX10_odds, Cond.code yX10_odds cX10_odds 7 (some .long), Cond.methodLink RL 111 yX10_drawn, Cond.instanceMethod yX10_drawn, Cond.selects RX10 yX10_drawn yX10_drawn, Cond.code yX10_drawn cX10_drawn 6 (some .int), Cond.methodLink RL 115 yX10_psalm, Cond.instanceMethod yX10_psalm, Cond.selects RX10 yX10_psalm yX10_psalm, Cond.code yX10_psalm cX10_psalm 7 (some .int), Cond.methodLink RL 119 yX10_meet] := rfl
theorem bw09_9810_law_0 : ∀ (i : Nat) (w : Cond), ([Cond.classLink RL 7 RX10, Cond.instantiable RX10 7, Cond.methodLink RL 9 yX10_init, Cond.methodLink RL 13 yX10_feed, Cond.instanceMethod yX10_feed, Cond.selects RX10 yX10_feed yX10_feed, Cond.code yX10_feed cX10_feed 6 (some .int), Cond.methodLink RL 18 yX10_end, Cond.instanceMethod yX10_end, Cond.selects RX10 yX10_end yX10_end, Cond.code yX10_end cX10_end 2 (some .int), Cond.methodLink RL 23 yX10_text, Cond.instanceMethod yX10_text, Cond.selects RX10 yX10_text yX10_text, Cond.code yX10_text cX10_text 5 (some .int), Cond.methodLink RL 28 yX10_fault, Cond.instanceMethod yX10_fault, Cond.selects RX10 yX10_fault yX10_fault, Cond.code yX10_fault cX10_fault 2 (some .int), Cond.methodLink RL 32 yX10_land, Cond.instanceMethod yX10_land, Cond.selects RX10 yX10_land yX10_land, Cond.code yX10_land cX10_land 4 (some .int), Cond.methodLink RL 36 yX10_echo, Cond.instanceMethod yX10_echo, Cond.selects RX10 yX10_echo yX10_echo, Cond.code yX10_echo cX10_echo 5 (some .int), Cond.methodLink RL 41 yX10_deed, Cond.instanceMethod yX10_deed, Cond.selects RX10 yX10_deed yX10_deed, Cond.code yX10_deed cX10_deed 5 (some .int), Cond.methodLink RL 45 yX10_stop, Cond.instanceMethod yX10_stop, Cond.selects RX10 yX10_stop yX10_stop, Cond.code yX10_stop cX10_stop 5 (some .int), Cond.methodLink RL 49 yX10_state, Cond.instanceMethod yX10_state, Cond.selects RX10 yX10_state yX10_state, Cond.code yX10_state cX10_state 5 (some .int), Cond.methodLink RL 54 yX10_comes, Cond.instanceMethod yX10_comes, Cond.selects RX10 yX10_comes yX10_comes, Cond.code yX10_comes cX10_comes 5 (some .int), Cond.methodLink RL 58 yX10_villages, Cond.instanceMethod yX10_villages, Cond.selects RX10 yX10_villages yX10_villages, Cond.code yX10_villages cX10_villages 5 (some .int), Cond.methodLink RL 62 yX10_best, Cond.instanceMethod yX10_best, Cond.selects RX10 yX10_best yX10_best, Cond.code yX10_best cX10_best 5 (some .int), Cond.methodLink RL 67 yX10_routes, Cond.instanceMethod yX10_routes, Cond.selects RX10 yX10_routes yX10_routes, Cond.code yX10_routes cX10_routes 6 (some .int), Cond.methodLink RL 71 yX10_mutes, Cond.instanceMethod yX10_mutes, Cond.selects RX10 yX10_mutes yX10_mutes, Cond.code yX10_mutes cX10_mutes 5 (some .int), Cond.methodLink RL 75 yX10_masses, Cond.instanceMethod yX10_masses, Cond.selects RX10 yX10_masses yX10_masses, Cond.code yX10_masses cX10_masses 6 (some .int), Cond.methodLink RL 80 yX10_fact, Cond.instanceMethod yX10_fact, Cond.selects RX10 yX10_fact yX10_fact, Cond.code yX10_fact cX10_fact 5 (some .int), Cond.methodLink RL 84 yX10_fits, Cond.instanceMethod yX10_fits, Cond.selects RX10 yX10_fits yX10_fits, Cond.code yX10_fits cX10_fits 7 (some .int), Cond.methodLink RL 88 yX10_choir, Cond.instanceMethod yX10_choir, Cond.selects RX10 yX10_choir yX10_choir, Cond.code yX10_choir cX10_choir 4 (some .int), Cond.methodLink RL 92 yX10_orders, Cond.instanceMethod yX10_orders, Cond.selects RX10 yX10_orders yX10_orders, Cond.code yX10_orders cX10_orders 3 (some .long), Cond.methodLink RL 97 yX10_order, Cond.instanceMethod yX10_order, Cond.selects RX10 yX10_order yX10_order, Cond.code yX10_order cX10_order 4 (some .int), Cond.methodLink RL 101 yX10_trade, Cond.instanceMethod yX10_trade, Cond.selects RX10 yX10_trade yX10_trade, Cond.code yX10_trade cX10_trade 6 (some .int), Cond.methodLink RL 106 yX10_odds, Cond.instanceMethod yX10_odds, Cond.selects RX10 yX10_odds yX10_odds, Cond.code yX10_odds cX10_odds 7 (some .long), Cond.methodLink RL 111 yX10_drawn, Cond.instanceMethod yX10_drawn, Cond.selects RX10 yX10_drawn yX10_drawn, Cond.code yX10_drawn cX10_drawn 6 (some .int), Cond.methodLink RL 115 yX10_psalm, Cond.instanceMethod yX10_psalm, Cond.selects RX10 yX10_psalm yX10_psalm, Cond.code yX10_psalm cX10_psalm 7 (some .int), Cond.methodLink RL 119 yX10_meet] : List Cond)[i]? = some w → w ∈ zb := fun i w e => pick_zb bw09_9810_law_0_e (by decide +kernel) w (List.mem_of_getElem? e)
theorem kclL_7 : Cond.classLink RL 7 RX10 ∈ zb := bw09_9810_law_0 0 _ rfl
theorem kins_10 : Cond.instantiable RX10 7 ∈ zb := bw09_9810_law_0 1 _ rfl
theorem kmL_9 : Cond.methodLink RL 9 yX10_init ∈ zb := bw09_9810_law_0 2 _ rfl
theorem kmL_13 : Cond.methodLink RL 13 yX10_feed ∈ zb := bw09_9810_law_0 3 _ rfl
theorem kin_X10_feed : Cond.instanceMethod yX10_feed ∈ zb := bw09_9810_law_0 4 _ rfl
theorem kse_X10_feed : Cond.selects RX10 yX10_feed yX10_feed ∈ zb := bw09_9810_law_0 5 _ rfl
theorem kcode_X10_feed : Cond.code yX10_feed cX10_feed 6 (some .int) ∈ zb := bw09_9810_law_0 6 _ rfl
theorem kmL_18 : Cond.methodLink RL 18 yX10_end ∈ zb := bw09_9810_law_0 7 _ rfl
theorem kin_X10_end : Cond.instanceMethod yX10_end ∈ zb := bw09_9810_law_0 8 _ rfl
theorem kse_X10_end : Cond.selects RX10 yX10_end yX10_end ∈ zb := bw09_9810_law_0 9 _ rfl
theorem kcode_X10_end : Cond.code yX10_end cX10_end 2 (some .int) ∈ zb := bw09_9810_law_0 10 _ rfl
theorem kmL_23 : Cond.methodLink RL 23 yX10_text ∈ zb := bw09_9810_law_0 11 _ rfl
theorem kin_X10_text : Cond.instanceMethod yX10_text ∈ zb := bw09_9810_law_0 12 _ rfl
theorem kse_X10_text : Cond.selects RX10 yX10_text yX10_text ∈ zb := bw09_9810_law_0 13 _ rfl
theorem kcode_X10_text : Cond.code yX10_text cX10_text 5 (some .int) ∈ zb := bw09_9810_law_0 14 _ rfl
theorem kmL_28 : Cond.methodLink RL 28 yX10_fault ∈ zb := bw09_9810_law_0 15 _ rfl
theorem kin_X10_fault : Cond.instanceMethod yX10_fault ∈ zb := bw09_9810_law_0 16 _ rfl
theorem kse_X10_fault : Cond.selects RX10 yX10_fault yX10_fault ∈ zb := bw09_9810_law_0 17 _ rfl
theorem kcode_X10_fault : Cond.code yX10_fault cX10_fault 2 (some .int) ∈ zb := bw09_9810_law_0 18 _ rfl
theorem kmL_32 : Cond.methodLink RL 32 yX10_land ∈ zb := bw09_9810_law_0 19 _ rfl
theorem kin_X10_land : Cond.instanceMethod yX10_land ∈ zb := bw09_9810_law_0 20 _ rfl
theorem kse_X10_land : Cond.selects RX10 yX10_land yX10_land ∈ zb := bw09_9810_law_0 21 _ rfl
theorem kcode_X10_land : Cond.code yX10_land cX10_land 4 (some .int) ∈ zb := bw09_9810_law_0 22 _ rfl
theorem kmL_36 : Cond.methodLink RL 36 yX10_echo ∈ zb := bw09_9810_law_0 23 _ rfl
theorem kin_X10_echo : Cond.instanceMethod yX10_echo ∈ zb := bw09_9810_law_0 24 _ rfl
theorem kse_X10_echo : Cond.selects RX10 yX10_echo yX10_echo ∈ zb := bw09_9810_law_0 25 _ rfl
theorem kcode_X10_echo : Cond.code yX10_echo cX10_echo 5 (some .int) ∈ zb := bw09_9810_law_0 26 _ rfl
theorem kmL_41 : Cond.methodLink RL 41 yX10_deed ∈ zb := bw09_9810_law_0 27 _ rfl
theorem kin_X10_deed : Cond.instanceMethod yX10_deed ∈ zb := bw09_9810_law_0 28 _ rfl
theorem kse_X10_deed : Cond.selects RX10 yX10_deed yX10_deed ∈ zb := bw09_9810_law_0 29 _ rfl
theorem kcode_X10_deed : Cond.code yX10_deed cX10_deed 5 (some .int) ∈ zb := bw09_9810_law_0 30 _ rfl
theorem kmL_45 : Cond.methodLink RL 45 yX10_stop ∈ zb := bw09_9810_law_0 31 _ rfl
theorem kin_X10_stop : Cond.instanceMethod yX10_stop ∈ zb := bw09_9810_law_0 32 _ rfl
theorem kse_X10_stop : Cond.selects RX10 yX10_stop yX10_stop ∈ zb := bw09_9810_law_0 33 _ rfl
theorem kcode_X10_stop : Cond.code yX10_stop cX10_stop 5 (some .int) ∈ zb := bw09_9810_law_0 34 _ rfl
theorem kmL_49 : Cond.methodLink RL 49 yX10_state ∈ zb := bw09_9810_law_0 35 _ rfl
theorem kin_X10_state : Cond.instanceMethod yX10_state ∈ zb := bw09_9810_law_0 36 _ rfl
theorem kse_X10_state : Cond.selects RX10 yX10_state yX10_state ∈ zb := bw09_9810_law_0 37 _ rfl
theorem kcode_X10_state : Cond.code yX10_state cX10_state 5 (some .int) ∈ zb := bw09_9810_law_0 38 _ rfl
theorem kmL_54 : Cond.methodLink RL 54 yX10_comes ∈ zb := bw09_9810_law_0 39 _ rfl
theorem kin_X10_comes : Cond.instanceMethod yX10_comes ∈ zb := bw09_9810_law_0 40 _ rfl
theorem kse_X10_comes : Cond.selects RX10 yX10_comes yX10_comes ∈ zb := bw09_9810_law_0 41 _ rfl
theorem kcode_X10_comes : Cond.code yX10_comes cX10_comes 5 (some .int) ∈ zb := bw09_9810_law_0 42 _ rfl
theorem kmL_58 : Cond.methodLink RL 58 yX10_villages ∈ zb := bw09_9810_law_0 43 _ rfl
theorem kin_X10_villages : Cond.instanceMethod yX10_villages ∈ zb := bw09_9810_law_0 44 _ rfl
theorem kse_X10_villages : Cond.selects RX10 yX10_villages yX10_villages ∈ zb := bw09_9810_law_0 45 _ rfl
theorem kcode_X10_villages : Cond.code yX10_villages cX10_villages 5 (some .int) ∈ zb := bw09_9810_law_0 46 _ rfl
theorem kmL_62 : Cond.methodLink RL 62 yX10_best ∈ zb := bw09_9810_law_0 47 _ rfl
theorem kin_X10_best : Cond.instanceMethod yX10_best ∈ zb := bw09_9810_law_0 48 _ rfl
theorem kse_X10_best : Cond.selects RX10 yX10_best yX10_best ∈ zb := bw09_9810_law_0 49 _ rfl
theorem kcode_X10_best : Cond.code yX10_best cX10_best 5 (some .int) ∈ zb := bw09_9810_law_0 50 _ rfl
theorem kmL_67 : Cond.methodLink RL 67 yX10_routes ∈ zb := bw09_9810_law_0 51 _ rfl
theorem kin_X10_routes : Cond.instanceMethod yX10_routes ∈ zb := bw09_9810_law_0 52 _ rfl
theorem kse_X10_routes : Cond.selects RX10 yX10_routes yX10_routes ∈ zb := bw09_9810_law_0 53 _ rfl
theorem kcode_X10_routes : Cond.code yX10_routes cX10_routes 6 (some .int) ∈ zb := bw09_9810_law_0 54 _ rfl
theorem kmL_71 : Cond.methodLink RL 71 yX10_mutes ∈ zb := bw09_9810_law_0 55 _ rfl
theorem kin_X10_mutes : Cond.instanceMethod yX10_mutes ∈ zb := bw09_9810_law_0 56 _ rfl
theorem kse_X10_mutes : Cond.selects RX10 yX10_mutes yX10_mutes ∈ zb := bw09_9810_law_0 57 _ rfl
theorem kcode_X10_mutes : Cond.code yX10_mutes cX10_mutes 5 (some .int) ∈ zb := bw09_9810_law_0 58 _ rfl
theorem kmL_75 : Cond.methodLink RL 75 yX10_masses ∈ zb := bw09_9810_law_0 59 _ rfl
theorem kin_X10_masses : Cond.instanceMethod yX10_masses ∈ zb := bw09_9810_law_0 60 _ rfl
theorem kse_X10_masses : Cond.selects RX10 yX10_masses yX10_masses ∈ zb := bw09_9810_law_0 61 _ rfl
theorem kcode_X10_masses : Cond.code yX10_masses cX10_masses 6 (some .int) ∈ zb := bw09_9810_law_0 62 _ rfl
theorem kmL_80 : Cond.methodLink RL 80 yX10_fact ∈ zb := bw09_9810_law_0 63 _ rfl
theorem kin_X10_fact : Cond.instanceMethod yX10_fact ∈ zb := bw09_9810_law_0 64 _ rfl
theorem kse_X10_fact : Cond.selects RX10 yX10_fact yX10_fact ∈ zb := bw09_9810_law_0 65 _ rfl
theorem kcode_X10_fact : Cond.code yX10_fact cX10_fact 5 (some .int) ∈ zb := bw09_9810_law_0 66 _ rfl
theorem kmL_84 : Cond.methodLink RL 84 yX10_fits ∈ zb := bw09_9810_law_0 67 _ rfl
theorem kin_X10_fits : Cond.instanceMethod yX10_fits ∈ zb := bw09_9810_law_0 68 _ rfl
theorem kse_X10_fits : Cond.selects RX10 yX10_fits yX10_fits ∈ zb := bw09_9810_law_0 69 _ rfl
theorem kcode_X10_fits : Cond.code yX10_fits cX10_fits 7 (some .int) ∈ zb := bw09_9810_law_0 70 _ rfl
theorem kmL_88 : Cond.methodLink RL 88 yX10_choir ∈ zb := bw09_9810_law_0 71 _ rfl
theorem kin_X10_choir : Cond.instanceMethod yX10_choir ∈ zb := bw09_9810_law_0 72 _ rfl
theorem kse_X10_choir : Cond.selects RX10 yX10_choir yX10_choir ∈ zb := bw09_9810_law_0 73 _ rfl
theorem kcode_X10_choir : Cond.code yX10_choir cX10_choir 4 (some .int) ∈ zb := bw09_9810_law_0 74 _ rfl
theorem kmL_92 : Cond.methodLink RL 92 yX10_orders ∈ zb := bw09_9810_law_0 75 _ rfl
theorem kin_X10_orders : Cond.instanceMethod yX10_orders ∈ zb := bw09_9810_law_0 76 _ rfl
theorem kse_X10_orders : Cond.selects RX10 yX10_orders yX10_orders ∈ zb := bw09_9810_law_0 77 _ rfl
theorem kcode_X10_orders : Cond.code yX10_orders cX10_orders 3 (some .long) ∈ zb := bw09_9810_law_0 78 _ rfl
theorem kmL_97 : Cond.methodLink RL 97 yX10_order ∈ zb := bw09_9810_law_0 79 _ rfl
theorem kin_X10_order : Cond.instanceMethod yX10_order ∈ zb := bw09_9810_law_0 80 _ rfl
theorem kse_X10_order : Cond.selects RX10 yX10_order yX10_order ∈ zb := bw09_9810_law_0 81 _ rfl
theorem kcode_X10_order : Cond.code yX10_order cX10_order 4 (some .int) ∈ zb := bw09_9810_law_0 82 _ rfl
theorem kmL_101 : Cond.methodLink RL 101 yX10_trade ∈ zb := bw09_9810_law_0 83 _ rfl
theorem kin_X10_trade : Cond.instanceMethod yX10_trade ∈ zb := bw09_9810_law_0 84 _ rfl
theorem kse_X10_trade : Cond.selects RX10 yX10_trade yX10_trade ∈ zb := bw09_9810_law_0 85 _ rfl
theorem kcode_X10_trade : Cond.code yX10_trade cX10_trade 6 (some .int) ∈ zb := bw09_9810_law_0 86 _ rfl
theorem kmL_106 : Cond.methodLink RL 106 yX10_odds ∈ zb := bw09_9810_law_0 87 _ rfl
theorem kin_X10_odds : Cond.instanceMethod yX10_odds ∈ zb := bw09_9810_law_0 88 _ rfl
theorem kse_X10_odds : Cond.selects RX10 yX10_odds yX10_odds ∈ zb := bw09_9810_law_0 89 _ rfl
theorem kcode_X10_odds : Cond.code yX10_odds cX10_odds 7 (some .long) ∈ zb := bw09_9810_law_0 90 _ rfl
theorem kmL_111 : Cond.methodLink RL 111 yX10_drawn ∈ zb := bw09_9810_law_0 91 _ rfl
theorem kin_X10_drawn : Cond.instanceMethod yX10_drawn ∈ zb := bw09_9810_law_0 92 _ rfl
theorem kse_X10_drawn : Cond.selects RX10 yX10_drawn yX10_drawn ∈ zb := bw09_9810_law_0 93 _ rfl
theorem kcode_X10_drawn : Cond.code yX10_drawn cX10_drawn 6 (some .int) ∈ zb := bw09_9810_law_0 94 _ rfl
theorem kmL_115 : Cond.methodLink RL 115 yX10_psalm ∈ zb := bw09_9810_law_0 95 _ rfl
theorem kin_X10_psalm : Cond.instanceMethod yX10_psalm ∈ zb := bw09_9810_law_0 96 _ rfl
theorem kse_X10_psalm : Cond.selects RX10 yX10_psalm yX10_psalm ∈ zb := bw09_9810_law_0 97 _ rfl
theorem kcode_X10_psalm : Cond.code yX10_psalm cX10_psalm 7 (some .int) ∈ zb := bw09_9810_law_0 98 _ rfl
theorem kmL_119 : Cond.methodLink RL 119 yX10_meet ∈ zb := bw09_9810_law_0 99 _ rfl
set_option maxRecDepth 1000000 in
theorem bw09_9810_law_1_e : pickC [1237, 0, 0, 6, 0, 0, 0, 4, 0, 0, 0, 0, 0, 0, 0, 21, 0, 0, 0, 4, 0, 0, 0, 12, 0, 0, 0, 0, 12, 3, 0, 0, 162, 0, 0, 0, 4, 0, 0, 0, 3, 0, 0, 0, 142, 0, 0, 0, 0, 0, 0, 0, 24, 0, 0, 0, 0, 0, 0, 0, 12, 0, 0, 0, 55, 0, 0, 0, 28, 0, 0, 0, 11, 0, 0, 0, 27, 0, 0, 0, 0, 0, 0, 0, 12, 0, 0, 0, 5, 0, 0, 0, 4, 0, 0, 0, 12, 0, 0, 0] lw_tbl = [Cond.instanceMethod yX10_meet, Cond.selects RX10 yX10_meet yX10_meet, Cond.code yX10_meet cX10_meet 6 (some .int), Cond.methodLink RL 123 yX10_carry, Cond.instanceMethod yX10_carry, Cond.selects RX10 yX10_carry yX10_carry, Cond.code yX10_carry cX10_carry 5 (some .int), Cond.methodLink RL 127 yX10_join, Cond.instanceMethod yX10_join, Cond.selects RX10 yX10_join yX10_join, Cond.code yX10_join cX10_join 6 (some .int), Cond.methodLink RL 131 yX10_slopes, Cond.instanceMethod yX10_slopes, Cond.selects RX10 yX10_slopes yX10_slopes, Cond.code yX10_slopes cX10_slopes 4 (some .int), Cond.methodLink RL 135 yX10_flood, Cond.instanceMethod yX10_flood, Cond.selects RX10 yX10_flood yX10_flood, Cond.code yX10_flood cX10_flood 7 (some .int), Cond.methodLink RL 139 yX10_teach, Cond.instanceMethod yX10_teach, Cond.selects RX10 yX10_teach yX10_teach, Cond.code yX10_teach cX10_teach 5 (some .int), Cond.methodLink RL 143 yX10_count, Cond.instanceMethod yX10_count, Cond.selects RX10 yX10_count yX10_count, Cond.code yX10_count cX10_count 2 (some .int), Cond.methodLink RL 147 yX10_image, Cond.methodLink RL 152 yX10_again, Cond.classLink RL 10 RX11, Cond.instantiable RX11 52, Cond.methodLink RL 12 yX11_init, Cond.methodLink RL 17 yX11_feed, Cond.instanceMethod yX11_feed, Cond.selects RX11 yX11_feed yX11_feed, Cond.code yX11_feed cX11_feed 6 (some .int), Cond.methodLink RL 22 yX11_end, Cond.instanceMethod yX11_end, Cond.selects RX11 yX11_end yX11_end, Cond.code yX11_end cX11_end 2 (some .int), Cond.methodLink RL 27 yX11_text, Cond.instanceMethod yX11_text, Cond.selects RX11 yX11_text yX11_text, Cond.code yX11_text cX11_text 4 (some .int), Cond.methodLink RL 31 yX11_fault, Cond.instanceMethod yX11_fault, Cond.selects RX11 yX11_fault yX11_fault, Cond.code yX11_fault cX11_fault 2 (some .int), Cond.methodLink RL 35 yX11_land, Cond.instanceMethod yX11_land, Cond.selects RX11 yX11_land yX11_land, Cond.code yX11_land cX11_land 5 (some .int), Cond.methodLink RL 40 yX11_echo, Cond.instanceMethod yX11_echo, Cond.selects RX11 yX11_echo yX11_echo, Cond.code yX11_echo cX11_echo 4 (some .int), Cond.methodLink RL 44 yX11_deed, Cond.instanceMethod yX11_deed, Cond.selects RX11 yX11_deed yX11_deed, Cond.code yX11_deed cX11_deed 4 (some .int), Cond.methodLink RL 48 yX11_stop, Cond.instanceMethod yX11_stop, Cond.selects RX11 yX11_stop yX11_stop, Cond.code yX11_stop cX11_stop 3 (some .int), Cond.methodLink RL 53 yX11_state, Cond.instanceMethod yX11_state, Cond.selects RX11 yX11_state yX11_state, Cond.code yX11_state cX11_state 5 (some .int), Cond.methodLink RL 57 yX11_comes, Cond.instanceMethod yX11_comes, Cond.selects RX11 yX11_comes yX11_comes, Cond.code yX11_comes cX11_comes 4 (some .int), Cond.methodLink RL 61 yX11_villages, Cond.instanceMethod yX11_villages, Cond.selects RX11 yX11_villages yX11_villages, Cond.code yX11_villages cX11_villages 5 (some .int), Cond.methodLink RL 66 yX11_best, Cond.instanceMethod yX11_best, Cond.selects RX11 yX11_best yX11_best, Cond.code yX11_best cX11_best 7 (some .int), Cond.methodLink RL 70 yX11_routes, Cond.instanceMethod yX11_routes, Cond.selects RX11 yX11_routes yX11_routes, Cond.code yX11_routes cX11_routes 5 (some .int), Cond.methodLink RL 74 yX11_mutes, Cond.instanceMethod yX11_mutes, Cond.selects RX11 yX11_mutes yX11_mutes, Cond.code yX11_mutes cX11_mutes 8 (some .int), Cond.methodLink RL 79 yX11_masses, Cond.instanceMethod yX11_masses, Cond.selects RX11 yX11_masses yX11_masses, Cond.code yX11_masses cX11_masses 6 (some .int), Cond.methodLink RL 83 yX11_fact, Cond.instanceMethod yX11_fact, Cond.selects RX11 yX11_fact yX11_fact, Cond.code yX11_fact cX11_fact 4 (some .int), Cond.methodLink RL 87 yX11_fits, Cond.instanceMethod yX11_fits, Cond.selects RX11 yX11_fits yX11_fits, Cond.code yX11_fits cX11_fits 6 (some .int)] := rfl
theorem bw09_9810_law_1 : ∀ (i : Nat) (w : Cond), ([Cond.instanceMethod yX10_meet, Cond.selects RX10 yX10_meet yX10_meet, Cond.code yX10_meet cX10_meet 6 (some .int), Cond.methodLink RL 123 yX10_carry, Cond.instanceMethod yX10_carry, Cond.selects RX10 yX10_carry yX10_carry, Cond.code yX10_carry cX10_carry 5 (some .int), Cond.methodLink RL 127 yX10_join, Cond.instanceMethod yX10_join, Cond.selects RX10 yX10_join yX10_join, Cond.code yX10_join cX10_join 6 (some .int), Cond.methodLink RL 131 yX10_slopes, Cond.instanceMethod yX10_slopes, Cond.selects RX10 yX10_slopes yX10_slopes, Cond.code yX10_slopes cX10_slopes 4 (some .int), Cond.methodLink RL 135 yX10_flood, Cond.instanceMethod yX10_flood, Cond.selects RX10 yX10_flood yX10_flood, Cond.code yX10_flood cX10_flood 7 (some .int), Cond.methodLink RL 139 yX10_teach, Cond.instanceMethod yX10_teach, Cond.selects RX10 yX10_teach yX10_teach, Cond.code yX10_teach cX10_teach 5 (some .int), Cond.methodLink RL 143 yX10_count, Cond.instanceMethod yX10_count, Cond.selects RX10 yX10_count yX10_count, Cond.code yX10_count cX10_count 2 (some .int), Cond.methodLink RL 147 yX10_image, Cond.methodLink RL 152 yX10_again, Cond.classLink RL 10 RX11, Cond.instantiable RX11 52, Cond.methodLink RL 12 yX11_init, Cond.methodLink RL 17 yX11_feed, Cond.instanceMethod yX11_feed, Cond.selects RX11 yX11_feed yX11_feed, Cond.code yX11_feed cX11_feed 6 (some .int), Cond.methodLink RL 22 yX11_end, Cond.instanceMethod yX11_end, Cond.selects RX11 yX11_end yX11_end, Cond.code yX11_end cX11_end 2 (some .int), Cond.methodLink RL 27 yX11_text, Cond.instanceMethod yX11_text, Cond.selects RX11 yX11_text yX11_text, Cond.code yX11_text cX11_text 4 (some .int), Cond.methodLink RL 31 yX11_fault, Cond.instanceMethod yX11_fault, Cond.selects RX11 yX11_fault yX11_fault, Cond.code yX11_fault cX11_fault 2 (some .int), Cond.methodLink RL 35 yX11_land, Cond.instanceMethod yX11_land, Cond.selects RX11 yX11_land yX11_land, Cond.code yX11_land cX11_land 5 (some .int), Cond.methodLink RL 40 yX11_echo, Cond.instanceMethod yX11_echo, Cond.selects RX11 yX11_echo yX11_echo, Cond.code yX11_echo cX11_echo 4 (some .int), Cond.methodLink RL 44 yX11_deed, Cond.instanceMethod yX11_deed, Cond.selects RX11 yX11_deed yX11_deed, Cond.code yX11_deed cX11_deed 4 (some .int), Cond.methodLink RL 48 yX11_stop, Cond.instanceMethod yX11_stop, Cond.selects RX11 yX11_stop yX11_stop, Cond.code yX11_stop cX11_stop 3 (some .int), Cond.methodLink RL 53 yX11_state, Cond.instanceMethod yX11_state, Cond.selects RX11 yX11_state yX11_state, Cond.code yX11_state cX11_state 5 (some .int), Cond.methodLink RL 57 yX11_comes, Cond.instanceMethod yX11_comes, Cond.selects RX11 yX11_comes yX11_comes, Cond.code yX11_comes cX11_comes 4 (some .int), Cond.methodLink RL 61 yX11_villages, Cond.instanceMethod yX11_villages, Cond.selects RX11 yX11_villages yX11_villages, Cond.code yX11_villages cX11_villages 5 (some .int), Cond.methodLink RL 66 yX11_best, Cond.instanceMethod yX11_best, Cond.selects RX11 yX11_best yX11_best, Cond.code yX11_best cX11_best 7 (some .int), Cond.methodLink RL 70 yX11_routes, Cond.instanceMethod yX11_routes, Cond.selects RX11 yX11_routes yX11_routes, Cond.code yX11_routes cX11_routes 5 (some .int), Cond.methodLink RL 74 yX11_mutes, Cond.instanceMethod yX11_mutes, Cond.selects RX11 yX11_mutes yX11_mutes, Cond.code yX11_mutes cX11_mutes 8 (some .int), Cond.methodLink RL 79 yX11_masses, Cond.instanceMethod yX11_masses, Cond.selects RX11 yX11_masses yX11_masses, Cond.code yX11_masses cX11_masses 6 (some .int), Cond.methodLink RL 83 yX11_fact, Cond.instanceMethod yX11_fact, Cond.selects RX11 yX11_fact yX11_fact, Cond.code yX11_fact cX11_fact 4 (some .int), Cond.methodLink RL 87 yX11_fits, Cond.instanceMethod yX11_fits, Cond.selects RX11 yX11_fits yX11_fits, Cond.code yX11_fits cX11_fits 6 (some .int)] : List Cond)[i]? = some w → w ∈ zb := fun i w e => pick_zb bw09_9810_law_1_e (by decide +kernel) w (List.mem_of_getElem? e)
theorem kin_X10_meet : Cond.instanceMethod yX10_meet ∈ zb := bw09_9810_law_1 0 _ rfl
theorem kse_X10_meet : Cond.selects RX10 yX10_meet yX10_meet ∈ zb := bw09_9810_law_1 1 _ rfl
theorem kcode_X10_meet : Cond.code yX10_meet cX10_meet 6 (some .int) ∈ zb := bw09_9810_law_1 2 _ rfl
theorem kmL_123 : Cond.methodLink RL 123 yX10_carry ∈ zb := bw09_9810_law_1 3 _ rfl
theorem kin_X10_carry : Cond.instanceMethod yX10_carry ∈ zb := bw09_9810_law_1 4 _ rfl
theorem kse_X10_carry : Cond.selects RX10 yX10_carry yX10_carry ∈ zb := bw09_9810_law_1 5 _ rfl
theorem kcode_X10_carry : Cond.code yX10_carry cX10_carry 5 (some .int) ∈ zb := bw09_9810_law_1 6 _ rfl
theorem kmL_127 : Cond.methodLink RL 127 yX10_join ∈ zb := bw09_9810_law_1 7 _ rfl
theorem kin_X10_join : Cond.instanceMethod yX10_join ∈ zb := bw09_9810_law_1 8 _ rfl
theorem kse_X10_join : Cond.selects RX10 yX10_join yX10_join ∈ zb := bw09_9810_law_1 9 _ rfl
theorem kcode_X10_join : Cond.code yX10_join cX10_join 6 (some .int) ∈ zb := bw09_9810_law_1 10 _ rfl
theorem kmL_131 : Cond.methodLink RL 131 yX10_slopes ∈ zb := bw09_9810_law_1 11 _ rfl
theorem kin_X10_slopes : Cond.instanceMethod yX10_slopes ∈ zb := bw09_9810_law_1 12 _ rfl
theorem kse_X10_slopes : Cond.selects RX10 yX10_slopes yX10_slopes ∈ zb := bw09_9810_law_1 13 _ rfl
theorem kcode_X10_slopes : Cond.code yX10_slopes cX10_slopes 4 (some .int) ∈ zb := bw09_9810_law_1 14 _ rfl
theorem kmL_135 : Cond.methodLink RL 135 yX10_flood ∈ zb := bw09_9810_law_1 15 _ rfl
theorem kin_X10_flood : Cond.instanceMethod yX10_flood ∈ zb := bw09_9810_law_1 16 _ rfl
theorem kse_X10_flood : Cond.selects RX10 yX10_flood yX10_flood ∈ zb := bw09_9810_law_1 17 _ rfl
theorem kcode_X10_flood : Cond.code yX10_flood cX10_flood 7 (some .int) ∈ zb := bw09_9810_law_1 18 _ rfl
theorem kmL_139 : Cond.methodLink RL 139 yX10_teach ∈ zb := bw09_9810_law_1 19 _ rfl
theorem kin_X10_teach : Cond.instanceMethod yX10_teach ∈ zb := bw09_9810_law_1 20 _ rfl
theorem kse_X10_teach : Cond.selects RX10 yX10_teach yX10_teach ∈ zb := bw09_9810_law_1 21 _ rfl
theorem kcode_X10_teach : Cond.code yX10_teach cX10_teach 5 (some .int) ∈ zb := bw09_9810_law_1 22 _ rfl
theorem kmL_143 : Cond.methodLink RL 143 yX10_count ∈ zb := bw09_9810_law_1 23 _ rfl
theorem kin_X10_count : Cond.instanceMethod yX10_count ∈ zb := bw09_9810_law_1 24 _ rfl
theorem kse_X10_count : Cond.selects RX10 yX10_count yX10_count ∈ zb := bw09_9810_law_1 25 _ rfl
theorem kcode_X10_count : Cond.code yX10_count cX10_count 2 (some .int) ∈ zb := bw09_9810_law_1 26 _ rfl
theorem kmL_147 : Cond.methodLink RL 147 yX10_image ∈ zb := bw09_9810_law_1 27 _ rfl
theorem kmL_152 : Cond.methodLink RL 152 yX10_again ∈ zb := bw09_9810_law_1 28 _ rfl
theorem kclL_10 : Cond.classLink RL 10 RX11 ∈ zb := bw09_9810_law_1 29 _ rfl
theorem kins_11 : Cond.instantiable RX11 52 ∈ zb := bw09_9810_law_1 30 _ rfl
theorem kmL_12 : Cond.methodLink RL 12 yX11_init ∈ zb := bw09_9810_law_1 31 _ rfl
theorem kmL_17 : Cond.methodLink RL 17 yX11_feed ∈ zb := bw09_9810_law_1 32 _ rfl
theorem kin_X11_feed : Cond.instanceMethod yX11_feed ∈ zb := bw09_9810_law_1 33 _ rfl
theorem kse_X11_feed : Cond.selects RX11 yX11_feed yX11_feed ∈ zb := bw09_9810_law_1 34 _ rfl
theorem kcode_X11_feed : Cond.code yX11_feed cX11_feed 6 (some .int) ∈ zb := bw09_9810_law_1 35 _ rfl
theorem kmL_22 : Cond.methodLink RL 22 yX11_end ∈ zb := bw09_9810_law_1 36 _ rfl
theorem kin_X11_end : Cond.instanceMethod yX11_end ∈ zb := bw09_9810_law_1 37 _ rfl
theorem kse_X11_end : Cond.selects RX11 yX11_end yX11_end ∈ zb := bw09_9810_law_1 38 _ rfl
theorem kcode_X11_end : Cond.code yX11_end cX11_end 2 (some .int) ∈ zb := bw09_9810_law_1 39 _ rfl
theorem kmL_27 : Cond.methodLink RL 27 yX11_text ∈ zb := bw09_9810_law_1 40 _ rfl
theorem kin_X11_text : Cond.instanceMethod yX11_text ∈ zb := bw09_9810_law_1 41 _ rfl
theorem kse_X11_text : Cond.selects RX11 yX11_text yX11_text ∈ zb := bw09_9810_law_1 42 _ rfl
theorem kcode_X11_text : Cond.code yX11_text cX11_text 4 (some .int) ∈ zb := bw09_9810_law_1 43 _ rfl
theorem kmL_31 : Cond.methodLink RL 31 yX11_fault ∈ zb := bw09_9810_law_1 44 _ rfl
theorem kin_X11_fault : Cond.instanceMethod yX11_fault ∈ zb := bw09_9810_law_1 45 _ rfl
theorem kse_X11_fault : Cond.selects RX11 yX11_fault yX11_fault ∈ zb := bw09_9810_law_1 46 _ rfl
theorem kcode_X11_fault : Cond.code yX11_fault cX11_fault 2 (some .int) ∈ zb := bw09_9810_law_1 47 _ rfl
theorem kmL_35 : Cond.methodLink RL 35 yX11_land ∈ zb := bw09_9810_law_1 48 _ rfl
theorem kin_X11_land : Cond.instanceMethod yX11_land ∈ zb := bw09_9810_law_1 49 _ rfl
theorem kse_X11_land : Cond.selects RX11 yX11_land yX11_land ∈ zb := bw09_9810_law_1 50 _ rfl
theorem kcode_X11_land : Cond.code yX11_land cX11_land 5 (some .int) ∈ zb := bw09_9810_law_1 51 _ rfl
theorem kmL_40 : Cond.methodLink RL 40 yX11_echo ∈ zb := bw09_9810_law_1 52 _ rfl
theorem kin_X11_echo : Cond.instanceMethod yX11_echo ∈ zb := bw09_9810_law_1 53 _ rfl
theorem kse_X11_echo : Cond.selects RX11 yX11_echo yX11_echo ∈ zb := bw09_9810_law_1 54 _ rfl
theorem kcode_X11_echo : Cond.code yX11_echo cX11_echo 4 (some .int) ∈ zb := bw09_9810_law_1 55 _ rfl
theorem kmL_44 : Cond.methodLink RL 44 yX11_deed ∈ zb := bw09_9810_law_1 56 _ rfl
theorem kin_X11_deed : Cond.instanceMethod yX11_deed ∈ zb := bw09_9810_law_1 57 _ rfl
theorem kse_X11_deed : Cond.selects RX11 yX11_deed yX11_deed ∈ zb := bw09_9810_law_1 58 _ rfl
theorem kcode_X11_deed : Cond.code yX11_deed cX11_deed 4 (some .int) ∈ zb := bw09_9810_law_1 59 _ rfl
theorem kmL_48 : Cond.methodLink RL 48 yX11_stop ∈ zb := bw09_9810_law_1 60 _ rfl
theorem kin_X11_stop : Cond.instanceMethod yX11_stop ∈ zb := bw09_9810_law_1 61 _ rfl
theorem kse_X11_stop : Cond.selects RX11 yX11_stop yX11_stop ∈ zb := bw09_9810_law_1 62 _ rfl
theorem kcode_X11_stop : Cond.code yX11_stop cX11_stop 3 (some .int) ∈ zb := bw09_9810_law_1 63 _ rfl
theorem kmL_53 : Cond.methodLink RL 53 yX11_state ∈ zb := bw09_9810_law_1 64 _ rfl
theorem kin_X11_state : Cond.instanceMethod yX11_state ∈ zb := bw09_9810_law_1 65 _ rfl
theorem kse_X11_state : Cond.selects RX11 yX11_state yX11_state ∈ zb := bw09_9810_law_1 66 _ rfl
theorem kcode_X11_state : Cond.code yX11_state cX11_state 5 (some .int) ∈ zb := bw09_9810_law_1 67 _ rfl
theorem kmL_57 : Cond.methodLink RL 57 yX11_comes ∈ zb := bw09_9810_law_1 68 _ rfl
theorem kin_X11_comes : Cond.instanceMethod yX11_comes ∈ zb := bw09_9810_law_1 69 _ rfl
theorem kse_X11_comes : Cond.selects RX11 yX11_comes yX11_comes ∈ zb := bw09_9810_law_1 70 _ rfl
theorem kcode_X11_comes : Cond.code yX11_comes cX11_comes 4 (some .int) ∈ zb := bw09_9810_law_1 71 _ rfl
theorem kmL_61 : Cond.methodLink RL 61 yX11_villages ∈ zb := bw09_9810_law_1 72 _ rfl
theorem kin_X11_villages : Cond.instanceMethod yX11_villages ∈ zb := bw09_9810_law_1 73 _ rfl
theorem kse_X11_villages : Cond.selects RX11 yX11_villages yX11_villages ∈ zb := bw09_9810_law_1 74 _ rfl
theorem kcode_X11_villages : Cond.code yX11_villages cX11_villages 5 (some .int) ∈ zb := bw09_9810_law_1 75 _ rfl
theorem kmL_66 : Cond.methodLink RL 66 yX11_best ∈ zb := bw09_9810_law_1 76 _ rfl
theorem kin_X11_best : Cond.instanceMethod yX11_best ∈ zb := bw09_9810_law_1 77 _ rfl
theorem kse_X11_best : Cond.selects RX11 yX11_best yX11_best ∈ zb := bw09_9810_law_1 78 _ rfl
theorem kcode_X11_best : Cond.code yX11_best cX11_best 7 (some .int) ∈ zb := bw09_9810_law_1 79 _ rfl
theorem kmL_70 : Cond.methodLink RL 70 yX11_routes ∈ zb := bw09_9810_law_1 80 _ rfl
theorem kin_X11_routes : Cond.instanceMethod yX11_routes ∈ zb := bw09_9810_law_1 81 _ rfl
theorem kse_X11_routes : Cond.selects RX11 yX11_routes yX11_routes ∈ zb := bw09_9810_law_1 82 _ rfl
theorem kcode_X11_routes : Cond.code yX11_routes cX11_routes 5 (some .int) ∈ zb := bw09_9810_law_1 83 _ rfl
theorem kmL_74 : Cond.methodLink RL 74 yX11_mutes ∈ zb := bw09_9810_law_1 84 _ rfl
theorem kin_X11_mutes : Cond.instanceMethod yX11_mutes ∈ zb := bw09_9810_law_1 85 _ rfl
theorem kse_X11_mutes : Cond.selects RX11 yX11_mutes yX11_mutes ∈ zb := bw09_9810_law_1 86 _ rfl
theorem kcode_X11_mutes : Cond.code yX11_mutes cX11_mutes 8 (some .int) ∈ zb := bw09_9810_law_1 87 _ rfl
theorem kmL_79 : Cond.methodLink RL 79 yX11_masses ∈ zb := bw09_9810_law_1 88 _ rfl
theorem kin_X11_masses : Cond.instanceMethod yX11_masses ∈ zb := bw09_9810_law_1 89 _ rfl
theorem kse_X11_masses : Cond.selects RX11 yX11_masses yX11_masses ∈ zb := bw09_9810_law_1 90 _ rfl
theorem kcode_X11_masses : Cond.code yX11_masses cX11_masses 6 (some .int) ∈ zb := bw09_9810_law_1 91 _ rfl
theorem kmL_83 : Cond.methodLink RL 83 yX11_fact ∈ zb := bw09_9810_law_1 92 _ rfl
theorem kin_X11_fact : Cond.instanceMethod yX11_fact ∈ zb := bw09_9810_law_1 93 _ rfl
theorem kse_X11_fact : Cond.selects RX11 yX11_fact yX11_fact ∈ zb := bw09_9810_law_1 94 _ rfl
theorem kcode_X11_fact : Cond.code yX11_fact cX11_fact 4 (some .int) ∈ zb := bw09_9810_law_1 95 _ rfl
theorem kmL_87 : Cond.methodLink RL 87 yX11_fits ∈ zb := bw09_9810_law_1 96 _ rfl
theorem kin_X11_fits : Cond.instanceMethod yX11_fits ∈ zb := bw09_9810_law_1 97 _ rfl
theorem kse_X11_fits : Cond.selects RX11 yX11_fits yX11_fits ∈ zb := bw09_9810_law_1 98 _ rfl
theorem kcode_X11_fits : Cond.code yX11_fits cX11_fits 6 (some .int) ∈ zb := bw09_9810_law_1 99 _ rfl
set_option maxRecDepth 1000000 in
theorem bw09_9810_law_2_e : pickC [1908, 0, 0, 0, 28, 0, 0, 0, 1, 0, 0, 0, 0, 0, 0, 0, 12, 0, 0, 0, 0, 0, 0, 0, 9, 0, 0, 0, 0, 0, 0, 0, 0, 0, 0, 0, 0, 0, 0, 0, 0, 0, 0, 0, 0, 0, 0, 0, 0, 0, 0, 0, 4, 0, 0, 0, 0, 0, 0, 0, 7, 0, 0, 0] lw_tbl = [Cond.methodLink RL 91 yX11_choir, Cond.instanceMethod yX11_choir, Cond.selects RX11 yX11_choir yX11_choir, Cond.code yX11_choir cX11_choir 3 (some .int), Cond.methodLink RL 96 yX11_orders, Cond.instanceMethod yX11_orders, Cond.selects RX11 yX11_orders yX11_orders, Cond.code yX11_orders cX11_orders 2 (some .long), Cond.methodLink RL 100 yX11_order, Cond.instanceMethod yX11_order, Cond.selects RX11 yX11_order yX11_order, Cond.code yX11_order cX11_order 7 (some .int), Cond.methodLink RL 105 yX11_trade, Cond.instanceMethod yX11_trade, Cond.selects RX11 yX11_trade yX11_trade, Cond.code yX11_trade cX11_trade 7 (some .int), Cond.methodLink RL 110 yX11_odds, Cond.instanceMethod yX11_odds, Cond.selects RX11 yX11_odds yX11_odds, Cond.code yX11_odds cX11_odds 10 (some .long), Cond.methodLink RL 114 yX11_drawn, Cond.instanceMethod yX11_drawn, Cond.selects RX11 yX11_drawn yX11_drawn, Cond.code yX11_drawn cX11_drawn 6 (some .int), Cond.methodLink RL 118 yX11_psalm, Cond.instanceMethod yX11_psalm, Cond.selects RX11 yX11_psalm yX11_psalm, Cond.code yX11_psalm cX11_psalm 9 (some .int), Cond.methodLink RL 122 yX11_meet, Cond.instanceMethod yX11_meet, Cond.selects RX11 yX11_meet yX11_meet, Cond.code yX11_meet cX11_meet 9 (some .int), Cond.methodLink RL 126 yX11_carry, Cond.instanceMethod yX11_carry, Cond.selects RX11 yX11_carry yX11_carry, Cond.code yX11_carry cX11_carry 8 (some .int), Cond.methodLink RL 130 yX11_join, Cond.instanceMethod yX11_join, Cond.selects RX11 yX11_join yX11_join, Cond.code yX11_join cX11_join 9 (some .int), Cond.methodLink RL 134 yX11_slopes, Cond.instanceMethod yX11_slopes, Cond.selects RX11 yX11_slopes yX11_slopes, Cond.code yX11_slopes cX11_slopes 10 (some .int), Cond.methodLink RL 138 yX11_flood, Cond.instanceMethod yX11_flood, Cond.selects RX11 yX11_flood yX11_flood, Cond.code yX11_flood cX11_flood 8 (some .int), Cond.methodLink RL 142 yX11_teach, Cond.instanceMethod yX11_teach, Cond.selects RX11 yX11_teach yX11_teach, Cond.code yX11_teach cX11_teach 8 (some .int), Cond.methodLink RL 146 yX11_count, Cond.instanceMethod yX11_count, Cond.selects RX11 yX11_count yX11_count, Cond.code yX11_count cX11_count 2 (some .int), Cond.methodLink RL 151 yX11_image, Cond.instanceMethod yX11_image, Cond.selects RX11 yX11_image yX11_image, Cond.code yX11_image cX11_image 2 (some .boolean), Cond.methodLink RL 155 yX11_again, Cond.instanceMethod yX11_again, Cond.selects RX11 yX11_again yX11_again, Cond.code yX11_again cX11_again 2 (some .boolean)] := rfl
theorem bw09_9810_law_2 : ∀ (i : Nat) (w : Cond), ([Cond.methodLink RL 91 yX11_choir, Cond.instanceMethod yX11_choir, Cond.selects RX11 yX11_choir yX11_choir, Cond.code yX11_choir cX11_choir 3 (some .int), Cond.methodLink RL 96 yX11_orders, Cond.instanceMethod yX11_orders, Cond.selects RX11 yX11_orders yX11_orders, Cond.code yX11_orders cX11_orders 2 (some .long), Cond.methodLink RL 100 yX11_order, Cond.instanceMethod yX11_order, Cond.selects RX11 yX11_order yX11_order, Cond.code yX11_order cX11_order 7 (some .int), Cond.methodLink RL 105 yX11_trade, Cond.instanceMethod yX11_trade, Cond.selects RX11 yX11_trade yX11_trade, Cond.code yX11_trade cX11_trade 7 (some .int), Cond.methodLink RL 110 yX11_odds, Cond.instanceMethod yX11_odds, Cond.selects RX11 yX11_odds yX11_odds, Cond.code yX11_odds cX11_odds 10 (some .long), Cond.methodLink RL 114 yX11_drawn, Cond.instanceMethod yX11_drawn, Cond.selects RX11 yX11_drawn yX11_drawn, Cond.code yX11_drawn cX11_drawn 6 (some .int), Cond.methodLink RL 118 yX11_psalm, Cond.instanceMethod yX11_psalm, Cond.selects RX11 yX11_psalm yX11_psalm, Cond.code yX11_psalm cX11_psalm 9 (some .int), Cond.methodLink RL 122 yX11_meet, Cond.instanceMethod yX11_meet, Cond.selects RX11 yX11_meet yX11_meet, Cond.code yX11_meet cX11_meet 9 (some .int), Cond.methodLink RL 126 yX11_carry, Cond.instanceMethod yX11_carry, Cond.selects RX11 yX11_carry yX11_carry, Cond.code yX11_carry cX11_carry 8 (some .int), Cond.methodLink RL 130 yX11_join, Cond.instanceMethod yX11_join, Cond.selects RX11 yX11_join yX11_join, Cond.code yX11_join cX11_join 9 (some .int), Cond.methodLink RL 134 yX11_slopes, Cond.instanceMethod yX11_slopes, Cond.selects RX11 yX11_slopes yX11_slopes, Cond.code yX11_slopes cX11_slopes 10 (some .int), Cond.methodLink RL 138 yX11_flood, Cond.instanceMethod yX11_flood, Cond.selects RX11 yX11_flood yX11_flood, Cond.code yX11_flood cX11_flood 8 (some .int), Cond.methodLink RL 142 yX11_teach, Cond.instanceMethod yX11_teach, Cond.selects RX11 yX11_teach yX11_teach, Cond.code yX11_teach cX11_teach 8 (some .int), Cond.methodLink RL 146 yX11_count, Cond.instanceMethod yX11_count, Cond.selects RX11 yX11_count yX11_count, Cond.code yX11_count cX11_count 2 (some .int), Cond.methodLink RL 151 yX11_image, Cond.instanceMethod yX11_image, Cond.selects RX11 yX11_image yX11_image, Cond.code yX11_image cX11_image 2 (some .boolean), Cond.methodLink RL 155 yX11_again, Cond.instanceMethod yX11_again, Cond.selects RX11 yX11_again yX11_again, Cond.code yX11_again cX11_again 2 (some .boolean)] : List Cond)[i]? = some w → w ∈ zb := fun i w e => pick_zb bw09_9810_law_2_e (by decide +kernel) w (List.mem_of_getElem? e)
theorem kmL_91 : Cond.methodLink RL 91 yX11_choir ∈ zb := bw09_9810_law_2 0 _ rfl
theorem kin_X11_choir : Cond.instanceMethod yX11_choir ∈ zb := bw09_9810_law_2 1 _ rfl
theorem kse_X11_choir : Cond.selects RX11 yX11_choir yX11_choir ∈ zb := bw09_9810_law_2 2 _ rfl
theorem kcode_X11_choir : Cond.code yX11_choir cX11_choir 3 (some .int) ∈ zb := bw09_9810_law_2 3 _ rfl
theorem kmL_96 : Cond.methodLink RL 96 yX11_orders ∈ zb := bw09_9810_law_2 4 _ rfl
theorem kin_X11_orders : Cond.instanceMethod yX11_orders ∈ zb := bw09_9810_law_2 5 _ rfl
theorem kse_X11_orders : Cond.selects RX11 yX11_orders yX11_orders ∈ zb := bw09_9810_law_2 6 _ rfl
theorem kcode_X11_orders : Cond.code yX11_orders cX11_orders 2 (some .long) ∈ zb := bw09_9810_law_2 7 _ rfl
theorem kmL_100 : Cond.methodLink RL 100 yX11_order ∈ zb := bw09_9810_law_2 8 _ rfl
theorem kin_X11_order : Cond.instanceMethod yX11_order ∈ zb := bw09_9810_law_2 9 _ rfl
theorem kse_X11_order : Cond.selects RX11 yX11_order yX11_order ∈ zb := bw09_9810_law_2 10 _ rfl
theorem kcode_X11_order : Cond.code yX11_order cX11_order 7 (some .int) ∈ zb := bw09_9810_law_2 11 _ rfl
theorem kmL_105 : Cond.methodLink RL 105 yX11_trade ∈ zb := bw09_9810_law_2 12 _ rfl
theorem kin_X11_trade : Cond.instanceMethod yX11_trade ∈ zb := bw09_9810_law_2 13 _ rfl
theorem kse_X11_trade : Cond.selects RX11 yX11_trade yX11_trade ∈ zb := bw09_9810_law_2 14 _ rfl
theorem kcode_X11_trade : Cond.code yX11_trade cX11_trade 7 (some .int) ∈ zb := bw09_9810_law_2 15 _ rfl
theorem kmL_110 : Cond.methodLink RL 110 yX11_odds ∈ zb := bw09_9810_law_2 16 _ rfl
theorem kin_X11_odds : Cond.instanceMethod yX11_odds ∈ zb := bw09_9810_law_2 17 _ rfl
theorem kse_X11_odds : Cond.selects RX11 yX11_odds yX11_odds ∈ zb := bw09_9810_law_2 18 _ rfl
theorem kcode_X11_odds : Cond.code yX11_odds cX11_odds 10 (some .long) ∈ zb := bw09_9810_law_2 19 _ rfl
theorem kmL_114 : Cond.methodLink RL 114 yX11_drawn ∈ zb := bw09_9810_law_2 20 _ rfl
theorem kin_X11_drawn : Cond.instanceMethod yX11_drawn ∈ zb := bw09_9810_law_2 21 _ rfl
theorem kse_X11_drawn : Cond.selects RX11 yX11_drawn yX11_drawn ∈ zb := bw09_9810_law_2 22 _ rfl
theorem kcode_X11_drawn : Cond.code yX11_drawn cX11_drawn 6 (some .int) ∈ zb := bw09_9810_law_2 23 _ rfl
theorem kmL_118 : Cond.methodLink RL 118 yX11_psalm ∈ zb := bw09_9810_law_2 24 _ rfl
theorem kin_X11_psalm : Cond.instanceMethod yX11_psalm ∈ zb := bw09_9810_law_2 25 _ rfl
theorem kse_X11_psalm : Cond.selects RX11 yX11_psalm yX11_psalm ∈ zb := bw09_9810_law_2 26 _ rfl
theorem kcode_X11_psalm : Cond.code yX11_psalm cX11_psalm 9 (some .int) ∈ zb := bw09_9810_law_2 27 _ rfl
theorem kmL_122 : Cond.methodLink RL 122 yX11_meet ∈ zb := bw09_9810_law_2 28 _ rfl
theorem kin_X11_meet : Cond.instanceMethod yX11_meet ∈ zb := bw09_9810_law_2 29 _ rfl
theorem kse_X11_meet : Cond.selects RX11 yX11_meet yX11_meet ∈ zb := bw09_9810_law_2 30 _ rfl
theorem kcode_X11_meet : Cond.code yX11_meet cX11_meet 9 (some .int) ∈ zb := bw09_9810_law_2 31 _ rfl
theorem kmL_126 : Cond.methodLink RL 126 yX11_carry ∈ zb := bw09_9810_law_2 32 _ rfl
theorem kin_X11_carry : Cond.instanceMethod yX11_carry ∈ zb := bw09_9810_law_2 33 _ rfl
theorem kse_X11_carry : Cond.selects RX11 yX11_carry yX11_carry ∈ zb := bw09_9810_law_2 34 _ rfl
theorem kcode_X11_carry : Cond.code yX11_carry cX11_carry 8 (some .int) ∈ zb := bw09_9810_law_2 35 _ rfl
theorem kmL_130 : Cond.methodLink RL 130 yX11_join ∈ zb := bw09_9810_law_2 36 _ rfl
theorem kin_X11_join : Cond.instanceMethod yX11_join ∈ zb := bw09_9810_law_2 37 _ rfl
theorem kse_X11_join : Cond.selects RX11 yX11_join yX11_join ∈ zb := bw09_9810_law_2 38 _ rfl
theorem kcode_X11_join : Cond.code yX11_join cX11_join 9 (some .int) ∈ zb := bw09_9810_law_2 39 _ rfl
theorem kmL_134 : Cond.methodLink RL 134 yX11_slopes ∈ zb := bw09_9810_law_2 40 _ rfl
theorem kin_X11_slopes : Cond.instanceMethod yX11_slopes ∈ zb := bw09_9810_law_2 41 _ rfl
theorem kse_X11_slopes : Cond.selects RX11 yX11_slopes yX11_slopes ∈ zb := bw09_9810_law_2 42 _ rfl
theorem kcode_X11_slopes : Cond.code yX11_slopes cX11_slopes 10 (some .int) ∈ zb := bw09_9810_law_2 43 _ rfl
theorem kmL_138 : Cond.methodLink RL 138 yX11_flood ∈ zb := bw09_9810_law_2 44 _ rfl
theorem kin_X11_flood : Cond.instanceMethod yX11_flood ∈ zb := bw09_9810_law_2 45 _ rfl
theorem kse_X11_flood : Cond.selects RX11 yX11_flood yX11_flood ∈ zb := bw09_9810_law_2 46 _ rfl
theorem kcode_X11_flood : Cond.code yX11_flood cX11_flood 8 (some .int) ∈ zb := bw09_9810_law_2 47 _ rfl
theorem kmL_142 : Cond.methodLink RL 142 yX11_teach ∈ zb := bw09_9810_law_2 48 _ rfl
theorem kin_X11_teach : Cond.instanceMethod yX11_teach ∈ zb := bw09_9810_law_2 49 _ rfl
theorem kse_X11_teach : Cond.selects RX11 yX11_teach yX11_teach ∈ zb := bw09_9810_law_2 50 _ rfl
theorem kcode_X11_teach : Cond.code yX11_teach cX11_teach 8 (some .int) ∈ zb := bw09_9810_law_2 51 _ rfl
theorem kmL_146 : Cond.methodLink RL 146 yX11_count ∈ zb := bw09_9810_law_2 52 _ rfl
theorem kin_X11_count : Cond.instanceMethod yX11_count ∈ zb := bw09_9810_law_2 53 _ rfl
theorem kse_X11_count : Cond.selects RX11 yX11_count yX11_count ∈ zb := bw09_9810_law_2 54 _ rfl
theorem kcode_X11_count : Cond.code yX11_count cX11_count 2 (some .int) ∈ zb := bw09_9810_law_2 55 _ rfl
theorem kmL_151 : Cond.methodLink RL 151 yX11_image ∈ zb := bw09_9810_law_2 56 _ rfl
theorem kin_X11_image : Cond.instanceMethod yX11_image ∈ zb := bw09_9810_law_2 57 _ rfl
theorem kse_X11_image : Cond.selects RX11 yX11_image yX11_image ∈ zb := bw09_9810_law_2 58 _ rfl
theorem kcode_X11_image : Cond.code yX11_image cX11_image 2 (some .boolean) ∈ zb := bw09_9810_law_2 59 _ rfl
theorem kmL_155 : Cond.methodLink RL 155 yX11_again ∈ zb := bw09_9810_law_2 60 _ rfl
theorem kin_X11_again : Cond.instanceMethod yX11_again ∈ zb := bw09_9810_law_2 61 _ rfl
theorem kse_X11_again : Cond.selects RX11 yX11_again yX11_again ∈ zb := bw09_9810_law_2 62 _ rfl
theorem kcode_X11_again : Cond.code yX11_again cX11_again 2 (some .boolean) ∈ zb := bw09_9810_law_2 63 _ rfl
def R_law : String := "DownhillSongLaw"
def lw_P (b : Addr) (xs : List Int32) (args : Array Value) (s : State) : Prop := args = #[.ref b] ∧ s.IntsAt b xs ∧ xs.length ≤ 3072 ∧ (Jvm.Cond.and given_1 narrow_1).before args s = true
def lw_Q (_ : Array Value) (s : State) (o : Outcome) (t : State) : Prop := o = .returned (some (.int 1)) ∧ Framed s o t [] 600000 7302250
def lw_Z (below : List Frame) (a : Array Value) (s : State) : State → Prop := fun t => ∃ o, t.status = .running ∧ Ended t below o ∧ lw_Q a s o t
/-- the law's own end, with 1 on the stack, nothing written that was there before, its room as the claim has it -/
theorem lw_ret {p : Program} {l : Launch} {e : Env} {s : State} {m : MethodId} {below : List Frame} {meth : Method} {c : Code} {b : Nat} (hx : p.tables.exec = Jvm.exec) (hb : c.code = code) (hr : meth.sig.returnType = ret) (hlocks : meth.locks = false) {pc : Nat} {H : Heap} {ls : Array Slot} (hdg : decode code pc = .ok (.ireturn, 1)) : W p l e room_1 s m #[Value.ref b] below meth c H [] 600000 7302250 (lw_Z below #[Value.ref b] s) (F0 m pc ls [.int 1]) := by
  intro T hT X
  obtain ⟨fs, hret, hrun, hended, hW, hframe⟩ := X.leave (v := some (.int 1)) (hlocks := hlocks) (fun h => by rw [hr] at h; cases h)
  have hmeth' : T.vm.method? m = some meth := X.method'
  refine ⟨T.setFrames fs, ?_, .returned (some (.int 1)), hrun, hended, rfl, ⟨_, rfl⟩, hW, hframe⟩
  jvm_step X.here [X.here.top, hx, hb, hdg, hmeth', hr, ret, narrow_b1]
  (try refine ⟨rfl, ?_⟩); (try refine ⟨rfl, ?_⟩)
  first | (intro acts; rw [hret _ acts rfl rfl rfl]) | rw [hret _ _ rfl rfl rfl]
  exact Steps.refl _
/-- what holds at the law's entry: the machine, the code, the tables' words (any of lw_tbl by 'hts w (by decide +kernel)'), the script of L ints xs at the cell b, what the Statement gives of the start (any of its parts by flat_of_before) -/
def lw_At (p : Program) (s : State) (m : MethodId) (meth : Method) (c : Code) (b L : Nat) (xs : Nat → Int32) : Prop :=
  p.tables.exec = Jvm.exec ∧ c.code = code ∧ meth.sig.returnType = ret ∧ c.maxLocals = 4 ∧ s.vm.findClass R_law = some m.cls ∧ (∀ w ∈ lw_tbl, w.before #[Value.ref b] s = true) ∧ va_X b L xs s s.heap ∧ b < s.heap.size ∧ meth.locks = false ∧ (Jvm.Cond.and given_1 narrow_1).before #[Value.ref b] s = true
theorem ky_X10_best : zY RX10 yX10_best (Cond.code yX10_best cX10_best 5 (some .int)) 2 := ⟨rfl, kinit_10, kcode_X10_best, kyn_RX10.1, kyn_RX10.2, kyd_61⟩
theorem kz_X10_best : Cond.instanceMethod yX10_best ∈ zb ∧ Cond.selects RX10 yX10_best yX10_best ∈ zb := ⟨kin_X10_best, kse_X10_best⟩
theorem ky_X10_carry : zY RX10 yX10_carry (Cond.code yX10_carry cX10_carry 5 (some .int)) 3 := ⟨rfl, kinit_10, kcode_X10_carry, kyn_RX10.1, kyn_RX10.2, kyd_62⟩
theorem kz_X10_carry : Cond.instanceMethod yX10_carry ∈ zb ∧ Cond.selects RX10 yX10_carry yX10_carry ∈ zb := ⟨kin_X10_carry, kse_X10_carry⟩
theorem ky_X10_comes : zY RX10 yX10_comes (Cond.code yX10_comes cX10_comes 5 (some .int)) 3 := ⟨rfl, kinit_10, kcode_X10_comes, kyn_RX10.1, kyn_RX10.2, kyd_20⟩
theorem kz_X10_comes : Cond.instanceMethod yX10_comes ∈ zb ∧ Cond.selects RX10 yX10_comes yX10_comes ∈ zb := ⟨kin_X10_comes, kse_X10_comes⟩
theorem ky_X10_count : zY RX10 yX10_count (Cond.code yX10_count cX10_count 2 (some .int)) 1 := ⟨rfl, kinit_10, kcode_X10_count, kyn_RX10.1, kyn_RX10.2, kyd_17⟩
theorem kz_X10_count : Cond.instanceMethod yX10_count ∈ zb ∧ Cond.selects RX10 yX10_count yX10_count ∈ zb := ⟨kin_X10_count, kse_X10_count⟩
theorem ky_X10_deed : zY RX10 yX10_deed (Cond.code yX10_deed cX10_deed 5 (some .int)) 3 := ⟨rfl, kinit_10, kcode_X10_deed, kyn_RX10.1, kyn_RX10.2, kyd_20⟩
theorem kz_X10_deed : Cond.instanceMethod yX10_deed ∈ zb ∧ Cond.selects RX10 yX10_deed yX10_deed ∈ zb := ⟨kin_X10_deed, kse_X10_deed⟩
theorem ky_X10_drawn : zY RX10 yX10_drawn (Cond.code yX10_drawn cX10_drawn 6 (some .int)) 4 := ⟨rfl, kinit_10, kcode_X10_drawn, kyn_RX10.1, kyn_RX10.2, kyd_63⟩
theorem kz_X10_drawn : Cond.instanceMethod yX10_drawn ∈ zb ∧ Cond.selects RX10 yX10_drawn yX10_drawn ∈ zb := ⟨kin_X10_drawn, kse_X10_drawn⟩
theorem ky_X10_echo : zY RX10 yX10_echo (Cond.code yX10_echo cX10_echo 5 (some .int)) 3 := ⟨rfl, kinit_10, kcode_X10_echo, kyn_RX10.1, kyn_RX10.2, kyd_20⟩
theorem kz_X10_echo : Cond.instanceMethod yX10_echo ∈ zb ∧ Cond.selects RX10 yX10_echo yX10_echo ∈ zb := ⟨kin_X10_echo, kse_X10_echo⟩
theorem ky_X10_end : zY RX10 yX10_end (Cond.code yX10_end cX10_end 2 (some .int)) 1 := ⟨rfl, kinit_10, kcode_X10_end, kyn_RX10.1, kyn_RX10.2, kyd_17⟩
theorem kz_X10_end : Cond.instanceMethod yX10_end ∈ zb ∧ Cond.selects RX10 yX10_end yX10_end ∈ zb := ⟨kin_X10_end, kse_X10_end⟩
theorem ky_X10_fact : zY RX10 yX10_fact (Cond.code yX10_fact cX10_fact 5 (some .int)) 3 := ⟨rfl, kinit_10, kcode_X10_fact, kyn_RX10.1, kyn_RX10.2, kyd_20⟩
theorem kz_X10_fact : Cond.instanceMethod yX10_fact ∈ zb ∧ Cond.selects RX10 yX10_fact yX10_fact ∈ zb := ⟨kin_X10_fact, kse_X10_fact⟩
theorem ky_X10_fault : zY RX10 yX10_fault (Cond.code yX10_fault cX10_fault 2 (some .int)) 1 := ⟨rfl, kinit_10, kcode_X10_fault, kyn_RX10.1, kyn_RX10.2, kyd_17⟩
theorem kz_X10_fault : Cond.instanceMethod yX10_fault ∈ zb ∧ Cond.selects RX10 yX10_fault yX10_fault ∈ zb := ⟨kin_X10_fault, kse_X10_fault⟩
theorem ky_X10_feed : zY RX10 yX10_feed (Cond.code yX10_feed cX10_feed 6 (some .int)) 5 := ⟨rfl, kinit_10, kcode_X10_feed, kyn_RX10.1, kyn_RX10.2, kyd_64⟩
theorem kz_X10_feed : Cond.instanceMethod yX10_feed ∈ zb ∧ Cond.selects RX10 yX10_feed yX10_feed ∈ zb := ⟨kin_X10_feed, kse_X10_feed⟩
theorem ky_X10_fits : zY RX10 yX10_fits (Cond.code yX10_fits cX10_fits 7 (some .int)) 3 := ⟨rfl, kinit_10, kcode_X10_fits, kyn_RX10.1, kyn_RX10.2, kyd_62⟩
theorem kz_X10_fits : Cond.instanceMethod yX10_fits ∈ zb ∧ Cond.selects RX10 yX10_fits yX10_fits ∈ zb := ⟨kin_X10_fits, kse_X10_fits⟩
theorem ky_X10_flood : zY RX10 yX10_flood (Cond.code yX10_flood cX10_flood 7 (some .int)) 4 := ⟨rfl, kinit_10, kcode_X10_flood, kyn_RX10.1, kyn_RX10.2, kyd_65⟩
theorem kz_X10_flood : Cond.instanceMethod yX10_flood ∈ zb ∧ Cond.selects RX10 yX10_flood yX10_flood ∈ zb := ⟨kin_X10_flood, kse_X10_flood⟩
theorem ky_X10_join : zY RX10 yX10_join (Cond.code yX10_join cX10_join 6 (some .int)) 4 := ⟨rfl, kinit_10, kcode_X10_join, kyn_RX10.1, kyn_RX10.2, kyd_65⟩
theorem kz_X10_join : Cond.instanceMethod yX10_join ∈ zb ∧ Cond.selects RX10 yX10_join yX10_join ∈ zb := ⟨kin_X10_join, kse_X10_join⟩
theorem ky_X10_land : zY RX10 yX10_land (Cond.code yX10_land cX10_land 4 (some .int)) 2 := ⟨rfl, kinit_10, kcode_X10_land, kyn_RX10.1, kyn_RX10.2, kyd_9⟩
theorem kz_X10_land : Cond.instanceMethod yX10_land ∈ zb ∧ Cond.selects RX10 yX10_land yX10_land ∈ zb := ⟨kin_X10_land, kse_X10_land⟩
theorem ky_X10_masses : zY RX10 yX10_masses (Cond.code yX10_masses cX10_masses 6 (some .int)) 3 := ⟨rfl, kinit_10, kcode_X10_masses, kyn_RX10.1, kyn_RX10.2, kyd_62⟩
theorem kz_X10_masses : Cond.instanceMethod yX10_masses ∈ zb ∧ Cond.selects RX10 yX10_masses yX10_masses ∈ zb := ⟨kin_X10_masses, kse_X10_masses⟩
theorem ky_X10_meet : zY RX10 yX10_meet (Cond.code yX10_meet cX10_meet 6 (some .int)) 4 := ⟨rfl, kinit_10, kcode_X10_meet, kyn_RX10.1, kyn_RX10.2, kyd_65⟩
theorem kz_X10_meet : Cond.instanceMethod yX10_meet ∈ zb ∧ Cond.selects RX10 yX10_meet yX10_meet ∈ zb := ⟨kin_X10_meet, kse_X10_meet⟩
theorem ky_X10_mutes : zY RX10 yX10_mutes (Cond.code yX10_mutes cX10_mutes 5 (some .int)) 3 := ⟨rfl, kinit_10, kcode_X10_mutes, kyn_RX10.1, kyn_RX10.2, kyd_20⟩
theorem kz_X10_mutes : Cond.instanceMethod yX10_mutes ∈ zb ∧ Cond.selects RX10 yX10_mutes yX10_mutes ∈ zb := ⟨kin_X10_mutes, kse_X10_mutes⟩
theorem ky_X10_odds : zY RX10 yX10_odds (Cond.code yX10_odds cX10_odds 7 (some .long)) 3 := ⟨rfl, kinit_10, kcode_X10_odds, kyn_RX10.1, kyn_RX10.2, kyd_66⟩
theorem kz_X10_odds : Cond.instanceMethod yX10_odds ∈ zb ∧ Cond.selects RX10 yX10_odds yX10_odds ∈ zb := ⟨kin_X10_odds, kse_X10_odds⟩
theorem ky_X10_psalm : zY RX10 yX10_psalm (Cond.code yX10_psalm cX10_psalm 7 (some .int)) 4 := ⟨rfl, kinit_10, kcode_X10_psalm, kyn_RX10.1, kyn_RX10.2, kyd_63⟩
theorem kz_X10_psalm : Cond.instanceMethod yX10_psalm ∈ zb ∧ Cond.selects RX10 yX10_psalm yX10_psalm ∈ zb := ⟨kin_X10_psalm, kse_X10_psalm⟩
theorem ky_X10_routes : zY RX10 yX10_routes (Cond.code yX10_routes cX10_routes 6 (some .int)) 4 := ⟨rfl, kinit_10, kcode_X10_routes, kyn_RX10.1, kyn_RX10.2, kyd_63⟩
theorem kz_X10_routes : Cond.instanceMethod yX10_routes ∈ zb ∧ Cond.selects RX10 yX10_routes yX10_routes ∈ zb := ⟨kin_X10_routes, kse_X10_routes⟩
theorem ky_X10_slopes : zY RX10 yX10_slopes (Cond.code yX10_slopes cX10_slopes 4 (some .int)) 2 := ⟨rfl, kinit_10, kcode_X10_slopes, kyn_RX10.1, kyn_RX10.2, kyd_9⟩
theorem kz_X10_slopes : Cond.instanceMethod yX10_slopes ∈ zb ∧ Cond.selects RX10 yX10_slopes yX10_slopes ∈ zb := ⟨kin_X10_slopes, kse_X10_slopes⟩
theorem ky_X10_state : zY RX10 yX10_state (Cond.code yX10_state cX10_state 5 (some .int)) 4 := ⟨rfl, kinit_10, kcode_X10_state, kyn_RX10.1, kyn_RX10.2, kyd_63⟩
theorem kz_X10_state : Cond.instanceMethod yX10_state ∈ zb ∧ Cond.selects RX10 yX10_state yX10_state ∈ zb := ⟨kin_X10_state, kse_X10_state⟩
theorem ky_X10_stop : zY RX10 yX10_stop (Cond.code yX10_stop cX10_stop 5 (some .int)) 2 := ⟨rfl, kinit_10, kcode_X10_stop, kyn_RX10.1, kyn_RX10.2, kyd_9⟩
theorem kz_X10_stop : Cond.instanceMethod yX10_stop ∈ zb ∧ Cond.selects RX10 yX10_stop yX10_stop ∈ zb := ⟨kin_X10_stop, kse_X10_stop⟩
theorem ky_X10_teach : zY RX10 yX10_teach (Cond.code yX10_teach cX10_teach 5 (some .int)) 4 := ⟨rfl, kinit_10, kcode_X10_teach, kyn_RX10.1, kyn_RX10.2, kyd_63⟩
theorem kz_X10_teach : Cond.instanceMethod yX10_teach ∈ zb ∧ Cond.selects RX10 yX10_teach yX10_teach ∈ zb := ⟨kin_X10_teach, kse_X10_teach⟩
theorem ky_X10_text : zY RX10 yX10_text (Cond.code yX10_text cX10_text 5 (some .int)) 2 := ⟨rfl, kinit_10, kcode_X10_text, kyn_RX10.1, kyn_RX10.2, kyd_9⟩
theorem kz_X10_text : Cond.instanceMethod yX10_text ∈ zb ∧ Cond.selects RX10 yX10_text yX10_text ∈ zb := ⟨kin_X10_text, kse_X10_text⟩
theorem ky_X10_trade : zY RX10 yX10_trade (Cond.code yX10_trade cX10_trade 6 (some .int)) 4 := ⟨rfl, kinit_10, kcode_X10_trade, kyn_RX10.1, kyn_RX10.2, kyd_65⟩
theorem kz_X10_trade : Cond.instanceMethod yX10_trade ∈ zb ∧ Cond.selects RX10 yX10_trade yX10_trade ∈ zb := ⟨kin_X10_trade, kse_X10_trade⟩
theorem ky_X10_villages : zY RX10 yX10_villages (Cond.code yX10_villages cX10_villages 5 (some .int)) 3 := ⟨rfl, kinit_10, kcode_X10_villages, kyn_RX10.1, kyn_RX10.2, kyd_20⟩
theorem kz_X10_villages : Cond.instanceMethod yX10_villages ∈ zb ∧ Cond.selects RX10 yX10_villages yX10_villages ∈ zb := ⟨kin_X10_villages, kse_X10_villages⟩
theorem ky_X11_again : zY RX11 yX11_again (Cond.code yX11_again cX11_again 2 (some .boolean)) 1 := ⟨rfl, kinit_11, kcode_X11_again, kyn_RX11.1, kyn_RX11.2, kyd_12⟩
theorem kz_X11_again : Cond.instanceMethod yX11_again ∈ zb ∧ Cond.selects RX11 yX11_again yX11_again ∈ zb := ⟨kin_X11_again, kse_X11_again⟩
theorem ky_X11_best : zY RX11 yX11_best (Cond.code yX11_best cX11_best 7 (some .int)) 2 := ⟨rfl, kinit_11, kcode_X11_best, kyn_RX11.1, kyn_RX11.2, kyd_61⟩
theorem kz_X11_best : Cond.instanceMethod yX11_best ∈ zb ∧ Cond.selects RX11 yX11_best yX11_best ∈ zb := ⟨kin_X11_best, kse_X11_best⟩
theorem ky_X11_carry : zY RX11 yX11_carry (Cond.code yX11_carry cX11_carry 8 (some .int)) 3 := ⟨rfl, kinit_11, kcode_X11_carry, kyn_RX11.1, kyn_RX11.2, kyd_62⟩
theorem kz_X11_carry : Cond.instanceMethod yX11_carry ∈ zb ∧ Cond.selects RX11 yX11_carry yX11_carry ∈ zb := ⟨kin_X11_carry, kse_X11_carry⟩
theorem ky_X11_choir : zY RX11 yX11_choir (Cond.code yX11_choir cX11_choir 3 (some .int)) 2 := ⟨rfl, kinit_11, kcode_X11_choir, kyn_RX11.1, kyn_RX11.2, kyd_9⟩
theorem kz_X11_choir : Cond.instanceMethod yX11_choir ∈ zb ∧ Cond.selects RX11 yX11_choir yX11_choir ∈ zb := ⟨kin_X11_choir, kse_X11_choir⟩
theorem ky_X11_comes : zY RX11 yX11_comes (Cond.code yX11_comes cX11_comes 4 (some .int)) 3 := ⟨rfl, kinit_11, kcode_X11_comes, kyn_RX11.1, kyn_RX11.2, kyd_20⟩
theorem kz_X11_comes : Cond.instanceMethod yX11_comes ∈ zb ∧ Cond.selects RX11 yX11_comes yX11_comes ∈ zb := ⟨kin_X11_comes, kse_X11_comes⟩
theorem ky_X11_count : zY RX11 yX11_count (Cond.code yX11_count cX11_count 2 (some .int)) 1 := ⟨rfl, kinit_11, kcode_X11_count, kyn_RX11.1, kyn_RX11.2, kyd_17⟩
theorem kz_X11_count : Cond.instanceMethod yX11_count ∈ zb ∧ Cond.selects RX11 yX11_count yX11_count ∈ zb := ⟨kin_X11_count, kse_X11_count⟩
theorem ky_X11_deed : zY RX11 yX11_deed (Cond.code yX11_deed cX11_deed 4 (some .int)) 3 := ⟨rfl, kinit_11, kcode_X11_deed, kyn_RX11.1, kyn_RX11.2, kyd_20⟩
theorem kz_X11_deed : Cond.instanceMethod yX11_deed ∈ zb ∧ Cond.selects RX11 yX11_deed yX11_deed ∈ zb := ⟨kin_X11_deed, kse_X11_deed⟩
theorem ky_X11_drawn : zY RX11 yX11_drawn (Cond.code yX11_drawn cX11_drawn 6 (some .int)) 4 := ⟨rfl, kinit_11, kcode_X11_drawn, kyn_RX11.1, kyn_RX11.2, kyd_63⟩
theorem kz_X11_drawn : Cond.instanceMethod yX11_drawn ∈ zb ∧ Cond.selects RX11 yX11_drawn yX11_drawn ∈ zb := ⟨kin_X11_drawn, kse_X11_drawn⟩
theorem ky_X11_echo : zY RX11 yX11_echo (Cond.code yX11_echo cX11_echo 4 (some .int)) 3 := ⟨rfl, kinit_11, kcode_X11_echo, kyn_RX11.1, kyn_RX11.2, kyd_20⟩
theorem kz_X11_echo : Cond.instanceMethod yX11_echo ∈ zb ∧ Cond.selects RX11 yX11_echo yX11_echo ∈ zb := ⟨kin_X11_echo, kse_X11_echo⟩
theorem ky_X11_end : zY RX11 yX11_end (Cond.code yX11_end cX11_end 2 (some .int)) 1 := ⟨rfl, kinit_11, kcode_X11_end, kyn_RX11.1, kyn_RX11.2, kyd_17⟩
theorem kz_X11_end : Cond.instanceMethod yX11_end ∈ zb ∧ Cond.selects RX11 yX11_end yX11_end ∈ zb := ⟨kin_X11_end, kse_X11_end⟩
theorem ky_X11_fact : zY RX11 yX11_fact (Cond.code yX11_fact cX11_fact 4 (some .int)) 3 := ⟨rfl, kinit_11, kcode_X11_fact, kyn_RX11.1, kyn_RX11.2, kyd_20⟩
theorem kz_X11_fact : Cond.instanceMethod yX11_fact ∈ zb ∧ Cond.selects RX11 yX11_fact yX11_fact ∈ zb := ⟨kin_X11_fact, kse_X11_fact⟩
theorem ky_X11_fault : zY RX11 yX11_fault (Cond.code yX11_fault cX11_fault 2 (some .int)) 1 := ⟨rfl, kinit_11, kcode_X11_fault, kyn_RX11.1, kyn_RX11.2, kyd_17⟩
theorem kz_X11_fault : Cond.instanceMethod yX11_fault ∈ zb ∧ Cond.selects RX11 yX11_fault yX11_fault ∈ zb := ⟨kin_X11_fault, kse_X11_fault⟩
theorem ky_X11_feed : zY RX11 yX11_feed (Cond.code yX11_feed cX11_feed 6 (some .int)) 5 := ⟨rfl, kinit_11, kcode_X11_feed, kyn_RX11.1, kyn_RX11.2, kyd_64⟩
theorem kz_X11_feed : Cond.instanceMethod yX11_feed ∈ zb ∧ Cond.selects RX11 yX11_feed yX11_feed ∈ zb := ⟨kin_X11_feed, kse_X11_feed⟩
theorem ky_X11_fits : zY RX11 yX11_fits (Cond.code yX11_fits cX11_fits 6 (some .int)) 3 := ⟨rfl, kinit_11, kcode_X11_fits, kyn_RX11.1, kyn_RX11.2, kyd_62⟩
theorem kz_X11_fits : Cond.instanceMethod yX11_fits ∈ zb ∧ Cond.selects RX11 yX11_fits yX11_fits ∈ zb := ⟨kin_X11_fits, kse_X11_fits⟩
theorem ky_X11_flood : zY RX11 yX11_flood (Cond.code yX11_flood cX11_flood 8 (some .int)) 4 := ⟨rfl, kinit_11, kcode_X11_flood, kyn_RX11.1, kyn_RX11.2, kyd_65⟩
theorem kz_X11_flood : Cond.instanceMethod yX11_flood ∈ zb ∧ Cond.selects RX11 yX11_flood yX11_flood ∈ zb := ⟨kin_X11_flood, kse_X11_flood⟩
theorem ky_X11_image : zY RX11 yX11_image (Cond.code yX11_image cX11_image 2 (some .boolean)) 1 := ⟨rfl, kinit_11, kcode_X11_image, kyn_RX11.1, kyn_RX11.2, kyd_12⟩
theorem kz_X11_image : Cond.instanceMethod yX11_image ∈ zb ∧ Cond.selects RX11 yX11_image yX11_image ∈ zb := ⟨kin_X11_image, kse_X11_image⟩
theorem ky_X11_join : zY RX11 yX11_join (Cond.code yX11_join cX11_join 9 (some .int)) 4 := ⟨rfl, kinit_11, kcode_X11_join, kyn_RX11.1, kyn_RX11.2, kyd_65⟩
theorem kz_X11_join : Cond.instanceMethod yX11_join ∈ zb ∧ Cond.selects RX11 yX11_join yX11_join ∈ zb := ⟨kin_X11_join, kse_X11_join⟩
theorem ky_X11_land : zY RX11 yX11_land (Cond.code yX11_land cX11_land 5 (some .int)) 2 := ⟨rfl, kinit_11, kcode_X11_land, kyn_RX11.1, kyn_RX11.2, kyd_9⟩
theorem kz_X11_land : Cond.instanceMethod yX11_land ∈ zb ∧ Cond.selects RX11 yX11_land yX11_land ∈ zb := ⟨kin_X11_land, kse_X11_land⟩
theorem ky_X11_masses : zY RX11 yX11_masses (Cond.code yX11_masses cX11_masses 6 (some .int)) 3 := ⟨rfl, kinit_11, kcode_X11_masses, kyn_RX11.1, kyn_RX11.2, kyd_62⟩
theorem kz_X11_masses : Cond.instanceMethod yX11_masses ∈ zb ∧ Cond.selects RX11 yX11_masses yX11_masses ∈ zb := ⟨kin_X11_masses, kse_X11_masses⟩
theorem ky_X11_meet : zY RX11 yX11_meet (Cond.code yX11_meet cX11_meet 9 (some .int)) 4 := ⟨rfl, kinit_11, kcode_X11_meet, kyn_RX11.1, kyn_RX11.2, kyd_65⟩
theorem kz_X11_meet : Cond.instanceMethod yX11_meet ∈ zb ∧ Cond.selects RX11 yX11_meet yX11_meet ∈ zb := ⟨kin_X11_meet, kse_X11_meet⟩
theorem ky_X11_mutes : zY RX11 yX11_mutes (Cond.code yX11_mutes cX11_mutes 8 (some .int)) 3 := ⟨rfl, kinit_11, kcode_X11_mutes, kyn_RX11.1, kyn_RX11.2, kyd_20⟩
theorem kz_X11_mutes : Cond.instanceMethod yX11_mutes ∈ zb ∧ Cond.selects RX11 yX11_mutes yX11_mutes ∈ zb := ⟨kin_X11_mutes, kse_X11_mutes⟩
theorem ky_X11_odds : zY RX11 yX11_odds (Cond.code yX11_odds cX11_odds 10 (some .long)) 3 := ⟨rfl, kinit_11, kcode_X11_odds, kyn_RX11.1, kyn_RX11.2, kyd_66⟩
theorem kz_X11_odds : Cond.instanceMethod yX11_odds ∈ zb ∧ Cond.selects RX11 yX11_odds yX11_odds ∈ zb := ⟨kin_X11_odds, kse_X11_odds⟩
theorem ky_X11_order : zY RX11 yX11_order (Cond.code yX11_order cX11_order 7 (some .int)) 2 := ⟨rfl, kinit_11, kcode_X11_order, kyn_RX11.1, kyn_RX11.2, kyd_9⟩
theorem kz_X11_order : Cond.instanceMethod yX11_order ∈ zb ∧ Cond.selects RX11 yX11_order yX11_order ∈ zb := ⟨kin_X11_order, kse_X11_order⟩
theorem ky_X11_orders : zY RX11 yX11_orders (Cond.code yX11_orders cX11_orders 2 (some .long)) 1 := ⟨rfl, kinit_11, kcode_X11_orders, kyn_RX11.1, kyn_RX11.2, kyd_19⟩
theorem kz_X11_orders : Cond.instanceMethod yX11_orders ∈ zb ∧ Cond.selects RX11 yX11_orders yX11_orders ∈ zb := ⟨kin_X11_orders, kse_X11_orders⟩
theorem ky_X11_psalm : zY RX11 yX11_psalm (Cond.code yX11_psalm cX11_psalm 9 (some .int)) 4 := ⟨rfl, kinit_11, kcode_X11_psalm, kyn_RX11.1, kyn_RX11.2, kyd_63⟩
theorem kz_X11_psalm : Cond.instanceMethod yX11_psalm ∈ zb ∧ Cond.selects RX11 yX11_psalm yX11_psalm ∈ zb := ⟨kin_X11_psalm, kse_X11_psalm⟩
theorem ky_X11_routes : zY RX11 yX11_routes (Cond.code yX11_routes cX11_routes 5 (some .int)) 4 := ⟨rfl, kinit_11, kcode_X11_routes, kyn_RX11.1, kyn_RX11.2, kyd_63⟩
theorem kz_X11_routes : Cond.instanceMethod yX11_routes ∈ zb ∧ Cond.selects RX11 yX11_routes yX11_routes ∈ zb := ⟨kin_X11_routes, kse_X11_routes⟩
theorem ky_X11_slopes : zY RX11 yX11_slopes (Cond.code yX11_slopes cX11_slopes 10 (some .int)) 2 := ⟨rfl, kinit_11, kcode_X11_slopes, kyn_RX11.1, kyn_RX11.2, kyd_9⟩
theorem kz_X11_slopes : Cond.instanceMethod yX11_slopes ∈ zb ∧ Cond.selects RX11 yX11_slopes yX11_slopes ∈ zb := ⟨kin_X11_slopes, kse_X11_slopes⟩
theorem ky_X11_state : zY RX11 yX11_state (Cond.code yX11_state cX11_state 5 (some .int)) 4 := ⟨rfl, kinit_11, kcode_X11_state, kyn_RX11.1, kyn_RX11.2, kyd_63⟩
theorem kz_X11_state : Cond.instanceMethod yX11_state ∈ zb ∧ Cond.selects RX11 yX11_state yX11_state ∈ zb := ⟨kin_X11_state, kse_X11_state⟩
theorem ky_X11_stop : zY RX11 yX11_stop (Cond.code yX11_stop cX11_stop 3 (some .int)) 2 := ⟨rfl, kinit_11, kcode_X11_stop, kyn_RX11.1, kyn_RX11.2, kyd_9⟩
theorem kz_X11_stop : Cond.instanceMethod yX11_stop ∈ zb ∧ Cond.selects RX11 yX11_stop yX11_stop ∈ zb := ⟨kin_X11_stop, kse_X11_stop⟩
theorem ky_X11_teach : zY RX11 yX11_teach (Cond.code yX11_teach cX11_teach 8 (some .int)) 4 := ⟨rfl, kinit_11, kcode_X11_teach, kyn_RX11.1, kyn_RX11.2, kyd_63⟩
theorem kz_X11_teach : Cond.instanceMethod yX11_teach ∈ zb ∧ Cond.selects RX11 yX11_teach yX11_teach ∈ zb := ⟨kin_X11_teach, kse_X11_teach⟩
theorem ky_X11_text : zY RX11 yX11_text (Cond.code yX11_text cX11_text 4 (some .int)) 2 := ⟨rfl, kinit_11, kcode_X11_text, kyn_RX11.1, kyn_RX11.2, kyd_9⟩
theorem kz_X11_text : Cond.instanceMethod yX11_text ∈ zb ∧ Cond.selects RX11 yX11_text yX11_text ∈ zb := ⟨kin_X11_text, kse_X11_text⟩
theorem ky_X11_trade : zY RX11 yX11_trade (Cond.code yX11_trade cX11_trade 7 (some .int)) 4 := ⟨rfl, kinit_11, kcode_X11_trade, kyn_RX11.1, kyn_RX11.2, kyd_65⟩
theorem kz_X11_trade : Cond.instanceMethod yX11_trade ∈ zb ∧ Cond.selects RX11 yX11_trade yX11_trade ∈ zb := ⟨kin_X11_trade, kse_X11_trade⟩
theorem ky_X11_villages : zY RX11 yX11_villages (Cond.code yX11_villages cX11_villages 5 (some .int)) 3 := ⟨rfl, kinit_11, kcode_X11_villages, kyn_RX11.1, kyn_RX11.2, kyd_20⟩
theorem kz_X11_villages : Cond.instanceMethod yX11_villages ∈ zb ∧ Cond.selects RX11 yX11_villages yX11_villages ∈ zb := ⟨kin_X11_villages, kse_X11_villages⟩
theorem ky_X10_choir : zY RX10 yX10_choir (Cond.code yX10_choir cX10_choir 4 (some .int)) 2 := ⟨rfl, kinit_10, kcode_X10_choir, kyn_RX10.1, kyn_RX10.2, kyd_9⟩
theorem kz_X10_choir : Cond.instanceMethod yX10_choir ∈ zb ∧ Cond.selects RX10 yX10_choir yX10_choir ∈ zb := ⟨kin_X10_choir, kse_X10_choir⟩
theorem ky_X10_orders : zY RX10 yX10_orders (Cond.code yX10_orders cX10_orders 3 (some .long)) 1 := ⟨rfl, kinit_10, kcode_X10_orders, kyn_RX10.1, kyn_RX10.2, kyd_19⟩
theorem kz_X10_orders : Cond.instanceMethod yX10_orders ∈ zb ∧ Cond.selects RX10 yX10_orders yX10_orders ∈ zb := ⟨kin_X10_orders, kse_X10_orders⟩
theorem ky_X10_order : zY RX10 yX10_order (Cond.code yX10_order cX10_order 4 (some .int)) 2 := ⟨rfl, kinit_10, kcode_X10_order, kyn_RX10.1, kyn_RX10.2, kyd_9⟩
theorem kz_X10_order : Cond.instanceMethod yX10_order ∈ zb ∧ Cond.selects RX10 yX10_order yX10_order ∈ zb := ⟨kin_X10_order, kse_X10_order⟩
end
section
def xsl : Nat → Int := fun k => match k with | 0 => 0 | 1 => 0 | 2 => 0 | 3 => 0 | 4 => 0 | 5 => 1 | 6 => 0 | 7 => 0 | 8 => 0 | 9 => 0 | 10 => 0 | 11 => 0 | 12 => (-1) | 13 => 0 | 14 => 0 | 15 => 0 | 16 => 0 | 17 => (-2147483648) | 18 => (-2147483648) | 19 => (-2147483648) | 20 => (-2147483648) | 21 => (-2147483648) | 22 => 0 | 23 => 0 | 24 => (-2147483648) | _ => (-2147483648)
def xsh : Nat → Int := fun k => match k with | 0 => 9 | 1 => 6 | 2 => 511 | 3 => 511 | 4 => 4 | 5 => 9 | 6 => 10 | 7 => 40 | 8 => 10 | 9 => 9 | 10 => 9 | 11 => 4 | 12 => 600 | 13 => 600 | 14 => 600 | 15 => 4 | 16 => 600 | 17 => 2147483647 | 18 => 2147483647 | 19 => 2147483647 | 20 => 2147483647 | 21 => 2147483647 | 22 => 31 | 23 => 63 | 24 => 2147483647 | _ => 2147483647
def xal : Nat → Int := fun k => match k with | 0 => 0 | 1 => 0 | 2 => 0 | 3 => 0 | 4 => 0 | 5 => 0 | 6 => 0 | 7 => 0 | 8 => 0 | 9 => 0 | 10 => (-1) | 11 => 0 | 12 => 0 | 13 => 0 | 14 => 0 | 15 => 0 | 16 => (-2147483648) | 17 => (-128) | 18 => 0 | 19 => 0 | 20 => (-9) | 21 => (-2147483648) | 22 => 0 | 23 => 0 | 24 => 0 | 25 => (-2147483648) | 26 => 0 | 27 => 0 | 28 => 0 | 29 => (-2147483648) | 30 => (-2147483648) | 31 => (-2147483648) | 32 => 0 | 33 => (-2147483648) | 34 => (-2147483648) | _ => (-2147483648)
def xah : Nat → Int := fun k => match k with | 0 => 99 | 1 => 9 | 2 => 9 | 3 => 8 | 4 => 8 | 5 => 8 | 6 => 9 | 7 => 31 | 8 => 5 | 9 => 5 | 10 => 8 | 11 => 1 | 12 => 8 | 13 => 60 | 14 => 3 | 15 => 9 | 16 => 2147483647 | 17 => 127 | 18 => 8 | 19 => 31 | 20 => 122 | 21 => 2147483647 | 22 => 511 | 23 => 1000 | 24 => 1000 | 25 => 2147483647 | 26 => 8 | 27 => 511 | 28 => 511 | 29 => 2147483647 | 30 => 2147483647 | 31 => 2147483647 | 32 => 511 | 33 => 2147483647 | 34 => 2147483647 | _ => 2147483647
def xI (S : Nat → Int32) (V : Nat → Nat → Int32) : Prop := (∀ k, iv (xsl k) (xsh k) (S k)) ∧ (∀ k j, iv (xal k) (xah k) (V k j))
def msl : Nat → Int := fun k => match k with | 0 => 0 | 1 => (-2147483648) | 2 => (-2147483648) | 3 => (-2147483648) | 4 => (-2147483648) | 5 => (-2147483648) | 6 => (-2147483648) | 7 => (-2147483648) | 8 => (-2147483648) | 9 => (-2147483648) | 10 => (-2147483648) | 11 => (-2147483648) | 12 => 0 | 13 => 0 | 14 => 0 | 15 => (-2147483648) | 16 => 0 | 17 => (-2147483648) | 18 => (-2147483648) | 19 => (-2147483648) | 20 => (-2147483648) | 21 => 0 | 22 => (-2147483648) | _ => (-2147483648)
def msh : Nat → Int := fun k => match k with | 0 => 0 | 1 => 2147483647 | 2 => 2147483647 | 3 => 2147483647 | 4 => 2147483647 | 5 => 2147483647 | 6 => 2147483647 | 7 => 2147483647 | 8 => 2147483647 | 9 => 2147483647 | 10 => 2147483647 | 11 => 2147483647 | 12 => 1 | 13 => 9 | 14 => 6 | 15 => 2147483647 | 16 => 31 | 17 => 2147483647 | 18 => 2147483647 | 19 => 2147483647 | 20 => 2147483647 | 21 => 9 | 22 => 2147483647 | _ => 2147483647
def mal : Nat → Int := fun k => match k with | 0 => (-2147483648) | 1 => (-2147483648) | 2 => 0 | 3 => 0 | 4 => 0 | 5 => (-2147483648) | 6 => (-9) | 7 => 0 | 8 => 0 | 9 => (-2147483648) | 10 => (-2147483648) | 11 => (-2147483648) | 12 => 0 | 13 => 0 | 14 => 0 | 15 => (-2147483648) | 16 => 0 | _ => (-2147483648)
def mah : Nat → Int := fun k => match k with | 0 => 2147483647 | 1 => 2147483647 | 2 => 8 | 3 => 31 | 4 => 1 | 5 => 2147483647 | 6 => 108 | 7 => 1000000 | 8 => 511 | 9 => 2147483647 | 10 => 2147483647 | 11 => 2147483647 | 12 => 1 | 13 => 1000000 | 14 => 1000000 | 15 => 2147483647 | 16 => 1000000 | _ => 2147483647
def mI (S : Nat → Int32) (V : Nat → Nat → Int32) : Prop := (∀ k, iv (msl k) (msh k) (S k)) ∧ (∀ k j, iv (mal k) (mah k) (V k j))
def mT (M : Nat → Nat → Int32) : Prop := (∀ j, iv (-128) 127 ((M 0) j)) ∧ (∀ j, iv 0 600 ((M 1) j)) ∧ (∀ j, iv 0 2 ((M 4) j)) ∧ (mLand (M 5)) ∧ (mEve (M 6)) ∧ (mSig (M 7)) ∧ (mCho (M 8)) ∧ (∀ j, iv 0 1 ((M 9) j))
theorem ex_tt {P : (Nat → Int32) → (Int32) → (Int32) → (Int32) → (Nat → Int32) → (Int32) → (Int32) → (Int32) → (Int32) → (Int32) → (Int32) → (Int32) → (Nat → Int32) → (Nat → Int32) → (Nat → Int32) → (Nat → Int32) → (Nat → Int32) → (Nat → Int32) → (Nat → Int32) → (Nat → Int32) → (Int32) → (Int32) → (Int32) → (Int32) → (Int32) → (Int32) → (Int32) → (Nat → Int32) → (Nat → Int32) → (Nat → Int32) → (Nat → Int32) → (Nat → Int32) → (Nat → Int32) → (Nat → Int32) → (Nat → Int32) → (Int32) → (Nat → Int32) → (Nat → Int32) → (Nat → Int32) → (Int32) → (Nat → Int32) → (Nat → Int32) → (Nat → Int32) → (Int32) → (Nat → Int32) → (Nat → Int32) → (Nat → Int32) → (Int32) → (Nat → Int32) → (Nat → Int32) → (Nat → Int32) → (Int32) → (Int32) → (Nat → Int32) → (Nat → Int32) → (Int32) → (Int32) → (Nat → Int32) → (Nat → Int32) → Prop} {Q : Prop} (h : ∃ (a_tape : Nat → Int32) (f_length : Int32) (f_fault : Int32) (f_place : Int32) (a_counts : Nat → Int32) (l0f_huts : Int32) (l0f_singers : Int32) (l0f_villages : Int32) (l0f_dams : Int32) (l0f_echoes : Int32) (l0f_deep : Int32) (l0f_slide : Int32) (l0a_heights : Nat → Int32) (l0a_ladders : Nat → Int32) (l0a_minutes : Nat → Int32) (l0a_echoFrom : Nat → Int32) (l0a_echoTo : Nat → Int32) (l0a_homes : Nat → Int32) (l0a_talls : Nat → Int32) (l0a_known : Nat → Int32) (l1f_huts : Int32) (l1f_singers : Int32) (l1f_villages : Int32) (l1f_dams : Int32) (l1f_echoes : Int32) (l1f_deep : Int32) (l1f_slide : Int32) (l1a_heights : Nat → Int32) (l1a_ladders : Nat → Int32) (l1a_minutes : Nat → Int32) (l1a_echoFrom : Nat → Int32) (l1a_echoTo : Nat → Int32) (l1a_homes : Nat → Int32) (l1a_talls : Nat → Int32) (l1a_known : Nat → Int32) (v0f_deeds : Int32) (v0a_kinds : Nat → Int32) (v0a_firsts : Nat → Int32) (v0a_seconds : Nat → Int32) (v1f_deeds : Int32) (v1a_kinds : Nat → Int32) (v1a_firsts : Nat → Int32) (v1a_seconds : Nat → Int32) (s0f_facts : Int32) (s0a_heard : Nat → Int32) (s0a_huts : Nat → Int32) (s0a_minutes : Nat → Int32) (s1f_facts : Int32) (s1a_heard : Nat → Int32) (s1a_huts : Nat → Int32) (s1a_minutes : Nat → Int32) (c0f_voices : Int32) (c0f_step : Int32) (c0a_parts : Nat → Int32) (c0a_heights : Nat → Int32) (c1f_voices : Int32) (c1f_step : Int32) (c1a_parts : Nat → Int32) (c1a_heights : Nat → Int32), P a_tape f_length f_fault f_place a_counts l0f_huts l0f_singers l0f_villages l0f_dams l0f_echoes l0f_deep l0f_slide l0a_heights l0a_ladders l0a_minutes l0a_echoFrom l0a_echoTo l0a_homes l0a_talls l0a_known l1f_huts l1f_singers l1f_villages l1f_dams l1f_echoes l1f_deep l1f_slide l1a_heights l1a_ladders l1a_minutes l1a_echoFrom l1a_echoTo l1a_homes l1a_talls l1a_known v0f_deeds v0a_kinds v0a_firsts v0a_seconds v1f_deeds v1a_kinds v1a_firsts v1a_seconds s0f_facts s0a_heard s0a_huts s0a_minutes s1f_facts s1a_heard s1a_huts s1a_minutes c0f_voices c0f_step c0a_parts c0a_heights c1f_voices c1f_step c1a_parts c1a_heights) (k : ∀ (a_tape : Nat → Int32) (f_length : Int32) (f_fault : Int32) (f_place : Int32) (a_counts : Nat → Int32) (l0f_huts : Int32) (l0f_singers : Int32) (l0f_villages : Int32) (l0f_dams : Int32) (l0f_echoes : Int32) (l0f_deep : Int32) (l0f_slide : Int32) (l0a_heights : Nat → Int32) (l0a_ladders : Nat → Int32) (l0a_minutes : Nat → Int32) (l0a_echoFrom : Nat → Int32) (l0a_echoTo : Nat → Int32) (l0a_homes : Nat → Int32) (l0a_talls : Nat → Int32) (l0a_known : Nat → Int32) (l1f_huts : Int32) (l1f_singers : Int32) (l1f_villages : Int32) (l1f_dams : Int32) (l1f_echoes : Int32) (l1f_deep : Int32) (l1f_slide : Int32) (l1a_heights : Nat → Int32) (l1a_ladders : Nat → Int32) (l1a_minutes : Nat → Int32) (l1a_echoFrom : Nat → Int32) (l1a_echoTo : Nat → Int32) (l1a_homes : Nat → Int32) (l1a_talls : Nat → Int32) (l1a_known : Nat → Int32) (v0f_deeds : Int32) (v0a_kinds : Nat → Int32) (v0a_firsts : Nat → Int32) (v0a_seconds : Nat → Int32) (v1f_deeds : Int32) (v1a_kinds : Nat → Int32) (v1a_firsts : Nat → Int32) (v1a_seconds : Nat → Int32) (s0f_facts : Int32) (s0a_heard : Nat → Int32) (s0a_huts : Nat → Int32) (s0a_minutes : Nat → Int32) (s1f_facts : Int32) (s1a_heard : Nat → Int32) (s1a_huts : Nat → Int32) (s1a_minutes : Nat → Int32) (c0f_voices : Int32) (c0f_step : Int32) (c0a_parts : Nat → Int32) (c0a_heights : Nat → Int32) (c1f_voices : Int32) (c1f_step : Int32) (c1a_parts : Nat → Int32) (c1a_heights : Nat → Int32), P a_tape f_length f_fault f_place a_counts l0f_huts l0f_singers l0f_villages l0f_dams l0f_echoes l0f_deep l0f_slide l0a_heights l0a_ladders l0a_minutes l0a_echoFrom l0a_echoTo l0a_homes l0a_talls l0a_known l1f_huts l1f_singers l1f_villages l1f_dams l1f_echoes l1f_deep l1f_slide l1a_heights l1a_ladders l1a_minutes l1a_echoFrom l1a_echoTo l1a_homes l1a_talls l1a_known v0f_deeds v0a_kinds v0a_firsts v0a_seconds v1f_deeds v1a_kinds v1a_firsts v1a_seconds s0f_facts s0a_heard s0a_huts s0a_minutes s1f_facts s1a_heard s1a_huts s1a_minutes c0f_voices c0f_step c0a_parts c0a_heights c1f_voices c1f_step c1a_parts c1a_heights → Q) : Q :=
  h.elim fun a_tape h => h.elim fun f_length h => h.elim fun f_fault h => h.elim fun f_place h => h.elim fun a_counts h => h.elim fun l0f_huts h => h.elim fun l0f_singers h => h.elim fun l0f_villages h => h.elim fun l0f_dams h => h.elim fun l0f_echoes h => h.elim fun l0f_deep h => h.elim fun l0f_slide h => h.elim fun l0a_heights h => h.elim fun l0a_ladders h => h.elim fun l0a_minutes h => h.elim fun l0a_echoFrom h => h.elim fun l0a_echoTo h => h.elim fun l0a_homes h => h.elim fun l0a_talls h => h.elim fun l0a_known h => h.elim fun l1f_huts h => h.elim fun l1f_singers h => h.elim fun l1f_villages h => h.elim fun l1f_dams h => h.elim fun l1f_echoes h => h.elim fun l1f_deep h => h.elim fun l1f_slide h => h.elim fun l1a_heights h => h.elim fun l1a_ladders h => h.elim fun l1a_minutes h => h.elim fun l1a_echoFrom h => h.elim fun l1a_echoTo h => h.elim fun l1a_homes h => h.elim fun l1a_talls h => h.elim fun l1a_known h => h.elim fun v0f_deeds h => h.elim fun v0a_kinds h => h.elim fun v0a_firsts h => h.elim fun v0a_seconds h => h.elim fun v1f_deeds h => h.elim fun v1a_kinds h => h.elim fun v1a_firsts h => h.elim fun v1a_seconds h => h.elim fun s0f_facts h => h.elim fun s0a_heard h => h.elim fun s0a_huts h => h.elim fun s0a_minutes h => h.elim fun s1f_facts h => h.elim fun s1a_heard h => h.elim fun s1a_huts h => h.elim fun s1a_minutes h => h.elim fun c0f_voices h => h.elim fun c0f_step h => h.elim fun c0a_parts h => h.elim fun c0a_heights h => h.elim fun c1f_voices h => h.elim fun c1f_step h => h.elim fun c1a_parts h => h.elim fun c1a_heights h => k a_tape f_length f_fault f_place a_counts l0f_huts l0f_singers l0f_villages l0f_dams l0f_echoes l0f_deep l0f_slide l0a_heights l0a_ladders l0a_minutes l0a_echoFrom l0a_echoTo l0a_homes l0a_talls l0a_known l1f_huts l1f_singers l1f_villages l1f_dams l1f_echoes l1f_deep l1f_slide l1a_heights l1a_ladders l1a_minutes l1a_echoFrom l1a_echoTo l1a_homes l1a_talls l1a_known v0f_deeds v0a_kinds v0a_firsts v0a_seconds v1f_deeds v1a_kinds v1a_firsts v1a_seconds s0f_facts s0a_heard s0a_huts s0a_minutes s1f_facts s1a_heard s1a_huts s1a_minutes c0f_voices c0f_step c0a_parts c0a_heights c1f_voices c1f_step c1a_parts c1a_heights h
def XS (E : zE) (bx : Nat) (mi : Nat → Option Nat) (ko : Option Nat) (T : TT) (H : Heap) : Prop := ∃ (S : Nat → Int32) (V : Nat → Nat → Int32), xI S V ∧ wxW E bx (T.2 0) (T.1 0) (T.1 1) (T.1 2) (T.2 1) (T.1 3) (T.1 4) (T.1 5) (T.1 6) (T.1 7) (T.1 8) (T.1 9) (T.2 2) (T.2 3) (T.2 4) (T.2 5) (T.2 6) (T.2 7) (T.2 8) (T.2 9) (T.1 10) (T.1 11) (T.1 12) (T.1 13) (T.1 14) (T.1 15) (T.1 16) (T.2 10) (T.2 11) (T.2 12) (T.2 13) (T.2 14) (T.2 15) (T.2 16) (T.2 17) (T.1 17) (T.2 18) (T.2 19) (T.2 20) (T.1 18) (T.2 21) (T.2 22) (T.2 23) (T.1 19) (T.2 24) (T.2 25) (T.2 26) (T.1 20) (T.2 27) (T.2 28) (T.2 29) (T.1 21) (T.1 22) (T.2 30) (T.2 31) (T.1 23) (T.1 24) (T.2 32) (T.2 33) mi (S 0) (S 1) (S 2) (S 3) (S 4) (S 5) (S 6) (V 0) (V 1) (V 2) (V 3) (V 4) (V 5) (V 6) (V 7) (S 7) (V 8) (V 9) (V 10) (S 8) (V 11) (V 12) (V 13) (S 9) (S 10) (V 14) (V 15) (S 11) (S 12) (V 16) (V 17) (S 13) (S 14) (S 15) (S 16) (S 17) (S 18) (S 19) (S 20) (S 21) (S 22) (S 23) (S 24) (V 18) (V 19) (V 20) (V 21) (V 22) (V 23) (V 24) (V 25) (V 26) (V 27) (V 28) (V 29) (V 30) ko (V 31) (V 32) (V 33) (V 34) H
def IS (E : zE) (q : Nat) (T : TT) (H : Heap) : Prop := wtW E q (T.2 0) (T.1 0) (T.1 1) (T.1 2) (T.2 1) (T.1 3) (T.1 4) (T.1 5) (T.1 6) (T.1 7) (T.1 8) (T.1 9) (T.2 2) (T.2 3) (T.2 4) (T.2 5) (T.2 6) (T.2 7) (T.2 8) (T.2 9) (T.1 10) (T.1 11) (T.1 12) (T.1 13) (T.1 14) (T.1 15) (T.1 16) (T.2 10) (T.2 11) (T.2 12) (T.2 13) (T.2 14) (T.2 15) (T.2 16) (T.2 17) (T.1 17) (T.2 18) (T.2 19) (T.2 20) (T.1 18) (T.2 21) (T.2 22) (T.2 23) (T.1 19) (T.2 24) (T.2 25) (T.2 26) (T.1 20) (T.2 27) (T.2 28) (T.2 29) (T.1 21) (T.1 22) (T.2 30) (T.2 31) (T.1 23) (T.1 24) (T.2 32) (T.2 33) H
def MS (E : zE) (bm : Nat) (M : Nat → Nat → Int32) (H : Heap) : Prop := ∃ (S : Nat → Int32) (V : Nat → Nat → Int32) (f_word : Int64) (a_rest : Nat → Int64), mI S V ∧ mW E bm (S 0) (M 0) (M 1) (M 2) (M 3) (M 4) (M 5) (M 6) (M 7) (M 8) (S 1) (S 2) (S 3) (S 4) (S 5) f_word (S 6) (S 7) (S 8) (V 0) (V 1) (S 9) (S 10) (S 11) (S 12) (S 13) (S 14) (S 15) (V 2) (V 3) (V 4) (V 5) (V 6) (S 16) (S 17) (S 18) (V 7) (V 8) (V 9) (V 10) (V 11) (V 12) (V 13) (S 19) (V 14) (S 20) (S 21) a_rest (V 15) (S 22) (V 16) (M 9) H
def TS (E : zE) (t : Nat) (H : Heap) : Prop := ∃ z, k0T E t z H
set_option maxRecDepth 40000 in
set_option maxHeartbeats 4000000 in
theorem XS_of {E : zE} {bx : Nat} {mi : Nat → Option Nat} {ko : Option Nat} {T : TT} {H : Heap} {rlf_huts : Int32} {rlf_singers : Int32} {rlf_villages : Int32} {rlf_dams : Int32} {rlf_echoes : Int32} {rlf_deep : Int32} {rlf_slide : Int32} {rla_heights : Nat → Int32} {rla_ladders : Nat → Int32} {rla_minutes : Nat → Int32} {rla_echoFrom : Nat → Int32} {rla_echoTo : Nat → Int32} {rla_homes : Nat → Int32} {rla_talls : Nat → Int32} {rla_known : Nat → Int32} {rvf_deeds : Int32} {rva_kinds : Nat → Int32} {rva_firsts : Nat → Int32} {rva_seconds : Nat → Int32} {rsf_facts : Int32} {rsa_heard : Nat → Int32} {rsa_huts : Nat → Int32} {rsa_minutes : Nat → Int32} {rcf_voices : Int32} {rcf_step : Int32} {rca_parts : Nat → Int32} {rca_heights : Nat → Int32} {rf_fault : Int32} {rf_faultPlace : Int32} {ra_numbers : Nat → Int32} {ra_tape : Nat → Int32} {rf_length : Int32} {rf_behind : Int32} {rf_kind : Int32} {rf_first : Int32} {rf_value : Int32} {rf_hutsToldOf : Int32} {rf_singersToldOf : Int32} {nf_minute : Int32} {nf_avalanches : Int32} {nf_begun : Int32} {nf_climbed : Int32} {nf_seed : Int32} {na_huts : Nat → Int32} {na_known : Nat → Int32} {na_levels : Nat → Int32} {na_snow : Nat → Int32} {na_open : Nat → Int32} {pa_heard : Nat → Int32} {pa_walked : Nat → Int32} {pa_total : Nat → Int32} {pa_longest : Nat → Int32} {pa_next : Nat → Int32} {pa_cover : Nat → Int32} {pa_now : Nat → Int32} {pa_then : Nat → Int32} {ka_gaps : Nat → Int32} {ka_behind : Nat → Int32} {ba_less : Nat → Int32} {ba_full : Nat → Int32} (hX : wxW E bx (T.2 0) (T.1 0) (T.1 1) (T.1 2) (T.2 1) (T.1 3) (T.1 4) (T.1 5) (T.1 6) (T.1 7) (T.1 8) (T.1 9) (T.2 2) (T.2 3) (T.2 4) (T.2 5) (T.2 6) (T.2 7) (T.2 8) (T.2 9) (T.1 10) (T.1 11) (T.1 12) (T.1 13) (T.1 14) (T.1 15) (T.1 16) (T.2 10) (T.2 11) (T.2 12) (T.2 13) (T.2 14) (T.2 15) (T.2 16) (T.2 17) (T.1 17) (T.2 18) (T.2 19) (T.2 20) (T.1 18) (T.2 21) (T.2 22) (T.2 23) (T.1 19) (T.2 24) (T.2 25) (T.2 26) (T.1 20) (T.2 27) (T.2 28) (T.2 29) (T.1 21) (T.1 22) (T.2 30) (T.2 31) (T.1 23) (T.1 24) (T.2 32) (T.2 33) mi rlf_huts rlf_singers rlf_villages rlf_dams rlf_echoes rlf_deep rlf_slide rla_heights rla_ladders rla_minutes rla_echoFrom rla_echoTo rla_homes rla_talls rla_known rvf_deeds rva_kinds rva_firsts rva_seconds rsf_facts rsa_heard rsa_huts rsa_minutes rcf_voices rcf_step rca_parts rca_heights rf_fault rf_faultPlace ra_numbers ra_tape rf_length rf_behind rf_kind rf_first rf_value rf_hutsToldOf rf_singersToldOf nf_minute nf_avalanches nf_begun nf_climbed nf_seed na_huts na_known na_levels na_snow na_open pa_heard pa_walked pa_total pa_longest pa_next pa_cover pa_now pa_then ko ka_gaps ka_behind ba_less ba_full H) (k_rlf_huts : iv 0 9 rlf_huts) (k_rlf_singers : iv 0 6 rlf_singers) (k_rlf_villages : iv 0 511 rlf_villages) (k_rlf_dams : iv 0 511 rlf_dams) (k_rlf_echoes : iv 0 4 rlf_echoes) (k_rlf_deep : iv 1 9 rlf_deep) (k_rlf_slide : iv 0 10 rlf_slide) (k_rla_heights : ∀ j, iv 0 99 (rla_heights j)) (k_rla_ladders : ∀ j, iv 0 9 (rla_ladders j)) (k_rla_minutes : ∀ j, iv 0 9 (rla_minutes j)) (k_rla_echoFrom : ∀ j, iv 0 8 (rla_echoFrom j)) (k_rla_echoTo : ∀ j, iv 0 8 (rla_echoTo j)) (k_rla_homes : ∀ j, iv 0 8 (rla_homes j)) (k_rla_talls : ∀ j, iv 0 9 (rla_talls j)) (k_rla_known : ∀ j, iv 0 31 (rla_known j)) (k_rvf_deeds : iv 0 40 rvf_deeds) (k_rva_kinds : ∀ j, iv 0 5 (rva_kinds j)) (k_rva_firsts : ∀ j, iv 0 5 (rva_firsts j)) (k_rva_seconds : ∀ j, iv (-1) 8 (rva_seconds j)) (k_rsf_facts : iv 0 10 rsf_facts) (k_rsa_heard : ∀ j, iv 0 1 (rsa_heard j)) (k_rsa_huts : ∀ j, iv 0 8 (rsa_huts j)) (k_rsa_minutes : ∀ j, iv 0 60 (rsa_minutes j)) (k_rcf_voices : iv 0 9 rcf_voices) (k_rcf_step : iv 0 9 rcf_step) (k_rca_parts : ∀ j, iv 0 3 (rca_parts j)) (k_rca_heights : ∀ j, iv 0 9 (rca_heights j)) (k_rf_fault : iv 0 4 rf_fault) (k_rf_faultPlace : iv (-1) 600 rf_faultPlace) (k_ra_tape : ∀ j, iv (-128) 127 (ra_tape j)) (k_rf_length : iv 0 600 rf_length) (k_rf_behind : iv 0 600 rf_behind) (k_rf_kind : iv 0 4 rf_kind) (k_rf_first : iv 0 600 rf_first) (k_nf_begun : iv 0 31 nf_begun) (k_nf_climbed : iv 0 63 nf_climbed) (k_na_huts : ∀ j, iv 0 8 (na_huts j)) (k_na_known : ∀ j, iv 0 31 (na_known j)) (k_na_levels : ∀ j, iv (-9) 122 (na_levels j)) (k_na_open : ∀ j, iv 0 511 (na_open j)) (k_pa_heard : ∀ j, iv 0 1000 (pa_heard j)) (k_pa_walked : ∀ j, iv 0 1000 (pa_walked j)) (k_pa_longest : ∀ j, iv 0 8 (pa_longest j)) (k_pa_next : ∀ j, iv 0 511 (pa_next j)) (k_pa_cover : ∀ j, iv 0 511 (pa_cover j)) (k_ka_behind : ∀ j, iv 0 511 (ka_behind j)) : XS E bx mi ko T H :=
  ⟨fun k => match k with | 0 => rlf_huts | 1 => rlf_singers | 2 => rlf_villages | 3 => rlf_dams | 4 => rlf_echoes | 5 => rlf_deep | 6 => rlf_slide | 7 => rvf_deeds | 8 => rsf_facts | 9 => rcf_voices | 10 => rcf_step | 11 => rf_fault | 12 => rf_faultPlace | 13 => rf_length | 14 => rf_behind | 15 => rf_kind | 16 => rf_first | 17 => rf_value | 18 => rf_hutsToldOf | 19 => rf_singersToldOf | 20 => nf_minute | 21 => nf_avalanches | 22 => nf_begun | 23 => nf_climbed | 24 => nf_seed | _ => 0, fun k => match k with | 0 => rla_heights | 1 => rla_ladders | 2 => rla_minutes | 3 => rla_echoFrom | 4 => rla_echoTo | 5 => rla_homes | 6 => rla_talls | 7 => rla_known | 8 => rva_kinds | 9 => rva_firsts | 10 => rva_seconds | 11 => rsa_heard | 12 => rsa_huts | 13 => rsa_minutes | 14 => rca_parts | 15 => rca_heights | 16 => ra_numbers | 17 => ra_tape | 18 => na_huts | 19 => na_known | 20 => na_levels | 21 => na_snow | 22 => na_open | 23 => pa_heard | 24 => pa_walked | 25 => pa_total | 26 => pa_longest | 27 => pa_next | 28 => pa_cover | 29 => pa_now | 30 => pa_then | 31 => ka_gaps | 32 => ka_behind | 33 => ba_less | 34 => ba_full | _ => fun _ => 0, ⟨fun k => match k with | 0 => k_rlf_huts | 1 => k_rlf_singers | 2 => k_rlf_villages | 3 => k_rlf_dams | 4 => k_rlf_echoes | 5 => k_rlf_deep | 6 => k_rlf_slide | 7 => k_rvf_deeds | 8 => k_rsf_facts | 9 => k_rcf_voices | 10 => k_rcf_step | 11 => k_rf_fault | 12 => k_rf_faultPlace | 13 => k_rf_length | 14 => k_rf_behind | 15 => k_rf_kind | 16 => k_rf_first | 17 => iv_top _ | 18 => iv_top _ | 19 => iv_top _ | 20 => iv_top _ | 21 => iv_top _ | 22 => k_nf_begun | 23 => k_nf_climbed | 24 => iv_top _ | k + 25 => iv_top _, fun k j => match k with | 0 => k_rla_heights j | 1 => k_rla_ladders j | 2 => k_rla_minutes j | 3 => k_rla_echoFrom j | 4 => k_rla_echoTo j | 5 => k_rla_homes j | 6 => k_rla_talls j | 7 => k_rla_known j | 8 => k_rva_kinds j | 9 => k_rva_firsts j | 10 => k_rva_seconds j | 11 => k_rsa_heard j | 12 => k_rsa_huts j | 13 => k_rsa_minutes j | 14 => k_rca_parts j | 15 => k_rca_heights j | 16 => iv_top _ | 17 => k_ra_tape j | 18 => k_na_huts j | 19 => k_na_known j | 20 => k_na_levels j | 21 => iv_top _ | 22 => k_na_open j | 23 => k_pa_heard j | 24 => k_pa_walked j | 25 => iv_top _ | 26 => k_pa_longest j | 27 => k_pa_next j | 28 => k_pa_cover j | 29 => iv_top _ | 30 => iv_top _ | 31 => iv_top _ | 32 => k_ka_behind j | 33 => iv_top _ | 34 => iv_top _ | k + 35 => iv_top _⟩, hX⟩
set_option maxRecDepth 40000 in
set_option maxHeartbeats 4000000 in
theorem XS_of2 {E : zE} {bx : Nat} {mi : Nat → Option Nat} {ko : Option Nat} {H : Heap} {ta_tape : Nat → Int32} {tf_length : Int32} {tf_fault : Int32} {tf_place : Int32} {ta_counts : Nat → Int32} {tl0f_huts : Int32} {tl0f_singers : Int32} {tl0f_villages : Int32} {tl0f_dams : Int32} {tl0f_echoes : Int32} {tl0f_deep : Int32} {tl0f_slide : Int32} {tl0a_heights : Nat → Int32} {tl0a_ladders : Nat → Int32} {tl0a_minutes : Nat → Int32} {tl0a_echoFrom : Nat → Int32} {tl0a_echoTo : Nat → Int32} {tl0a_homes : Nat → Int32} {tl0a_talls : Nat → Int32} {tl0a_known : Nat → Int32} {tl1f_huts : Int32} {tl1f_singers : Int32} {tl1f_villages : Int32} {tl1f_dams : Int32} {tl1f_echoes : Int32} {tl1f_deep : Int32} {tl1f_slide : Int32} {tl1a_heights : Nat → Int32} {tl1a_ladders : Nat → Int32} {tl1a_minutes : Nat → Int32} {tl1a_echoFrom : Nat → Int32} {tl1a_echoTo : Nat → Int32} {tl1a_homes : Nat → Int32} {tl1a_talls : Nat → Int32} {tl1a_known : Nat → Int32} {tv0f_deeds : Int32} {tv0a_kinds : Nat → Int32} {tv0a_firsts : Nat → Int32} {tv0a_seconds : Nat → Int32} {tv1f_deeds : Int32} {tv1a_kinds : Nat → Int32} {tv1a_firsts : Nat → Int32} {tv1a_seconds : Nat → Int32} {ts0f_facts : Int32} {ts0a_heard : Nat → Int32} {ts0a_huts : Nat → Int32} {ts0a_minutes : Nat → Int32} {ts1f_facts : Int32} {ts1a_heard : Nat → Int32} {ts1a_huts : Nat → Int32} {ts1a_minutes : Nat → Int32} {tc0f_voices : Int32} {tc0f_step : Int32} {tc0a_parts : Nat → Int32} {tc0a_heights : Nat → Int32} {tc1f_voices : Int32} {tc1f_step : Int32} {tc1a_parts : Nat → Int32} {tc1a_heights : Nat → Int32} {rlf_huts : Int32} {rlf_singers : Int32} {rlf_villages : Int32} {rlf_dams : Int32} {rlf_echoes : Int32} {rlf_deep : Int32} {rlf_slide : Int32} {rla_heights : Nat → Int32} {rla_ladders : Nat → Int32} {rla_minutes : Nat → Int32} {rla_echoFrom : Nat → Int32} {rla_echoTo : Nat → Int32} {rla_homes : Nat → Int32} {rla_talls : Nat → Int32} {rla_known : Nat → Int32} {rvf_deeds : Int32} {rva_kinds : Nat → Int32} {rva_firsts : Nat → Int32} {rva_seconds : Nat → Int32} {rsf_facts : Int32} {rsa_heard : Nat → Int32} {rsa_huts : Nat → Int32} {rsa_minutes : Nat → Int32} {rcf_voices : Int32} {rcf_step : Int32} {rca_parts : Nat → Int32} {rca_heights : Nat → Int32} {rf_fault : Int32} {rf_faultPlace : Int32} {ra_numbers : Nat → Int32} {ra_tape : Nat → Int32} {rf_length : Int32} {rf_behind : Int32} {rf_kind : Int32} {rf_first : Int32} {rf_value : Int32} {rf_hutsToldOf : Int32} {rf_singersToldOf : Int32} {nf_minute : Int32} {nf_avalanches : Int32} {nf_begun : Int32} {nf_climbed : Int32} {nf_seed : Int32} {na_huts : Nat → Int32} {na_known : Nat → Int32} {na_levels : Nat → Int32} {na_snow : Nat → Int32} {na_open : Nat → Int32} {pa_heard : Nat → Int32} {pa_walked : Nat → Int32} {pa_total : Nat → Int32} {pa_longest : Nat → Int32} {pa_next : Nat → Int32} {pa_cover : Nat → Int32} {pa_now : Nat → Int32} {pa_then : Nat → Int32} {ka_gaps : Nat → Int32} {ka_behind : Nat → Int32} {ba_less : Nat → Int32} {ba_full : Nat → Int32} (hX : wxW E bx ta_tape tf_length tf_fault tf_place ta_counts tl0f_huts tl0f_singers tl0f_villages tl0f_dams tl0f_echoes tl0f_deep tl0f_slide tl0a_heights tl0a_ladders tl0a_minutes tl0a_echoFrom tl0a_echoTo tl0a_homes tl0a_talls tl0a_known tl1f_huts tl1f_singers tl1f_villages tl1f_dams tl1f_echoes tl1f_deep tl1f_slide tl1a_heights tl1a_ladders tl1a_minutes tl1a_echoFrom tl1a_echoTo tl1a_homes tl1a_talls tl1a_known tv0f_deeds tv0a_kinds tv0a_firsts tv0a_seconds tv1f_deeds tv1a_kinds tv1a_firsts tv1a_seconds ts0f_facts ts0a_heard ts0a_huts ts0a_minutes ts1f_facts ts1a_heard ts1a_huts ts1a_minutes tc0f_voices tc0f_step tc0a_parts tc0a_heights tc1f_voices tc1f_step tc1a_parts tc1a_heights mi rlf_huts rlf_singers rlf_villages rlf_dams rlf_echoes rlf_deep rlf_slide rla_heights rla_ladders rla_minutes rla_echoFrom rla_echoTo rla_homes rla_talls rla_known rvf_deeds rva_kinds rva_firsts rva_seconds rsf_facts rsa_heard rsa_huts rsa_minutes rcf_voices rcf_step rca_parts rca_heights rf_fault rf_faultPlace ra_numbers ra_tape rf_length rf_behind rf_kind rf_first rf_value rf_hutsToldOf rf_singersToldOf nf_minute nf_avalanches nf_begun nf_climbed nf_seed na_huts na_known na_levels na_snow na_open pa_heard pa_walked pa_total pa_longest pa_next pa_cover pa_now pa_then ko ka_gaps ka_behind ba_less ba_full H) (k_rlf_huts : iv 0 9 rlf_huts) (k_rlf_singers : iv 0 6 rlf_singers) (k_rlf_villages : iv 0 511 rlf_villages) (k_rlf_dams : iv 0 511 rlf_dams) (k_rlf_echoes : iv 0 4 rlf_echoes) (k_rlf_deep : iv 1 9 rlf_deep) (k_rlf_slide : iv 0 10 rlf_slide) (k_rla_heights : ∀ j, iv 0 99 (rla_heights j)) (k_rla_ladders : ∀ j, iv 0 9 (rla_ladders j)) (k_rla_minutes : ∀ j, iv 0 9 (rla_minutes j)) (k_rla_echoFrom : ∀ j, iv 0 8 (rla_echoFrom j)) (k_rla_echoTo : ∀ j, iv 0 8 (rla_echoTo j)) (k_rla_homes : ∀ j, iv 0 8 (rla_homes j)) (k_rla_talls : ∀ j, iv 0 9 (rla_talls j)) (k_rla_known : ∀ j, iv 0 31 (rla_known j)) (k_rvf_deeds : iv 0 40 rvf_deeds) (k_rva_kinds : ∀ j, iv 0 5 (rva_kinds j)) (k_rva_firsts : ∀ j, iv 0 5 (rva_firsts j)) (k_rva_seconds : ∀ j, iv (-1) 8 (rva_seconds j)) (k_rsf_facts : iv 0 10 rsf_facts) (k_rsa_heard : ∀ j, iv 0 1 (rsa_heard j)) (k_rsa_huts : ∀ j, iv 0 8 (rsa_huts j)) (k_rsa_minutes : ∀ j, iv 0 60 (rsa_minutes j)) (k_rcf_voices : iv 0 9 rcf_voices) (k_rcf_step : iv 0 9 rcf_step) (k_rca_parts : ∀ j, iv 0 3 (rca_parts j)) (k_rca_heights : ∀ j, iv 0 9 (rca_heights j)) (k_rf_fault : iv 0 4 rf_fault) (k_rf_faultPlace : iv (-1) 600 rf_faultPlace) (k_ra_tape : ∀ j, iv (-128) 127 (ra_tape j)) (k_rf_length : iv 0 600 rf_length) (k_rf_behind : iv 0 600 rf_behind) (k_rf_kind : iv 0 4 rf_kind) (k_rf_first : iv 0 600 rf_first) (k_nf_begun : iv 0 31 nf_begun) (k_nf_climbed : iv 0 63 nf_climbed) (k_na_huts : ∀ j, iv 0 8 (na_huts j)) (k_na_known : ∀ j, iv 0 31 (na_known j)) (k_na_levels : ∀ j, iv (-9) 122 (na_levels j)) (k_na_open : ∀ j, iv 0 511 (na_open j)) (k_pa_heard : ∀ j, iv 0 1000 (pa_heard j)) (k_pa_walked : ∀ j, iv 0 1000 (pa_walked j)) (k_pa_longest : ∀ j, iv 0 8 (pa_longest j)) (k_pa_next : ∀ j, iv 0 511 (pa_next j)) (k_pa_cover : ∀ j, iv 0 511 (pa_cover j)) (k_ka_behind : ∀ j, iv 0 511 (ka_behind j)) : XS E bx mi ko (tmk ta_tape tf_length tf_fault tf_place ta_counts tl0f_huts tl0f_singers tl0f_villages tl0f_dams tl0f_echoes tl0f_deep tl0f_slide tl0a_heights tl0a_ladders tl0a_minutes tl0a_echoFrom tl0a_echoTo tl0a_homes tl0a_talls tl0a_known tl1f_huts tl1f_singers tl1f_villages tl1f_dams tl1f_echoes tl1f_deep tl1f_slide tl1a_heights tl1a_ladders tl1a_minutes tl1a_echoFrom tl1a_echoTo tl1a_homes tl1a_talls tl1a_known tv0f_deeds tv0a_kinds tv0a_firsts tv0a_seconds tv1f_deeds tv1a_kinds tv1a_firsts tv1a_seconds ts0f_facts ts0a_heard ts0a_huts ts0a_minutes ts1f_facts ts1a_heard ts1a_huts ts1a_minutes tc0f_voices tc0f_step tc0a_parts tc0a_heights tc1f_voices tc1f_step tc1a_parts tc1a_heights) H := XS_of (T := tmk ta_tape tf_length tf_fault tf_place ta_counts tl0f_huts tl0f_singers tl0f_villages tl0f_dams tl0f_echoes tl0f_deep tl0f_slide tl0a_heights tl0a_ladders tl0a_minutes tl0a_echoFrom tl0a_echoTo tl0a_homes tl0a_talls tl0a_known tl1f_huts tl1f_singers tl1f_villages tl1f_dams tl1f_echoes tl1f_deep tl1f_slide tl1a_heights tl1a_ladders tl1a_minutes tl1a_echoFrom tl1a_echoTo tl1a_homes tl1a_talls tl1a_known tv0f_deeds tv0a_kinds tv0a_firsts tv0a_seconds tv1f_deeds tv1a_kinds tv1a_firsts tv1a_seconds ts0f_facts ts0a_heard ts0a_huts ts0a_minutes ts1f_facts ts1a_heard ts1a_huts ts1a_minutes tc0f_voices tc0f_step tc0a_parts tc0a_heights tc1f_voices tc1f_step tc1a_parts tc1a_heights) hX k_rlf_huts k_rlf_singers k_rlf_villages k_rlf_dams k_rlf_echoes k_rlf_deep k_rlf_slide k_rla_heights k_rla_ladders k_rla_minutes k_rla_echoFrom k_rla_echoTo k_rla_homes k_rla_talls k_rla_known k_rvf_deeds k_rva_kinds k_rva_firsts k_rva_seconds k_rsf_facts k_rsa_heard k_rsa_huts k_rsa_minutes k_rcf_voices k_rcf_step k_rca_parts k_rca_heights k_rf_fault k_rf_faultPlace k_ra_tape k_rf_length k_rf_behind k_rf_kind k_rf_first k_nf_begun k_nf_climbed k_na_huts k_na_known k_na_levels k_na_open k_pa_heard k_pa_walked k_pa_longest k_pa_next k_pa_cover k_ka_behind
set_option maxRecDepth 40000 in
set_option maxHeartbeats 4000000 in
theorem tJ_of {a_tape : Nat → Int32} {f_length : Int32} {f_fault : Int32} {f_place : Int32} {a_counts : Nat → Int32} {l0f_huts : Int32} {l0f_singers : Int32} {l0f_villages : Int32} {l0f_dams : Int32} {l0f_echoes : Int32} {l0f_deep : Int32} {l0f_slide : Int32} {l0a_heights : Nat → Int32} {l0a_ladders : Nat → Int32} {l0a_minutes : Nat → Int32} {l0a_echoFrom : Nat → Int32} {l0a_echoTo : Nat → Int32} {l0a_homes : Nat → Int32} {l0a_talls : Nat → Int32} {l0a_known : Nat → Int32} {l1f_huts : Int32} {l1f_singers : Int32} {l1f_villages : Int32} {l1f_dams : Int32} {l1f_echoes : Int32} {l1f_deep : Int32} {l1f_slide : Int32} {l1a_heights : Nat → Int32} {l1a_ladders : Nat → Int32} {l1a_minutes : Nat → Int32} {l1a_echoFrom : Nat → Int32} {l1a_echoTo : Nat → Int32} {l1a_homes : Nat → Int32} {l1a_talls : Nat → Int32} {l1a_known : Nat → Int32} {v0f_deeds : Int32} {v0a_kinds : Nat → Int32} {v0a_firsts : Nat → Int32} {v0a_seconds : Nat → Int32} {v1f_deeds : Int32} {v1a_kinds : Nat → Int32} {v1a_firsts : Nat → Int32} {v1a_seconds : Nat → Int32} {s0f_facts : Int32} {s0a_heard : Nat → Int32} {s0a_huts : Nat → Int32} {s0a_minutes : Nat → Int32} {s1f_facts : Int32} {s1a_heard : Nat → Int32} {s1a_huts : Nat → Int32} {s1a_minutes : Nat → Int32} {c0f_voices : Int32} {c0f_step : Int32} {c0a_parts : Nat → Int32} {c0a_heights : Nat → Int32} {c1f_voices : Int32} {c1f_step : Int32} {c1a_parts : Nat → Int32} {c1a_heights : Nat → Int32} (k_a_tape : ∀ j, iv (-128) 127 (a_tape j)) (k_f_length : iv 0 600 f_length) (k_f_fault : iv 0 4 f_fault) (k_f_place : iv (-1) 600 f_place) (k_a_counts : ∀ j, iv 0 2 (a_counts j)) (k_l0f_huts : iv 0 9 l0f_huts) (k_l0f_singers : iv 0 6 l0f_singers) (k_l0f_villages : iv 0 511 l0f_villages) (k_l0f_dams : iv 0 511 l0f_dams) (k_l0f_echoes : iv 0 4 l0f_echoes) (k_l0f_deep : iv 1 9 l0f_deep) (k_l0f_slide : iv 0 10 l0f_slide) (k_l0a_heights : ∀ j, iv 0 99 (l0a_heights j)) (k_l0a_ladders : ∀ j, iv 0 9 (l0a_ladders j)) (k_l0a_minutes : ∀ j, iv 0 9 (l0a_minutes j)) (k_l0a_echoFrom : ∀ j, iv 0 8 (l0a_echoFrom j)) (k_l0a_echoTo : ∀ j, iv 0 8 (l0a_echoTo j)) (k_l0a_homes : ∀ j, iv 0 8 (l0a_homes j)) (k_l0a_talls : ∀ j, iv 0 9 (l0a_talls j)) (k_l0a_known : ∀ j, iv 0 31 (l0a_known j)) (k_l1f_huts : iv 0 9 l1f_huts) (k_l1f_singers : iv 0 6 l1f_singers) (k_l1f_villages : iv 0 511 l1f_villages) (k_l1f_dams : iv 0 511 l1f_dams) (k_l1f_echoes : iv 0 4 l1f_echoes) (k_l1f_deep : iv 1 9 l1f_deep) (k_l1f_slide : iv 0 10 l1f_slide) (k_l1a_heights : ∀ j, iv 0 99 (l1a_heights j)) (k_l1a_ladders : ∀ j, iv 0 9 (l1a_ladders j)) (k_l1a_minutes : ∀ j, iv 0 9 (l1a_minutes j)) (k_l1a_echoFrom : ∀ j, iv 0 8 (l1a_echoFrom j)) (k_l1a_echoTo : ∀ j, iv 0 8 (l1a_echoTo j)) (k_l1a_homes : ∀ j, iv 0 8 (l1a_homes j)) (k_l1a_talls : ∀ j, iv 0 9 (l1a_talls j)) (k_l1a_known : ∀ j, iv 0 31 (l1a_known j)) (k_v0f_deeds : iv 0 40 v0f_deeds) (k_v0a_kinds : ∀ j, iv 0 5 (v0a_kinds j)) (k_v0a_firsts : ∀ j, iv 0 5 (v0a_firsts j)) (k_v0a_seconds : ∀ j, iv (-1) 8 (v0a_seconds j)) (k_v1f_deeds : iv 0 40 v1f_deeds) (k_v1a_kinds : ∀ j, iv 0 5 (v1a_kinds j)) (k_v1a_firsts : ∀ j, iv 0 5 (v1a_firsts j)) (k_v1a_seconds : ∀ j, iv (-1) 8 (v1a_seconds j)) (k_s0f_facts : iv 0 10 s0f_facts) (k_s0a_heard : ∀ j, iv 0 1 (s0a_heard j)) (k_s0a_huts : ∀ j, iv 0 8 (s0a_huts j)) (k_s0a_minutes : ∀ j, iv 0 60 (s0a_minutes j)) (k_s1f_facts : iv 0 10 s1f_facts) (k_s1a_heard : ∀ j, iv 0 1 (s1a_heard j)) (k_s1a_huts : ∀ j, iv 0 8 (s1a_huts j)) (k_s1a_minutes : ∀ j, iv 0 60 (s1a_minutes j)) (k_c0f_voices : iv 0 9 c0f_voices) (k_c0f_step : iv 0 9 c0f_step) (k_c0a_parts : ∀ j, iv 0 3 (c0a_parts j)) (k_c0a_heights : ∀ j, iv 0 9 (c0a_heights j)) (k_c1f_voices : iv 0 9 c1f_voices) (k_c1f_step : iv 0 9 c1f_step) (k_c1a_parts : ∀ j, iv 0 3 (c1a_parts j)) (k_c1a_heights : ∀ j, iv 0 9 (c1a_heights j)) : tJ (tmk a_tape f_length f_fault f_place a_counts l0f_huts l0f_singers l0f_villages l0f_dams l0f_echoes l0f_deep l0f_slide l0a_heights l0a_ladders l0a_minutes l0a_echoFrom l0a_echoTo l0a_homes l0a_talls l0a_known l1f_huts l1f_singers l1f_villages l1f_dams l1f_echoes l1f_deep l1f_slide l1a_heights l1a_ladders l1a_minutes l1a_echoFrom l1a_echoTo l1a_homes l1a_talls l1a_known v0f_deeds v0a_kinds v0a_firsts v0a_seconds v1f_deeds v1a_kinds v1a_firsts v1a_seconds s0f_facts s0a_heard s0a_huts s0a_minutes s1f_facts s1a_heard s1a_huts s1a_minutes c0f_voices c0f_step c0a_parts c0a_heights c1f_voices c1f_step c1a_parts c1a_heights) :=
  ⟨fun k => match k with | 0 => k_f_length | 1 => k_f_fault | 2 => k_f_place | 3 => k_l0f_huts | 4 => k_l0f_singers | 5 => k_l0f_villages | 6 => k_l0f_dams | 7 => k_l0f_echoes | 8 => k_l0f_deep | 9 => k_l0f_slide | 10 => k_l1f_huts | 11 => k_l1f_singers | 12 => k_l1f_villages | 13 => k_l1f_dams | 14 => k_l1f_echoes | 15 => k_l1f_deep | 16 => k_l1f_slide | 17 => k_v0f_deeds | 18 => k_v1f_deeds | 19 => k_s0f_facts | 20 => k_s1f_facts | 21 => k_c0f_voices | 22 => k_c0f_step | 23 => k_c1f_voices | 24 => k_c1f_step | k + 25 => iv_top _, fun k j => match k with | 0 => k_a_tape j | 1 => k_a_counts j | 2 => k_l0a_heights j | 3 => k_l0a_ladders j | 4 => k_l0a_minutes j | 5 => k_l0a_echoFrom j | 6 => k_l0a_echoTo j | 7 => k_l0a_homes j | 8 => k_l0a_talls j | 9 => k_l0a_known j | 10 => k_l1a_heights j | 11 => k_l1a_ladders j | 12 => k_l1a_minutes j | 13 => k_l1a_echoFrom j | 14 => k_l1a_echoTo j | 15 => k_l1a_homes j | 16 => k_l1a_talls j | 17 => k_l1a_known j | 18 => k_v0a_kinds j | 19 => k_v0a_firsts j | 20 => k_v0a_seconds j | 21 => k_v1a_kinds j | 22 => k_v1a_firsts j | 23 => k_v1a_seconds j | 24 => k_s0a_heard j | 25 => k_s0a_huts j | 26 => k_s0a_minutes j | 27 => k_s1a_heard j | 28 => k_s1a_huts j | 29 => k_s1a_minutes j | 30 => k_c0a_parts j | 31 => k_c0a_heights j | 32 => k_c1a_parts j | 33 => k_c1a_heights j | k + 34 => iv_top _⟩
set_option maxRecDepth 40000 in
set_option maxHeartbeats 4000000 in
theorem tJ_g {a_tape : Nat → Int32} {f_length : Int32} {f_fault : Int32} {f_place : Int32} {a_counts : Nat → Int32} {l0f_huts : Int32} {l0f_singers : Int32} {l0f_villages : Int32} {l0f_dams : Int32} {l0f_echoes : Int32} {l0f_deep : Int32} {l0f_slide : Int32} {l0a_heights : Nat → Int32} {l0a_ladders : Nat → Int32} {l0a_minutes : Nat → Int32} {l0a_echoFrom : Nat → Int32} {l0a_echoTo : Nat → Int32} {l0a_homes : Nat → Int32} {l0a_talls : Nat → Int32} {l0a_known : Nat → Int32} {l1f_huts : Int32} {l1f_singers : Int32} {l1f_villages : Int32} {l1f_dams : Int32} {l1f_echoes : Int32} {l1f_deep : Int32} {l1f_slide : Int32} {l1a_heights : Nat → Int32} {l1a_ladders : Nat → Int32} {l1a_minutes : Nat → Int32} {l1a_echoFrom : Nat → Int32} {l1a_echoTo : Nat → Int32} {l1a_homes : Nat → Int32} {l1a_talls : Nat → Int32} {l1a_known : Nat → Int32} {v0f_deeds : Int32} {v0a_kinds : Nat → Int32} {v0a_firsts : Nat → Int32} {v0a_seconds : Nat → Int32} {v1f_deeds : Int32} {v1a_kinds : Nat → Int32} {v1a_firsts : Nat → Int32} {v1a_seconds : Nat → Int32} {s0f_facts : Int32} {s0a_heard : Nat → Int32} {s0a_huts : Nat → Int32} {s0a_minutes : Nat → Int32} {s1f_facts : Int32} {s1a_heard : Nat → Int32} {s1a_huts : Nat → Int32} {s1a_minutes : Nat → Int32} {c0f_voices : Int32} {c0f_step : Int32} {c0a_parts : Nat → Int32} {c0a_heights : Nat → Int32} {c1f_voices : Int32} {c1f_step : Int32} {c1a_parts : Nat → Int32} {c1a_heights : Nat → Int32} (h : tG a_tape f_length f_fault f_place a_counts l0f_huts l0f_singers l0f_villages l0f_dams l0f_echoes l0f_deep l0f_slide l0a_heights l0a_ladders l0a_minutes l0a_echoFrom l0a_echoTo l0a_homes l0a_talls l0a_known l1f_huts l1f_singers l1f_villages l1f_dams l1f_echoes l1f_deep l1f_slide l1a_heights l1a_ladders l1a_minutes l1a_echoFrom l1a_echoTo l1a_homes l1a_talls l1a_known v0f_deeds v0a_kinds v0a_firsts v0a_seconds v1f_deeds v1a_kinds v1a_firsts v1a_seconds s0f_facts s0a_heard s0a_huts s0a_minutes s1f_facts s1a_heard s1a_huts s1a_minutes c0f_voices c0f_step c0a_parts c0a_heights c1f_voices c1f_step c1a_parts c1a_heights) : tJ (tmk a_tape f_length f_fault f_place a_counts l0f_huts l0f_singers l0f_villages l0f_dams l0f_echoes l0f_deep l0f_slide l0a_heights l0a_ladders l0a_minutes l0a_echoFrom l0a_echoTo l0a_homes l0a_talls l0a_known l1f_huts l1f_singers l1f_villages l1f_dams l1f_echoes l1f_deep l1f_slide l1a_heights l1a_ladders l1a_minutes l1a_echoFrom l1a_echoTo l1a_homes l1a_talls l1a_known v0f_deeds v0a_kinds v0a_firsts v0a_seconds v1f_deeds v1a_kinds v1a_firsts v1a_seconds s0f_facts s0a_heard s0a_huts s0a_minutes s1f_facts s1a_heard s1a_huts s1a_minutes c0f_voices c0f_step c0a_parts c0a_heights c1f_voices c1f_step c1a_parts c1a_heights) := by
  obtain ⟨k_a_tape, k_f_length, k_f_fault, k_f_place, k_a_counts, k_l0f_huts, k_l0f_singers, k_l0f_villages, k_l0f_dams, k_l0f_echoes, k_l0f_deep, k_l0f_slide, k_l0a_heights, k_l0a_ladders, k_l0a_minutes, k_l0a_echoFrom, k_l0a_echoTo, k_l0a_homes, k_l0a_talls, k_l0a_known, k_l1f_huts, k_l1f_singers, k_l1f_villages, k_l1f_dams, k_l1f_echoes, k_l1f_deep, k_l1f_slide, k_l1a_heights, k_l1a_ladders, k_l1a_minutes, k_l1a_echoFrom, k_l1a_echoTo, k_l1a_homes, k_l1a_talls, k_l1a_known, k_v0f_deeds, k_v0a_kinds, k_v0a_firsts, k_v0a_seconds, k_v1f_deeds, k_v1a_kinds, k_v1a_firsts, k_v1a_seconds, k_s0f_facts, k_s0a_heard, k_s0a_huts, k_s0a_minutes, k_s1f_facts, k_s1a_heard, k_s1a_huts, k_s1a_minutes, k_c0f_voices, k_c0f_step, k_c0a_parts, k_c0a_heights, k_c1f_voices, k_c1f_step, k_c1a_parts, k_c1a_heights⟩ := h
  exact tJ_of k_a_tape k_f_length k_f_fault k_f_place k_a_counts k_l0f_huts k_l0f_singers k_l0f_villages k_l0f_dams k_l0f_echoes k_l0f_deep k_l0f_slide k_l0a_heights k_l0a_ladders k_l0a_minutes k_l0a_echoFrom k_l0a_echoTo k_l0a_homes k_l0a_talls k_l0a_known k_l1f_huts k_l1f_singers k_l1f_villages k_l1f_dams k_l1f_echoes k_l1f_deep k_l1f_slide k_l1a_heights k_l1a_ladders k_l1a_minutes k_l1a_echoFrom k_l1a_echoTo k_l1a_homes k_l1a_talls k_l1a_known k_v0f_deeds k_v0a_kinds k_v0a_firsts k_v0a_seconds k_v1f_deeds k_v1a_kinds k_v1a_firsts k_v1a_seconds k_s0f_facts k_s0a_heard k_s0a_huts k_s0a_minutes k_s1f_facts k_s1a_heard k_s1a_huts k_s1a_minutes k_c0f_voices k_c0f_step k_c0a_parts k_c0a_heights k_c1f_voices k_c1f_step k_c1a_parts k_c1a_heights
set_option maxRecDepth 40000 in
set_option maxHeartbeats 4000000 in
theorem g_tJ {T : TT} (hT : tJ T) : tG (T.2 0) (T.1 0) (T.1 1) (T.1 2) (T.2 1) (T.1 3) (T.1 4) (T.1 5) (T.1 6) (T.1 7) (T.1 8) (T.1 9) (T.2 2) (T.2 3) (T.2 4) (T.2 5) (T.2 6) (T.2 7) (T.2 8) (T.2 9) (T.1 10) (T.1 11) (T.1 12) (T.1 13) (T.1 14) (T.1 15) (T.1 16) (T.2 10) (T.2 11) (T.2 12) (T.2 13) (T.2 14) (T.2 15) (T.2 16) (T.2 17) (T.1 17) (T.2 18) (T.2 19) (T.2 20) (T.1 18) (T.2 21) (T.2 22) (T.2 23) (T.1 19) (T.2 24) (T.2 25) (T.2 26) (T.1 20) (T.2 27) (T.2 28) (T.2 29) (T.1 21) (T.1 22) (T.2 30) (T.2 31) (T.1 23) (T.1 24) (T.2 32) (T.2 33) := ⟨(hT.2 0), (hT.1 0), (hT.1 1), (hT.1 2), (hT.2 1), (hT.1 3), (hT.1 4), (hT.1 5), (hT.1 6), (hT.1 7), (hT.1 8), (hT.1 9), (hT.2 2), (hT.2 3), (hT.2 4), (hT.2 5), (hT.2 6), (hT.2 7), (hT.2 8), (hT.2 9), (hT.1 10), (hT.1 11), (hT.1 12), (hT.1 13), (hT.1 14), (hT.1 15), (hT.1 16), (hT.2 10), (hT.2 11), (hT.2 12), (hT.2 13), (hT.2 14), (hT.2 15), (hT.2 16), (hT.2 17), (hT.1 17), (hT.2 18), (hT.2 19), (hT.2 20), (hT.1 18), (hT.2 21), (hT.2 22), (hT.2 23), (hT.1 19), (hT.2 24), (hT.2 25), (hT.2 26), (hT.1 20), (hT.2 27), (hT.2 28), (hT.2 29), (hT.1 21), (hT.1 22), (hT.2 30), (hT.2 31), (hT.1 23), (hT.1 24), (hT.2 32), (hT.2 33)⟩
set_option maxRecDepth 40000 in
set_option maxHeartbeats 4000000 in
theorem MS_of {E : zE} {bm : Nat} {H : Heap} {f_code : Int32} {a_tape : Nat → Int32} {a_size : Nat → Int32} {a_fault : Nat → Int32} {a_faultPlace : Nat → Int32} {a_many : Nat → Int32} {a_lands : Nat → Int32} {a_evenings : Nat → Int32} {a_sights : Nat → Int32} {a_choirs : Nat → Int32} {f_reached : Int32} {f_length : Int32} {f_begins : Int32} {f_sort : Int32} {f_value : Int32} {f_word : Int64} {f_wrongAt : Int32} {f_laterFault : Int32} {f_laterPlace : Int32} {a_told : Nat → Int32} {a_read : Nat → Int32} {f_farHut : Int32} {f_farSinger : Int32} {f_good : Int32} {f_land : Int32} {f_huts : Int32} {f_singers : Int32} {f_evening : Int32} {a_at : Nat → Int32} {a_knows : Nat → Int32} {a_climbed : Nat → Int32} {a_snow : Nat → Int32} {a_level : Nat → Int32} {f_begun : Int32} {f_minute : Int32} {f_avalanches : Int32} {a_run : Nat → Int32} {a_covers : Nat → Int32} {a_routes : Nat → Int32} {a_longest : Nat → Int32} {a_steep : Nat → Int32} {a_laid : Nat → Int32} {a_far : Nat → Int32} {f_sight : Int32} {a_runs : Nat → Int32} {f_choir : Int32} {f_voices : Int32} {a_rest : Nat → Int64} {a_wins : Nat → Int32} {f_seed : Int32} {a_other : Nat → Int32} {a_kept : Nat → Int32} (hX : mW E bm f_code a_tape a_size a_fault a_faultPlace a_many a_lands a_evenings a_sights a_choirs f_reached f_length f_begins f_sort f_value f_word f_wrongAt f_laterFault f_laterPlace a_told a_read f_farHut f_farSinger f_good f_land f_huts f_singers f_evening a_at a_knows a_climbed a_snow a_level f_begun f_minute f_avalanches a_run a_covers a_routes a_longest a_steep a_laid a_far f_sight a_runs f_choir f_voices a_rest a_wins f_seed a_other a_kept H) (k_f_code : iv 0 0 f_code) (k_f_land : iv 0 1 f_land) (k_f_huts : iv 0 9 f_huts) (k_f_singers : iv 0 6 f_singers) (k_a_at : ∀ j, iv 0 8 (a_at j)) (k_a_knows : ∀ j, iv 0 31 (a_knows j)) (k_a_climbed : ∀ j, iv 0 1 (a_climbed j)) (k_a_level : ∀ j, iv (-9) 108 (a_level j)) (k_f_begun : iv 0 31 f_begun) (k_a_run : ∀ j, iv 0 1000000 (a_run j)) (k_a_covers : ∀ j, iv 0 511 (a_covers j)) (k_a_laid : ∀ j, iv 0 1 (a_laid j)) (k_a_far : ∀ j, iv 0 1000000 (a_far j)) (k_a_runs : ∀ j, iv 0 1000000 (a_runs j)) (k_f_voices : iv 0 9 f_voices) (k_a_other : ∀ j, iv 0 1000000 (a_other j)) : MS E bm (mmk a_tape a_size a_fault a_faultPlace a_many a_lands a_evenings a_sights a_choirs a_kept) H :=
  ⟨fun k => match k with | 0 => f_code | 1 => f_reached | 2 => f_length | 3 => f_begins | 4 => f_sort | 5 => f_value | 6 => f_wrongAt | 7 => f_laterFault | 8 => f_laterPlace | 9 => f_farHut | 10 => f_farSinger | 11 => f_good | 12 => f_land | 13 => f_huts | 14 => f_singers | 15 => f_evening | 16 => f_begun | 17 => f_minute | 18 => f_avalanches | 19 => f_sight | 20 => f_choir | 21 => f_voices | 22 => f_seed | _ => 0, fun k => match k with | 0 => a_told | 1 => a_read | 2 => a_at | 3 => a_knows | 4 => a_climbed | 5 => a_snow | 6 => a_level | 7 => a_run | 8 => a_covers | 9 => a_routes | 10 => a_longest | 11 => a_steep | 12 => a_laid | 13 => a_far | 14 => a_runs | 15 => a_wins | 16 => a_other | _ => fun _ => 0, f_word, a_rest, ⟨fun k => match k with | 0 => k_f_code | 1 => iv_top _ | 2 => iv_top _ | 3 => iv_top _ | 4 => iv_top _ | 5 => iv_top _ | 6 => iv_top _ | 7 => iv_top _ | 8 => iv_top _ | 9 => iv_top _ | 10 => iv_top _ | 11 => iv_top _ | 12 => k_f_land | 13 => k_f_huts | 14 => k_f_singers | 15 => iv_top _ | 16 => k_f_begun | 17 => iv_top _ | 18 => iv_top _ | 19 => iv_top _ | 20 => iv_top _ | 21 => k_f_voices | 22 => iv_top _ | k + 23 => iv_top _, fun k j => match k with | 0 => iv_top _ | 1 => iv_top _ | 2 => k_a_at j | 3 => k_a_knows j | 4 => k_a_climbed j | 5 => iv_top _ | 6 => k_a_level j | 7 => k_a_run j | 8 => k_a_covers j | 9 => iv_top _ | 10 => iv_top _ | 11 => iv_top _ | 12 => k_a_laid j | 13 => k_a_far j | 14 => k_a_runs j | 15 => iv_top _ | 16 => k_a_other j | k + 17 => iv_top _⟩, hX⟩
set_option maxRecDepth 40000 in
set_option maxHeartbeats 4000000 in
theorem MS_of1 {E : zE} {bm : Nat} {M : Nat → Nat → Int32} {H : Heap} {f_code : Int32} {f_reached : Int32} {f_length : Int32} {f_begins : Int32} {f_sort : Int32} {f_value : Int32} {f_word : Int64} {f_wrongAt : Int32} {f_laterFault : Int32} {f_laterPlace : Int32} {a_told : Nat → Int32} {a_read : Nat → Int32} {f_farHut : Int32} {f_farSinger : Int32} {f_good : Int32} {f_land : Int32} {f_huts : Int32} {f_singers : Int32} {f_evening : Int32} {a_at : Nat → Int32} {a_knows : Nat → Int32} {a_climbed : Nat → Int32} {a_snow : Nat → Int32} {a_level : Nat → Int32} {f_begun : Int32} {f_minute : Int32} {f_avalanches : Int32} {a_run : Nat → Int32} {a_covers : Nat → Int32} {a_routes : Nat → Int32} {a_longest : Nat → Int32} {a_steep : Nat → Int32} {a_laid : Nat → Int32} {a_far : Nat → Int32} {f_sight : Int32} {a_runs : Nat → Int32} {f_choir : Int32} {f_voices : Int32} {a_rest : Nat → Int64} {a_wins : Nat → Int32} {f_seed : Int32} {a_other : Nat → Int32} (hX : mW E bm f_code (M 0) (M 1) (M 2) (M 3) (M 4) (M 5) (M 6) (M 7) (M 8) f_reached f_length f_begins f_sort f_value f_word f_wrongAt f_laterFault f_laterPlace a_told a_read f_farHut f_farSinger f_good f_land f_huts f_singers f_evening a_at a_knows a_climbed a_snow a_level f_begun f_minute f_avalanches a_run a_covers a_routes a_longest a_steep a_laid a_far f_sight a_runs f_choir f_voices a_rest a_wins f_seed a_other (M 9) H) (k_f_code : iv 0 0 f_code) (k_f_land : iv 0 1 f_land) (k_f_huts : iv 0 9 f_huts) (k_f_singers : iv 0 6 f_singers) (k_a_at : ∀ j, iv 0 8 (a_at j)) (k_a_knows : ∀ j, iv 0 31 (a_knows j)) (k_a_climbed : ∀ j, iv 0 1 (a_climbed j)) (k_a_level : ∀ j, iv (-9) 108 (a_level j)) (k_f_begun : iv 0 31 f_begun) (k_a_run : ∀ j, iv 0 1000000 (a_run j)) (k_a_covers : ∀ j, iv 0 511 (a_covers j)) (k_a_laid : ∀ j, iv 0 1 (a_laid j)) (k_a_far : ∀ j, iv 0 1000000 (a_far j)) (k_a_runs : ∀ j, iv 0 1000000 (a_runs j)) (k_f_voices : iv 0 9 f_voices) (k_a_other : ∀ j, iv 0 1000000 (a_other j)) : MS E bm M H :=
  ⟨fun k => match k with | 0 => f_code | 1 => f_reached | 2 => f_length | 3 => f_begins | 4 => f_sort | 5 => f_value | 6 => f_wrongAt | 7 => f_laterFault | 8 => f_laterPlace | 9 => f_farHut | 10 => f_farSinger | 11 => f_good | 12 => f_land | 13 => f_huts | 14 => f_singers | 15 => f_evening | 16 => f_begun | 17 => f_minute | 18 => f_avalanches | 19 => f_sight | 20 => f_choir | 21 => f_voices | 22 => f_seed | _ => 0, fun k => match k with | 0 => a_told | 1 => a_read | 2 => a_at | 3 => a_knows | 4 => a_climbed | 5 => a_snow | 6 => a_level | 7 => a_run | 8 => a_covers | 9 => a_routes | 10 => a_longest | 11 => a_steep | 12 => a_laid | 13 => a_far | 14 => a_runs | 15 => a_wins | 16 => a_other | _ => fun _ => 0, f_word, a_rest, ⟨fun k => match k with | 0 => k_f_code | 1 => iv_top _ | 2 => iv_top _ | 3 => iv_top _ | 4 => iv_top _ | 5 => iv_top _ | 6 => iv_top _ | 7 => iv_top _ | 8 => iv_top _ | 9 => iv_top _ | 10 => iv_top _ | 11 => iv_top _ | 12 => k_f_land | 13 => k_f_huts | 14 => k_f_singers | 15 => iv_top _ | 16 => k_f_begun | 17 => iv_top _ | 18 => iv_top _ | 19 => iv_top _ | 20 => iv_top _ | 21 => k_f_voices | 22 => iv_top _ | k + 23 => iv_top _, fun k j => match k with | 0 => iv_top _ | 1 => iv_top _ | 2 => k_a_at j | 3 => k_a_knows j | 4 => k_a_climbed j | 5 => iv_top _ | 6 => k_a_level j | 7 => k_a_run j | 8 => k_a_covers j | 9 => iv_top _ | 10 => iv_top _ | 11 => iv_top _ | 12 => k_a_laid j | 13 => k_a_far j | 14 => k_a_runs j | 15 => iv_top _ | 16 => k_a_other j | k + 17 => iv_top _⟩, hX⟩
set_option maxRecDepth 40000 in
set_option maxHeartbeats 4000000 in
theorem XS_kp {E : zE} {q : Nat} {H H1 : Heap} {mi : Nat → Option Nat} {ko : Option Nat} {T : TT} (h : XS E q mi ko T H) (hk : ∀ z : Nat, z < H.size → q ≤ z → z < q + 93 → H1[z]? = H[z]?) : XS E q mi ko T H1 := by
  obtain ⟨S, V, h1, h2⟩ := h
  exact ⟨S, V, h1, wx_kp h2 hk⟩
set_option maxRecDepth 40000 in
set_option maxHeartbeats 4000000 in
theorem XS_lt {E : zE} {q : Nat} {H : Heap} {mi : Nat → Option Nat} {ko : Option Nat} {T : TT} (h : XS E q mi ko T H) : q + 93 ≤ H.size := by
  obtain ⟨S, V, h1, h2⟩ := h
  exact Nat.succ_le_of_lt (h2 92 _ rfl).lt
set_option maxRecDepth 40000 in
set_option maxHeartbeats 4000000 in
theorem MS_kp {E : zE} {q : Nat} {H H1 : Heap} {M : Nat → Nat → Int32} (h : MS E q M H) (hk : ∀ z : Nat, z < H.size → q ≤ z → z < q + 29 → H1[z]? = H[z]?) : MS E q M H1 := by
  obtain ⟨S, V, f_word, a_rest, h1, h2⟩ := h
  exact ⟨S, V, f_word, a_rest, h1, m_kp h2 hk⟩
set_option maxRecDepth 40000 in
set_option maxHeartbeats 4000000 in
theorem MS_lt {E : zE} {q : Nat} {H : Heap} {M : Nat → Nat → Int32} (h : MS E q M H) : q + 29 ≤ H.size := by
  obtain ⟨S, V, f_word, a_rest, h1, h2⟩ := h
  exact Nat.succ_le_of_lt (h2 28 _ rfl).lt
set_option maxRecDepth 40000 in
set_option maxHeartbeats 4000000 in
theorem IS_kp {E : zE} {q : Nat} {H H1 : Heap} {T : TT} (h : IS E q T H) (hk : ∀ z : Nat, z < H.size → q ≤ z → z < q + 47 → H1[z]? = H[z]?) : IS E q T H1 := by
  exact wt_kp h hk
set_option maxRecDepth 40000 in
set_option maxHeartbeats 4000000 in
theorem IS_lt {E : zE} {q : Nat} {H : Heap} {T : TT} (h : IS E q T H) : q + 47 ≤ H.size := by
  have h2 := h
  exact Nat.succ_le_of_lt (h2 46 _ rfl).lt
theorem TS_kp {E : zE} {t : Nat} {H H1 : Heap} (h : TS E t H) (hk : ∀ z : Nat, z < H.size → t ≤ z → z < t + 1 → H1[z]? = H[z]?) : TS E t H1 := by
  obtain ⟨z, h⟩ := h
  exact ⟨z, zkp h zRg_1 hk⟩
theorem TS_lt {E : zE} {t : Nat} {H : Heap} (h : TS E t H) : t + 1 ≤ H.size := by
  obtain ⟨z, h⟩ := h
  exact (h 0 _ rfl).lt

/-- the images and the table beside the object -/
def lE (E : zE) (lo : Nat) (mi : Nat → Option Nat) (ko : Option Nat) (I : Nat → TT) (H : Heap) : Prop :=
  (∀ j, j < 3 → ∀ q, mi j = some q → lo ≤ q ∧ tJ (I j) ∧ IS E q (I j) H) ∧ (∀ j k, j < 3 → k < 3 → j ≠ k → ∀ q r, mi j = some q → mi k = some r → q + 47 ≤ r ∨ r + 47 ≤ q) ∧ (∀ t, ko = some t → lo ≤ t ∧ TS E t H) ∧ (∀ j, j < 3 → ∀ q t, mi j = some q → ko = some t → q + 47 ≤ t ∨ t + 1 ≤ q)
theorem lE_kp {E : zE} {lo : Nat} {mi : Nat → Option Nat} {ko : Option Nat} {I : Nat → TT} {H H1 : Heap} (h : lE E lo mi ko I H) (hk : ∀ z : Nat, z < H.size → lo ≤ z → H1[z]? = H[z]?) : lE E lo mi ko I H1 :=
  ⟨fun j hj q e => ⟨(h.1 j hj q e).1, (h.1 j hj q e).2.1, IS_kp (h.1 j hj q e).2.2 (fun z h1 h2 _ => hk z h1 (Nat.le_trans (h.1 j hj q e).1 h2))⟩, h.2.1, fun t e => ⟨(h.2.2.1 t e).1, TS_kp (h.2.2.1 t e).2 (fun z h1 h2 _ => hk z h1 (Nat.le_trans (h.2.2.1 t e).1 h2))⟩, h.2.2.2⟩
def GG (E : zE) (bx bm : Nat) (mi : Nat → Option Nat) (ko : Option Nat) (T : TT) (M : Nat → Nat → Int32) (I : Nat → TT) (H : Heap) : Prop := XS E bx mi ko T H ∧ MS E bm M H ∧ lE E (bm + 29) mi ko I H ∧ tJ T ∧ mT M
theorem zap {a n b q : Nat} (h : a + n ≤ b) (h1 : b ≤ q) (h2 : q < a + n) : False := by omega
theorem lE_tab {E : zE} {lo bx : Nat} {mi : Nat → Option Nat} {o : Option Nat} {I : Nat → TT} {H H1 : Heap} (hE : lE E lo mi none I H) (hlo : bx + 93 ≤ lo) (hloH : lo ≤ H.size) (hk : ∀ q : Nat, q < H.size → ¬ zImA bx H.size q → H1[q]? = H[q]?) (ho : o = none ∨ ∃ a t, o = some a ∧ H.size ≤ a ∧ k0T E a t H1) : lE E lo mi o I H1 := by
  have kz : ∀ z : Nat, z < H.size → lo ≤ z → H1[z]? = H[z]? := fun z h1 h2 => hk z h1 (fun hA => by unfold zImA zR at hA; omega)
  have h0 := lE_kp hE kz
  refine ⟨h0.1, h0.2.1, fun t e => ?_, fun j hj q t e1 e2 => ?_⟩
  · rcases ho with rfl | ⟨a, z, rfl, h1, h2⟩
    · cases e
    · cases e
      exact ⟨Nat.le_trans hloH h1, z, h2⟩
  · rcases ho with rfl | ⟨a, z, rfl, h1, h2⟩
    · cases e2
    · cases e2
      exact Or.inl (Nat.le_trans (IS_lt (hE.1 j hj q e1).2.2) h1)
theorem lE_tab2 {E : zE} {lo bx t : Nat} {mi : Nat → Option Nat} {I : Nat → TT} {z : Nat → Int32} {H H1 : Heap} (hE : lE E lo mi (some t) I H) (hlo : bx + 93 ≤ lo) (hk : ∀ q : Nat, q < H.size → ¬ wxtA bx t q → H1[q]? = H[q]?) (hT : k0T E t z H1) : lE E lo mi (some t) I H1 := by
  refine ⟨fun j hj q e => ?_, hE.2.1, fun r e => ?_, hE.2.2.2⟩
  · have h1 := hE.1 j hj q e
    have h2 := hE.2.2.2 j hj q t e rfl
    exact ⟨h1.1, h1.2.1, IS_kp h1.2.2 (fun z a b c => hk z a (fun hA => by have := h1.1; unfold wxtA at hA; omega))⟩
  · cases e
    exact ⟨(hE.2.2.1 t rfl).1, z, hT⟩
/-- image j (there already) is written; the others stay -/
theorem lE_img2 {E : zE} {lo bx j q : Nat} {mi : Nat → Option Nat} {ko : Option Nat} {I : Nat → TT} {N : TT} {H H1 : Heap} (hE : lE E lo mi ko I H) (hlo : bx + 93 ≤ lo) (hj : j < 3) (hm : mi j = some q) (hk : ∀ z : Nat, z < H.size → ¬ ((bx ≤ z ∧ z < bx + 93) ∨ (q ≤ z ∧ z < q + 47)) → H1[z]? = H[z]?) (hN : tJ N) (hI : IS E q N H1) : lE E lo mi ko (va_up I j N) H1 := by
  refine ⟨fun k hk3 r e => ?_, hE.2.1, fun t e => ?_, hE.2.2.2⟩
  · by_cases hjk : k = j
    · subst hjk
      rw [hm] at e
      cases e
      rw [va_up_self]
      exact ⟨(hE.1 k hk3 _ hm).1, hN, hI⟩
    · have h1 := hE.1 k hk3 r e
      have h2 := hE.2.1 k j hk3 hj hjk r q e hm
      rw [va_up_ne _ _ hjk]
      exact ⟨h1.1, h1.2.1, IS_kp h1.2.2 (fun z a b c => hk z a (by have := h1.1; omega))⟩
  · have h1 := hE.2.2.1 t e
    have h2 := hE.2.2.2 j hj q t hm e
    exact ⟨h1.1, TS_kp h1.2 (fun z a b c => hk z a (by have := h1.1; omega))⟩
theorem lE_ag {E : zE} {lo bx j q : Nat} {mi : Nat → Option Nat} {ko : Option Nat} {I : Nat → TT} {H H1 : Heap} (hE : lE E lo mi ko I H) (hlo : bx + 93 ≤ lo) (hj : j < 3) (hm : mi j = some q) (hk : ∀ z : Nat, z < H.size → ¬ ((bx ≤ z ∧ z < bx + 93) ∨ (q ≤ z ∧ z < q + 47)) → H1[z]? = H[z]?) (hI : IS E q (I j) H1) : lE E lo mi ko I H1 := by
  have h0 := lE_img2 hE hlo hj hm hk (hE.1 j hj q hm).2.1 hI
  have e : va_up I j (I j) = I := by
    funext k
    by_cases hk : k = j
    · subst hk; exact va_up_self _ _ _
    · exact va_up_ne _ _ hk
  rw [e] at h0
  exact h0
theorem lE_img {E : zE} {lo bx j : Nat} {mi : Nat → Option Nat} {ko : Option Nat} {I : Nat → TT} {N : TT} {H H1 : Heap} (hE : lE E lo mi ko I H) (hlo : bx + 93 ≤ lo) (hloH : lo ≤ H.size) (hk : ∀ q : Nat, q < H.size → ¬ zImA bx H.size q → H1[q]? = H[q]?) (hN : tJ N) (hI : IS E H.size N H1) : lE E lo (va_up mi j (some H.size)) ko (va_up I j N) H1 := by
  have kz : ∀ z : Nat, z < H.size → lo ≤ z → H1[z]? = H[z]? := fun z h1 h2 => hk z h1 (fun hA => by unfold zImA zR at hA; omega)
  have h0 := lE_kp hE kz
  refine ⟨fun k hk3 r e => ?_, fun k1 k2 h1 h2 hne q r e1 e2 => ?_, h0.2.2.1, fun k hk3 q t e1 e2 => ?_⟩
  · by_cases hkj : k = j
    · subst hkj
      rw [va_up_self] at e
      cases e
      rw [va_up_self]
      exact ⟨hloH, hN, hI⟩
    · rw [va_up_ne _ _ hkj] at e
      rw [va_up_ne _ _ hkj]
      exact h0.1 k hk3 r e
  · by_cases hk1 : k1 = j
    · subst hk1
      rw [va_up_self] at e1
      cases e1
      rw [va_up_ne _ _ (fun h => hne h.symm)] at e2
      exact Or.inr (IS_lt (hE.1 k2 h2 r e2).2.2)
    · rw [va_up_ne _ _ hk1] at e1
      by_cases hk2 : k2 = j
      · subst hk2
        rw [va_up_self] at e2
        cases e2
        exact Or.inl (IS_lt (hE.1 k1 h1 q e1).2.2)
      · rw [va_up_ne _ _ hk2] at e2
        exact hE.2.1 k1 k2 h1 h2 hne q r e1 e2
  · by_cases hkj : k = j
    · subst hkj
      rw [va_up_self] at e1
      cases e1
      exact Or.inr (TS_lt (hE.2.2.1 t e2).2)
    · rw [va_up_ne _ _ hkj] at e1
      exact hE.2.2.2 k hk3 q t e1 e2
theorem iv00 {x : Int32} (h : iv 0 0 x) : x = 0 := Int32.toInt_inj.mp (Int.le_antisymm h.2 h.1)
set_option maxRecDepth 40000 in
set_option maxHeartbeats 4000000 in
theorem tCP_r {N T : TT} (h : tCP N (tmk (T.2 0) (T.1 0) (T.1 1) (T.1 2) (T.2 1) (T.1 3) (T.1 4) (T.1 5) (T.1 6) (T.1 7) (T.1 8) (T.1 9) (T.2 2) (T.2 3) (T.2 4) (T.2 5) (T.2 6) (T.2 7) (T.2 8) (T.2 9) (T.1 10) (T.1 11) (T.1 12) (T.1 13) (T.1 14) (T.1 15) (T.1 16) (T.2 10) (T.2 11) (T.2 12) (T.2 13) (T.2 14) (T.2 15) (T.2 16) (T.2 17) (T.1 17) (T.2 18) (T.2 19) (T.2 20) (T.1 18) (T.2 21) (T.2 22) (T.2 23) (T.1 19) (T.2 24) (T.2 25) (T.2 26) (T.1 20) (T.2 27) (T.2 28) (T.2 29) (T.1 21) (T.1 22) (T.2 30) (T.2 31) (T.1 23) (T.1 24) (T.2 32) (T.2 33))) : tCP N T := by
  refine ⟨fun i hi => (h.1 i hi).trans ?_, h.2.1, h.2.2.1, h.2.2.2⟩
  rcases cs_S0 hi with rfl | rfl | rfl | rfl | rfl | rfl | rfl | rfl | rfl | rfl | rfl | rfl | rfl | rfl | rfl | rfl | rfl | rfl | rfl | rfl | rfl | rfl | rfl | rfl | rfl <;> rfl
theorem tBI_of {E : zE} {lo : Nat} {mi : Nat → Option Nat} {ko : Option Nat} {I : Nat → TT} {H : Heap} (h : lE E lo mi ko I H) : tBI I mi := by
  intro j hj hn
  cases e : mi j with
  | none => exact absurd e hn
  | some q => exact tB_of (h.1 j hj q e).2.1
theorem tu_tt {P : (Int32) × (Int32) × (Int32) × (Nat → Int32) × (Int32) × (Int32) × (Int32) × (Int32) × (Int32) × (Int32) × (Int32) × (Nat → Int32) × (Nat → Int32) × (Nat → Int32) × (Nat → Int32) × (Nat → Int32) × (Nat → Int32) × (Nat → Int32) × (Nat → Int32) × (Int32) × (Int32) × (Int32) × (Int32) × (Int32) × (Int32) × (Int32) × (Nat → Int32) × (Nat → Int32) × (Nat → Int32) × (Nat → Int32) × (Nat → Int32) × (Nat → Int32) × (Nat → Int32) × (Nat → Int32) × (Int32) × (Nat → Int32) × (Nat → Int32) × (Nat → Int32) × (Int32) × (Nat → Int32) × (Nat → Int32) × (Nat → Int32) × (Int32) × (Nat → Int32) × (Nat → Int32) × (Nat → Int32) × (Int32) × (Nat → Int32) × (Nat → Int32) × (Nat → Int32) × (Int32) × (Int32) × (Nat → Int32) × (Nat → Int32) × (Int32) × (Int32) × (Nat → Int32) × (Nat → Int32) × (Int32) × (Int32) × (Int32) × (Int32) × (Int32) × (Int32) × (Int32) × (Nat → Int32) × (Nat → Int32) × (Nat → Int32) × (Nat → Int32) × (Nat → Int32) × (Nat → Int32) × (Nat → Int32) × (Nat → Int32) × (Int32) × (Nat → Int32) × (Nat → Int32) × (Nat → Int32) × (Int32) × (Nat → Int32) × (Nat → Int32) × (Nat → Int32) × (Int32) × (Int32) × (Nat → Int32) × (Nat → Int32) × (Int32) × (Int32) × (Nat → Int32) × (Nat → Int32) × (Int32) × (Int32) × (Int32) × (Int32) × (Int32) × (Int32) × (Int32) → Prop} (h : ∀ (tf_length : Int32) (tf_fault : Int32) (tf_place : Int32) (ta_counts : Nat → Int32) (tl0f_huts : Int32) (tl0f_singers : Int32) (tl0f_villages : Int32) (tl0f_dams : Int32) (tl0f_echoes : Int32) (tl0f_deep : Int32) (tl0f_slide : Int32) (tl0a_heights : Nat → Int32) (tl0a_ladders : Nat → Int32) (tl0a_minutes : Nat → Int32) (tl0a_echoFrom : Nat → Int32) (tl0a_echoTo : Nat → Int32) (tl0a_homes : Nat → Int32) (tl0a_talls : Nat → Int32) (tl0a_known : Nat → Int32) (tl1f_huts : Int32) (tl1f_singers : Int32) (tl1f_villages : Int32) (tl1f_dams : Int32) (tl1f_echoes : Int32) (tl1f_deep : Int32) (tl1f_slide : Int32) (tl1a_heights : Nat → Int32) (tl1a_ladders : Nat → Int32) (tl1a_minutes : Nat → Int32) (tl1a_echoFrom : Nat → Int32) (tl1a_echoTo : Nat → Int32) (tl1a_homes : Nat → Int32) (tl1a_talls : Nat → Int32) (tl1a_known : Nat → Int32) (tv0f_deeds : Int32) (tv0a_kinds : Nat → Int32) (tv0a_firsts : Nat → Int32) (tv0a_seconds : Nat → Int32) (tv1f_deeds : Int32) (tv1a_kinds : Nat → Int32) (tv1a_firsts : Nat → Int32) (tv1a_seconds : Nat → Int32) (ts0f_facts : Int32) (ts0a_heard : Nat → Int32) (ts0a_huts : Nat → Int32) (ts0a_minutes : Nat → Int32) (ts1f_facts : Int32) (ts1a_heard : Nat → Int32) (ts1a_huts : Nat → Int32) (ts1a_minutes : Nat → Int32) (tc0f_voices : Int32) (tc0f_step : Int32) (tc0a_parts : Nat → Int32) (tc0a_heights : Nat → Int32) (tc1f_voices : Int32) (tc1f_step : Int32) (tc1a_parts : Nat → Int32) (tc1a_heights : Nat → Int32) (rlf_huts : Int32) (rlf_singers : Int32) (rlf_villages : Int32) (rlf_dams : Int32) (rlf_echoes : Int32) (rlf_deep : Int32) (rlf_slide : Int32) (rla_heights : Nat → Int32) (rla_ladders : Nat → Int32) (rla_minutes : Nat → Int32) (rla_echoFrom : Nat → Int32) (rla_echoTo : Nat → Int32) (rla_homes : Nat → Int32) (rla_talls : Nat → Int32) (rla_known : Nat → Int32) (rvf_deeds : Int32) (rva_kinds : Nat → Int32) (rva_firsts : Nat → Int32) (rva_seconds : Nat → Int32) (rsf_facts : Int32) (rsa_heard : Nat → Int32) (rsa_huts : Nat → Int32) (rsa_minutes : Nat → Int32) (rcf_voices : Int32) (rcf_step : Int32) (rca_parts : Nat → Int32) (rca_heights : Nat → Int32) (rf_fault : Int32) (rf_faultPlace : Int32) (ra_numbers : Nat → Int32) (ra_tape : Nat → Int32) (rf_length : Int32) (rf_behind : Int32) (rf_kind : Int32) (rf_first : Int32) (rf_value : Int32) (rf_hutsToldOf : Int32) (rf_singersToldOf : Int32), P (tf_length, tf_fault, tf_place, ta_counts, tl0f_huts, tl0f_singers, tl0f_villages, tl0f_dams, tl0f_echoes, tl0f_deep, tl0f_slide, tl0a_heights, tl0a_ladders, tl0a_minutes, tl0a_echoFrom, tl0a_echoTo, tl0a_homes, tl0a_talls, tl0a_known, tl1f_huts, tl1f_singers, tl1f_villages, tl1f_dams, tl1f_echoes, tl1f_deep, tl1f_slide, tl1a_heights, tl1a_ladders, tl1a_minutes, tl1a_echoFrom, tl1a_echoTo, tl1a_homes, tl1a_talls, tl1a_known, tv0f_deeds, tv0a_kinds, tv0a_firsts, tv0a_seconds, tv1f_deeds, tv1a_kinds, tv1a_firsts, tv1a_seconds, ts0f_facts, ts0a_heard, ts0a_huts, ts0a_minutes, ts1f_facts, ts1a_heard, ts1a_huts, ts1a_minutes, tc0f_voices, tc0f_step, tc0a_parts, tc0a_heights, tc1f_voices, tc1f_step, tc1a_parts, tc1a_heights, rlf_huts, rlf_singers, rlf_villages, rlf_dams, rlf_echoes, rlf_deep, rlf_slide, rla_heights, rla_ladders, rla_minutes, rla_echoFrom, rla_echoTo, rla_homes, rla_talls, rla_known, rvf_deeds, rva_kinds, rva_firsts, rva_seconds, rsf_facts, rsa_heard, rsa_huts, rsa_minutes, rcf_voices, rcf_step, rca_parts, rca_heights, rf_fault, rf_faultPlace, ra_numbers, ra_tape, rf_length, rf_behind, rf_kind, rf_first, rf_value, rf_hutsToldOf, rf_singersToldOf)) (u : (Int32) × (Int32) × (Int32) × (Nat → Int32) × (Int32) × (Int32) × (Int32) × (Int32) × (Int32) × (Int32) × (Int32) × (Nat → Int32) × (Nat → Int32) × (Nat → Int32) × (Nat → Int32) × (Nat → Int32) × (Nat → Int32) × (Nat → Int32) × (Nat → Int32) × (Int32) × (Int32) × (Int32) × (Int32) × (Int32) × (Int32) × (Int32) × (Nat → Int32) × (Nat → Int32) × (Nat → Int32) × (Nat → Int32) × (Nat → Int32) × (Nat → Int32) × (Nat → Int32) × (Nat → Int32) × (Int32) × (Nat → Int32) × (Nat → Int32) × (Nat → Int32) × (Int32) × (Nat → Int32) × (Nat → Int32) × (Nat → Int32) × (Int32) × (Nat → Int32) × (Nat → Int32) × (Nat → Int32) × (Int32) × (Nat → Int32) × (Nat → Int32) × (Nat → Int32) × (Int32) × (Int32) × (Nat → Int32) × (Nat → Int32) × (Int32) × (Int32) × (Nat → Int32) × (Nat → Int32) × (Int32) × (Int32) × (Int32) × (Int32) × (Int32) × (Int32) × (Int32) × (Nat → Int32) × (Nat → Int32) × (Nat → Int32) × (Nat → Int32) × (Nat → Int32) × (Nat → Int32) × (Nat → Int32) × (Nat → Int32) × (Int32) × (Nat → Int32) × (Nat → Int32) × (Nat → Int32) × (Int32) × (Nat → Int32) × (Nat → Int32) × (Nat → Int32) × (Int32) × (Int32) × (Nat → Int32) × (Nat → Int32) × (Int32) × (Int32) × (Nat → Int32) × (Nat → Int32) × (Int32) × (Int32) × (Int32) × (Int32) × (Int32) × (Int32) × (Int32)) : P u :=
  h u.1 u.2.1 u.2.2.1 u.2.2.2.1 u.2.2.2.2.1 u.2.2.2.2.2.1 u.2.2.2.2.2.2.1 u.2.2.2.2.2.2.2.1 u.2.2.2.2.2.2.2.2.1 u.2.2.2.2.2.2.2.2.2.1 u.2.2.2.2.2.2.2.2.2.2.1 u.2.2.2.2.2.2.2.2.2.2.2.1 u.2.2.2.2.2.2.2.2.2.2.2.2.1 u.2.2.2.2.2.2.2.2.2.2.2.2.2.1 u.2.2.2.2.2.2.2.2.2.2.2.2.2.2.1 u.2.2.2.2.2.2.2.2.2.2.2.2.2.2.2.1 u.2.2.2.2.2.2.2.2.2.2.2.2.2.2.2.2.1 u.2.2.2.2.2.2.2.2.2.2.2.2.2.2.2.2.2.1 u.2.2.2.2.2.2.2.2.2.2.2.2.2.2.2.2.2.2.1 u.2.2.2.2.2.2.2.2.2.2.2.2.2.2.2.2.2.2.2.1 u.2.2.2.2.2.2.2.2.2.2.2.2.2.2.2.2.2.2.2.2.1 u.2.2.2.2.2.2.2.2.2.2.2.2.2.2.2.2.2.2.2.2.2.1 u.2.2.2.2.2.2.2.2.2.2.2.2.2.2.2.2.2.2.2.2.2.2.1 u.2.2.2.2.2.2.2.2.2.2.2.2.2.2.2.2.2.2.2.2.2.2.2.1 u.2.2.2.2.2.2.2.2.2.2.2.2.2.2.2.2.2.2.2.2.2.2.2.2.1 u.2.2.2.2.2.2.2.2.2.2.2.2.2.2.2.2.2.2.2.2.2.2.2.2.2.1 u.2.2.2.2.2.2.2.2.2.2.2.2.2.2.2.2.2.2.2.2.2.2.2.2.2.2.1 u.2.2.2.2.2.2.2.2.2.2.2.2.2.2.2.2.2.2.2.2.2.2.2.2.2.2.2.1 u.2.2.2.2.2.2.2.2.2.2.2.2.2.2.2.2.2.2.2.2.2.2.2.2.2.2.2.2.1 u.2.2.2.2.2.2.2.2.2.2.2.2.2.2.2.2.2.2.2.2.2.2.2.2.2.2.2.2.2.1 u.2.2.2.2.2.2.2.2.2.2.2.2.2.2.2.2.2.2.2.2.2.2.2.2.2.2.2.2.2.2.1 u.2.2.2.2.2.2.2.2.2.2.2.2.2.2.2.2.2.2.2.2.2.2.2.2.2.2.2.2.2.2.2.1 u.2.2.2.2.2.2.2.2.2.2.2.2.2.2.2.2.2.2.2.2.2.2.2.2.2.2.2.2.2.2.2.2.1 u.2.2.2.2.2.2.2.2.2.2.2.2.2.2.2.2.2.2.2.2.2.2.2.2.2.2.2.2.2.2.2.2.2.1 u.2.2.2.2.2.2.2.2.2.2.2.2.2.2.2.2.2.2.2.2.2.2.2.2.2.2.2.2.2.2.2.2.2.2.1 u.2.2.2.2.2.2.2.2.2.2.2.2.2.2.2.2.2.2.2.2.2.2.2.2.2.2.2.2.2.2.2.2.2.2.2.1 u.2.2.2.2.2.2.2.2.2.2.2.2.2.2.2.2.2.2.2.2.2.2.2.2.2.2.2.2.2.2.2.2.2.2.2.2.1 u.2.2.2.2.2.2.2.2.2.2.2.2.2.2.2.2.2.2.2.2.2.2.2.2.2.2.2.2.2.2.2.2.2.2.2.2.2.1 u.2.2.2.2.2.2.2.2.2.2.2.2.2.2.2.2.2.2.2.2.2.2.2.2.2.2.2.2.2.2.2.2.2.2.2.2.2.2.1 u.2.2.2.2.2.2.2.2.2.2.2.2.2.2.2.2.2.2.2.2.2.2.2.2.2.2.2.2.2.2.2.2.2.2.2.2.2.2.2.1 u.2.2.2.2.2.2.2.2.2.2.2.2.2.2.2.2.2.2.2.2.2.2.2.2.2.2.2.2.2.2.2.2.2.2.2.2.2.2.2.2.1 u.2.2.2.2.2.2.2.2.2.2.2.2.2.2.2.2.2.2.2.2.2.2.2.2.2.2.2.2.2.2.2.2.2.2.2.2.2.2.2.2.2.1 u.2.2.2.2.2.2.2.2.2.2.2.2.2.2.2.2.2.2.2.2.2.2.2.2.2.2.2.2.2.2.2.2.2.2.2.2.2.2.2.2.2.2.1 u.2.2.2.2.2.2.2.2.2.2.2.2.2.2.2.2.2.2.2.2.2.2.2.2.2.2.2.2.2.2.2.2.2.2.2.2.2.2.2.2.2.2.2.1 u.2.2.2.2.2.2.2.2.2.2.2.2.2.2.2.2.2.2.2.2.2.2.2.2.2.2.2.2.2.2.2.2.2.2.2.2.2.2.2.2.2.2.2.2.1 u.2.2.2.2.2.2.2.2.2.2.2.2.2.2.2.2.2.2.2.2.2.2.2.2.2.2.2.2.2.2.2.2.2.2.2.2.2.2.2.2.2.2.2.2.2.1 u.2.2.2.2.2.2.2.2.2.2.2.2.2.2.2.2.2.2.2.2.2.2.2.2.2.2.2.2.2.2.2.2.2.2.2.2.2.2.2.2.2.2.2.2.2.2.1 u.2.2.2.2.2.2.2.2.2.2.2.2.2.2.2.2.2.2.2.2.2.2.2.2.2.2.2.2.2.2.2.2.2.2.2.2.2.2.2.2.2.2.2.2.2.2.2.1 u.2.2.2.2.2.2.2.2.2.2.2.2.2.2.2.2.2.2.2.2.2.2.2.2.2.2.2.2.2.2.2.2.2.2.2.2.2.2.2.2.2.2.2.2.2.2.2.2.1 u.2.2.2.2.2.2.2.2.2.2.2.2.2.2.2.2.2.2.2.2.2.2.2.2.2.2.2.2.2.2.2.2.2.2.2.2.2.2.2.2.2.2.2.2.2.2.2.2.2.1 u.2.2.2.2.2.2.2.2.2.2.2.2.2.2.2.2.2.2.2.2.2.2.2.2.2.2.2.2.2.2.2.2.2.2.2.2.2.2.2.2.2.2.2.2.2.2.2.2.2.2.1 u.2.2.2.2.2.2.2.2.2.2.2.2.2.2.2.2.2.2.2.2.2.2.2.2.2.2.2.2.2.2.2.2.2.2.2.2.2.2.2.2.2.2.2.2.2.2.2.2.2.2.2.1 u.2.2.2.2.2.2.2.2.2.2.2.2.2.2.2.2.2.2.2.2.2.2.2.2.2.2.2.2.2.2.2.2.2.2.2.2.2.2.2.2.2.2.2.2.2.2.2.2.2.2.2.2.1 u.2.2.2.2.2.2.2.2.2.2.2.2.2.2.2.2.2.2.2.2.2.2.2.2.2.2.2.2.2.2.2.2.2.2.2.2.2.2.2.2.2.2.2.2.2.2.2.2.2.2.2.2.2.1 u.2.2.2.2.2.2.2.2.2.2.2.2.2.2.2.2.2.2.2.2.2.2.2.2.2.2.2.2.2.2.2.2.2.2.2.2.2.2.2.2.2.2.2.2.2.2.2.2.2.2.2.2.2.2.1 u.2.2.2.2.2.2.2.2.2.2.2.2.2.2.2.2.2.2.2.2.2.2.2.2.2.2.2.2.2.2.2.2.2.2.2.2.2.2.2.2.2.2.2.2.2.2.2.2.2.2.2.2.2.2.2.1 u.2.2.2.2.2.2.2.2.2.2.2.2.2.2.2.2.2.2.2.2.2.2.2.2.2.2.2.2.2.2.2.2.2.2.2.2.2.2.2.2.2.2.2.2.2.2.2.2.2.2.2.2.2.2.2.2.1 u.2.2.2.2.2.2.2.2.2.2.2.2.2.2.2.2.2.2.2.2.2.2.2.2.2.2.2.2.2.2.2.2.2.2.2.2.2.2.2.2.2.2.2.2.2.2.2.2.2.2.2.2.2.2.2.2.2.1 u.2.2.2.2.2.2.2.2.2.2.2.2.2.2.2.2.2.2.2.2.2.2.2.2.2.2.2.2.2.2.2.2.2.2.2.2.2.2.2.2.2.2.2.2.2.2.2.2.2.2.2.2.2.2.2.2.2.2.1 u.2.2.2.2.2.2.2.2.2.2.2.2.2.2.2.2.2.2.2.2.2.2.2.2.2.2.2.2.2.2.2.2.2.2.2.2.2.2.2.2.2.2.2.2.2.2.2.2.2.2.2.2.2.2.2.2.2.2.2.1 u.2.2.2.2.2.2.2.2.2.2.2.2.2.2.2.2.2.2.2.2.2.2.2.2.2.2.2.2.2.2.2.2.2.2.2.2.2.2.2.2.2.2.2.2.2.2.2.2.2.2.2.2.2.2.2.2.2.2.2.2.1 u.2.2.2.2.2.2.2.2.2.2.2.2.2.2.2.2.2.2.2.2.2.2.2.2.2.2.2.2.2.2.2.2.2.2.2.2.2.2.2.2.2.2.2.2.2.2.2.2.2.2.2.2.2.2.2.2.2.2.2.2.2.1 u.2.2.2.2.2.2.2.2.2.2.2.2.2.2.2.2.2.2.2.2.2.2.2.2.2.2.2.2.2.2.2.2.2.2.2.2.2.2.2.2.2.2.2.2.2.2.2.2.2.2.2.2.2.2.2.2.2.2.2.2.2.2.1 u.2.2.2.2.2.2.2.2.2.2.2.2.2.2.2.2.2.2.2.2.2.2.2.2.2.2.2.2.2.2.2.2.2.2.2.2.2.2.2.2.2.2.2.2.2.2.2.2.2.2.2.2.2.2.2.2.2.2.2.2.2.2.2.1 u.2.2.2.2.2.2.2.2.2.2.2.2.2.2.2.2.2.2.2.2.2.2.2.2.2.2.2.2.2.2.2.2.2.2.2.2.2.2.2.2.2.2.2.2.2.2.2.2.2.2.2.2.2.2.2.2.2.2.2.2.2.2.2.2.1 u.2.2.2.2.2.2.2.2.2.2.2.2.2.2.2.2.2.2.2.2.2.2.2.2.2.2.2.2.2.2.2.2.2.2.2.2.2.2.2.2.2.2.2.2.2.2.2.2.2.2.2.2.2.2.2.2.2.2.2.2.2.2.2.2.2.1 u.2.2.2.2.2.2.2.2.2.2.2.2.2.2.2.2.2.2.2.2.2.2.2.2.2.2.2.2.2.2.2.2.2.2.2.2.2.2.2.2.2.2.2.2.2.2.2.2.2.2.2.2.2.2.2.2.2.2.2.2.2.2.2.2.2.2.1 u.2.2.2.2.2.2.2.2.2.2.2.2.2.2.2.2.2.2.2.2.2.2.2.2.2.2.2.2.2.2.2.2.2.2.2.2.2.2.2.2.2.2.2.2.2.2.2.2.2.2.2.2.2.2.2.2.2.2.2.2.2.2.2.2.2.2.2.1 u.2.2.2.2.2.2.2.2.2.2.2.2.2.2.2.2.2.2.2.2.2.2.2.2.2.2.2.2.2.2.2.2.2.2.2.2.2.2.2.2.2.2.2.2.2.2.2.2.2.2.2.2.2.2.2.2.2.2.2.2.2.2.2.2.2.2.2.2.1 u.2.2.2.2.2.2.2.2.2.2.2.2.2.2.2.2.2.2.2.2.2.2.2.2.2.2.2.2.2.2.2.2.2.2.2.2.2.2.2.2.2.2.2.2.2.2.2.2.2.2.2.2.2.2.2.2.2.2.2.2.2.2.2.2.2.2.2.2.2.1 u.2.2.2.2.2.2.2.2.2.2.2.2.2.2.2.2.2.2.2.2.2.2.2.2.2.2.2.2.2.2.2.2.2.2.2.2.2.2.2.2.2.2.2.2.2.2.2.2.2.2.2.2.2.2.2.2.2.2.2.2.2.2.2.2.2.2.2.2.2.2.1 u.2.2.2.2.2.2.2.2.2.2.2.2.2.2.2.2.2.2.2.2.2.2.2.2.2.2.2.2.2.2.2.2.2.2.2.2.2.2.2.2.2.2.2.2.2.2.2.2.2.2.2.2.2.2.2.2.2.2.2.2.2.2.2.2.2.2.2.2.2.2.2.1 u.2.2.2.2.2.2.2.2.2.2.2.2.2.2.2.2.2.2.2.2.2.2.2.2.2.2.2.2.2.2.2.2.2.2.2.2.2.2.2.2.2.2.2.2.2.2.2.2.2.2.2.2.2.2.2.2.2.2.2.2.2.2.2.2.2.2.2.2.2.2.2.2.1 u.2.2.2.2.2.2.2.2.2.2.2.2.2.2.2.2.2.2.2.2.2.2.2.2.2.2.2.2.2.2.2.2.2.2.2.2.2.2.2.2.2.2.2.2.2.2.2.2.2.2.2.2.2.2.2.2.2.2.2.2.2.2.2.2.2.2.2.2.2.2.2.2.2.1 u.2.2.2.2.2.2.2.2.2.2.2.2.2.2.2.2.2.2.2.2.2.2.2.2.2.2.2.2.2.2.2.2.2.2.2.2.2.2.2.2.2.2.2.2.2.2.2.2.2.2.2.2.2.2.2.2.2.2.2.2.2.2.2.2.2.2.2.2.2.2.2.2.2.2.1 u.2.2.2.2.2.2.2.2.2.2.2.2.2.2.2.2.2.2.2.2.2.2.2.2.2.2.2.2.2.2.2.2.2.2.2.2.2.2.2.2.2.2.2.2.2.2.2.2.2.2.2.2.2.2.2.2.2.2.2.2.2.2.2.2.2.2.2.2.2.2.2.2.2.2.2.1 u.2.2.2.2.2.2.2.2.2.2.2.2.2.2.2.2.2.2.2.2.2.2.2.2.2.2.2.2.2.2.2.2.2.2.2.2.2.2.2.2.2.2.2.2.2.2.2.2.2.2.2.2.2.2.2.2.2.2.2.2.2.2.2.2.2.2.2.2.2.2.2.2.2.2.2.2.1 u.2.2.2.2.2.2.2.2.2.2.2.2.2.2.2.2.2.2.2.2.2.2.2.2.2.2.2.2.2.2.2.2.2.2.2.2.2.2.2.2.2.2.2.2.2.2.2.2.2.2.2.2.2.2.2.2.2.2.2.2.2.2.2.2.2.2.2.2.2.2.2.2.2.2.2.2.2.1 u.2.2.2.2.2.2.2.2.2.2.2.2.2.2.2.2.2.2.2.2.2.2.2.2.2.2.2.2.2.2.2.2.2.2.2.2.2.2.2.2.2.2.2.2.2.2.2.2.2.2.2.2.2.2.2.2.2.2.2.2.2.2.2.2.2.2.2.2.2.2.2.2.2.2.2.2.2.2.1 u.2.2.2.2.2.2.2.2.2.2.2.2.2.2.2.2.2.2.2.2.2.2.2.2.2.2.2.2.2.2.2.2.2.2.2.2.2.2.2.2.2.2.2.2.2.2.2.2.2.2.2.2.2.2.2.2.2.2.2.2.2.2.2.2.2.2.2.2.2.2.2.2.2.2.2.2.2.2.2.1 u.2.2.2.2.2.2.2.2.2.2.2.2.2.2.2.2.2.2.2.2.2.2.2.2.2.2.2.2.2.2.2.2.2.2.2.2.2.2.2.2.2.2.2.2.2.2.2.2.2.2.2.2.2.2.2.2.2.2.2.2.2.2.2.2.2.2.2.2.2.2.2.2.2.2.2.2.2.2.2.2.1 u.2.2.2.2.2.2.2.2.2.2.2.2.2.2.2.2.2.2.2.2.2.2.2.2.2.2.2.2.2.2.2.2.2.2.2.2.2.2.2.2.2.2.2.2.2.2.2.2.2.2.2.2.2.2.2.2.2.2.2.2.2.2.2.2.2.2.2.2.2.2.2.2.2.2.2.2.2.2.2.2.2.1 u.2.2.2.2.2.2.2.2.2.2.2.2.2.2.2.2.2.2.2.2.2.2.2.2.2.2.2.2.2.2.2.2.2.2.2.2.2.2.2.2.2.2.2.2.2.2.2.2.2.2.2.2.2.2.2.2.2.2.2.2.2.2.2.2.2.2.2.2.2.2.2.2.2.2.2.2.2.2.2.2.2.2.1 u.2.2.2.2.2.2.2.2.2.2.2.2.2.2.2.2.2.2.2.2.2.2.2.2.2.2.2.2.2.2.2.2.2.2.2.2.2.2.2.2.2.2.2.2.2.2.2.2.2.2.2.2.2.2.2.2.2.2.2.2.2.2.2.2.2.2.2.2.2.2.2.2.2.2.2.2.2.2.2.2.2.2.2.1 u.2.2.2.2.2.2.2.2.2.2.2.2.2.2.2.2.2.2.2.2.2.2.2.2.2.2.2.2.2.2.2.2.2.2.2.2.2.2.2.2.2.2.2.2.2.2.2.2.2.2.2.2.2.2.2.2.2.2.2.2.2.2.2.2.2.2.2.2.2.2.2.2.2.2.2.2.2.2.2.2.2.2.2.2.1 u.2.2.2.2.2.2.2.2.2.2.2.2.2.2.2.2.2.2.2.2.2.2.2.2.2.2.2.2.2.2.2.2.2.2.2.2.2.2.2.2.2.2.2.2.2.2.2.2.2.2.2.2.2.2.2.2.2.2.2.2.2.2.2.2.2.2.2.2.2.2.2.2.2.2.2.2.2.2.2.2.2.2.2.2.2.1 u.2.2.2.2.2.2.2.2.2.2.2.2.2.2.2.2.2.2.2.2.2.2.2.2.2.2.2.2.2.2.2.2.2.2.2.2.2.2.2.2.2.2.2.2.2.2.2.2.2.2.2.2.2.2.2.2.2.2.2.2.2.2.2.2.2.2.2.2.2.2.2.2.2.2.2.2.2.2.2.2.2.2.2.2.2.2.1 u.2.2.2.2.2.2.2.2.2.2.2.2.2.2.2.2.2.2.2.2.2.2.2.2.2.2.2.2.2.2.2.2.2.2.2.2.2.2.2.2.2.2.2.2.2.2.2.2.2.2.2.2.2.2.2.2.2.2.2.2.2.2.2.2.2.2.2.2.2.2.2.2.2.2.2.2.2.2.2.2.2.2.2.2.2.2.2.1 u.2.2.2.2.2.2.2.2.2.2.2.2.2.2.2.2.2.2.2.2.2.2.2.2.2.2.2.2.2.2.2.2.2.2.2.2.2.2.2.2.2.2.2.2.2.2.2.2.2.2.2.2.2.2.2.2.2.2.2.2.2.2.2.2.2.2.2.2.2.2.2.2.2.2.2.2.2.2.2.2.2.2.2.2.2.2.2.2.1 u.2.2.2.2.2.2.2.2.2.2.2.2.2.2.2.2.2.2.2.2.2.2.2.2.2.2.2.2.2.2.2.2.2.2.2.2.2.2.2.2.2.2.2.2.2.2.2.2.2.2.2.2.2.2.2.2.2.2.2.2.2.2.2.2.2.2.2.2.2.2.2.2.2.2.2.2.2.2.2.2.2.2.2.2.2.2.2.2.2.1 u.2.2.2.2.2.2.2.2.2.2.2.2.2.2.2.2.2.2.2.2.2.2.2.2.2.2.2.2.2.2.2.2.2.2.2.2.2.2.2.2.2.2.2.2.2.2.2.2.2.2.2.2.2.2.2.2.2.2.2.2.2.2.2.2.2.2.2.2.2.2.2.2.2.2.2.2.2.2.2.2.2.2.2.2.2.2.2.2.2.2.1 u.2.2.2.2.2.2.2.2.2.2.2.2.2.2.2.2.2.2.2.2.2.2.2.2.2.2.2.2.2.2.2.2.2.2.2.2.2.2.2.2.2.2.2.2.2.2.2.2.2.2.2.2.2.2.2.2.2.2.2.2.2.2.2.2.2.2.2.2.2.2.2.2.2.2.2.2.2.2.2.2.2.2.2.2.2.2.2.2.2.2.2.1 u.2.2.2.2.2.2.2.2.2.2.2.2.2.2.2.2.2.2.2.2.2.2.2.2.2.2.2.2.2.2.2.2.2.2.2.2.2.2.2.2.2.2.2.2.2.2.2.2.2.2.2.2.2.2.2.2.2.2.2.2.2.2.2.2.2.2.2.2.2.2.2.2.2.2.2.2.2.2.2.2.2.2.2.2.2.2.2.2.2.2.2.2.1 u.2.2.2.2.2.2.2.2.2.2.2.2.2.2.2.2.2.2.2.2.2.2.2.2.2.2.2.2.2.2.2.2.2.2.2.2.2.2.2.2.2.2.2.2.2.2.2.2.2.2.2.2.2.2.2.2.2.2.2.2.2.2.2.2.2.2.2.2.2.2.2.2.2.2.2.2.2.2.2.2.2.2.2.2.2.2.2.2.2.2.2.2.2.1 u.2.2.2.2.2.2.2.2.2.2.2.2.2.2.2.2.2.2.2.2.2.2.2.2.2.2.2.2.2.2.2.2.2.2.2.2.2.2.2.2.2.2.2.2.2.2.2.2.2.2.2.2.2.2.2.2.2.2.2.2.2.2.2.2.2.2.2.2.2.2.2.2.2.2.2.2.2.2.2.2.2.2.2.2.2.2.2.2.2.2.2.2.2.2.1 u.2.2.2.2.2.2.2.2.2.2.2.2.2.2.2.2.2.2.2.2.2.2.2.2.2.2.2.2.2.2.2.2.2.2.2.2.2.2.2.2.2.2.2.2.2.2.2.2.2.2.2.2.2.2.2.2.2.2.2.2.2.2.2.2.2.2.2.2.2.2.2.2.2.2.2.2.2.2.2.2.2.2.2.2.2.2.2.2.2.2.2.2.2.2.2
theorem an_tt {P0 P1 P2 P3 P4 P5 P6 P7 P8 P9 P10 P11 P12 P13 P14 P15 P16 P17 P18 P19 P20 P21 P22 P23 P24 P25 P26 P27 P28 P29 P30 P31 P32 P33 P34 P35 P36 P37 P38 P39 P40 P41 P42 P43 P44 P45 P46 P47 P48 P49 P50 P51 P52 P53 P54 P55 P56 P57 P58 P59 P60 P61 P62 P63 P64 P65 P66 P67 P68 P69 P70 P71 P72 P73 P74 P75 P76 P77 P78 P79 P80 P81 P82 P83 P84 P85 P86 P87 P88 P89 P90 P91 P92 Q : Prop} (h : P0 ∧ P1 ∧ P2 ∧ P3 ∧ P4 ∧ P5 ∧ P6 ∧ P7 ∧ P8 ∧ P9 ∧ P10 ∧ P11 ∧ P12 ∧ P13 ∧ P14 ∧ P15 ∧ P16 ∧ P17 ∧ P18 ∧ P19 ∧ P20 ∧ P21 ∧ P22 ∧ P23 ∧ P24 ∧ P25 ∧ P26 ∧ P27 ∧ P28 ∧ P29 ∧ P30 ∧ P31 ∧ P32 ∧ P33 ∧ P34 ∧ P35 ∧ P36 ∧ P37 ∧ P38 ∧ P39 ∧ P40 ∧ P41 ∧ P42 ∧ P43 ∧ P44 ∧ P45 ∧ P46 ∧ P47 ∧ P48 ∧ P49 ∧ P50 ∧ P51 ∧ P52 ∧ P53 ∧ P54 ∧ P55 ∧ P56 ∧ P57 ∧ P58 ∧ P59 ∧ P60 ∧ P61 ∧ P62 ∧ P63 ∧ P64 ∧ P65 ∧ P66 ∧ P67 ∧ P68 ∧ P69 ∧ P70 ∧ P71 ∧ P72 ∧ P73 ∧ P74 ∧ P75 ∧ P76 ∧ P77 ∧ P78 ∧ P79 ∧ P80 ∧ P81 ∧ P82 ∧ P83 ∧ P84 ∧ P85 ∧ P86 ∧ P87 ∧ P88 ∧ P89 ∧ P90 ∧ P91 ∧ P92) (k : P0 → P1 → P2 → P3 → P4 → P5 → P6 → P7 → P8 → P9 → P10 → P11 → P12 → P13 → P14 → P15 → P16 → P17 → P18 → P19 → P20 → P21 → P22 → P23 → P24 → P25 → P26 → P27 → P28 → P29 → P30 → P31 → P32 → P33 → P34 → P35 → P36 → P37 → P38 → P39 → P40 → P41 → P42 → P43 → P44 → P45 → P46 → P47 → P48 → P49 → P50 → P51 → P52 → P53 → P54 → P55 → P56 → P57 → P58 → P59 → P60 → P61 → P62 → P63 → P64 → P65 → P66 → P67 → P68 → P69 → P70 → P71 → P72 → P73 → P74 → P75 → P76 → P77 → P78 → P79 → P80 → P81 → P82 → P83 → P84 → P85 → P86 → P87 → P88 → P89 → P90 → P91 → P92 → Q) : Q :=
  k h.1 h.2.1 h.2.2.1 h.2.2.2.1 h.2.2.2.2.1 h.2.2.2.2.2.1 h.2.2.2.2.2.2.1 h.2.2.2.2.2.2.2.1 h.2.2.2.2.2.2.2.2.1 h.2.2.2.2.2.2.2.2.2.1 h.2.2.2.2.2.2.2.2.2.2.1 h.2.2.2.2.2.2.2.2.2.2.2.1 h.2.2.2.2.2.2.2.2.2.2.2.2.1 h.2.2.2.2.2.2.2.2.2.2.2.2.2.1 h.2.2.2.2.2.2.2.2.2.2.2.2.2.2.1 h.2.2.2.2.2.2.2.2.2.2.2.2.2.2.2.1 h.2.2.2.2.2.2.2.2.2.2.2.2.2.2.2.2.1 h.2.2.2.2.2.2.2.2.2.2.2.2.2.2.2.2.2.1 h.2.2.2.2.2.2.2.2.2.2.2.2.2.2.2.2.2.2.1 h.2.2.2.2.2.2.2.2.2.2.2.2.2.2.2.2.2.2.2.1 h.2.2.2.2.2.2.2.2.2.2.2.2.2.2.2.2.2.2.2.2.1 h.2.2.2.2.2.2.2.2.2.2.2.2.2.2.2.2.2.2.2.2.2.1 h.2.2.2.2.2.2.2.2.2.2.2.2.2.2.2.2.2.2.2.2.2.2.1 h.2.2.2.2.2.2.2.2.2.2.2.2.2.2.2.2.2.2.2.2.2.2.2.1 h.2.2.2.2.2.2.2.2.2.2.2.2.2.2.2.2.2.2.2.2.2.2.2.2.1 h.2.2.2.2.2.2.2.2.2.2.2.2.2.2.2.2.2.2.2.2.2.2.2.2.2.1 h.2.2.2.2.2.2.2.2.2.2.2.2.2.2.2.2.2.2.2.2.2.2.2.2.2.2.1 h.2.2.2.2.2.2.2.2.2.2.2.2.2.2.2.2.2.2.2.2.2.2.2.2.2.2.2.1 h.2.2.2.2.2.2.2.2.2.2.2.2.2.2.2.2.2.2.2.2.2.2.2.2.2.2.2.2.1 h.2.2.2.2.2.2.2.2.2.2.2.2.2.2.2.2.2.2.2.2.2.2.2.2.2.2.2.2.2.1 h.2.2.2.2.2.2.2.2.2.2.2.2.2.2.2.2.2.2.2.2.2.2.2.2.2.2.2.2.2.2.1 h.2.2.2.2.2.2.2.2.2.2.2.2.2.2.2.2.2.2.2.2.2.2.2.2.2.2.2.2.2.2.2.1 h.2.2.2.2.2.2.2.2.2.2.2.2.2.2.2.2.2.2.2.2.2.2.2.2.2.2.2.2.2.2.2.2.1 h.2.2.2.2.2.2.2.2.2.2.2.2.2.2.2.2.2.2.2.2.2.2.2.2.2.2.2.2.2.2.2.2.2.1 h.2.2.2.2.2.2.2.2.2.2.2.2.2.2.2.2.2.2.2.2.2.2.2.2.2.2.2.2.2.2.2.2.2.2.1 h.2.2.2.2.2.2.2.2.2.2.2.2.2.2.2.2.2.2.2.2.2.2.2.2.2.2.2.2.2.2.2.2.2.2.2.1 h.2.2.2.2.2.2.2.2.2.2.2.2.2.2.2.2.2.2.2.2.2.2.2.2.2.2.2.2.2.2.2.2.2.2.2.2.1 h.2.2.2.2.2.2.2.2.2.2.2.2.2.2.2.2.2.2.2.2.2.2.2.2.2.2.2.2.2.2.2.2.2.2.2.2.2.1 h.2.2.2.2.2.2.2.2.2.2.2.2.2.2.2.2.2.2.2.2.2.2.2.2.2.2.2.2.2.2.2.2.2.2.2.2.2.2.1 h.2.2.2.2.2.2.2.2.2.2.2.2.2.2.2.2.2.2.2.2.2.2.2.2.2.2.2.2.2.2.2.2.2.2.2.2.2.2.2.1 h.2.2.2.2.2.2.2.2.2.2.2.2.2.2.2.2.2.2.2.2.2.2.2.2.2.2.2.2.2.2.2.2.2.2.2.2.2.2.2.2.1 h.2.2.2.2.2.2.2.2.2.2.2.2.2.2.2.2.2.2.2.2.2.2.2.2.2.2.2.2.2.2.2.2.2.2.2.2.2.2.2.2.2.1 h.2.2.2.2.2.2.2.2.2.2.2.2.2.2.2.2.2.2.2.2.2.2.2.2.2.2.2.2.2.2.2.2.2.2.2.2.2.2.2.2.2.2.1 h.2.2.2.2.2.2.2.2.2.2.2.2.2.2.2.2.2.2.2.2.2.2.2.2.2.2.2.2.2.2.2.2.2.2.2.2.2.2.2.2.2.2.2.1 h.2.2.2.2.2.2.2.2.2.2.2.2.2.2.2.2.2.2.2.2.2.2.2.2.2.2.2.2.2.2.2.2.2.2.2.2.2.2.2.2.2.2.2.2.1 h.2.2.2.2.2.2.2.2.2.2.2.2.2.2.2.2.2.2.2.2.2.2.2.2.2.2.2.2.2.2.2.2.2.2.2.2.2.2.2.2.2.2.2.2.2.1 h.2.2.2.2.2.2.2.2.2.2.2.2.2.2.2.2.2.2.2.2.2.2.2.2.2.2.2.2.2.2.2.2.2.2.2.2.2.2.2.2.2.2.2.2.2.2.1 h.2.2.2.2.2.2.2.2.2.2.2.2.2.2.2.2.2.2.2.2.2.2.2.2.2.2.2.2.2.2.2.2.2.2.2.2.2.2.2.2.2.2.2.2.2.2.2.1 h.2.2.2.2.2.2.2.2.2.2.2.2.2.2.2.2.2.2.2.2.2.2.2.2.2.2.2.2.2.2.2.2.2.2.2.2.2.2.2.2.2.2.2.2.2.2.2.2.1 h.2.2.2.2.2.2.2.2.2.2.2.2.2.2.2.2.2.2.2.2.2.2.2.2.2.2.2.2.2.2.2.2.2.2.2.2.2.2.2.2.2.2.2.2.2.2.2.2.2.1 h.2.2.2.2.2.2.2.2.2.2.2.2.2.2.2.2.2.2.2.2.2.2.2.2.2.2.2.2.2.2.2.2.2.2.2.2.2.2.2.2.2.2.2.2.2.2.2.2.2.2.1 h.2.2.2.2.2.2.2.2.2.2.2.2.2.2.2.2.2.2.2.2.2.2.2.2.2.2.2.2.2.2.2.2.2.2.2.2.2.2.2.2.2.2.2.2.2.2.2.2.2.2.2.1 h.2.2.2.2.2.2.2.2.2.2.2.2.2.2.2.2.2.2.2.2.2.2.2.2.2.2.2.2.2.2.2.2.2.2.2.2.2.2.2.2.2.2.2.2.2.2.2.2.2.2.2.2.1 h.2.2.2.2.2.2.2.2.2.2.2.2.2.2.2.2.2.2.2.2.2.2.2.2.2.2.2.2.2.2.2.2.2.2.2.2.2.2.2.2.2.2.2.2.2.2.2.2.2.2.2.2.2.1 h.2.2.2.2.2.2.2.2.2.2.2.2.2.2.2.2.2.2.2.2.2.2.2.2.2.2.2.2.2.2.2.2.2.2.2.2.2.2.2.2.2.2.2.2.2.2.2.2.2.2.2.2.2.2.1 h.2.2.2.2.2.2.2.2.2.2.2.2.2.2.2.2.2.2.2.2.2.2.2.2.2.2.2.2.2.2.2.2.2.2.2.2.2.2.2.2.2.2.2.2.2.2.2.2.2.2.2.2.2.2.2.1 h.2.2.2.2.2.2.2.2.2.2.2.2.2.2.2.2.2.2.2.2.2.2.2.2.2.2.2.2.2.2.2.2.2.2.2.2.2.2.2.2.2.2.2.2.2.2.2.2.2.2.2.2.2.2.2.2.1 h.2.2.2.2.2.2.2.2.2.2.2.2.2.2.2.2.2.2.2.2.2.2.2.2.2.2.2.2.2.2.2.2.2.2.2.2.2.2.2.2.2.2.2.2.2.2.2.2.2.2.2.2.2.2.2.2.2.1 h.2.2.2.2.2.2.2.2.2.2.2.2.2.2.2.2.2.2.2.2.2.2.2.2.2.2.2.2.2.2.2.2.2.2.2.2.2.2.2.2.2.2.2.2.2.2.2.2.2.2.2.2.2.2.2.2.2.2.1 h.2.2.2.2.2.2.2.2.2.2.2.2.2.2.2.2.2.2.2.2.2.2.2.2.2.2.2.2.2.2.2.2.2.2.2.2.2.2.2.2.2.2.2.2.2.2.2.2.2.2.2.2.2.2.2.2.2.2.2.1 h.2.2.2.2.2.2.2.2.2.2.2.2.2.2.2.2.2.2.2.2.2.2.2.2.2.2.2.2.2.2.2.2.2.2.2.2.2.2.2.2.2.2.2.2.2.2.2.2.2.2.2.2.2.2.2.2.2.2.2.2.1 h.2.2.2.2.2.2.2.2.2.2.2.2.2.2.2.2.2.2.2.2.2.2.2.2.2.2.2.2.2.2.2.2.2.2.2.2.2.2.2.2.2.2.2.2.2.2.2.2.2.2.2.2.2.2.2.2.2.2.2.2.2.1 h.2.2.2.2.2.2.2.2.2.2.2.2.2.2.2.2.2.2.2.2.2.2.2.2.2.2.2.2.2.2.2.2.2.2.2.2.2.2.2.2.2.2.2.2.2.2.2.2.2.2.2.2.2.2.2.2.2.2.2.2.2.2.1 h.2.2.2.2.2.2.2.2.2.2.2.2.2.2.2.2.2.2.2.2.2.2.2.2.2.2.2.2.2.2.2.2.2.2.2.2.2.2.2.2.2.2.2.2.2.2.2.2.2.2.2.2.2.2.2.2.2.2.2.2.2.2.2.1 h.2.2.2.2.2.2.2.2.2.2.2.2.2.2.2.2.2.2.2.2.2.2.2.2.2.2.2.2.2.2.2.2.2.2.2.2.2.2.2.2.2.2.2.2.2.2.2.2.2.2.2.2.2.2.2.2.2.2.2.2.2.2.2.2.1 h.2.2.2.2.2.2.2.2.2.2.2.2.2.2.2.2.2.2.2.2.2.2.2.2.2.2.2.2.2.2.2.2.2.2.2.2.2.2.2.2.2.2.2.2.2.2.2.2.2.2.2.2.2.2.2.2.2.2.2.2.2.2.2.2.2.1 h.2.2.2.2.2.2.2.2.2.2.2.2.2.2.2.2.2.2.2.2.2.2.2.2.2.2.2.2.2.2.2.2.2.2.2.2.2.2.2.2.2.2.2.2.2.2.2.2.2.2.2.2.2.2.2.2.2.2.2.2.2.2.2.2.2.2.1 h.2.2.2.2.2.2.2.2.2.2.2.2.2.2.2.2.2.2.2.2.2.2.2.2.2.2.2.2.2.2.2.2.2.2.2.2.2.2.2.2.2.2.2.2.2.2.2.2.2.2.2.2.2.2.2.2.2.2.2.2.2.2.2.2.2.2.2.1 h.2.2.2.2.2.2.2.2.2.2.2.2.2.2.2.2.2.2.2.2.2.2.2.2.2.2.2.2.2.2.2.2.2.2.2.2.2.2.2.2.2.2.2.2.2.2.2.2.2.2.2.2.2.2.2.2.2.2.2.2.2.2.2.2.2.2.2.2.1 h.2.2.2.2.2.2.2.2.2.2.2.2.2.2.2.2.2.2.2.2.2.2.2.2.2.2.2.2.2.2.2.2.2.2.2.2.2.2.2.2.2.2.2.2.2.2.2.2.2.2.2.2.2.2.2.2.2.2.2.2.2.2.2.2.2.2.2.2.2.1 h.2.2.2.2.2.2.2.2.2.2.2.2.2.2.2.2.2.2.2.2.2.2.2.2.2.2.2.2.2.2.2.2.2.2.2.2.2.2.2.2.2.2.2.2.2.2.2.2.2.2.2.2.2.2.2.2.2.2.2.2.2.2.2.2.2.2.2.2.2.2.1 h.2.2.2.2.2.2.2.2.2.2.2.2.2.2.2.2.2.2.2.2.2.2.2.2.2.2.2.2.2.2.2.2.2.2.2.2.2.2.2.2.2.2.2.2.2.2.2.2.2.2.2.2.2.2.2.2.2.2.2.2.2.2.2.2.2.2.2.2.2.2.2.1 h.2.2.2.2.2.2.2.2.2.2.2.2.2.2.2.2.2.2.2.2.2.2.2.2.2.2.2.2.2.2.2.2.2.2.2.2.2.2.2.2.2.2.2.2.2.2.2.2.2.2.2.2.2.2.2.2.2.2.2.2.2.2.2.2.2.2.2.2.2.2.2.2.1 h.2.2.2.2.2.2.2.2.2.2.2.2.2.2.2.2.2.2.2.2.2.2.2.2.2.2.2.2.2.2.2.2.2.2.2.2.2.2.2.2.2.2.2.2.2.2.2.2.2.2.2.2.2.2.2.2.2.2.2.2.2.2.2.2.2.2.2.2.2.2.2.2.2.1 h.2.2.2.2.2.2.2.2.2.2.2.2.2.2.2.2.2.2.2.2.2.2.2.2.2.2.2.2.2.2.2.2.2.2.2.2.2.2.2.2.2.2.2.2.2.2.2.2.2.2.2.2.2.2.2.2.2.2.2.2.2.2.2.2.2.2.2.2.2.2.2.2.2.2.1 h.2.2.2.2.2.2.2.2.2.2.2.2.2.2.2.2.2.2.2.2.2.2.2.2.2.2.2.2.2.2.2.2.2.2.2.2.2.2.2.2.2.2.2.2.2.2.2.2.2.2.2.2.2.2.2.2.2.2.2.2.2.2.2.2.2.2.2.2.2.2.2.2.2.2.2.1 h.2.2.2.2.2.2.2.2.2.2.2.2.2.2.2.2.2.2.2.2.2.2.2.2.2.2.2.2.2.2.2.2.2.2.2.2.2.2.2.2.2.2.2.2.2.2.2.2.2.2.2.2.2.2.2.2.2.2.2.2.2.2.2.2.2.2.2.2.2.2.2.2.2.2.2.2.1 h.2.2.2.2.2.2.2.2.2.2.2.2.2.2.2.2.2.2.2.2.2.2.2.2.2.2.2.2.2.2.2.2.2.2.2.2.2.2.2.2.2.2.2.2.2.2.2.2.2.2.2.2.2.2.2.2.2.2.2.2.2.2.2.2.2.2.2.2.2.2.2.2.2.2.2.2.2.1 h.2.2.2.2.2.2.2.2.2.2.2.2.2.2.2.2.2.2.2.2.2.2.2.2.2.2.2.2.2.2.2.2.2.2.2.2.2.2.2.2.2.2.2.2.2.2.2.2.2.2.2.2.2.2.2.2.2.2.2.2.2.2.2.2.2.2.2.2.2.2.2.2.2.2.2.2.2.2.1 h.2.2.2.2.2.2.2.2.2.2.2.2.2.2.2.2.2.2.2.2.2.2.2.2.2.2.2.2.2.2.2.2.2.2.2.2.2.2.2.2.2.2.2.2.2.2.2.2.2.2.2.2.2.2.2.2.2.2.2.2.2.2.2.2.2.2.2.2.2.2.2.2.2.2.2.2.2.2.2.1 h.2.2.2.2.2.2.2.2.2.2.2.2.2.2.2.2.2.2.2.2.2.2.2.2.2.2.2.2.2.2.2.2.2.2.2.2.2.2.2.2.2.2.2.2.2.2.2.2.2.2.2.2.2.2.2.2.2.2.2.2.2.2.2.2.2.2.2.2.2.2.2.2.2.2.2.2.2.2.2.2.1 h.2.2.2.2.2.2.2.2.2.2.2.2.2.2.2.2.2.2.2.2.2.2.2.2.2.2.2.2.2.2.2.2.2.2.2.2.2.2.2.2.2.2.2.2.2.2.2.2.2.2.2.2.2.2.2.2.2.2.2.2.2.2.2.2.2.2.2.2.2.2.2.2.2.2.2.2.2.2.2.2.2.1 h.2.2.2.2.2.2.2.2.2.2.2.2.2.2.2.2.2.2.2.2.2.2.2.2.2.2.2.2.2.2.2.2.2.2.2.2.2.2.2.2.2.2.2.2.2.2.2.2.2.2.2.2.2.2.2.2.2.2.2.2.2.2.2.2.2.2.2.2.2.2.2.2.2.2.2.2.2.2.2.2.2.2.1 h.2.2.2.2.2.2.2.2.2.2.2.2.2.2.2.2.2.2.2.2.2.2.2.2.2.2.2.2.2.2.2.2.2.2.2.2.2.2.2.2.2.2.2.2.2.2.2.2.2.2.2.2.2.2.2.2.2.2.2.2.2.2.2.2.2.2.2.2.2.2.2.2.2.2.2.2.2.2.2.2.2.2.2.1 h.2.2.2.2.2.2.2.2.2.2.2.2.2.2.2.2.2.2.2.2.2.2.2.2.2.2.2.2.2.2.2.2.2.2.2.2.2.2.2.2.2.2.2.2.2.2.2.2.2.2.2.2.2.2.2.2.2.2.2.2.2.2.2.2.2.2.2.2.2.2.2.2.2.2.2.2.2.2.2.2.2.2.2.2.1 h.2.2.2.2.2.2.2.2.2.2.2.2.2.2.2.2.2.2.2.2.2.2.2.2.2.2.2.2.2.2.2.2.2.2.2.2.2.2.2.2.2.2.2.2.2.2.2.2.2.2.2.2.2.2.2.2.2.2.2.2.2.2.2.2.2.2.2.2.2.2.2.2.2.2.2.2.2.2.2.2.2.2.2.2.2.1 h.2.2.2.2.2.2.2.2.2.2.2.2.2.2.2.2.2.2.2.2.2.2.2.2.2.2.2.2.2.2.2.2.2.2.2.2.2.2.2.2.2.2.2.2.2.2.2.2.2.2.2.2.2.2.2.2.2.2.2.2.2.2.2.2.2.2.2.2.2.2.2.2.2.2.2.2.2.2.2.2.2.2.2.2.2.2.1 h.2.2.2.2.2.2.2.2.2.2.2.2.2.2.2.2.2.2.2.2.2.2.2.2.2.2.2.2.2.2.2.2.2.2.2.2.2.2.2.2.2.2.2.2.2.2.2.2.2.2.2.2.2.2.2.2.2.2.2.2.2.2.2.2.2.2.2.2.2.2.2.2.2.2.2.2.2.2.2.2.2.2.2.2.2.2.2.1 h.2.2.2.2.2.2.2.2.2.2.2.2.2.2.2.2.2.2.2.2.2.2.2.2.2.2.2.2.2.2.2.2.2.2.2.2.2.2.2.2.2.2.2.2.2.2.2.2.2.2.2.2.2.2.2.2.2.2.2.2.2.2.2.2.2.2.2.2.2.2.2.2.2.2.2.2.2.2.2.2.2.2.2.2.2.2.2.2.1 h.2.2.2.2.2.2.2.2.2.2.2.2.2.2.2.2.2.2.2.2.2.2.2.2.2.2.2.2.2.2.2.2.2.2.2.2.2.2.2.2.2.2.2.2.2.2.2.2.2.2.2.2.2.2.2.2.2.2.2.2.2.2.2.2.2.2.2.2.2.2.2.2.2.2.2.2.2.2.2.2.2.2.2.2.2.2.2.2.2.1 h.2.2.2.2.2.2.2.2.2.2.2.2.2.2.2.2.2.2.2.2.2.2.2.2.2.2.2.2.2.2.2.2.2.2.2.2.2.2.2.2.2.2.2.2.2.2.2.2.2.2.2.2.2.2.2.2.2.2.2.2.2.2.2.2.2.2.2.2.2.2.2.2.2.2.2.2.2.2.2.2.2.2.2.2.2.2.2.2.2.2.1 h.2.2.2.2.2.2.2.2.2.2.2.2.2.2.2.2.2.2.2.2.2.2.2.2.2.2.2.2.2.2.2.2.2.2.2.2.2.2.2.2.2.2.2.2.2.2.2.2.2.2.2.2.2.2.2.2.2.2.2.2.2.2.2.2.2.2.2.2.2.2.2.2.2.2.2.2.2.2.2.2.2.2.2.2.2.2.2.2.2.2.2.1 h.2.2.2.2.2.2.2.2.2.2.2.2.2.2.2.2.2.2.2.2.2.2.2.2.2.2.2.2.2.2.2.2.2.2.2.2.2.2.2.2.2.2.2.2.2.2.2.2.2.2.2.2.2.2.2.2.2.2.2.2.2.2.2.2.2.2.2.2.2.2.2.2.2.2.2.2.2.2.2.2.2.2.2.2.2.2.2.2.2.2.2.2
end
section
theorem zidx {i L k : Nat} {v : Int32} (hi : i + 6 ≤ L) (hL : L ≤ 3072) (hv : nI k = v) (hk : k < 6) : vp_in (nI i + v) L := by
  rw [← hv, nI_add]
  exact vp_in_nI (by omega) (by omega)
theorem zcmp (x : Int64) : lg_cmp x x = 0 := by unfold lg_cmp; simp
theorem hd_lt {L i : Nat} (hL : L ≤ 3072) (hi : i ≤ 6000) : Int32.ofNat L - 6 < nI i ↔ L < i + 6 := by
  have e1 : iv L L (Int32.ofNat L) := iv_ofN (by omega) (by omega) (by omega)
  have e2 : iv (L - 6) (L - 6) (Int32.ofNat L - 6) := iv_sub e1 (iv_lit (x := 6) (l := 6) (h := 6) (by decide)) (by omega)
  have e3 : iv i i (nI i) := iv_ofN (by omega) (by omega) (by omega)
  rw [Int32.lt_iff_toInt_lt]
  unfold iv at e2 e3
  omega
end
section
theorem zArrP {args : Array Value} {s : State} {ty : FieldType} (h : (Cond.arrayClass ty).before args s = true) : ∃ cA, ArrOfT s cA ty ∧ s.vm.findClass ("[" ++ ty.toString) = some cA := by
  obtain ⟨c, k, comp, h1, h2, h3⟩ := Cond.arrayClass_spec h
  exact ⟨c, fun n z => ⟨fun k h => (by cases h), k, h2, comp, h3⟩, h1⟩
theorem zArrQ {s : State} {C : String} (h : va_AO C s) : ∃ cA, ArrOfT s cA (.object C) ∧ va_RA s cA (.object C) := by
  obtain ⟨comp, c, k, h1, h2, h3, h4, h5⟩ := Cond.arrayOver_spec h
  exact ⟨c, fun n z => ⟨fun k h => (by cases h), k, h3, comp, h4⟩, k, comp, h3, h4, h1, h5⟩
theorem zK_start {p : Program} {s : State} {m : MethodId} {meth : Method} {c : Code} {b L : Nat} {xs : Nat → Int32} (C0 : lw_At p s m meth c b L xs) : ∃ E : zE, zK E s ∧ zO s := by
  obtain ⟨hx, hb, hr, hml, hown, hts, hX, hbl, hlocks, hgv⟩ := C0
  obtain ⟨c0, i0, h0⟩ := u_known (C := RX0) (T := TX0) (N := 4) (n := 4) hts (fun w hw => zb_in (uw0 w hw)) (hts (.instantiable RX0 4) (zb_in kins_0))
  obtain ⟨c1, i1, h1⟩ := u_known (C := RX1) (T := TX1) (N := 4) (n := 4) hts (fun w hw => zb_in (uw1 w hw)) (hts (.instantiable RX1 4) (zb_in kins_1))
  obtain ⟨c2, i2, h2⟩ := u_known (C := RX2) (T := TX2) (N := 15) (n := 15) hts (fun w hw => zb_in (uw2 w hw)) (hts (.instantiable RX2 15) (zb_in kins_2))
  obtain ⟨c3, i3, h3⟩ := u_known (C := RX3) (T := TX3) (N := 10) (n := 10) hts (fun w hw => zb_in (uw3 w hw)) (hts (.instantiable RX3 10) (zb_in kins_3))
  obtain ⟨c4, i4, h4⟩ := u_known (C := RX4) (T := TX4) (N := 15) (n := 15) hts (fun w hw => zb_in (uw4 w hw)) (hts (.instantiable RX4 15) (zb_in kins_4))
  obtain ⟨c5, i5, h5⟩ := u_known (C := RX5) (T := TX5) (N := 3) (n := 3) hts (fun w hw => zb_in (uw5 w hw)) (hts (.instantiable RX5 3) (zb_in kins_5))
  obtain ⟨c6, i6, h6⟩ := u_known (C := RX6) (T := TX6) (N := 4) (n := 4) hts (fun w hw => zb_in (uw6 w hw)) (hts (.instantiable RX6 4) (zb_in kins_6))
  obtain ⟨c7, i7, h7⟩ := u_known (C := RX7) (T := TX7) (N := 8) (n := 8) hts (fun w hw => zb_in (uw7 w hw)) (hts (.instantiable RX7 8) (zb_in kins_7))
  obtain ⟨c8, i8, h8⟩ := u_known (C := RX8) (T := TX8) (N := 2) (n := 2) hts (fun w hw => zb_in (uw8 w hw)) (hts (.instantiable RX8 2) (zb_in kins_8))
  obtain ⟨c9, i9, h9⟩ := u_known (C := RX9) (T := TX9) (N := 9) (n := 9) hts (fun w hw => zb_in (uw9 w hw)) (hts (.instantiable RX9 9) (zb_in kins_9))
  obtain ⟨c10, i10, h10⟩ := u_known (C := RX10) (T := TX10) (N := 7) (n := 7) hts (fun w hw => zb_in (uw10 w hw)) (hts (.instantiable RX10 7) (zb_in kins_10))
  obtain ⟨c11, i11, h11⟩ := u_known (C := RX11) (T := TX11) (N := 52) (n := 52) hts (fun w hw => zb_in (uw11 w hw)) (hts (.instantiable RX11 52) (zb_in kins_11))
  obtain ⟨t0, a0, n0⟩ := zArrP (hts _ (zb_in kac_B))
  obtain ⟨t1, a1, n1⟩ := zArrP (hts _ (zb_in kac_I))
  obtain ⟨t2, a2, n2⟩ := zArrP (hts _ (zb_in kac_J))
  obtain ⟨t3, a3, n3⟩ := zArrP (hts _ (zb_in kac_Z))
  have o4 : va_AO RX2 s := va_AO.of (hts (.arrayOver (.object RX2)) (List.mem_of_getElem? (i := 181) (by decide +kernel)))
  obtain ⟨t4, a4, n4⟩ := zArrQ o4
  have o5 : va_AO RX1 s := va_AO.of (hts (.arrayOver (.object RX1)) (List.mem_of_getElem? (i := 272) (by decide +kernel)))
  obtain ⟨t5, a5, n5⟩ := zArrQ o5
  have o6 : va_AO RX6 s := va_AO.of (hts (.arrayOver (.object RX6)) (List.mem_of_getElem? (i := 298) (by decide +kernel)))
  obtain ⟨t6, a6, n6⟩ := zArrQ o6
  have o7 : va_AO RX0 s := va_AO.of (hts (.arrayOver (.object RX0)) (List.mem_of_getElem? (i := 324) (by decide +kernel)))
  obtain ⟨t7, a7, n7⟩ := zArrQ o7
  have o8 : va_AO RX9 s := va_AO.of (hts (.arrayOver (.object RX9)) (List.mem_of_getElem? (i := 385) (by decide +kernel)))
  obtain ⟨t8, a8, n8⟩ := zArrQ o8
  refine ⟨((fun k => match k with | 0 => c0 | 1 => c1 | 2 => c2 | 3 => c3 | 4 => c4 | 5 => c5 | 6 => c6 | 7 => c7 | 8 => c8 | 9 => c9 | 10 => c10 | _ => c11, fun k => match k with | 0 => i0 | 1 => i1 | 2 => i2 | 3 => i3 | 4 => i4 | 5 => i5 | 6 => i6 | 7 => i7 | 8 => i8 | 9 => i9 | 10 => i10 | _ => i11), fun k => match k with | 0 => t0 | 1 => t1 | 2 => t2 | 3 => t3 | 4 => t4 | 5 => t5 | 6 => t6 | 7 => t7 | _ => t8), ⟨⟨?_, ?_⟩, ?_⟩, ?_⟩
  · intro k q hq
    match k, hq with
    | 0, hq => cases hq; exact h0
    | 1, hq => cases hq; exact h1
    | 2, hq => cases hq; exact h2
    | 3, hq => cases hq; exact h3
    | 4, hq => cases hq; exact h4
    | 5, hq => cases hq; exact h5
    | 6, hq => cases hq; exact h6
    | 7, hq => cases hq; exact h7
    | 8, hq => cases hq; exact h8
    | 9, hq => cases hq; exact h9
    | 10, hq => cases hq; exact h10
    | 11, hq => cases hq; exact h11
    | k + 12, hq => simp at hq
  · intro k q hq
    match k, hq with
    | 0, hq => cases hq; exact ⟨a0, n0⟩
    | 1, hq => cases hq; exact ⟨a1, n1⟩
    | 2, hq => cases hq; exact ⟨a2, n2⟩
    | 3, hq => cases hq; exact ⟨a3, n3⟩
    | 4, hq => cases hq; exact ⟨a4, n4⟩
    | 5, hq => cases hq; exact ⟨a5, n5⟩
    | 6, hq => cases hq; exact ⟨a6, n6⟩
    | 7, hq => cases hq; exact ⟨a7, n7⟩
    | 8, hq => cases hq; exact ⟨a8, n8⟩
    | k + 9, hq => simp at hq
  · intro w hw
    have h9 := hts w (znest_in w hw)
    obtain ⟨a, i, y, b2, rfl⟩ := znest_form w hw
    exact va_Nw.of rfl h9
  · intro C hC
    simp only [zover, List.mem_cons, List.not_mem_nil, or_false] at hC
    rcases hC with rfl | rfl | rfl | rfl | rfl
    · exact o4
    · exact o5
    · exact o6
    · exact o7
    · exact o8
end
section
set_option maxRecDepth 1000000 in
theorem zs_t0 : ∀ j, j < 5 → Cond.eq (.elem (.static RX4 "FIRST_WORDS" "[I") (.int (Int32.ofNat j))) (.int (tbf_0 j)) ∈ flatC (Jvm.Cond.and given_1 narrow_1) := pk_of (gs := [7, 0, 0, 0, 0]) (X := fun j => Cond.eq (.elem (.static RX4 "FIRST_WORDS" "[I") (.int (Int32.ofNat j))) (.int (tbf_0 j))) rfl
set_option maxRecDepth 1000000 in
theorem zs_t1 : ∀ j, j < 20 → Cond.eq (.elem (.static RX4 "NUMBERS" "[I") (.int (Int32.ofNat j))) (.int (tbf_1 j)) ∈ flatC (Jvm.Cond.and given_1 narrow_1) := pk_of (gs := [20, 0, 0, 0, 0, 0, 0, 0, 0, 0, 0, 0, 0, 0, 0, 0, 0, 0, 0, 0]) (X := fun j => Cond.eq (.elem (.static RX4 "NUMBERS" "[I") (.int (Int32.ofNat j))) (.int (tbf_1 j))) rfl
set_option maxRecDepth 1000000 in
theorem zs_t2 : ∀ j, j < 60 → Cond.eq (.elem (.static RX4 "LEAST" "[I") (.int (Int32.ofNat j))) (.int (tbf_2 j)) ∈ flatC (Jvm.Cond.and given_1 narrow_1) := pk_of (gs := [43, 0, 0, 0, 0, 0, 0, 0, 0, 0, 0, 0, 0, 0, 0, 0, 0, 0, 0, 0, 0, 0, 0, 0, 0, 0, 0, 0, 0, 0, 0, 0, 0, 0, 0, 0, 0, 0, 0, 0, 0, 0, 0, 0, 0, 0, 0, 0, 0, 0, 0, 0, 0, 0, 0, 0, 0, 0, 0, 0]) (X := fun j => Cond.eq (.elem (.static RX4 "LEAST" "[I") (.int (Int32.ofNat j))) (.int (tbf_2 j))) rfl
set_option maxRecDepth 1000000 in
theorem zs_t3 : ∀ j, j < 60 → Cond.eq (.elem (.static RX4 "MOST" "[I") (.int (Int32.ofNat j))) (.int (tbf_3 j)) ∈ flatC (Jvm.Cond.and given_1 narrow_1) := pk_of (gs := [106, 0, 0, 0, 0, 0, 0, 0, 0, 0, 0, 0, 0, 0, 0, 0, 0, 0, 0, 0, 0, 0, 0, 0, 0, 0, 0, 0, 0, 0, 0, 0, 0, 0, 0, 0, 0, 0, 0, 0, 0, 0, 0, 0, 0, 0, 0, 0, 0, 0, 0, 0, 0, 0, 0, 0, 0, 0, 0, 0]) (X := fun j => Cond.eq (.elem (.static RX4 "MOST" "[I") (.int (Int32.ofNat j))) (.int (tbf_3 j))) rfl
set_option maxRecDepth 1000000 in
theorem zs_ex : ∀ i, i < 20 → Cond.exactly (.string RX4 (sEnt.getD i 0)) "java/lang/String" ∈ flatC (Jvm.Cond.and given_1 narrow_1) := pk_of (gs := [226, 6, 11, 8, 10, 12, 11, 13, 16, 17, 17, 18, 18, 22, 20, 22, 25, 24, 24, 26]) (X := fun i => Cond.exactly (.string RX4 (sEnt.getD i 0)) "java/lang/String") rfl
set_option maxRecDepth 1000000 in
theorem zs_co : ∀ i, i < 20 → Cond.eq (.field (.string RX4 (sEnt.getD i 0)) "java/lang/String" "coder" "B") (.int 0) ∈ flatC (Jvm.Cond.and given_1 narrow_1) := pk_of (gs := [227, 6, 11, 8, 10, 12, 11, 13, 16, 17, 17, 18, 18, 22, 20, 22, 25, 24, 24, 26]) (X := fun i => Cond.eq (.field (.string RX4 (sEnt.getD i 0)) "java/lang/String" "coder" "B") (.int 0)) rfl
set_option maxRecDepth 1000000 in
theorem zs_ar : ∀ i, i < 20 → Cond.arrayOf (.field (.string RX4 (sEnt.getD i 0)) "java/lang/String" "value" "[B") .byte ∈ flatC (Jvm.Cond.and given_1 narrow_1) := pk_of (gs := [228, 6, 11, 8, 10, 12, 11, 13, 16, 17, 17, 18, 18, 22, 20, 22, 25, 24, 24, 26]) (X := fun i => Cond.arrayOf (.field (.string RX4 (sEnt.getD i 0)) "java/lang/String" "value" "[B") .byte) rfl
set_option maxRecDepth 1000000 in
theorem zs_le : ∀ i, i < 20 → Cond.eq (.length (.field (.string RX4 (sEnt.getD i 0)) "java/lang/String" "value" "[B")) (.int (Int32.ofNat (sLen.getD i 0))) ∈ flatC (Jvm.Cond.and given_1 narrow_1) := pk_of (gs := [229, 6, 11, 8, 10, 12, 11, 13, 16, 17, 17, 18, 18, 22, 20, 22, 25, 24, 24, 26]) (X := fun i => Cond.eq (.length (.field (.string RX4 (sEnt.getD i 0)) "java/lang/String" "value" "[B")) (.int (Int32.ofNat (sLen.getD i 0)))) rfl
end
section
set_option maxRecDepth 1000000 in
theorem zs_el_0 : ∀ j, j < 3 → Cond.eq (.elem (.field (.string RX4 226) "java/lang/String" "value" "[B") (.int (Int32.ofNat j))) (.int ((sByt.getD 0 []).getD j 0)) ∈ flatC (Jvm.Cond.and given_1 narrow_1) := pk_of (gs := [230, 0, 0]) (X := fun j => Cond.eq (.elem (.field (.string RX4 226) "java/lang/String" "value" "[B") (.int (Int32.ofNat j))) (.int ((sByt.getD 0 []).getD j 0))) rfl
set_option maxRecDepth 1000000 in
theorem zs_el_1 : ∀ j, j < 7 → Cond.eq (.elem (.field (.string RX4 228) "java/lang/String" "value" "[B") (.int (Int32.ofNat j))) (.int ((sByt.getD 1 []).getD j 0)) ∈ flatC (Jvm.Cond.and given_1 narrow_1) := pk_of (gs := [237, 0, 0, 0, 0, 0, 0]) (X := fun j => Cond.eq (.elem (.field (.string RX4 228) "java/lang/String" "value" "[B") (.int (Int32.ofNat j))) (.int ((sByt.getD 1 []).getD j 0))) rfl
set_option maxRecDepth 1000000 in
theorem zs_el_2 : ∀ j, j < 3 → Cond.eq (.elem (.field (.string RX4 230) "java/lang/String" "value" "[B") (.int (Int32.ofNat j))) (.int ((sByt.getD 2 []).getD j 0)) ∈ flatC (Jvm.Cond.and given_1 narrow_1) := pk_of (gs := [249, 0, 0]) (X := fun j => Cond.eq (.elem (.field (.string RX4 230) "java/lang/String" "value" "[B") (.int (Int32.ofNat j))) (.int ((sByt.getD 2 []).getD j 0))) rfl
set_option maxRecDepth 1000000 in
theorem zs_el_3 : ∀ j, j < 4 → Cond.eq (.elem (.field (.string RX4 232) "java/lang/String" "value" "[B") (.int (Int32.ofNat j))) (.int ((sByt.getD 3 []).getD j 0)) ∈ flatC (Jvm.Cond.and given_1 narrow_1) := pk_of (gs := [258, 0, 0, 0]) (X := fun j => Cond.eq (.elem (.field (.string RX4 232) "java/lang/String" "value" "[B") (.int (Int32.ofNat j))) (.int ((sByt.getD 3 []).getD j 0))) rfl
set_option maxRecDepth 1000000 in
theorem zs_el_4 : ∀ j, j < 5 → Cond.eq (.elem (.field (.string RX4 233) "java/lang/String" "value" "[B") (.int (Int32.ofNat j))) (.int ((sByt.getD 4 []).getD j 0)) ∈ flatC (Jvm.Cond.and given_1 narrow_1) := pk_of (gs := [269, 0, 0, 0, 0]) (X := fun j => Cond.eq (.elem (.field (.string RX4 233) "java/lang/String" "value" "[B") (.int (Int32.ofNat j))) (.int ((sByt.getD 4 []).getD j 0))) rfl
set_option maxRecDepth 1000000 in
theorem zs_el_5 : ∀ j, j < 3 → Cond.eq (.elem (.field (.string RX4 234) "java/lang/String" "value" "[B") (.int (Int32.ofNat j))) (.int ((sByt.getD 5 []).getD j 0)) ∈ flatC (Jvm.Cond.and given_1 narrow_1) := pk_of (gs := [282, 0, 0]) (X := fun j => Cond.eq (.elem (.field (.string RX4 234) "java/lang/String" "value" "[B") (.int (Int32.ofNat j))) (.int ((sByt.getD 5 []).getD j 0))) rfl
set_option maxRecDepth 1000000 in
theorem zs_el_6 : ∀ j, j < 4 → Cond.eq (.elem (.field (.string RX4 236) "java/lang/String" "value" "[B") (.int (Int32.ofNat j))) (.int ((sByt.getD 6 []).getD j 0)) ∈ flatC (Jvm.Cond.and given_1 narrow_1) := pk_of (gs := [294, 0, 0, 0]) (X := fun j => Cond.eq (.elem (.field (.string RX4 236) "java/lang/String" "value" "[B") (.int (Int32.ofNat j))) (.int ((sByt.getD 6 []).getD j 0))) rfl
set_option maxRecDepth 1000000 in
theorem zs_el_7 : ∀ j, j < 6 → Cond.eq (.elem (.field (.string RX4 238) "java/lang/String" "value" "[B") (.int (Int32.ofNat j))) (.int ((sByt.getD 7 []).getD j 0)) ∈ flatC (Jvm.Cond.and given_1 narrow_1) := pk_of (gs := [308, 0, 0, 0, 0, 0]) (X := fun j => Cond.eq (.elem (.field (.string RX4 238) "java/lang/String" "value" "[B") (.int (Int32.ofNat j))) (.int ((sByt.getD 7 []).getD j 0))) rfl
set_option maxRecDepth 1000000 in
theorem zs_el_8 : ∀ j, j < 6 → Cond.eq (.elem (.field (.string RX4 240) "java/lang/String" "value" "[B") (.int (Int32.ofNat j))) (.int ((sByt.getD 8 []).getD j 0)) ∈ flatC (Jvm.Cond.and given_1 narrow_1) := pk_of (gs := [325, 0, 0, 0, 0, 0]) (X := fun j => Cond.eq (.elem (.field (.string RX4 240) "java/lang/String" "value" "[B") (.int (Int32.ofNat j))) (.int ((sByt.getD 8 []).getD j 0))) rfl
set_option maxRecDepth 1000000 in
theorem zs_el_9 : ∀ j, j < 5 → Cond.eq (.elem (.field (.string RX4 242) "java/lang/String" "value" "[B") (.int (Int32.ofNat j))) (.int ((sByt.getD 9 []).getD j 0)) ∈ flatC (Jvm.Cond.and given_1 narrow_1) := pk_of (gs := [343, 0, 0, 0, 0]) (X := fun j => Cond.eq (.elem (.field (.string RX4 242) "java/lang/String" "value" "[B") (.int (Int32.ofNat j))) (.int ((sByt.getD 9 []).getD j 0))) rfl
set_option maxRecDepth 1000000 in
theorem zs_el_10 : ∀ j, j < 5 → Cond.eq (.elem (.field (.string RX4 244) "java/lang/String" "value" "[B") (.int (Int32.ofNat j))) (.int ((sByt.getD 10 []).getD j 0)) ∈ flatC (Jvm.Cond.and given_1 narrow_1) := pk_of (gs := [361, 0, 0, 0, 0]) (X := fun j => Cond.eq (.elem (.field (.string RX4 244) "java/lang/String" "value" "[B") (.int (Int32.ofNat j))) (.int ((sByt.getD 10 []).getD j 0))) rfl
set_option maxRecDepth 1000000 in
theorem zs_el_11 : ∀ j, j < 4 → Cond.eq (.elem (.field (.string RX4 246) "java/lang/String" "value" "[B") (.int (Int32.ofNat j))) (.int ((sByt.getD 11 []).getD j 0)) ∈ flatC (Jvm.Cond.and given_1 narrow_1) := pk_of (gs := [380, 0, 0, 0]) (X := fun j => Cond.eq (.elem (.field (.string RX4 246) "java/lang/String" "value" "[B") (.int (Int32.ofNat j))) (.int ((sByt.getD 11 []).getD j 0))) rfl
set_option maxRecDepth 1000000 in
theorem zs_el_12 : ∀ j, j < 7 → Cond.eq (.elem (.field (.string RX4 248) "java/lang/String" "value" "[B") (.int (Int32.ofNat j))) (.int ((sByt.getD 12 []).getD j 0)) ∈ flatC (Jvm.Cond.and given_1 narrow_1) := pk_of (gs := [399, 0, 0, 0, 0, 0, 0]) (X := fun j => Cond.eq (.elem (.field (.string RX4 248) "java/lang/String" "value" "[B") (.int (Int32.ofNat j))) (.int ((sByt.getD 12 []).getD j 0))) rfl
set_option maxRecDepth 1000000 in
theorem zs_el_13 : ∀ j, j < 4 → Cond.eq (.elem (.field (.string RX4 250) "java/lang/String" "value" "[B") (.int (Int32.ofNat j))) (.int ((sByt.getD 13 []).getD j 0)) ∈ flatC (Jvm.Cond.and given_1 narrow_1) := pk_of (gs := [422, 0, 0, 0]) (X := fun j => Cond.eq (.elem (.field (.string RX4 250) "java/lang/String" "value" "[B") (.int (Int32.ofNat j))) (.int ((sByt.getD 13 []).getD j 0))) rfl
set_option maxRecDepth 1000000 in
theorem zs_el_14 : ∀ j, j < 5 → Cond.eq (.elem (.field (.string RX4 252) "java/lang/String" "value" "[B") (.int (Int32.ofNat j))) (.int ((sByt.getD 14 []).getD j 0)) ∈ flatC (Jvm.Cond.and given_1 narrow_1) := pk_of (gs := [443, 0, 0, 0, 0]) (X := fun j => Cond.eq (.elem (.field (.string RX4 252) "java/lang/String" "value" "[B") (.int (Int32.ofNat j))) (.int ((sByt.getD 14 []).getD j 0))) rfl
set_option maxRecDepth 1000000 in
theorem zs_el_15 : ∀ j, j < 7 → Cond.eq (.elem (.field (.string RX4 254) "java/lang/String" "value" "[B") (.int (Int32.ofNat j))) (.int ((sByt.getD 15 []).getD j 0)) ∈ flatC (Jvm.Cond.and given_1 narrow_1) := pk_of (gs := [466, 0, 0, 0, 0, 0, 0]) (X := fun j => Cond.eq (.elem (.field (.string RX4 254) "java/lang/String" "value" "[B") (.int (Int32.ofNat j))) (.int ((sByt.getD 15 []).getD j 0))) rfl
set_option maxRecDepth 1000000 in
theorem zs_el_16 : ∀ j, j < 5 → Cond.eq (.elem (.field (.string RX4 256) "java/lang/String" "value" "[B") (.int (Int32.ofNat j))) (.int ((sByt.getD 16 []).getD j 0)) ∈ flatC (Jvm.Cond.and given_1 narrow_1) := pk_of (gs := [492, 0, 0, 0, 0]) (X := fun j => Cond.eq (.elem (.field (.string RX4 256) "java/lang/String" "value" "[B") (.int (Int32.ofNat j))) (.int ((sByt.getD 16 []).getD j 0))) rfl
set_option maxRecDepth 1000000 in
theorem zs_el_17 : ∀ j, j < 4 → Cond.eq (.elem (.field (.string RX4 258) "java/lang/String" "value" "[B") (.int (Int32.ofNat j))) (.int ((sByt.getD 17 []).getD j 0)) ∈ flatC (Jvm.Cond.and given_1 narrow_1) := pk_of (gs := [517, 0, 0, 0]) (X := fun j => Cond.eq (.elem (.field (.string RX4 258) "java/lang/String" "value" "[B") (.int (Int32.ofNat j))) (.int ((sByt.getD 17 []).getD j 0))) rfl
set_option maxRecDepth 1000000 in
theorem zs_el_18 : ∀ j, j < 5 → Cond.eq (.elem (.field (.string RX4 260) "java/lang/String" "value" "[B") (.int (Int32.ofNat j))) (.int ((sByt.getD 18 []).getD j 0)) ∈ flatC (Jvm.Cond.and given_1 narrow_1) := pk_of (gs := [542, 0, 0, 0, 0]) (X := fun j => Cond.eq (.elem (.field (.string RX4 260) "java/lang/String" "value" "[B") (.int (Int32.ofNat j))) (.int ((sByt.getD 18 []).getD j 0))) rfl
set_option maxRecDepth 1000000 in
theorem zs_el_19 : ∀ j, j < 4 → Cond.eq (.elem (.field (.string RX4 262) "java/lang/String" "value" "[B") (.int (Int32.ofNat j))) (.int ((sByt.getD 19 []).getD j 0)) ∈ flatC (Jvm.Cond.and given_1 narrow_1) := pk_of (gs := [569, 0, 0, 0]) (X := fun j => Cond.eq (.elem (.field (.string RX4 262) "java/lang/String" "value" "[B") (.int (Int32.ofNat j))) (.int ((sByt.getD 19 []).getD j 0))) rfl
theorem zs_el : ∀ i, i < 20 → ∀ j, j < sLen.getD i 0 → Cond.eq (.elem (.field (.string RX4 (sEnt.getD i 0)) "java/lang/String" "value" "[B") (.int (Int32.ofNat j))) (.int ((sByt.getD i []).getD j 0)) ∈ flatC (Jvm.Cond.and given_1 narrow_1) := fun i hi => match i, hi with
  | 0, _ => zs_el_0
  | 1, _ => zs_el_1
  | 2, _ => zs_el_2
  | 3, _ => zs_el_3
  | 4, _ => zs_el_4
  | 5, _ => zs_el_5
  | 6, _ => zs_el_6
  | 7, _ => zs_el_7
  | 8, _ => zs_el_8
  | 9, _ => zs_el_9
  | 10, _ => zs_el_10
  | 11, _ => zs_el_11
  | 12, _ => zs_el_12
  | 13, _ => zs_el_13
  | 14, _ => zs_el_14
  | 15, _ => zs_el_15
  | 16, _ => zs_el_16
  | 17, _ => zs_el_17
  | 18, _ => zs_el_18
  | 19, _ => zs_el_19
  | i + 20, h => absurd h (by omega)
end
section
set_option maxRecDepth 1000000 in
theorem zs_ne_0 : ∀ i, i < 0 → Cond.not (Cond.eq (.string RX4 (sEnt.getD i 0)) (.string RX4 226)) ∈ flatC (Jvm.Cond.and given_1 narrow_1) := pk_of (gs := []) (X := fun i => Cond.not (Cond.eq (.string RX4 (sEnt.getD i 0)) (.string RX4 226))) rfl
set_option maxRecDepth 1000000 in
theorem zs_ne_1 : ∀ i, i < 1 → Cond.not (Cond.eq (.string RX4 (sEnt.getD i 0)) (.string RX4 228)) ∈ flatC (Jvm.Cond.and given_1 narrow_1) := pk_of (gs := [244]) (X := fun i => Cond.not (Cond.eq (.string RX4 (sEnt.getD i 0)) (.string RX4 228))) rfl
set_option maxRecDepth 1000000 in
theorem zs_ne_2 : ∀ i, i < 2 → Cond.not (Cond.eq (.string RX4 (sEnt.getD i 0)) (.string RX4 230)) ∈ flatC (Jvm.Cond.and given_1 narrow_1) := pk_of (gs := [252, 0]) (X := fun i => Cond.not (Cond.eq (.string RX4 (sEnt.getD i 0)) (.string RX4 230))) rfl
set_option maxRecDepth 1000000 in
theorem zs_ne_3 : ∀ i, i < 3 → Cond.not (Cond.eq (.string RX4 (sEnt.getD i 0)) (.string RX4 232)) ∈ flatC (Jvm.Cond.and given_1 narrow_1) := pk_of (gs := [262, 0, 0]) (X := fun i => Cond.not (Cond.eq (.string RX4 (sEnt.getD i 0)) (.string RX4 232))) rfl
set_option maxRecDepth 1000000 in
theorem zs_ne_4 : ∀ i, i < 4 → Cond.not (Cond.eq (.string RX4 (sEnt.getD i 0)) (.string RX4 233)) ∈ flatC (Jvm.Cond.and given_1 narrow_1) := pk_of (gs := [274, 0, 0, 0]) (X := fun i => Cond.not (Cond.eq (.string RX4 (sEnt.getD i 0)) (.string RX4 233))) rfl
set_option maxRecDepth 1000000 in
theorem zs_ne_5 : ∀ i, i < 5 → Cond.not (Cond.eq (.string RX4 (sEnt.getD i 0)) (.string RX4 234)) ∈ flatC (Jvm.Cond.and given_1 narrow_1) := pk_of (gs := [285, 0, 0, 0, 0]) (X := fun i => Cond.not (Cond.eq (.string RX4 (sEnt.getD i 0)) (.string RX4 234))) rfl
set_option maxRecDepth 1000000 in
theorem zs_ne_6 : ∀ i, i < 6 → Cond.not (Cond.eq (.string RX4 (sEnt.getD i 0)) (.string RX4 236)) ∈ flatC (Jvm.Cond.and given_1 narrow_1) := pk_of (gs := [298, 0, 0, 0, 0, 0]) (X := fun i => Cond.not (Cond.eq (.string RX4 (sEnt.getD i 0)) (.string RX4 236))) rfl
set_option maxRecDepth 1000000 in
theorem zs_ne_7 : ∀ i, i < 7 → Cond.not (Cond.eq (.string RX4 (sEnt.getD i 0)) (.string RX4 238)) ∈ flatC (Jvm.Cond.and given_1 narrow_1) := pk_of (gs := [314, 0, 0, 0, 0, 0, 0]) (X := fun i => Cond.not (Cond.eq (.string RX4 (sEnt.getD i 0)) (.string RX4 238))) rfl
set_option maxRecDepth 1000000 in
theorem zs_ne_8 : ∀ i, i < 8 → Cond.not (Cond.eq (.string RX4 (sEnt.getD i 0)) (.string RX4 240)) ∈ flatC (Jvm.Cond.and given_1 narrow_1) := pk_of (gs := [331, 0, 0, 0, 0, 0, 0, 0]) (X := fun i => Cond.not (Cond.eq (.string RX4 (sEnt.getD i 0)) (.string RX4 240))) rfl
set_option maxRecDepth 1000000 in
theorem zs_ne_9 : ∀ i, i < 9 → Cond.not (Cond.eq (.string RX4 (sEnt.getD i 0)) (.string RX4 242)) ∈ flatC (Jvm.Cond.and given_1 narrow_1) := pk_of (gs := [348, 0, 0, 0, 0, 0, 0, 0, 0]) (X := fun i => Cond.not (Cond.eq (.string RX4 (sEnt.getD i 0)) (.string RX4 242))) rfl
set_option maxRecDepth 1000000 in
theorem zs_ne_10 : ∀ i, i < 10 → Cond.not (Cond.eq (.string RX4 (sEnt.getD i 0)) (.string RX4 244)) ∈ flatC (Jvm.Cond.and given_1 narrow_1) := pk_of (gs := [366, 0, 0, 0, 0, 0, 0, 0, 0, 0]) (X := fun i => Cond.not (Cond.eq (.string RX4 (sEnt.getD i 0)) (.string RX4 244))) rfl
set_option maxRecDepth 1000000 in
theorem zs_ne_11 : ∀ i, i < 11 → Cond.not (Cond.eq (.string RX4 (sEnt.getD i 0)) (.string RX4 246)) ∈ flatC (Jvm.Cond.and given_1 narrow_1) := pk_of (gs := [384, 0, 0, 0, 0, 0, 0, 0, 0, 0, 0]) (X := fun i => Cond.not (Cond.eq (.string RX4 (sEnt.getD i 0)) (.string RX4 246))) rfl
set_option maxRecDepth 1000000 in
theorem zs_ne_12 : ∀ i, i < 12 → Cond.not (Cond.eq (.string RX4 (sEnt.getD i 0)) (.string RX4 248)) ∈ flatC (Jvm.Cond.and given_1 narrow_1) := pk_of (gs := [406, 0, 0, 0, 0, 0, 0, 0, 0, 0, 0, 0]) (X := fun i => Cond.not (Cond.eq (.string RX4 (sEnt.getD i 0)) (.string RX4 248))) rfl
set_option maxRecDepth 1000000 in
theorem zs_ne_13 : ∀ i, i < 13 → Cond.not (Cond.eq (.string RX4 (sEnt.getD i 0)) (.string RX4 250)) ∈ flatC (Jvm.Cond.and given_1 narrow_1) := pk_of (gs := [426, 0, 0, 0, 0, 0, 0, 0, 0, 0, 0, 0, 0]) (X := fun i => Cond.not (Cond.eq (.string RX4 (sEnt.getD i 0)) (.string RX4 250))) rfl
set_option maxRecDepth 1000000 in
theorem zs_ne_14 : ∀ i, i < 14 → Cond.not (Cond.eq (.string RX4 (sEnt.getD i 0)) (.string RX4 252)) ∈ flatC (Jvm.Cond.and given_1 narrow_1) := pk_of (gs := [448, 0, 0, 0, 0, 0, 0, 0, 0, 0, 0, 0, 0, 0]) (X := fun i => Cond.not (Cond.eq (.string RX4 (sEnt.getD i 0)) (.string RX4 252))) rfl
set_option maxRecDepth 1000000 in
theorem zs_ne_15 : ∀ i, i < 15 → Cond.not (Cond.eq (.string RX4 (sEnt.getD i 0)) (.string RX4 254)) ∈ flatC (Jvm.Cond.and given_1 narrow_1) := pk_of (gs := [473, 0, 0, 0, 0, 0, 0, 0, 0, 0, 0, 0, 0, 0, 0]) (X := fun i => Cond.not (Cond.eq (.string RX4 (sEnt.getD i 0)) (.string RX4 254))) rfl
set_option maxRecDepth 1000000 in
theorem zs_ne_16 : ∀ i, i < 16 → Cond.not (Cond.eq (.string RX4 (sEnt.getD i 0)) (.string RX4 256)) ∈ flatC (Jvm.Cond.and given_1 narrow_1) := pk_of (gs := [497, 0, 0, 0, 0, 0, 0, 0, 0, 0, 0, 0, 0, 0, 0, 0]) (X := fun i => Cond.not (Cond.eq (.string RX4 (sEnt.getD i 0)) (.string RX4 256))) rfl
set_option maxRecDepth 1000000 in
theorem zs_ne_17 : ∀ i, i < 17 → Cond.not (Cond.eq (.string RX4 (sEnt.getD i 0)) (.string RX4 258)) ∈ flatC (Jvm.Cond.and given_1 narrow_1) := pk_of (gs := [521, 0, 0, 0, 0, 0, 0, 0, 0, 0, 0, 0, 0, 0, 0, 0, 0]) (X := fun i => Cond.not (Cond.eq (.string RX4 (sEnt.getD i 0)) (.string RX4 258))) rfl
set_option maxRecDepth 1000000 in
theorem zs_ne_18 : ∀ i, i < 18 → Cond.not (Cond.eq (.string RX4 (sEnt.getD i 0)) (.string RX4 260)) ∈ flatC (Jvm.Cond.and given_1 narrow_1) := pk_of (gs := [547, 0, 0, 0, 0, 0, 0, 0, 0, 0, 0, 0, 0, 0, 0, 0, 0, 0]) (X := fun i => Cond.not (Cond.eq (.string RX4 (sEnt.getD i 0)) (.string RX4 260))) rfl
set_option maxRecDepth 1000000 in
theorem zs_ne_19 : ∀ i, i < 19 → Cond.not (Cond.eq (.string RX4 (sEnt.getD i 0)) (.string RX4 262)) ∈ flatC (Jvm.Cond.and given_1 narrow_1) := pk_of (gs := [573, 0, 0, 0, 0, 0, 0, 0, 0, 0, 0, 0, 0, 0, 0, 0, 0, 0, 0]) (X := fun i => Cond.not (Cond.eq (.string RX4 (sEnt.getD i 0)) (.string RX4 262))) rfl
theorem zs_nl : ∀ j, j < 20 → ∀ i, i < j → Cond.not (Cond.eq (.string RX4 (sEnt.getD i 0)) (.string RX4 (sEnt.getD j 0))) ∈ flatC (Jvm.Cond.and given_1 narrow_1) := fun j hj => match j, hj with
  | 0, _ => zs_ne_0
  | 1, _ => zs_ne_1
  | 2, _ => zs_ne_2
  | 3, _ => zs_ne_3
  | 4, _ => zs_ne_4
  | 5, _ => zs_ne_5
  | 6, _ => zs_ne_6
  | 7, _ => zs_ne_7
  | 8, _ => zs_ne_8
  | 9, _ => zs_ne_9
  | 10, _ => zs_ne_10
  | 11, _ => zs_ne_11
  | 12, _ => zs_ne_12
  | 13, _ => zs_ne_13
  | 14, _ => zs_ne_14
  | 15, _ => zs_ne_15
  | 16, _ => zs_ne_16
  | 17, _ => zs_ne_17
  | 18, _ => zs_ne_18
  | 19, _ => zs_ne_19
  | i + 20, h => absurd h (by omega)
theorem zs_ne : ∀ i, i < 20 → ∀ j, j < 20 → i ≠ j → Cond.not (Cond.eq (.string RX4 (sEnt.getD i 0)) (.string RX4 (sEnt.getD j 0))) ∈ flatC (Jvm.Cond.and given_1 narrow_1) ∨ Cond.not (Cond.eq (.string RX4 (sEnt.getD j 0)) (.string RX4 (sEnt.getD i 0))) ∈ flatC (Jvm.Cond.and given_1 narrow_1) := fun i hi j hj hne => (Nat.lt_or_gt_of_ne hne).elim (fun h => Or.inl (zs_nl j hj i h)) (fun h => Or.inr (zs_nl i hi j h))
end
section
theorem zs_len : ∀ i, i < 20 → sLen.getD i 0 < 2 ^ 31 := by decide +kernel
set_option maxHeartbeats 4000000 in
theorem zs_ref : ∀ i, i < 20 → Cond.stringRef RX4 (sEnt.getD i 0) (sTxt.getD i "") ∈ lw_tbl := fun i hi => match i, hi with
  | 0, _ => (List.mem_of_getElem? (i := 641) (by decide +kernel))
  | 1, _ => (List.mem_of_getElem? (i := 642) (by decide +kernel))
  | 2, _ => (List.mem_of_getElem? (i := 643) (by decide +kernel))
  | 3, _ => (List.mem_of_getElem? (i := 644) (by decide +kernel))
  | 4, _ => (List.mem_of_getElem? (i := 645) (by decide +kernel))
  | 5, _ => (List.mem_of_getElem? (i := 646) (by decide +kernel))
  | 6, _ => (List.mem_of_getElem? (i := 647) (by decide +kernel))
  | 7, _ => (List.mem_of_getElem? (i := 648) (by decide +kernel))
  | 8, _ => (List.mem_of_getElem? (i := 649) (by decide +kernel))
  | 9, _ => (List.mem_of_getElem? (i := 650) (by decide +kernel))
  | 10, _ => (List.mem_of_getElem? (i := 651) (by decide +kernel))
  | 11, _ => (List.mem_of_getElem? (i := 652) (by decide +kernel))
  | 12, _ => (List.mem_of_getElem? (i := 653) (by decide +kernel))
  | 13, _ => (List.mem_of_getElem? (i := 654) (by decide +kernel))
  | 14, _ => (List.mem_of_getElem? (i := 655) (by decide +kernel))
  | 15, _ => (List.mem_of_getElem? (i := 656) (by decide +kernel))
  | 16, _ => (List.mem_of_getElem? (i := 657) (by decide +kernel))
  | 17, _ => (List.mem_of_getElem? (i := 658) (by decide +kernel))
  | 18, _ => (List.mem_of_getElem? (i := 659) (by decide +kernel))
  | 19, _ => (List.mem_of_getElem? (i := 660) (by decide +kernel))
  | i + 20, h => absurd h (by omega)
theorem zZ_start {p : Program} {s : State} {m : MethodId} {meth : Method} {c : Code} {b L : Nat} {xs : Nat → Int32} (C0 : lw_At p s m meth c b L xs) : ∃ G : zG, zZ G (fun q => s.heap.size ≤ q) s s.heap := by
  obtain ⟨hx, hb, hr, hml, hown, hts, hX, hbl, hlocks, hgv⟩ := C0
  have hs := flat_of_before _ hgv
  have hA : ∀ a : Nat, a < s.heap.size → ¬ (fun q : Nat => s.heap.size ≤ q) a := fun a h => Nat.not_le.mpr h
  obtain ⟨t0, e0, T0⟩ := va_Tof (tm := .static RX4 "FIRST_WORDS" "[I") (ty := .int) (N := 5) (f := fun j => .int (tbf_0 j)) (by decide) (hs _ (by decide +kernel)) (va_eqt (hs _ (by decide +kernel))) (fun j hj => va_eqt (hs _ (zs_t0 j hj))) hA
  have Z0 := va_Zref (hts (.laysStatic RX4 "FIRST_WORDS" "[I") (List.mem_of_getElem? (i := 637) (by decide +kernel))) (hts (.initialized RX4) (List.mem_of_getElem? (i := 152) (by decide +kernel))) e0 hA
  obtain ⟨t1, e1, T1⟩ := va_Tof (tm := .static RX4 "NUMBERS" "[I") (ty := .int) (N := 20) (f := fun j => .int (tbf_1 j)) (by decide) (hs _ (by decide +kernel)) (va_eqt (hs _ (by decide +kernel))) (fun j hj => va_eqt (hs _ (zs_t1 j hj))) hA
  have Z1 := va_Zref (hts (.laysStatic RX4 "NUMBERS" "[I") (List.mem_of_getElem? (i := 726) (by decide +kernel))) (hts (.initialized RX4) (List.mem_of_getElem? (i := 152) (by decide +kernel))) e1 hA
  obtain ⟨t2, e2, T2⟩ := va_Tof (tm := .static RX4 "LEAST" "[I") (ty := .int) (N := 60) (f := fun j => .int (tbf_2 j)) (by decide) (hs _ (by decide +kernel)) (va_eqt (hs _ (by decide +kernel))) (fun j hj => va_eqt (hs _ (zs_t2 j hj))) hA
  have Z2 := va_Zref (hts (.laysStatic RX4 "LEAST" "[I") (List.mem_of_getElem? (i := 732) (by decide +kernel))) (hts (.initialized RX4) (List.mem_of_getElem? (i := 152) (by decide +kernel))) e2 hA
  obtain ⟨t3, e3, T3⟩ := va_Tof (tm := .static RX4 "MOST" "[I") (ty := .int) (N := 60) (f := fun j => .int (tbf_3 j)) (by decide) (hs _ (by decide +kernel)) (va_eqt (hs _ (by decide +kernel))) (fun j hj => va_eqt (hs _ (zs_t3 j hj))) hA
  have Z3 := va_Zref (hts (.laysStatic RX4 "MOST" "[I") (List.mem_of_getElem? (i := 734) (by decide +kernel))) (hts (.initialized RX4) (List.mem_of_getElem? (i := 152) (by decide +kernel))) e3 hA
  have Zc := va_Zof (hts (.laysStatic "java/lang/String" "COMPACT_STRINGS" "Z") (List.mem_of_getElem? (i := 674) (by decide +kernel))) (hts (.initialized "java/lang/String") (List.mem_of_getElem? (i := 160) (by decide +kernel))) (va_eqi (z := 1) (hs _ (by decide +kernel))) hA
  have Zf := va_Zqof (hts (.laysStatic "jdk/internal/util/Preconditions" "SIOOBE_FORMATTER" "Ljava/util/function/BiFunction;") (List.mem_of_getElem? (i := 690) (by decide +kernel))) (hts (.initialized "jdk/internal/util/Preconditions") (List.mem_of_getElem? (i := 162) (by decide +kernel))) (hs _ (by decide +kernel)) hA
  obtain ⟨adK, adV, hSt, hev⟩ := vk_Sof (N := 20) (tm := fun i => .string RX4 (sEnt.getD i 0)) (len := sLen) (byt := sByt) zs_len (fun i hi => hs _ (zs_ex i hi)) (fun i hi => hs _ (zs_co i hi)) (fun i hi => hs _ (zs_ar i hi)) (fun i hi => hs _ (zs_le i hi)) (fun i hi j hj => hs _ (zs_el i hi j hj)) (fun i j hi hj hne => (zs_ne i hi j hj hne).elim (fun h => Or.inl (hs _ h)) (fun h => Or.inr (hs _ h))) hA
  exact ⟨(adK, adV, fun k => match k with | 0 => t0 | 1 => t1 | 2 => t2 | _ => t3), ⟨Z0, Z1, Z2, Z3⟩, ⟨T0, T1, T2, T3⟩, ⟨Zc, Zf⟩, hSt, fun i hi => vk_R.of (hts _ (zs_ref i hi)) (hev i hi)⟩
end
section
set_option maxRecDepth 40000 in
set_option maxHeartbeats 4000000 in
theorem gx_best {p : Program} {l : Launch} {e : Env} {s : State} {m : MethodId} {below : List Frame} {meth : Method} {c : Code} {E : zE} {G : zG} {b L bx bm cells slots : Nat} {xs : Nat → Int32} {mi : Nat → Option Nat} {ko : Option Nat} {T : TT} {M : Nat → Nat → Int32} {I : Nat → TT} {H : Heap} {locs : List Loc} {ls : Array Slot} {pc idx : Nat} {a1 a2 : Int32} (rest : List Value) (hcs : cells + 47 ≤ room_1.cells ∧ slots + 4608 ≤ room_1.slots) (C0 : lw_At p s m meth c b L xs) (hbx : s.heap.size ≤ bx) (hbm : bx + 93 ≤ bm) (hK : zK E s) (hO : zO s ∧ zZ G (fun q => s.heap.size ≤ q) s s.heap) (hG : GG E bx bm mi ko T M I H) (hS : va_S (fun q => s.heap.size ≤ q) s.heap H locs) (hls : ls.size = 4) (hW : (rest.map fun v => v.category).sum ≤ 8) (hlk : Cond.methodLink RL idx yX10_best ∈ zb) (hd : decode cL_law pc = .ok (.invokevirtual idx, 3))
    (kk : ∀ (r : Int32) (mi' : Nat → Option Nat) (ko' : Option Nat) (T' : TT) (I' : Nat → TT) (H : Heap) (locs : List Loc) (cells' slots' : Nat), (mi' = mi ∧ T' = T ∧ I' = I) → cells' ≤ cells + 47 → slots' ≤ slots + 4608 → GG E bx bm mi' ko' T' M I' H → va_S (fun q => s.heap.size ≤ q) s.heap H locs → W p l e room_1 s m #[Value.ref b] below meth c H locs cells' slots' (lw_Z below #[Value.ref b] s) (F0 m (pc + 3) ls (.int r :: rest))) : W p l e room_1 s m #[Value.ref b] below meth c H locs cells slots (lw_Z below #[Value.ref b] s) (F0 m pc ls (.int a2 :: .int a1 :: .ref bx :: rest)) := by
  obtain ⟨hx, hb, hr, hml, hown, hts, hX0, hbl, hlocks, hgv⟩ := id C0
  have zc : zC p s m #[Value.ref b] meth c cL_law 4 RL ret := ⟨hx, hb, hml, hown, fun w hw => hts w (zb_in hw), hr, hlocks⟩
  obtain ⟨hXS, hMS, hE, hT, hMT⟩ := hG
  obtain ⟨S, V, hI, hX⟩ := id hXS
  refine zVx_i [.int a1, .int a2] rest zc ky_X10_best kz_X10_best hlk (c_wx_X10_best l (post := (fun r pa_heard => (∀ j, iv 0 1000 (pa_heard j)))) (s_wx_X10_best_0 (hT.2 1) (hT.1 3) (hT.1 5) (hT.1 6) (hT.1 7) (hT.2 2) (hT.2 4) (hT.2 5) (hT.2 6) (hT.1 10) (hT.1 12) (hT.1 13) (hT.1 14) (hT.2 10) (hT.2 12) (hT.2 13) (hT.2 14) (hI.2 23) (fun _ _ _ h1 => h1))) (wxPreV0 hK hX) hS (fun q (h : wxA bx q) => Nat.le_trans hbx h.1) rfl rfl hls hW ⟨rfl, rfl⟩ ⟨(Nat.le_of_ble_eq_true rfl), (Nat.le_of_ble_eq_true rfl)⟩ ⟨Nat.le_trans (Nat.le_add_right _ _) hcs.1, Nat.le_trans (Nat.le_add_right _ _) hcs.2⟩ hd (fun r u H1 locs1 hw h9 hk hS => ?_)
  obtain ⟨pa_heard, eu⟩ : ∃ y, y = u := ⟨u, rfl⟩
  subst eu
  have n_pa_heard := hw
  exact kk r _ _ _ _ _ _ _ _ ⟨rfl, rfl, rfl⟩ (Nat.le_add_right _ _) (Nat.le_add_right _ _) ⟨XS_of (T := T) h9 (hI.1 0) (hI.1 1) (hI.1 2) (hI.1 3) (hI.1 4) (hI.1 5) (hI.1 6) (hI.2 0) (hI.2 1) (hI.2 2) (hI.2 3) (hI.2 4) (hI.2 5) (hI.2 6) (hI.2 7) (hI.1 7) (hI.2 8) (hI.2 9) (hI.2 10) (hI.1 8) (hI.2 11) (hI.2 12) (hI.2 13) (hI.1 9) (hI.1 10) (hI.2 14) (hI.2 15) (hI.1 11) (hI.1 12) (hI.2 17) (hI.1 13) (hI.1 14) (hI.1 15) (hI.1 16) (hI.1 22) (hI.1 23) (hI.2 18) (hI.2 19) (hI.2 20) (hI.2 22) n_pa_heard (hI.2 24) (hI.2 26) (hI.2 27) (hI.2 28) (hI.2 32), MS_kp hMS (fun z h1 h2 h3 => hk z h1 (fun (hA : wxA bx z) => zap hbm h2 hA.2)), lE_kp hE (fun z h1 h2 => hk z h1 (fun (hA : wxA bx z) => zap hbm (Nat.le_trans (Nat.le_add_right _ _) h2) hA.2)), hT, hMT⟩ hS

set_option maxRecDepth 40000 in
set_option maxHeartbeats 4000000 in
theorem gx_carry {p : Program} {l : Launch} {e : Env} {s : State} {m : MethodId} {below : List Frame} {meth : Method} {c : Code} {E : zE} {G : zG} {b L bx bm cells slots : Nat} {xs : Nat → Int32} {mi : Nat → Option Nat} {ko : Option Nat} {T : TT} {M : Nat → Nat → Int32} {I : Nat → TT} {H : Heap} {locs : List Loc} {ls : Array Slot} {pc idx : Nat} {a1 a2 a3 : Int32} (rest : List Value) (hcs : cells + 47 ≤ room_1.cells ∧ slots + 4608 ≤ room_1.slots) (C0 : lw_At p s m meth c b L xs) (hbx : s.heap.size ≤ bx) (hbm : bx + 93 ≤ bm) (hK : zK E s) (hO : zO s ∧ zZ G (fun q => s.heap.size ≤ q) s s.heap) (hG : GG E bx bm mi ko T M I H) (hS : va_S (fun q => s.heap.size ≤ q) s.heap H locs) (hls : ls.size = 4) (hW : (rest.map fun v => v.category).sum ≤ 8) (hlk : Cond.methodLink RL idx yX10_carry ∈ zb) (hd : decode cL_law pc = .ok (.invokevirtual idx, 3))
    (kk : ∀ (r : Int32) (mi' : Nat → Option Nat) (ko' : Option Nat) (T' : TT) (I' : Nat → TT) (H : Heap) (locs : List Loc) (cells' slots' : Nat), (mi' = mi ∧ T' = T ∧ I' = I) → cells' ≤ cells + 47 → slots' ≤ slots + 4608 → GG E bx bm mi' ko' T' M I' H → va_S (fun q => s.heap.size ≤ q) s.heap H locs → W p l e room_1 s m #[Value.ref b] below meth c H locs cells' slots' (lw_Z below #[Value.ref b] s) (F0 m (pc + 3) ls (.int r :: rest))) : W p l e room_1 s m #[Value.ref b] below meth c H locs cells slots (lw_Z below #[Value.ref b] s) (F0 m pc ls (.int a3 :: .int a2 :: .int a1 :: .ref bx :: rest)) := by
  obtain ⟨hx, hb, hr, hml, hown, hts, hX0, hbl, hlocks, hgv⟩ := id C0
  have zc : zC p s m #[Value.ref b] meth c cL_law 4 RL ret := ⟨hx, hb, hml, hown, fun w hw => hts w (zb_in hw), hr, hlocks⟩
  obtain ⟨hXS, hMS, hE, hT, hMT⟩ := hG
  obtain ⟨S, V, hI, hX⟩ := id hXS
  refine zVx_i [.int a1, .int a2, .int a3] rest zc ky_X10_carry kz_X10_carry hlk (c_wx_X10_carry l (post := (fun r pa_heard pa_walked => (∀ j, iv 0 1000 (pa_heard j)) ∧ (∀ j, iv 0 1000 (pa_walked j)))) (s_wx_X10_carry_0 (hT.2 1) (hT.1 3) (hT.1 4) (hT.1 5) (hT.1 6) (hT.1 7) (hT.2 2) (hT.2 4) (hT.2 5) (hT.2 6) (hT.2 7) (hT.1 10) (hT.1 11) (hT.1 12) (hT.1 13) (hT.1 14) (hT.2 10) (hT.2 12) (hT.2 13) (hT.2 14) (hT.2 15) (hI.2 23) (hI.2 24) (fun _ _ _ _ h1 h2 => ⟨h1, h2⟩))) (wxPreV0 hK hX) hS (fun q (h : wxA bx q) => Nat.le_trans hbx h.1) rfl rfl hls hW ⟨rfl, rfl⟩ ⟨(Nat.le_of_ble_eq_true rfl), (Nat.le_of_ble_eq_true rfl)⟩ ⟨Nat.le_trans (Nat.le_add_right _ _) hcs.1, Nat.le_trans (Nat.le_add_right _ _) hcs.2⟩ hd (fun r u H1 locs1 hw h9 hk hS => ?_)
  obtain ⟨pa_heard, pa_walked⟩ := u
  obtain ⟨n_pa_heard, n_pa_walked⟩ := hw
  exact kk r _ _ _ _ _ _ _ _ ⟨rfl, rfl, rfl⟩ (Nat.le_add_right _ _) (Nat.le_add_right _ _) ⟨XS_of (T := T) h9 (hI.1 0) (hI.1 1) (hI.1 2) (hI.1 3) (hI.1 4) (hI.1 5) (hI.1 6) (hI.2 0) (hI.2 1) (hI.2 2) (hI.2 3) (hI.2 4) (hI.2 5) (hI.2 6) (hI.2 7) (hI.1 7) (hI.2 8) (hI.2 9) (hI.2 10) (hI.1 8) (hI.2 11) (hI.2 12) (hI.2 13) (hI.1 9) (hI.1 10) (hI.2 14) (hI.2 15) (hI.1 11) (hI.1 12) (hI.2 17) (hI.1 13) (hI.1 14) (hI.1 15) (hI.1 16) (hI.1 22) (hI.1 23) (hI.2 18) (hI.2 19) (hI.2 20) (hI.2 22) n_pa_heard n_pa_walked (hI.2 26) (hI.2 27) (hI.2 28) (hI.2 32), MS_kp hMS (fun z h1 h2 h3 => hk z h1 (fun (hA : wxA bx z) => zap hbm h2 hA.2)), lE_kp hE (fun z h1 h2 => hk z h1 (fun (hA : wxA bx z) => zap hbm (Nat.le_trans (Nat.le_add_right _ _) h2) hA.2)), hT, hMT⟩ hS

set_option maxRecDepth 40000 in
set_option maxHeartbeats 4000000 in
theorem gx_comes {p : Program} {l : Launch} {e : Env} {s : State} {m : MethodId} {below : List Frame} {meth : Method} {c : Code} {E : zE} {G : zG} {b L bx bm cells slots : Nat} {xs : Nat → Int32} {mi : Nat → Option Nat} {ko : Option Nat} {T : TT} {M : Nat → Nat → Int32} {I : Nat → TT} {H : Heap} {locs : List Loc} {ls : Array Slot} {pc idx : Nat} {a1 a2 a3 : Int32} (rest : List Value) (hcs : cells + 47 ≤ room_1.cells ∧ slots + 4608 ≤ room_1.slots) (C0 : lw_At p s m meth c b L xs) (hbx : s.heap.size ≤ bx) (hbm : bx + 93 ≤ bm) (hK : zK E s) (hO : zO s ∧ zZ G (fun q => s.heap.size ≤ q) s s.heap) (hG : GG E bx bm mi ko T M I H) (hS : va_S (fun q => s.heap.size ≤ q) s.heap H locs) (hls : ls.size = 4) (hW : (rest.map fun v => v.category).sum ≤ 8) (hlk : Cond.methodLink RL idx yX10_comes ∈ zb) (hd : decode cL_law pc = .ok (.invokevirtual idx, 3))
    (kk : ∀ (r : Int32) (mi' : Nat → Option Nat) (ko' : Option Nat) (T' : TT) (I' : Nat → TT) (H : Heap) (locs : List Loc) (cells' slots' : Nat), (mi' = mi ∧ T' = T ∧ I' = I) → cells' ≤ cells + 47 → slots' ≤ slots + 4608 → GG E bx bm mi' ko' T' M I' H → va_S (fun q => s.heap.size ≤ q) s.heap H locs → W p l e room_1 s m #[Value.ref b] below meth c H locs cells' slots' (lw_Z below #[Value.ref b] s) (F0 m (pc + 3) ls (.int r :: rest))) : W p l e room_1 s m #[Value.ref b] below meth c H locs cells slots (lw_Z below #[Value.ref b] s) (F0 m pc ls (.int a3 :: .int a2 :: .int a1 :: .ref bx :: rest)) := by
  obtain ⟨hx, hb, hr, hml, hown, hts, hX0, hbl, hlocks, hgv⟩ := id C0
  have zc : zC p s m #[Value.ref b] meth c cL_law 4 RL ret := ⟨hx, hb, hml, hown, fun w hw => hts w (zb_in hw), hr, hlocks⟩
  obtain ⟨hXS, hMS, hE, hT, hMT⟩ := hG
  obtain ⟨S, V, hI, hX⟩ := id hXS
  refine zVx_i [.int a1, .int a2, .int a3] rest zc ky_X10_comes kz_X10_comes hlk (c_wx_X10_comes l (post := (fun r pa_heard => (∀ j, iv 0 1000 (pa_heard j)))) (s_wx_X10_comes_0 (hT.2 1) (hT.1 3) (hT.1 6) (hT.1 7) (hT.2 2) (hT.2 4) (hT.2 5) (hT.2 6) (hT.1 10) (hT.1 13) (hT.1 14) (hT.2 10) (hT.2 12) (hT.2 13) (hT.2 14) (hI.2 23) (fun _ _ _ h1 => h1))) (wxPreV0 hK hX) hS (fun q (h : wxA bx q) => Nat.le_trans hbx h.1) rfl rfl hls hW ⟨rfl, rfl⟩ ⟨(Nat.le_of_ble_eq_true rfl), (Nat.le_of_ble_eq_true rfl)⟩ ⟨Nat.le_trans (Nat.le_add_right _ _) hcs.1, Nat.le_trans (Nat.le_add_right _ _) hcs.2⟩ hd (fun r u H1 locs1 hw h9 hk hS => ?_)
  obtain ⟨pa_heard, eu⟩ : ∃ y, y = u := ⟨u, rfl⟩
  subst eu
  have n_pa_heard := hw
  exact kk r _ _ _ _ _ _ _ _ ⟨rfl, rfl, rfl⟩ (Nat.le_add_right _ _) (Nat.le_add_right _ _) ⟨XS_of (T := T) h9 (hI.1 0) (hI.1 1) (hI.1 2) (hI.1 3) (hI.1 4) (hI.1 5) (hI.1 6) (hI.2 0) (hI.2 1) (hI.2 2) (hI.2 3) (hI.2 4) (hI.2 5) (hI.2 6) (hI.2 7) (hI.1 7) (hI.2 8) (hI.2 9) (hI.2 10) (hI.1 8) (hI.2 11) (hI.2 12) (hI.2 13) (hI.1 9) (hI.1 10) (hI.2 14) (hI.2 15) (hI.1 11) (hI.1 12) (hI.2 17) (hI.1 13) (hI.1 14) (hI.1 15) (hI.1 16) (hI.1 22) (hI.1 23) (hI.2 18) (hI.2 19) (hI.2 20) (hI.2 22) n_pa_heard (hI.2 24) (hI.2 26) (hI.2 27) (hI.2 28) (hI.2 32), MS_kp hMS (fun z h1 h2 h3 => hk z h1 (fun (hA : wxA bx z) => zap hbm h2 hA.2)), lE_kp hE (fun z h1 h2 => hk z h1 (fun (hA : wxA bx z) => zap hbm (Nat.le_trans (Nat.le_add_right _ _) h2) hA.2)), hT, hMT⟩ hS

set_option maxRecDepth 40000 in
set_option maxHeartbeats 4000000 in
theorem gx_count {p : Program} {l : Launch} {e : Env} {s : State} {m : MethodId} {below : List Frame} {meth : Method} {c : Code} {E : zE} {G : zG} {b L bx bm cells slots : Nat} {xs : Nat → Int32} {mi : Nat → Option Nat} {ko : Option Nat} {T : TT} {M : Nat → Nat → Int32} {I : Nat → TT} {H : Heap} {locs : List Loc} {ls : Array Slot} {pc idx : Nat} {a1 : Int32} (rest : List Value) (hcs : cells + 47 ≤ room_1.cells ∧ slots + 4608 ≤ room_1.slots) (C0 : lw_At p s m meth c b L xs) (hbx : s.heap.size ≤ bx) (hbm : bx + 93 ≤ bm) (hK : zK E s) (hO : zO s ∧ zZ G (fun q => s.heap.size ≤ q) s s.heap) (hG : GG E bx bm mi ko T M I H) (hS : va_S (fun q => s.heap.size ≤ q) s.heap H locs) (hls : ls.size = 4) (hW : (rest.map fun v => v.category).sum ≤ 8) (hlk : Cond.methodLink RL idx yX10_count ∈ zb) (hd : decode cL_law pc = .ok (.invokevirtual idx, 3))
    (kk : ∀ (r : Int32) (mi' : Nat → Option Nat) (ko' : Option Nat) (T' : TT) (I' : Nat → TT) (H : Heap) (locs : List Loc) (cells' slots' : Nat), (mi' = mi ∧ T' = T ∧ I' = I) → cells' ≤ cells + 47 → slots' ≤ slots + 4608 → GG E bx bm mi' ko' T' M I' H → va_S (fun q => s.heap.size ≤ q) s.heap H locs → W p l e room_1 s m #[Value.ref b] below meth c H locs cells' slots' (lw_Z below #[Value.ref b] s) (F0 m (pc + 3) ls (.int r :: rest))) : W p l e room_1 s m #[Value.ref b] below meth c H locs cells slots (lw_Z below #[Value.ref b] s) (F0 m pc ls (.int a1 :: .ref bx :: rest)) := by
  obtain ⟨hx, hb, hr, hml, hown, hts, hX0, hbl, hlocks, hgv⟩ := id C0
  have zc : zC p s m #[Value.ref b] meth c cL_law 4 RL ret := ⟨hx, hb, hml, hown, fun w hw => hts w (zb_in hw), hr, hlocks⟩
  obtain ⟨hXS, hMS, hE, hT, hMT⟩ := hG
  obtain ⟨S, V, hI, hX⟩ := id hXS
  exact zV_i [.int a1] rest zc ky_X10_count kz_X10_count hlk (c_wx_X10_count l (post := (fun _ => True)) (s_wx_X10_count_0 (hT.2 1) (fun _ _ => trivial))) (wxPreV0 hK hX) rfl rfl hls hW ⟨rfl, rfl⟩ ⟨(Nat.le_of_ble_eq_true rfl), (Nat.le_of_ble_eq_true rfl)⟩ ⟨Nat.le_trans (Nat.le_add_right _ _) hcs.1, Nat.le_trans (Nat.le_add_right _ _) hcs.2⟩ hd (fun r _ => kk r _ _ _ _ _ _ _ _ ⟨rfl, rfl, rfl⟩ (Nat.le_add_right _ _) (Nat.le_add_right _ _) ⟨hXS, hMS, hE, hT, hMT⟩ hS)

set_option maxRecDepth 40000 in
set_option maxHeartbeats 4000000 in
theorem gx_deed {p : Program} {l : Launch} {e : Env} {s : State} {m : MethodId} {below : List Frame} {meth : Method} {c : Code} {E : zE} {G : zG} {b L bx bm cells slots : Nat} {xs : Nat → Int32} {mi : Nat → Option Nat} {ko : Option Nat} {T : TT} {M : Nat → Nat → Int32} {I : Nat → TT} {H : Heap} {locs : List Loc} {ls : Array Slot} {pc idx : Nat} {a1 a2 a3 : Int32} (rest : List Value) (hcs : cells + 47 ≤ room_1.cells ∧ slots + 4608 ≤ room_1.slots) (C0 : lw_At p s m meth c b L xs) (hbx : s.heap.size ≤ bx) (hbm : bx + 93 ≤ bm) (hK : zK E s) (hO : zO s ∧ zZ G (fun q => s.heap.size ≤ q) s s.heap) (hG : GG E bx bm mi ko T M I H) (hS : va_S (fun q => s.heap.size ≤ q) s.heap H locs) (hls : ls.size = 4) (hW : (rest.map fun v => v.category).sum ≤ 8) (hlk : Cond.methodLink RL idx yX10_deed ∈ zb) (hd : decode cL_law pc = .ok (.invokevirtual idx, 3))
    (kk : ∀ (r : Int32) (mi' : Nat → Option Nat) (ko' : Option Nat) (T' : TT) (I' : Nat → TT) (H : Heap) (locs : List Loc) (cells' slots' : Nat), (mi' = mi ∧ T' = T ∧ I' = I) → cells' ≤ cells + 47 → slots' ≤ slots + 4608 → GG E bx bm mi' ko' T' M I' H → va_S (fun q => s.heap.size ≤ q) s.heap H locs → W p l e room_1 s m #[Value.ref b] below meth c H locs cells' slots' (lw_Z below #[Value.ref b] s) (F0 m (pc + 3) ls (.int r :: rest))) : W p l e room_1 s m #[Value.ref b] below meth c H locs cells slots (lw_Z below #[Value.ref b] s) (F0 m pc ls (.int a3 :: .int a2 :: .int a1 :: .ref bx :: rest)) := by
  obtain ⟨hx, hb, hr, hml, hown, hts, hX0, hbl, hlocks, hgv⟩ := id C0
  have zc : zC p s m #[Value.ref b] meth c cL_law 4 RL ret := ⟨hx, hb, hml, hown, fun w hw => hts w (zb_in hw), hr, hlocks⟩
  obtain ⟨hXS, hMS, hE, hT, hMT⟩ := hG
  obtain ⟨S, V, hI, hX⟩ := id hXS
  exact zV_i [.int a1, .int a2, .int a3] rest zc ky_X10_deed kz_X10_deed hlk (c_wx_X10_deed l (post := (fun _ => True)) (s_wx_X10_deed_0 (hT.2 1) (hT.1 17) (hT.2 18) (hT.2 19) (hT.2 20) (hT.1 18) (hT.2 21) (hT.2 22) (hT.2 23) (fun _ _ => trivial))) (wxPreV0 hK hX) rfl rfl hls hW ⟨rfl, rfl⟩ ⟨(Nat.le_of_ble_eq_true rfl), (Nat.le_of_ble_eq_true rfl)⟩ ⟨Nat.le_trans (Nat.le_add_right _ _) hcs.1, Nat.le_trans (Nat.le_add_right _ _) hcs.2⟩ hd (fun r _ => kk r _ _ _ _ _ _ _ _ ⟨rfl, rfl, rfl⟩ (Nat.le_add_right _ _) (Nat.le_add_right _ _) ⟨hXS, hMS, hE, hT, hMT⟩ hS)

set_option maxRecDepth 40000 in
set_option maxHeartbeats 4000000 in
theorem gx_drawn {p : Program} {l : Launch} {e : Env} {s : State} {m : MethodId} {below : List Frame} {meth : Method} {c : Code} {E : zE} {G : zG} {b L bx bm cells slots : Nat} {xs : Nat → Int32} {mi : Nat → Option Nat} {ko : Option Nat} {T : TT} {M : Nat → Nat → Int32} {I : Nat → TT} {H : Heap} {locs : List Loc} {ls : Array Slot} {pc idx : Nat} {a1 a2 a3 a4 : Int32} (rest : List Value) (hcs : cells + 47 ≤ room_1.cells ∧ slots + 4608 ≤ room_1.slots) (C0 : lw_At p s m meth c b L xs) (hbx : s.heap.size ≤ bx) (hbm : bx + 93 ≤ bm) (hK : zK E s) (hO : zO s ∧ zZ G (fun q => s.heap.size ≤ q) s s.heap) (hG : GG E bx bm mi ko T M I H) (hS : va_S (fun q => s.heap.size ≤ q) s.heap H locs) (hls : ls.size = 4) (hW : (rest.map fun v => v.category).sum ≤ 8) (hlk : Cond.methodLink RL idx yX10_drawn ∈ zb) (hd : decode cL_law pc = .ok (.invokevirtual idx, 3))
    (kk : ∀ (r : Int32) (mi' : Nat → Option Nat) (ko' : Option Nat) (T' : TT) (I' : Nat → TT) (H : Heap) (locs : List Loc) (cells' slots' : Nat), (mi' = mi ∧ T' = T ∧ I' = I) → cells' ≤ cells + 47 → slots' ≤ slots + 4608 → GG E bx bm mi' ko' T' M I' H → va_S (fun q => s.heap.size ≤ q) s.heap H locs → W p l e room_1 s m #[Value.ref b] below meth c H locs cells' slots' (lw_Z below #[Value.ref b] s) (F0 m (pc + 3) ls (.int r :: rest))) : W p l e room_1 s m #[Value.ref b] below meth c H locs cells slots (lw_Z below #[Value.ref b] s) (F0 m pc ls (.int a4 :: .int a3 :: .int a2 :: .int a1 :: .ref bx :: rest)) := by
  obtain ⟨hx, hb, hr, hml, hown, hts, hX0, hbl, hlocks, hgv⟩ := id C0
  have zc : zC p s m #[Value.ref b] meth c cL_law 4 RL ret := ⟨hx, hb, hml, hown, fun w hw => hts w (zb_in hw), hr, hlocks⟩
  obtain ⟨hXS, hMS, hE, hT, hMT⟩ := hG
  obtain ⟨S, V, hI, hX⟩ := id hXS
  refine zVx_i [.int a1, .int a2, .int a3, .int a4] rest zc ky_X10_drawn kz_X10_drawn hlk (c_wx_X10_drawn l (post := (fun r nf_minute nf_avalanches nf_begun nf_climbed nf_seed na_huts na_known na_levels na_snow na_open => (iv 0 31 nf_begun) ∧ (iv 0 63 nf_climbed) ∧ (∀ j, iv 0 8 (na_huts j)) ∧ (∀ j, iv 0 31 (na_known j)) ∧ (∀ j, iv (-9) 122 (na_levels j)) ∧ (∀ j, iv 0 511 (na_open j)))) (s_wx_X10_drawn_0 (hT.2 1) (hT.1 3) (hT.1 4) (hT.1 6) (hT.1 7) (hT.1 8) (hT.2 2) (hT.2 3) (hT.2 4) (hT.2 5) (hT.2 6) (hT.2 7) (hT.2 8) (hT.2 9) (hT.1 10) (hT.1 11) (hT.1 13) (hT.1 14) (hT.1 15) (hT.2 10) (hT.2 11) (hT.2 12) (hT.2 13) (hT.2 14) (hT.2 15) (hT.2 16) (hT.2 17) (hI.1 22) (hI.1 23) (hI.2 18) (hI.2 19) (hI.2 20) (hI.2 22) (fun _ _ _ _ _ _ _ _ _ _ _ h0 h1 h2 h3 h4 h5 => ⟨h0, h1, h2, h3, h4, h5⟩))) (wxPreV0 hK hX) hS (fun q (h : wxA bx q) => Nat.le_trans hbx h.1) rfl rfl hls hW ⟨rfl, rfl⟩ ⟨(Nat.le_of_ble_eq_true rfl), (Nat.le_of_ble_eq_true rfl)⟩ ⟨Nat.le_trans (Nat.le_add_right _ _) hcs.1, Nat.le_trans (Nat.le_add_right _ _) hcs.2⟩ hd (fun r u H1 locs1 hw h9 hk hS => ?_)
  obtain ⟨nf_minute, nf_avalanches, nf_begun, nf_climbed, nf_seed, na_huts, na_known, na_levels, na_snow, na_open⟩ := u
  obtain ⟨n_nf_begun, n_nf_climbed, n_na_huts, n_na_known, n_na_levels, n_na_open⟩ := hw
  exact kk r _ _ _ _ _ _ _ _ ⟨rfl, rfl, rfl⟩ (Nat.le_add_right _ _) (Nat.le_add_right _ _) ⟨XS_of (T := T) h9 (hI.1 0) (hI.1 1) (hI.1 2) (hI.1 3) (hI.1 4) (hI.1 5) (hI.1 6) (hI.2 0) (hI.2 1) (hI.2 2) (hI.2 3) (hI.2 4) (hI.2 5) (hI.2 6) (hI.2 7) (hI.1 7) (hI.2 8) (hI.2 9) (hI.2 10) (hI.1 8) (hI.2 11) (hI.2 12) (hI.2 13) (hI.1 9) (hI.1 10) (hI.2 14) (hI.2 15) (hI.1 11) (hI.1 12) (hI.2 17) (hI.1 13) (hI.1 14) (hI.1 15) (hI.1 16) n_nf_begun n_nf_climbed n_na_huts n_na_known n_na_levels n_na_open (hI.2 23) (hI.2 24) (hI.2 26) (hI.2 27) (hI.2 28) (hI.2 32), MS_kp hMS (fun z h1 h2 h3 => hk z h1 (fun (hA : wxA bx z) => zap hbm h2 hA.2)), lE_kp hE (fun z h1 h2 => hk z h1 (fun (hA : wxA bx z) => zap hbm (Nat.le_trans (Nat.le_add_right _ _) h2) hA.2)), hT, hMT⟩ hS
end
section
set_option maxRecDepth 40000 in
set_option maxHeartbeats 4000000 in
theorem gx_echo {p : Program} {l : Launch} {e : Env} {s : State} {m : MethodId} {below : List Frame} {meth : Method} {c : Code} {E : zE} {G : zG} {b L bx bm cells slots : Nat} {xs : Nat → Int32} {mi : Nat → Option Nat} {ko : Option Nat} {T : TT} {M : Nat → Nat → Int32} {I : Nat → TT} {H : Heap} {locs : List Loc} {ls : Array Slot} {pc idx : Nat} {a1 a2 a3 : Int32} (rest : List Value) (hcs : cells + 47 ≤ room_1.cells ∧ slots + 4608 ≤ room_1.slots) (C0 : lw_At p s m meth c b L xs) (hbx : s.heap.size ≤ bx) (hbm : bx + 93 ≤ bm) (hK : zK E s) (hO : zO s ∧ zZ G (fun q => s.heap.size ≤ q) s s.heap) (hG : GG E bx bm mi ko T M I H) (hS : va_S (fun q => s.heap.size ≤ q) s.heap H locs) (hls : ls.size = 4) (hW : (rest.map fun v => v.category).sum ≤ 8) (hlk : Cond.methodLink RL idx yX10_echo ∈ zb) (hd : decode cL_law pc = .ok (.invokevirtual idx, 3))
    (kk : ∀ (r : Int32) (mi' : Nat → Option Nat) (ko' : Option Nat) (T' : TT) (I' : Nat → TT) (H : Heap) (locs : List Loc) (cells' slots' : Nat), (mi' = mi ∧ T' = T ∧ I' = I) → cells' ≤ cells + 47 → slots' ≤ slots + 4608 → GG E bx bm mi' ko' T' M I' H → va_S (fun q => s.heap.size ≤ q) s.heap H locs → W p l e room_1 s m #[Value.ref b] below meth c H locs cells' slots' (lw_Z below #[Value.ref b] s) (F0 m (pc + 3) ls (.int r :: rest))) : W p l e room_1 s m #[Value.ref b] below meth c H locs cells slots (lw_Z below #[Value.ref b] s) (F0 m pc ls (.int a3 :: .int a2 :: .int a1 :: .ref bx :: rest)) := by
  obtain ⟨hx, hb, hr, hml, hown, hts, hX0, hbl, hlocks, hgv⟩ := id C0
  have zc : zC p s m #[Value.ref b] meth c cL_law 4 RL ret := ⟨hx, hb, hml, hown, fun w hw => hts w (zb_in hw), hr, hlocks⟩
  obtain ⟨hXS, hMS, hE, hT, hMT⟩ := hG
  obtain ⟨S, V, hI, hX⟩ := id hXS
  exact zV_i [.int a1, .int a2, .int a3] rest zc ky_X10_echo kz_X10_echo hlk (c_wx_X10_echo l (post := (fun _ => True)) (s_wx_X10_echo_0 (hT.2 1) (hT.1 7) (hT.2 5) (hT.2 6) (hT.1 14) (hT.2 13) (hT.2 14) (fun _ _ => trivial))) (wxPreV0 hK hX) rfl rfl hls hW ⟨rfl, rfl⟩ ⟨(Nat.le_of_ble_eq_true rfl), (Nat.le_of_ble_eq_true rfl)⟩ ⟨Nat.le_trans (Nat.le_add_right _ _) hcs.1, Nat.le_trans (Nat.le_add_right _ _) hcs.2⟩ hd (fun r _ => kk r _ _ _ _ _ _ _ _ ⟨rfl, rfl, rfl⟩ (Nat.le_add_right _ _) (Nat.le_add_right _ _) ⟨hXS, hMS, hE, hT, hMT⟩ hS)

set_option maxRecDepth 40000 in
set_option maxHeartbeats 4000000 in
theorem gx_end {p : Program} {l : Launch} {e : Env} {s : State} {m : MethodId} {below : List Frame} {meth : Method} {c : Code} {E : zE} {G : zG} {b L bx bm cells slots : Nat} {xs : Nat → Int32} {mi : Nat → Option Nat} {ko : Option Nat} {T : TT} {M : Nat → Nat → Int32} {I : Nat → TT} {H : Heap} {locs : List Loc} {ls : Array Slot} {pc idx : Nat} {a1 : Int32} (rest : List Value) (hcs : cells + 47 ≤ room_1.cells ∧ slots + 4608 ≤ room_1.slots) (C0 : lw_At p s m meth c b L xs) (hbx : s.heap.size ≤ bx) (hbm : bx + 93 ≤ bm) (hK : zK E s) (hO : zO s ∧ zZ G (fun q => s.heap.size ≤ q) s s.heap) (hG : GG E bx bm mi ko T M I H) (hS : va_S (fun q => s.heap.size ≤ q) s.heap H locs) (hls : ls.size = 4) (hW : (rest.map fun v => v.category).sum ≤ 8) (hlk : Cond.methodLink RL idx yX10_end ∈ zb) (hd : decode cL_law pc = .ok (.invokevirtual idx, 3))
    (kk : ∀ (r : Int32) (mi' : Nat → Option Nat) (ko' : Option Nat) (T' : TT) (I' : Nat → TT) (H : Heap) (locs : List Loc) (cells' slots' : Nat), (mi' = mi ∧ I' = I ∧ xEN T T' a1 r) → cells' ≤ cells + 47 → slots' ≤ slots + 4608 → GG E bx bm mi' ko' T' M I' H → va_S (fun q => s.heap.size ≤ q) s.heap H locs → W p l e room_1 s m #[Value.ref b] below meth c H locs cells' slots' (lw_Z below #[Value.ref b] s) (F0 m (pc + 3) ls (.int r :: rest))) : W p l e room_1 s m #[Value.ref b] below meth c H locs cells slots (lw_Z below #[Value.ref b] s) (F0 m pc ls (.int a1 :: .ref bx :: rest)) := by
  obtain ⟨hx, hb, hr, hml, hown, hts, hX0, hbl, hlocks, hgv⟩ := id C0
  have zc : zC p s m #[Value.ref b] meth c cL_law 4 RL ret := ⟨hx, hb, hml, hown, fun w hw => hts w (zb_in hw), hr, hlocks⟩
  obtain ⟨hXS, hMS, hE, hT, hMT⟩ := hG
  obtain ⟨S, V, hI, hX⟩ := id hXS
  refine zVx_i [.int a1] rest zc ky_X10_end kz_X10_end hlk (c_wx_X10_end l (post := fun r tf_length => r = enR (T.1 0) a1 ∧ tf_length = enL (T.1 0) a1 ∧ iv 0 600 tf_length) (e_x_end (hT.1 0) (fun h => ⟨rfl, rfl, h⟩))) (wxPreV0 hK hX) hS (fun q (h : wxA bx q) => Nat.le_trans hbx h.1) rfl rfl hls hW ⟨rfl, rfl⟩ ⟨(Nat.le_of_ble_eq_true rfl), (Nat.le_of_ble_eq_true rfl)⟩ ⟨Nat.le_trans (Nat.le_add_right _ _) hcs.1, Nat.le_trans (Nat.le_add_right _ _) hcs.2⟩ hd (fun r u H1 locs1 hw h9 hk hS => ?_)
  obtain ⟨tf_length, eu⟩ : ∃ y, y = u := ⟨u, rfl⟩
  subst eu
  obtain ⟨hr1, hl1, n_tf_length⟩ := hw
  exact kk r _ _ _ _ _ _ _ _ ⟨rfl, rfl, xSA_mk, rfl, hr1, hl1⟩ (Nat.le_add_right _ _) (Nat.le_add_right _ _) ⟨XS_of2 h9 (hI.1 0) (hI.1 1) (hI.1 2) (hI.1 3) (hI.1 4) (hI.1 5) (hI.1 6) (hI.2 0) (hI.2 1) (hI.2 2) (hI.2 3) (hI.2 4) (hI.2 5) (hI.2 6) (hI.2 7) (hI.1 7) (hI.2 8) (hI.2 9) (hI.2 10) (hI.1 8) (hI.2 11) (hI.2 12) (hI.2 13) (hI.1 9) (hI.1 10) (hI.2 14) (hI.2 15) (hI.1 11) (hI.1 12) (hI.2 17) (hI.1 13) (hI.1 14) (hI.1 15) (hI.1 16) (hI.1 22) (hI.1 23) (hI.2 18) (hI.2 19) (hI.2 20) (hI.2 22) (hI.2 23) (hI.2 24) (hI.2 26) (hI.2 27) (hI.2 28) (hI.2 32), MS_kp hMS (fun z h1 h2 h3 => hk z h1 (fun (hA : wxA bx z) => zap hbm h2 hA.2)), lE_kp hE (fun z h1 h2 => hk z h1 (fun (hA : wxA bx z) => zap hbm (Nat.le_trans (Nat.le_add_right _ _) h2) hA.2)), tJ_of (hT.2 0) n_tf_length (hT.1 1) (hT.1 2) (hT.2 1) (hT.1 3) (hT.1 4) (hT.1 5) (hT.1 6) (hT.1 7) (hT.1 8) (hT.1 9) (hT.2 2) (hT.2 3) (hT.2 4) (hT.2 5) (hT.2 6) (hT.2 7) (hT.2 8) (hT.2 9) (hT.1 10) (hT.1 11) (hT.1 12) (hT.1 13) (hT.1 14) (hT.1 15) (hT.1 16) (hT.2 10) (hT.2 11) (hT.2 12) (hT.2 13) (hT.2 14) (hT.2 15) (hT.2 16) (hT.2 17) (hT.1 17) (hT.2 18) (hT.2 19) (hT.2 20) (hT.1 18) (hT.2 21) (hT.2 22) (hT.2 23) (hT.1 19) (hT.2 24) (hT.2 25) (hT.2 26) (hT.1 20) (hT.2 27) (hT.2 28) (hT.2 29) (hT.1 21) (hT.1 22) (hT.2 30) (hT.2 31) (hT.1 23) (hT.1 24) (hT.2 32) (hT.2 33), hMT⟩ hS

set_option maxRecDepth 40000 in
set_option maxHeartbeats 4000000 in
theorem gx_fact {p : Program} {l : Launch} {e : Env} {s : State} {m : MethodId} {below : List Frame} {meth : Method} {c : Code} {E : zE} {G : zG} {b L bx bm cells slots : Nat} {xs : Nat → Int32} {mi : Nat → Option Nat} {ko : Option Nat} {T : TT} {M : Nat → Nat → Int32} {I : Nat → TT} {H : Heap} {locs : List Loc} {ls : Array Slot} {pc idx : Nat} {a1 a2 a3 : Int32} (rest : List Value) (hcs : cells + 47 ≤ room_1.cells ∧ slots + 4608 ≤ room_1.slots) (C0 : lw_At p s m meth c b L xs) (hbx : s.heap.size ≤ bx) (hbm : bx + 93 ≤ bm) (hK : zK E s) (hO : zO s ∧ zZ G (fun q => s.heap.size ≤ q) s s.heap) (hG : GG E bx bm mi ko T M I H) (hS : va_S (fun q => s.heap.size ≤ q) s.heap H locs) (hls : ls.size = 4) (hW : (rest.map fun v => v.category).sum ≤ 8) (hlk : Cond.methodLink RL idx yX10_fact ∈ zb) (hd : decode cL_law pc = .ok (.invokevirtual idx, 3))
    (kk : ∀ (r : Int32) (mi' : Nat → Option Nat) (ko' : Option Nat) (T' : TT) (I' : Nat → TT) (H : Heap) (locs : List Loc) (cells' slots' : Nat), (mi' = mi ∧ T' = T ∧ I' = I) → cells' ≤ cells + 47 → slots' ≤ slots + 4608 → GG E bx bm mi' ko' T' M I' H → va_S (fun q => s.heap.size ≤ q) s.heap H locs → W p l e room_1 s m #[Value.ref b] below meth c H locs cells' slots' (lw_Z below #[Value.ref b] s) (F0 m (pc + 3) ls (.int r :: rest))) : W p l e room_1 s m #[Value.ref b] below meth c H locs cells slots (lw_Z below #[Value.ref b] s) (F0 m pc ls (.int a3 :: .int a2 :: .int a1 :: .ref bx :: rest)) := by
  obtain ⟨hx, hb, hr, hml, hown, hts, hX0, hbl, hlocks, hgv⟩ := id C0
  have zc : zC p s m #[Value.ref b] meth c cL_law 4 RL ret := ⟨hx, hb, hml, hown, fun w hw => hts w (zb_in hw), hr, hlocks⟩
  obtain ⟨hXS, hMS, hE, hT, hMT⟩ := hG
  obtain ⟨S, V, hI, hX⟩ := id hXS
  exact zV_i [.int a1, .int a2, .int a3] rest zc ky_X10_fact kz_X10_fact hlk (c_wx_X10_fact l (post := (fun _ => True)) (s_wx_X10_fact_0 (hT.2 1) (hT.1 19) (hT.2 24) (hT.2 25) (hT.2 26) (hT.1 20) (hT.2 27) (hT.2 28) (hT.2 29) (fun _ _ => trivial))) (wxPreV0 hK hX) rfl rfl hls hW ⟨rfl, rfl⟩ ⟨(Nat.le_of_ble_eq_true rfl), (Nat.le_of_ble_eq_true rfl)⟩ ⟨Nat.le_trans (Nat.le_add_right _ _) hcs.1, Nat.le_trans (Nat.le_add_right _ _) hcs.2⟩ hd (fun r _ => kk r _ _ _ _ _ _ _ _ ⟨rfl, rfl, rfl⟩ (Nat.le_add_right _ _) (Nat.le_add_right _ _) ⟨hXS, hMS, hE, hT, hMT⟩ hS)

set_option maxRecDepth 40000 in
set_option maxHeartbeats 4000000 in
theorem gx_fault {p : Program} {l : Launch} {e : Env} {s : State} {m : MethodId} {below : List Frame} {meth : Method} {c : Code} {E : zE} {G : zG} {b L bx bm cells slots : Nat} {xs : Nat → Int32} {mi : Nat → Option Nat} {ko : Option Nat} {T : TT} {M : Nat → Nat → Int32} {I : Nat → TT} {H : Heap} {locs : List Loc} {ls : Array Slot} {pc idx : Nat} {a1 : Int32} (rest : List Value) (hcs : cells + 47 ≤ room_1.cells ∧ slots + 4608 ≤ room_1.slots) (C0 : lw_At p s m meth c b L xs) (hbx : s.heap.size ≤ bx) (hbm : bx + 93 ≤ bm) (hK : zK E s) (hO : zO s ∧ zZ G (fun q => s.heap.size ≤ q) s s.heap) (hG : GG E bx bm mi ko T M I H) (hS : va_S (fun q => s.heap.size ≤ q) s.heap H locs) (hls : ls.size = 4) (hW : (rest.map fun v => v.category).sum ≤ 8) (hlk : Cond.methodLink RL idx yX10_fault ∈ zb) (hd : decode cL_law pc = .ok (.invokevirtual idx, 3))
    (kk : ∀ (r : Int32) (mi' : Nat → Option Nat) (ko' : Option Nat) (T' : TT) (I' : Nat → TT) (H : Heap) (locs : List Loc) (cells' slots' : Nat), (mi' = mi ∧ T' = T ∧ I' = I) → cells' ≤ cells + 47 → slots' ≤ slots + 4608 → GG E bx bm mi' ko' T' M I' H → va_S (fun q => s.heap.size ≤ q) s.heap H locs → W p l e room_1 s m #[Value.ref b] below meth c H locs cells' slots' (lw_Z below #[Value.ref b] s) (F0 m (pc + 3) ls (.int r :: rest))) : W p l e room_1 s m #[Value.ref b] below meth c H locs cells slots (lw_Z below #[Value.ref b] s) (F0 m pc ls (.int a1 :: .ref bx :: rest)) := by
  obtain ⟨hx, hb, hr, hml, hown, hts, hX0, hbl, hlocks, hgv⟩ := id C0
  have zc : zC p s m #[Value.ref b] meth c cL_law 4 RL ret := ⟨hx, hb, hml, hown, fun w hw => hts w (zb_in hw), hr, hlocks⟩
  obtain ⟨hXS, hMS, hE, hT, hMT⟩ := hG
  obtain ⟨S, V, hI, hX⟩ := id hXS
  exact zV_i [.int a1] rest zc ky_X10_fault kz_X10_fault hlk (c_wx_X10_fault l (post := (fun _ => True)) (s_wx_X10_fault_0 (hT.1 1) (hT.1 2) (fun _ _ => trivial))) (wxPreV0 hK hX) rfl rfl hls hW ⟨rfl, rfl⟩ ⟨(Nat.le_of_ble_eq_true rfl), (Nat.le_of_ble_eq_true rfl)⟩ ⟨Nat.le_trans (Nat.le_add_right _ _) hcs.1, Nat.le_trans (Nat.le_add_right _ _) hcs.2⟩ hd (fun r _ => kk r _ _ _ _ _ _ _ _ ⟨rfl, rfl, rfl⟩ (Nat.le_add_right _ _) (Nat.le_add_right _ _) ⟨hXS, hMS, hE, hT, hMT⟩ hS)

set_option maxRecDepth 40000 in
set_option maxHeartbeats 4000000 in
theorem gx_feed {p : Program} {l : Launch} {e : Env} {s : State} {m : MethodId} {below : List Frame} {meth : Method} {c : Code} {E : zE} {G : zG} {b L bx bm cells slots : Nat} {xs : Nat → Int32} {mi : Nat → Option Nat} {ko : Option Nat} {T : TT} {M : Nat → Nat → Int32} {I : Nat → TT} {H : Heap} {locs : List Loc} {ls : Array Slot} {pc idx : Nat} {a1 a2 a3 a4 a5 : Int32} (rest : List Value) (hcs : cells + 47 ≤ room_1.cells ∧ slots + 4608 ≤ room_1.slots) (C0 : lw_At p s m meth c b L xs) (hbx : s.heap.size ≤ bx) (hbm : bx + 93 ≤ bm) (hK : zK E s) (hO : zO s ∧ zZ G (fun q => s.heap.size ≤ q) s s.heap) (hG : GG E bx bm mi ko T M I H) (hS : va_S (fun q => s.heap.size ≤ q) s.heap H locs) (hls : ls.size = 4) (hW : (rest.map fun v => v.category).sum ≤ 8) (hlk : Cond.methodLink RL idx yX10_feed ∈ zb) (hd : decode cL_law pc = .ok (.invokevirtual idx, 3))
    (kk : ∀ (r : Int32) (mi' : Nat → Option Nat) (ko' : Option Nat) (T' : TT) (I' : Nat → TT) (H : Heap) (locs : List Loc) (cells' slots' : Nat), (mi' = mi ∧ I' = I ∧ xFD T T' a1 a2 a3 a4 a5 r) → cells' ≤ cells + 47 → slots' ≤ slots + 4608 → GG E bx bm mi' ko' T' M I' H → va_S (fun q => s.heap.size ≤ q) s.heap H locs → W p l e room_1 s m #[Value.ref b] below meth c H locs cells' slots' (lw_Z below #[Value.ref b] s) (F0 m (pc + 3) ls (.int r :: rest))) : W p l e room_1 s m #[Value.ref b] below meth c H locs cells slots (lw_Z below #[Value.ref b] s) (F0 m pc ls (.int a5 :: .int a4 :: .int a3 :: .int a2 :: .int a1 :: .ref bx :: rest)) := by
  obtain ⟨hx, hb, hr, hml, hown, hts, hX0, hbl, hlocks, hgv⟩ := id C0
  have zc : zC p s m #[Value.ref b] meth c cL_law 4 RL ret := ⟨hx, hb, hml, hown, fun w hw => hts w (zb_in hw), hr, hlocks⟩
  obtain ⟨hXS, hMS, hE, hT, hMT⟩ := hG
  obtain ⟨S, V, hI, hX⟩ := id hXS
  refine zVx_i [.int a1, .int a2, .int a3, .int a4, .int a5] rest zc ky_X10_feed kz_X10_feed hlk (c_wx_X10_feed l (post := (fun r ta_tape tf_length => (xFD T (tmk ta_tape tf_length (T.1 1) (T.1 2) (T.2 1) (T.1 3) (T.1 4) (T.1 5) (T.1 6) (T.1 7) (T.1 8) (T.1 9) (T.2 2) (T.2 3) (T.2 4) (T.2 5) (T.2 6) (T.2 7) (T.2 8) (T.2 9) (T.1 10) (T.1 11) (T.1 12) (T.1 13) (T.1 14) (T.1 15) (T.1 16) (T.2 10) (T.2 11) (T.2 12) (T.2 13) (T.2 14) (T.2 15) (T.2 16) (T.2 17) (T.1 17) (T.2 18) (T.2 19) (T.2 20) (T.1 18) (T.2 21) (T.2 22) (T.2 23) (T.1 19) (T.2 24) (T.2 25) (T.2 26) (T.1 20) (T.2 27) (T.2 28) (T.2 29) (T.1 21) (T.1 22) (T.2 30) (T.2 31) (T.1 23) (T.1 24) (T.2 32) (T.2 33)) a1 a2 a3 a4 a5 r) ∧ (∀ j, iv (-128) 127 (ta_tape j)) ∧ (iv 0 600 tf_length))) (cj_q_wx_X10_feed_0 (post_1 := fun r ta_tape tf_length => xFD T (tmk ta_tape tf_length (T.1 1) (T.1 2) (T.2 1) (T.1 3) (T.1 4) (T.1 5) (T.1 6) (T.1 7) (T.1 8) (T.1 9) (T.2 2) (T.2 3) (T.2 4) (T.2 5) (T.2 6) (T.2 7) (T.2 8) (T.2 9) (T.1 10) (T.1 11) (T.1 12) (T.1 13) (T.1 14) (T.1 15) (T.1 16) (T.2 10) (T.2 11) (T.2 12) (T.2 13) (T.2 14) (T.2 15) (T.2 16) (T.2 17) (T.1 17) (T.2 18) (T.2 19) (T.2 20) (T.1 18) (T.2 21) (T.2 22) (T.2 23) (T.1 19) (T.2 24) (T.2 25) (T.2 26) (T.1 20) (T.2 27) (T.2 28) (T.2 29) (T.1 21) (T.1 22) (T.2 30) (T.2 31) (T.1 23) (T.1 24) (T.2 32) (T.2 33)) a1 a2 a3 a4 a5 r) (post_2 := (fun r ta_tape tf_length => (∀ j, iv (-128) 127 (ta_tape j)) ∧ (iv 0 600 tf_length))) (post_3 := (fun r ta_tape tf_length => (xFD T (tmk ta_tape tf_length (T.1 1) (T.1 2) (T.2 1) (T.1 3) (T.1 4) (T.1 5) (T.1 6) (T.1 7) (T.1 8) (T.1 9) (T.2 2) (T.2 3) (T.2 4) (T.2 5) (T.2 6) (T.2 7) (T.2 8) (T.2 9) (T.1 10) (T.1 11) (T.1 12) (T.1 13) (T.1 14) (T.1 15) (T.1 16) (T.2 10) (T.2 11) (T.2 12) (T.2 13) (T.2 14) (T.2 15) (T.2 16) (T.2 17) (T.1 17) (T.2 18) (T.2 19) (T.2 20) (T.1 18) (T.2 21) (T.2 22) (T.2 23) (T.1 19) (T.2 24) (T.2 25) (T.2 26) (T.1 20) (T.2 27) (T.2 28) (T.2 29) (T.1 21) (T.1 22) (T.2 30) (T.2 31) (T.1 23) (T.1 24) (T.2 32) (T.2 33)) a1 a2 a3 a4 a5 r) ∧ (∀ j, iv (-128) 127 (ta_tape j)) ∧ (iv 0 600 tf_length))) (fun _ _ _ a b => ⟨a, b⟩) (e_x_feed2 (hT.1 0) (fun h => xFD_no (hT.1 0) h) (fun _ e hle _ hb => xFD_yes e hle hb)) (e_x_feed (hT.2 0) (hT.1 0) (fun _ h1 h2 => ⟨h1, h2⟩)))) (wxPreV0 hK hX) hS (fun q (h : wxA bx q) => Nat.le_trans hbx h.1) rfl rfl hls hW ⟨rfl, rfl⟩ ⟨(Nat.le_of_ble_eq_true rfl), (Nat.le_of_ble_eq_true rfl)⟩ ⟨Nat.le_trans (Nat.le_add_right _ _) hcs.1, Nat.le_trans (Nat.le_add_right _ _) hcs.2⟩ hd (fun r u H1 locs1 hw h9 hk hS => ?_)
  obtain ⟨ta_tape, tf_length⟩ := u
  obtain ⟨hrel, n_ta_tape, n_tf_length⟩ := hw
  exact kk r _ _ _ _ _ _ _ _ ⟨rfl, rfl, hrel⟩ (Nat.le_add_right _ _) (Nat.le_add_right _ _) ⟨XS_of2 h9 (hI.1 0) (hI.1 1) (hI.1 2) (hI.1 3) (hI.1 4) (hI.1 5) (hI.1 6) (hI.2 0) (hI.2 1) (hI.2 2) (hI.2 3) (hI.2 4) (hI.2 5) (hI.2 6) (hI.2 7) (hI.1 7) (hI.2 8) (hI.2 9) (hI.2 10) (hI.1 8) (hI.2 11) (hI.2 12) (hI.2 13) (hI.1 9) (hI.1 10) (hI.2 14) (hI.2 15) (hI.1 11) (hI.1 12) (hI.2 17) (hI.1 13) (hI.1 14) (hI.1 15) (hI.1 16) (hI.1 22) (hI.1 23) (hI.2 18) (hI.2 19) (hI.2 20) (hI.2 22) (hI.2 23) (hI.2 24) (hI.2 26) (hI.2 27) (hI.2 28) (hI.2 32), MS_kp hMS (fun z h1 h2 h3 => hk z h1 (fun (hA : wxA bx z) => zap hbm h2 hA.2)), lE_kp hE (fun z h1 h2 => hk z h1 (fun (hA : wxA bx z) => zap hbm (Nat.le_trans (Nat.le_add_right _ _) h2) hA.2)), tJ_of n_ta_tape n_tf_length (hT.1 1) (hT.1 2) (hT.2 1) (hT.1 3) (hT.1 4) (hT.1 5) (hT.1 6) (hT.1 7) (hT.1 8) (hT.1 9) (hT.2 2) (hT.2 3) (hT.2 4) (hT.2 5) (hT.2 6) (hT.2 7) (hT.2 8) (hT.2 9) (hT.1 10) (hT.1 11) (hT.1 12) (hT.1 13) (hT.1 14) (hT.1 15) (hT.1 16) (hT.2 10) (hT.2 11) (hT.2 12) (hT.2 13) (hT.2 14) (hT.2 15) (hT.2 16) (hT.2 17) (hT.1 17) (hT.2 18) (hT.2 19) (hT.2 20) (hT.1 18) (hT.2 21) (hT.2 22) (hT.2 23) (hT.1 19) (hT.2 24) (hT.2 25) (hT.2 26) (hT.1 20) (hT.2 27) (hT.2 28) (hT.2 29) (hT.1 21) (hT.1 22) (hT.2 30) (hT.2 31) (hT.1 23) (hT.1 24) (hT.2 32) (hT.2 33), hMT⟩ hS

set_option maxRecDepth 40000 in
set_option maxHeartbeats 4000000 in
theorem gx_fits {p : Program} {l : Launch} {e : Env} {s : State} {m : MethodId} {below : List Frame} {meth : Method} {c : Code} {E : zE} {G : zG} {b L bx bm cells slots : Nat} {xs : Nat → Int32} {mi : Nat → Option Nat} {ko : Option Nat} {T : TT} {M : Nat → Nat → Int32} {I : Nat → TT} {H : Heap} {locs : List Loc} {ls : Array Slot} {pc idx : Nat} {a1 a2 a3 : Int32} (rest : List Value) (hcs : cells + 47 ≤ room_1.cells ∧ slots + 4608 ≤ room_1.slots) (C0 : lw_At p s m meth c b L xs) (hbx : s.heap.size ≤ bx) (hbm : bx + 93 ≤ bm) (hK : zK E s) (hO : zO s ∧ zZ G (fun q => s.heap.size ≤ q) s s.heap) (hG : GG E bx bm mi ko T M I H) (hS : va_S (fun q => s.heap.size ≤ q) s.heap H locs) (hls : ls.size = 4) (hW : (rest.map fun v => v.category).sum ≤ 8) (hlk : Cond.methodLink RL idx yX10_fits ∈ zb) (hd : decode cL_law pc = .ok (.invokevirtual idx, 3))
    (kk : ∀ (r : Int32) (mi' : Nat → Option Nat) (ko' : Option Nat) (T' : TT) (I' : Nat → TT) (H : Heap) (locs : List Loc) (cells' slots' : Nat), (mi' = mi ∧ T' = T ∧ I' = I) → cells' ≤ cells + 47 → slots' ≤ slots + 4608 → GG E bx bm mi' ko' T' M I' H → va_S (fun q => s.heap.size ≤ q) s.heap H locs → W p l e room_1 s m #[Value.ref b] below meth c H locs cells' slots' (lw_Z below #[Value.ref b] s) (F0 m (pc + 3) ls (.int r :: rest))) : W p l e room_1 s m #[Value.ref b] below meth c H locs cells slots (lw_Z below #[Value.ref b] s) (F0 m pc ls (.int a3 :: .int a2 :: .int a1 :: .ref bx :: rest)) := by
  obtain ⟨hx, hb, hr, hml, hown, hts, hX0, hbl, hlocks, hgv⟩ := id C0
  have zc : zC p s m #[Value.ref b] meth c cL_law 4 RL ret := ⟨hx, hb, hml, hown, fun w hw => hts w (zb_in hw), hr, hlocks⟩
  obtain ⟨hXS, hMS, hE, hT, hMT⟩ := hG
  obtain ⟨S, V, hI, hX⟩ := id hXS
  refine zVx_i [.int a1, .int a2, .int a3] rest zc ky_X10_fits kz_X10_fits hlk (c_wx_X10_fits l (post := (fun r pa_heard => (∀ j, iv 0 1000 (pa_heard j)))) (s_wx_X10_fits_0 (hT.2 1) (hT.1 3) (hT.1 6) (hT.1 7) (hT.2 2) (hT.2 4) (hT.2 5) (hT.2 6) (hT.1 10) (hT.1 13) (hT.1 14) (hT.2 10) (hT.2 12) (hT.2 13) (hT.2 14) (hT.1 19) (hT.2 24) (hT.2 25) (hT.2 26) (hT.1 20) (hT.2 27) (hT.2 28) (hT.2 29) (hI.2 23) (fun _ _ _ h1 => h1))) (wxPreV0 hK hX) hS (fun q (h : wxA bx q) => Nat.le_trans hbx h.1) rfl rfl hls hW ⟨rfl, rfl⟩ ⟨(Nat.le_of_ble_eq_true rfl), (Nat.le_of_ble_eq_true rfl)⟩ ⟨Nat.le_trans (Nat.le_add_right _ _) hcs.1, Nat.le_trans (Nat.le_add_right _ _) hcs.2⟩ hd (fun r u H1 locs1 hw h9 hk hS => ?_)
  obtain ⟨pa_heard, eu⟩ : ∃ y, y = u := ⟨u, rfl⟩
  subst eu
  have n_pa_heard := hw
  exact kk r _ _ _ _ _ _ _ _ ⟨rfl, rfl, rfl⟩ (Nat.le_add_right _ _) (Nat.le_add_right _ _) ⟨XS_of (T := T) h9 (hI.1 0) (hI.1 1) (hI.1 2) (hI.1 3) (hI.1 4) (hI.1 5) (hI.1 6) (hI.2 0) (hI.2 1) (hI.2 2) (hI.2 3) (hI.2 4) (hI.2 5) (hI.2 6) (hI.2 7) (hI.1 7) (hI.2 8) (hI.2 9) (hI.2 10) (hI.1 8) (hI.2 11) (hI.2 12) (hI.2 13) (hI.1 9) (hI.1 10) (hI.2 14) (hI.2 15) (hI.1 11) (hI.1 12) (hI.2 17) (hI.1 13) (hI.1 14) (hI.1 15) (hI.1 16) (hI.1 22) (hI.1 23) (hI.2 18) (hI.2 19) (hI.2 20) (hI.2 22) n_pa_heard (hI.2 24) (hI.2 26) (hI.2 27) (hI.2 28) (hI.2 32), MS_kp hMS (fun z h1 h2 h3 => hk z h1 (fun (hA : wxA bx z) => zap hbm h2 hA.2)), lE_kp hE (fun z h1 h2 => hk z h1 (fun (hA : wxA bx z) => zap hbm (Nat.le_trans (Nat.le_add_right _ _) h2) hA.2)), hT, hMT⟩ hS
end
section
set_option maxRecDepth 40000 in
set_option maxHeartbeats 4000000 in
theorem gx_flood {p : Program} {l : Launch} {e : Env} {s : State} {m : MethodId} {below : List Frame} {meth : Method} {c : Code} {E : zE} {G : zG} {b L bx bm cells slots : Nat} {xs : Nat → Int32} {mi : Nat → Option Nat} {ko : Option Nat} {T : TT} {M : Nat → Nat → Int32} {I : Nat → TT} {H : Heap} {locs : List Loc} {ls : Array Slot} {pc idx : Nat} {a1 a2 a3 a4 : Int32} (rest : List Value) (hcs : cells + 47 ≤ room_1.cells ∧ slots + 4608 ≤ room_1.slots) (C0 : lw_At p s m meth c b L xs) (hbx : s.heap.size ≤ bx) (hbm : bx + 93 ≤ bm) (hK : zK E s) (hO : zO s ∧ zZ G (fun q => s.heap.size ≤ q) s s.heap) (hG : GG E bx bm mi ko T M I H) (hS : va_S (fun q => s.heap.size ≤ q) s.heap H locs) (hR : RG T M I mi) (hls : ls.size = 4) (hW : (rest.map fun v => v.category).sum ≤ 8) (hlk : Cond.methodLink RL idx yX10_flood ∈ zb) (hd : decode cL_law pc = .ok (.invokevirtual idx, 3))
    (kk : ∀ (r : Int32) (mi' : Nat → Option Nat) (ko' : Option Nat) (T' : TT) (I' : Nat → TT) (H : Heap) (locs : List Loc) (cells' slots' : Nat), ((mi' = mi ∧ T' = T ∧ I' = I) ∧ r = AN_flood M a1 a2 a3 a4) → cells' ≤ cells + 47 → slots' ≤ slots + 4608 → GG E bx bm mi' ko' T' M I' H → va_S (fun q => s.heap.size ≤ q) s.heap H locs → W p l e room_1 s m #[Value.ref b] below meth c H locs cells' slots' (lw_Z below #[Value.ref b] s) (F0 m (pc + 3) ls (.int r :: rest))) : W p l e room_1 s m #[Value.ref b] below meth c H locs cells slots (lw_Z below #[Value.ref b] s) (F0 m pc ls (.int a4 :: .int a3 :: .int a2 :: .int a1 :: .ref bx :: rest)) := by
  obtain ⟨hx, hb, hr, hml, hown, hts, hX0, hbl, hlocks, hgv⟩ := id C0
  have zc : zC p s m #[Value.ref b] meth c cL_law 4 RL ret := ⟨hx, hb, hml, hown, fun w hw => hts w (zb_in hw), hr, hlocks⟩
  obtain ⟨hXS, hMS, hE, hT, hMT⟩ := hG
  obtain ⟨S, V, hI, hX⟩ := id hXS
  refine zVx_i [.int a1, .int a2, .int a3, .int a4] rest zc ky_X10_flood kz_X10_flood hlk (c_wx_X10_flood l (post := (fun r pa_next => (r = AN_flood M a1 a2 a3 a4) ∧ (∀ j, iv 0 511 (pa_next j)))) (cj_q_wx_X10_flood_0 (post_1 := fun r pa_next => r = AN_flood M a1 a2 a3 a4) (post_2 := (fun r pa_next => (∀ j, iv 0 511 (pa_next j)))) (post_3 := (fun r pa_next => (r = AN_flood M a1 a2 a3 a4) ∧ (∀ j, iv 0 511 (pa_next j)))) (fun _ _ a b => ⟨a, b⟩) (e_x_flood hR.1.1 (tB_of hT) hR.2 (hMT.2.2.2.1) (fun _ => rfl)) (s_wx_X10_flood_0 (hT.2 1) (hT.1 3) (hT.1 6) (hT.1 7) (hT.2 2) (hT.2 4) (hT.2 5) (hT.2 6) (hT.1 10) (hT.1 13) (hT.1 14) (hT.2 10) (hT.2 12) (hT.2 13) (hT.2 14) (hI.2 27) (fun _ _ _ h1 => h1)))) (wxPreV0 hK hX) hS (fun q (h : wxA bx q) => Nat.le_trans hbx h.1) rfl rfl hls hW ⟨rfl, rfl⟩ ⟨(Nat.le_of_ble_eq_true rfl), (Nat.le_of_ble_eq_true rfl)⟩ ⟨Nat.le_trans (Nat.le_add_right _ _) hcs.1, Nat.le_trans (Nat.le_add_right _ _) hcs.2⟩ hd (fun r u H1 locs1 hw h9 hk hS => ?_)
  obtain ⟨pa_next, eu⟩ : ∃ y, y = u := ⟨u, rfl⟩
  subst eu
  obtain ⟨hrel, n_pa_next⟩ := hw
  exact kk r _ _ _ _ _ _ _ _ ⟨⟨rfl, rfl, rfl⟩, hrel⟩ (Nat.le_add_right _ _) (Nat.le_add_right _ _) ⟨XS_of (T := T) h9 (hI.1 0) (hI.1 1) (hI.1 2) (hI.1 3) (hI.1 4) (hI.1 5) (hI.1 6) (hI.2 0) (hI.2 1) (hI.2 2) (hI.2 3) (hI.2 4) (hI.2 5) (hI.2 6) (hI.2 7) (hI.1 7) (hI.2 8) (hI.2 9) (hI.2 10) (hI.1 8) (hI.2 11) (hI.2 12) (hI.2 13) (hI.1 9) (hI.1 10) (hI.2 14) (hI.2 15) (hI.1 11) (hI.1 12) (hI.2 17) (hI.1 13) (hI.1 14) (hI.1 15) (hI.1 16) (hI.1 22) (hI.1 23) (hI.2 18) (hI.2 19) (hI.2 20) (hI.2 22) (hI.2 23) (hI.2 24) (hI.2 26) n_pa_next (hI.2 28) (hI.2 32), MS_kp hMS (fun z h1 h2 h3 => hk z h1 (fun (hA : wxA bx z) => zap hbm h2 hA.2)), lE_kp hE (fun z h1 h2 => hk z h1 (fun (hA : wxA bx z) => zap hbm (Nat.le_trans (Nat.le_add_right _ _) h2) hA.2)), hT, hMT⟩ hS

set_option maxRecDepth 40000 in
set_option maxHeartbeats 4000000 in
theorem gx_join {p : Program} {l : Launch} {e : Env} {s : State} {m : MethodId} {below : List Frame} {meth : Method} {c : Code} {E : zE} {G : zG} {b L bx bm cells slots : Nat} {xs : Nat → Int32} {mi : Nat → Option Nat} {ko : Option Nat} {T : TT} {M : Nat → Nat → Int32} {I : Nat → TT} {H : Heap} {locs : List Loc} {ls : Array Slot} {pc idx : Nat} {a1 a2 a3 a4 : Int32} (rest : List Value) (hcs : cells + 47 ≤ room_1.cells ∧ slots + 4608 ≤ room_1.slots) (C0 : lw_At p s m meth c b L xs) (hbx : s.heap.size ≤ bx) (hbm : bx + 93 ≤ bm) (hK : zK E s) (hO : zO s ∧ zZ G (fun q => s.heap.size ≤ q) s s.heap) (hG : GG E bx bm mi ko T M I H) (hS : va_S (fun q => s.heap.size ≤ q) s.heap H locs) (hls : ls.size = 4) (hW : (rest.map fun v => v.category).sum ≤ 8) (hlk : Cond.methodLink RL idx yX10_join ∈ zb) (hd : decode cL_law pc = .ok (.invokevirtual idx, 3))
    (kk : ∀ (r : Int32) (mi' : Nat → Option Nat) (ko' : Option Nat) (T' : TT) (I' : Nat → TT) (H : Heap) (locs : List Loc) (cells' slots' : Nat), (mi' = mi ∧ T' = T ∧ I' = I) → cells' ≤ cells + 47 → slots' ≤ slots + 4608 → GG E bx bm mi' ko' T' M I' H → va_S (fun q => s.heap.size ≤ q) s.heap H locs → W p l e room_1 s m #[Value.ref b] below meth c H locs cells' slots' (lw_Z below #[Value.ref b] s) (F0 m (pc + 3) ls (.int r :: rest))) : W p l e room_1 s m #[Value.ref b] below meth c H locs cells slots (lw_Z below #[Value.ref b] s) (F0 m pc ls (.int a4 :: .int a3 :: .int a2 :: .int a1 :: .ref bx :: rest)) := by
  obtain ⟨hx, hb, hr, hml, hown, hts, hX0, hbl, hlocks, hgv⟩ := id C0
  have zc : zC p s m #[Value.ref b] meth c cL_law 4 RL ret := ⟨hx, hb, hml, hown, fun w hw => hts w (zb_in hw), hr, hlocks⟩
  obtain ⟨hXS, hMS, hE, hT, hMT⟩ := hG
  obtain ⟨S, V, hI, hX⟩ := id hXS
  refine zVx_i [.int a1, .int a2, .int a3, .int a4] rest zc ky_X10_join kz_X10_join hlk (c_wx_X10_join l (post := (fun r pa_heard => (∀ j, iv 0 1000 (pa_heard j)))) (s_wx_X10_join_0 (hT.2 1) (hT.1 3) (hT.1 6) (hT.1 7) (hT.2 2) (hT.2 4) (hT.2 5) (hT.2 6) (hT.1 10) (hT.1 13) (hT.1 14) (hT.2 10) (hT.2 12) (hT.2 13) (hT.2 14) (hI.2 23) (fun _ _ _ h1 => h1))) (wxPreV0 hK hX) hS (fun q (h : wxA bx q) => Nat.le_trans hbx h.1) rfl rfl hls hW ⟨rfl, rfl⟩ ⟨(Nat.le_of_ble_eq_true rfl), (Nat.le_of_ble_eq_true rfl)⟩ ⟨Nat.le_trans (Nat.le_add_right _ _) hcs.1, Nat.le_trans (Nat.le_add_right _ _) hcs.2⟩ hd (fun r u H1 locs1 hw h9 hk hS => ?_)
  obtain ⟨pa_heard, eu⟩ : ∃ y, y = u := ⟨u, rfl⟩
  subst eu
  have n_pa_heard := hw
  exact kk r _ _ _ _ _ _ _ _ ⟨rfl, rfl, rfl⟩ (Nat.le_add_right _ _) (Nat.le_add_right _ _) ⟨XS_of (T := T) h9 (hI.1 0) (hI.1 1) (hI.1 2) (hI.1 3) (hI.1 4) (hI.1 5) (hI.1 6) (hI.2 0) (hI.2 1) (hI.2 2) (hI.2 3) (hI.2 4) (hI.2 5) (hI.2 6) (hI.2 7) (hI.1 7) (hI.2 8) (hI.2 9) (hI.2 10) (hI.1 8) (hI.2 11) (hI.2 12) (hI.2 13) (hI.1 9) (hI.1 10) (hI.2 14) (hI.2 15) (hI.1 11) (hI.1 12) (hI.2 17) (hI.1 13) (hI.1 14) (hI.1 15) (hI.1 16) (hI.1 22) (hI.1 23) (hI.2 18) (hI.2 19) (hI.2 20) (hI.2 22) n_pa_heard (hI.2 24) (hI.2 26) (hI.2 27) (hI.2 28) (hI.2 32), MS_kp hMS (fun z h1 h2 h3 => hk z h1 (fun (hA : wxA bx z) => zap hbm h2 hA.2)), lE_kp hE (fun z h1 h2 => hk z h1 (fun (hA : wxA bx z) => zap hbm (Nat.le_trans (Nat.le_add_right _ _) h2) hA.2)), hT, hMT⟩ hS

set_option maxRecDepth 40000 in
set_option maxHeartbeats 4000000 in
theorem gx_land {p : Program} {l : Launch} {e : Env} {s : State} {m : MethodId} {below : List Frame} {meth : Method} {c : Code} {E : zE} {G : zG} {b L bx bm cells slots : Nat} {xs : Nat → Int32} {mi : Nat → Option Nat} {ko : Option Nat} {T : TT} {M : Nat → Nat → Int32} {I : Nat → TT} {H : Heap} {locs : List Loc} {ls : Array Slot} {pc idx : Nat} {a1 a2 : Int32} (rest : List Value) (hcs : cells + 47 ≤ room_1.cells ∧ slots + 4608 ≤ room_1.slots) (C0 : lw_At p s m meth c b L xs) (hbx : s.heap.size ≤ bx) (hbm : bx + 93 ≤ bm) (hK : zK E s) (hO : zO s ∧ zZ G (fun q => s.heap.size ≤ q) s s.heap) (hG : GG E bx bm mi ko T M I H) (hS : va_S (fun q => s.heap.size ≤ q) s.heap H locs) (hls : ls.size = 4) (hW : (rest.map fun v => v.category).sum ≤ 8) (hlk : Cond.methodLink RL idx yX10_land ∈ zb) (hd : decode cL_law pc = .ok (.invokevirtual idx, 3))
    (kk : ∀ (r : Int32) (mi' : Nat → Option Nat) (ko' : Option Nat) (T' : TT) (I' : Nat → TT) (H : Heap) (locs : List Loc) (cells' slots' : Nat), (mi' = mi ∧ T' = T ∧ I' = I) → cells' ≤ cells + 47 → slots' ≤ slots + 4608 → GG E bx bm mi' ko' T' M I' H → va_S (fun q => s.heap.size ≤ q) s.heap H locs → W p l e room_1 s m #[Value.ref b] below meth c H locs cells' slots' (lw_Z below #[Value.ref b] s) (F0 m (pc + 3) ls (.int r :: rest))) : W p l e room_1 s m #[Value.ref b] below meth c H locs cells slots (lw_Z below #[Value.ref b] s) (F0 m pc ls (.int a2 :: .int a1 :: .ref bx :: rest)) := by
  obtain ⟨hx, hb, hr, hml, hown, hts, hX0, hbl, hlocks, hgv⟩ := id C0
  have zc : zC p s m #[Value.ref b] meth c cL_law 4 RL ret := ⟨hx, hb, hml, hown, fun w hw => hts w (zb_in hw), hr, hlocks⟩
  obtain ⟨hXS, hMS, hE, hT, hMT⟩ := hG
  obtain ⟨S, V, hI, hX⟩ := id hXS
  exact zV_i [.int a1, .int a2] rest zc ky_X10_land kz_X10_land hlk (c_wx_X10_land l (post := (fun _ => True)) (s_wx_X10_land_0 (hT.2 1) (hT.1 3) (hT.1 4) (hT.1 5) (hT.1 6) (hT.1 7) (hT.1 8) (hT.1 9) (hT.2 2) (hT.2 3) (hT.2 4) (hT.2 7) (hT.2 8) (hT.2 9) (hT.1 10) (hT.1 11) (hT.1 12) (hT.1 13) (hT.1 14) (hT.1 15) (hT.1 16) (hT.2 10) (hT.2 11) (hT.2 12) (hT.2 15) (hT.2 16) (hT.2 17) (fun _ _ => trivial))) (wxPreV0 hK hX) rfl rfl hls hW ⟨rfl, rfl⟩ ⟨(Nat.le_of_ble_eq_true rfl), (Nat.le_of_ble_eq_true rfl)⟩ ⟨Nat.le_trans (Nat.le_add_right _ _) hcs.1, Nat.le_trans (Nat.le_add_right _ _) hcs.2⟩ hd (fun r _ => kk r _ _ _ _ _ _ _ _ ⟨rfl, rfl, rfl⟩ (Nat.le_add_right _ _) (Nat.le_add_right _ _) ⟨hXS, hMS, hE, hT, hMT⟩ hS)

set_option maxRecDepth 40000 in
set_option maxHeartbeats 4000000 in
theorem gx_masses {p : Program} {l : Launch} {e : Env} {s : State} {m : MethodId} {below : List Frame} {meth : Method} {c : Code} {E : zE} {G : zG} {b L bx bm cells slots : Nat} {xs : Nat → Int32} {mi : Nat → Option Nat} {ko : Option Nat} {T : TT} {M : Nat → Nat → Int32} {I : Nat → TT} {H : Heap} {locs : List Loc} {ls : Array Slot} {pc idx : Nat} {a1 a2 a3 : Int32} (rest : List Value) (hcs : cells + 47 ≤ room_1.cells ∧ slots + 4608 ≤ room_1.slots) (C0 : lw_At p s m meth c b L xs) (hbx : s.heap.size ≤ bx) (hbm : bx + 93 ≤ bm) (hK : zK E s) (hO : zO s ∧ zZ G (fun q => s.heap.size ≤ q) s s.heap) (hG : GG E bx bm mi ko T M I H) (hS : va_S (fun q => s.heap.size ≤ q) s.heap H locs) (hls : ls.size = 4) (hW : (rest.map fun v => v.category).sum ≤ 8) (hlk : Cond.methodLink RL idx yX10_masses ∈ zb) (hd : decode cL_law pc = .ok (.invokevirtual idx, 3))
    (kk : ∀ (r : Int32) (mi' : Nat → Option Nat) (ko' : Option Nat) (T' : TT) (I' : Nat → TT) (H : Heap) (locs : List Loc) (cells' slots' : Nat), (mi' = mi ∧ T' = T ∧ I' = I) → cells' ≤ cells + 47 → slots' ≤ slots + 4608 → GG E bx bm mi' ko' T' M I' H → va_S (fun q => s.heap.size ≤ q) s.heap H locs → W p l e room_1 s m #[Value.ref b] below meth c H locs cells' slots' (lw_Z below #[Value.ref b] s) (F0 m (pc + 3) ls (.int r :: rest))) : W p l e room_1 s m #[Value.ref b] below meth c H locs cells slots (lw_Z below #[Value.ref b] s) (F0 m pc ls (.int a3 :: .int a2 :: .int a1 :: .ref bx :: rest)) := by
  obtain ⟨hx, hb, hr, hml, hown, hts, hX0, hbl, hlocks, hgv⟩ := id C0
  have zc : zC p s m #[Value.ref b] meth c cL_law 4 RL ret := ⟨hx, hb, hml, hown, fun w hw => hts w (zb_in hw), hr, hlocks⟩
  obtain ⟨hXS, hMS, hE, hT, hMT⟩ := hG
  obtain ⟨S, V, hI, hX⟩ := id hXS
  refine zVx_i [.int a1, .int a2, .int a3] rest zc ky_X10_masses kz_X10_masses hlk (c_wx_X10_masses l (post := (fun r pa_walked pa_cover => (∀ j, iv 0 1000 (pa_walked j)) ∧ (∀ j, iv 0 511 (pa_cover j)))) (s_wx_X10_masses_0 (hT.2 1) (hT.1 3) (hT.1 5) (hT.2 4) (hT.1 10) (hT.1 12) (hT.2 12) (hI.2 24) (hI.2 28) (fun _ _ _ _ h1 h2 => ⟨h1, h2⟩))) (wxPreV0 hK hX) hS (fun q (h : wxA bx q) => Nat.le_trans hbx h.1) rfl rfl hls hW ⟨rfl, rfl⟩ ⟨(Nat.le_of_ble_eq_true rfl), (Nat.le_of_ble_eq_true rfl)⟩ ⟨Nat.le_trans (Nat.le_add_right _ _) hcs.1, Nat.le_trans (Nat.le_add_right _ _) hcs.2⟩ hd (fun r u H1 locs1 hw h9 hk hS => ?_)
  obtain ⟨pa_walked, pa_cover⟩ := u
  obtain ⟨n_pa_walked, n_pa_cover⟩ := hw
  exact kk r _ _ _ _ _ _ _ _ ⟨rfl, rfl, rfl⟩ (Nat.le_add_right _ _) (Nat.le_add_right _ _) ⟨XS_of (T := T) h9 (hI.1 0) (hI.1 1) (hI.1 2) (hI.1 3) (hI.1 4) (hI.1 5) (hI.1 6) (hI.2 0) (hI.2 1) (hI.2 2) (hI.2 3) (hI.2 4) (hI.2 5) (hI.2 6) (hI.2 7) (hI.1 7) (hI.2 8) (hI.2 9) (hI.2 10) (hI.1 8) (hI.2 11) (hI.2 12) (hI.2 13) (hI.1 9) (hI.1 10) (hI.2 14) (hI.2 15) (hI.1 11) (hI.1 12) (hI.2 17) (hI.1 13) (hI.1 14) (hI.1 15) (hI.1 16) (hI.1 22) (hI.1 23) (hI.2 18) (hI.2 19) (hI.2 20) (hI.2 22) (hI.2 23) n_pa_walked (hI.2 26) (hI.2 27) n_pa_cover (hI.2 32), MS_kp hMS (fun z h1 h2 h3 => hk z h1 (fun (hA : wxA bx z) => zap hbm h2 hA.2)), lE_kp hE (fun z h1 h2 => hk z h1 (fun (hA : wxA bx z) => zap hbm (Nat.le_trans (Nat.le_add_right _ _) h2) hA.2)), hT, hMT⟩ hS

set_option maxRecDepth 40000 in
set_option maxHeartbeats 4000000 in
theorem gx_meet {p : Program} {l : Launch} {e : Env} {s : State} {m : MethodId} {below : List Frame} {meth : Method} {c : Code} {E : zE} {G : zG} {b L bx bm cells slots : Nat} {xs : Nat → Int32} {mi : Nat → Option Nat} {ko : Option Nat} {T : TT} {M : Nat → Nat → Int32} {I : Nat → TT} {H : Heap} {locs : List Loc} {ls : Array Slot} {pc idx : Nat} {a1 a2 a3 a4 : Int32} (rest : List Value) (hcs : cells + 47 ≤ room_1.cells ∧ slots + 4608 ≤ room_1.slots) (C0 : lw_At p s m meth c b L xs) (hbx : s.heap.size ≤ bx) (hbm : bx + 93 ≤ bm) (hK : zK E s) (hO : zO s ∧ zZ G (fun q => s.heap.size ≤ q) s s.heap) (hG : GG E bx bm mi ko T M I H) (hS : va_S (fun q => s.heap.size ≤ q) s.heap H locs) (hls : ls.size = 4) (hW : (rest.map fun v => v.category).sum ≤ 8) (hlk : Cond.methodLink RL idx yX10_meet ∈ zb) (hd : decode cL_law pc = .ok (.invokevirtual idx, 3))
    (kk : ∀ (r : Int32) (mi' : Nat → Option Nat) (ko' : Option Nat) (T' : TT) (I' : Nat → TT) (H : Heap) (locs : List Loc) (cells' slots' : Nat), (mi' = mi ∧ T' = T ∧ I' = I) → cells' ≤ cells + 47 → slots' ≤ slots + 4608 → GG E bx bm mi' ko' T' M I' H → va_S (fun q => s.heap.size ≤ q) s.heap H locs → W p l e room_1 s m #[Value.ref b] below meth c H locs cells' slots' (lw_Z below #[Value.ref b] s) (F0 m (pc + 3) ls (.int r :: rest))) : W p l e room_1 s m #[Value.ref b] below meth c H locs cells slots (lw_Z below #[Value.ref b] s) (F0 m pc ls (.int a4 :: .int a3 :: .int a2 :: .int a1 :: .ref bx :: rest)) := by
  obtain ⟨hx, hb, hr, hml, hown, hts, hX0, hbl, hlocks, hgv⟩ := id C0
  have zc : zC p s m #[Value.ref b] meth c cL_law 4 RL ret := ⟨hx, hb, hml, hown, fun w hw => hts w (zb_in hw), hr, hlocks⟩
  obtain ⟨hXS, hMS, hE, hT, hMT⟩ := hG
  obtain ⟨S, V, hI, hX⟩ := id hXS
  refine zVx_i [.int a1, .int a2, .int a3, .int a4] rest zc ky_X10_meet kz_X10_meet hlk (c_wx_X10_meet l (post := (fun r pa_walked => (∀ j, iv 0 1000 (pa_walked j)))) (s_wx_X10_meet_0 (hT.2 1) (hT.1 3) (hT.1 4) (hT.2 4) (hT.2 7) (hT.1 10) (hT.1 11) (hT.2 12) (hT.2 15) (hI.2 24) (fun _ _ _ h1 => h1))) (wxPreV0 hK hX) hS (fun q (h : wxA bx q) => Nat.le_trans hbx h.1) rfl rfl hls hW ⟨rfl, rfl⟩ ⟨(Nat.le_of_ble_eq_true rfl), (Nat.le_of_ble_eq_true rfl)⟩ ⟨Nat.le_trans (Nat.le_add_right _ _) hcs.1, Nat.le_trans (Nat.le_add_right _ _) hcs.2⟩ hd (fun r u H1 locs1 hw h9 hk hS => ?_)
  obtain ⟨pa_walked, eu⟩ : ∃ y, y = u := ⟨u, rfl⟩
  subst eu
  have n_pa_walked := hw
  exact kk r _ _ _ _ _ _ _ _ ⟨rfl, rfl, rfl⟩ (Nat.le_add_right _ _) (Nat.le_add_right _ _) ⟨XS_of (T := T) h9 (hI.1 0) (hI.1 1) (hI.1 2) (hI.1 3) (hI.1 4) (hI.1 5) (hI.1 6) (hI.2 0) (hI.2 1) (hI.2 2) (hI.2 3) (hI.2 4) (hI.2 5) (hI.2 6) (hI.2 7) (hI.1 7) (hI.2 8) (hI.2 9) (hI.2 10) (hI.1 8) (hI.2 11) (hI.2 12) (hI.2 13) (hI.1 9) (hI.1 10) (hI.2 14) (hI.2 15) (hI.1 11) (hI.1 12) (hI.2 17) (hI.1 13) (hI.1 14) (hI.1 15) (hI.1 16) (hI.1 22) (hI.1 23) (hI.2 18) (hI.2 19) (hI.2 20) (hI.2 22) (hI.2 23) n_pa_walked (hI.2 26) (hI.2 27) (hI.2 28) (hI.2 32), MS_kp hMS (fun z h1 h2 h3 => hk z h1 (fun (hA : wxA bx z) => zap hbm h2 hA.2)), lE_kp hE (fun z h1 h2 => hk z h1 (fun (hA : wxA bx z) => zap hbm (Nat.le_trans (Nat.le_add_right _ _) h2) hA.2)), hT, hMT⟩ hS

set_option maxRecDepth 40000 in
set_option maxHeartbeats 4000000 in
theorem gx_mutes {p : Program} {l : Launch} {e : Env} {s : State} {m : MethodId} {below : List Frame} {meth : Method} {c : Code} {E : zE} {G : zG} {b L bx bm cells slots : Nat} {xs : Nat → Int32} {mi : Nat → Option Nat} {ko : Option Nat} {T : TT} {M : Nat → Nat → Int32} {I : Nat → TT} {H : Heap} {locs : List Loc} {ls : Array Slot} {pc idx : Nat} {a1 a2 a3 : Int32} (rest : List Value) (hcs : cells + 47 ≤ room_1.cells ∧ slots + 4608 ≤ room_1.slots) (C0 : lw_At p s m meth c b L xs) (hbx : s.heap.size ≤ bx) (hbm : bx + 93 ≤ bm) (hK : zK E s) (hO : zO s ∧ zZ G (fun q => s.heap.size ≤ q) s s.heap) (hG : GG E bx bm mi ko T M I H) (hS : va_S (fun q => s.heap.size ≤ q) s.heap H locs) (hls : ls.size = 4) (hW : (rest.map fun v => v.category).sum ≤ 8) (hlk : Cond.methodLink RL idx yX10_mutes ∈ zb) (hd : decode cL_law pc = .ok (.invokevirtual idx, 3))
    (kk : ∀ (r : Int32) (mi' : Nat → Option Nat) (ko' : Option Nat) (T' : TT) (I' : Nat → TT) (H : Heap) (locs : List Loc) (cells' slots' : Nat), (mi' = mi ∧ T' = T ∧ I' = I) → cells' ≤ cells + 47 → slots' ≤ slots + 4608 → GG E bx bm mi' ko' T' M I' H → va_S (fun q => s.heap.size ≤ q) s.heap H locs → W p l e room_1 s m #[Value.ref b] below meth c H locs cells' slots' (lw_Z below #[Value.ref b] s) (F0 m (pc + 3) ls (.int r :: rest))) : W p l e room_1 s m #[Value.ref b] below meth c H locs cells slots (lw_Z below #[Value.ref b] s) (F0 m pc ls (.int a3 :: .int a2 :: .int a1 :: .ref bx :: rest)) := by
  obtain ⟨hx, hb, hr, hml, hown, hts, hX0, hbl, hlocks, hgv⟩ := id C0
  have zc : zC p s m #[Value.ref b] meth c cL_law 4 RL ret := ⟨hx, hb, hml, hown, fun w hw => hts w (zb_in hw), hr, hlocks⟩
  obtain ⟨hXS, hMS, hE, hT, hMT⟩ := hG
  obtain ⟨S, V, hI, hX⟩ := id hXS
  refine zVx_i [.int a1, .int a2, .int a3] rest zc ky_X10_mutes kz_X10_mutes hlk (c_wx_X10_mutes l (post := (fun r pa_next => (∀ j, iv 0 511 (pa_next j)))) (s_wx_X10_mutes_0 (hT.2 1) (hT.1 3) (hT.1 6) (hT.1 7) (hT.2 2) (hT.2 4) (hT.2 5) (hT.2 6) (hT.1 10) (hT.1 13) (hT.1 14) (hT.2 10) (hT.2 12) (hT.2 13) (hT.2 14) (hI.2 27) (fun _ _ _ h1 => h1))) (wxPreV0 hK hX) hS (fun q (h : wxA bx q) => Nat.le_trans hbx h.1) rfl rfl hls hW ⟨rfl, rfl⟩ ⟨(Nat.le_of_ble_eq_true rfl), (Nat.le_of_ble_eq_true rfl)⟩ ⟨Nat.le_trans (Nat.le_add_right _ _) hcs.1, Nat.le_trans (Nat.le_add_right _ _) hcs.2⟩ hd (fun r u H1 locs1 hw h9 hk hS => ?_)
  obtain ⟨pa_next, eu⟩ : ∃ y, y = u := ⟨u, rfl⟩
  subst eu
  have n_pa_next := hw
  exact kk r _ _ _ _ _ _ _ _ ⟨rfl, rfl, rfl⟩ (Nat.le_add_right _ _) (Nat.le_add_right _ _) ⟨XS_of (T := T) h9 (hI.1 0) (hI.1 1) (hI.1 2) (hI.1 3) (hI.1 4) (hI.1 5) (hI.1 6) (hI.2 0) (hI.2 1) (hI.2 2) (hI.2 3) (hI.2 4) (hI.2 5) (hI.2 6) (hI.2 7) (hI.1 7) (hI.2 8) (hI.2 9) (hI.2 10) (hI.1 8) (hI.2 11) (hI.2 12) (hI.2 13) (hI.1 9) (hI.1 10) (hI.2 14) (hI.2 15) (hI.1 11) (hI.1 12) (hI.2 17) (hI.1 13) (hI.1 14) (hI.1 15) (hI.1 16) (hI.1 22) (hI.1 23) (hI.2 18) (hI.2 19) (hI.2 20) (hI.2 22) (hI.2 23) (hI.2 24) (hI.2 26) n_pa_next (hI.2 28) (hI.2 32), MS_kp hMS (fun z h1 h2 h3 => hk z h1 (fun (hA : wxA bx z) => zap hbm h2 hA.2)), lE_kp hE (fun z h1 h2 => hk z h1 (fun (hA : wxA bx z) => zap hbm (Nat.le_trans (Nat.le_add_right _ _) h2) hA.2)), hT, hMT⟩ hS
end
section
set_option maxRecDepth 40000 in
set_option maxHeartbeats 4000000 in
theorem gx_odds {p : Program} {l : Launch} {e : Env} {s : State} {m : MethodId} {below : List Frame} {meth : Method} {c : Code} {E : zE} {G : zG} {b L bx bm cells slots : Nat} {xs : Nat → Int32} {mi : Nat → Option Nat} {ko : Option Nat} {T : TT} {M : Nat → Nat → Int32} {I : Nat → TT} {H : Heap} {locs : List Loc} {ls : Array Slot} {pc idx : Nat} {a1 a2 a3 : Int32} (rest : List Value) (hcs : cells + 47 ≤ room_1.cells ∧ slots + 4608 ≤ room_1.slots) (C0 : lw_At p s m meth c b L xs) (hbx : s.heap.size ≤ bx) (hbm : bx + 93 ≤ bm) (hK : zK E s) (hO : zO s ∧ zZ G (fun q => s.heap.size ≤ q) s s.heap) (hG : GG E bx bm mi ko T M I H) (hS : va_S (fun q => s.heap.size ≤ q) s.heap H locs) (hls : ls.size = 4) (hW : (rest.map fun v => v.category).sum ≤ 8) (hlk : Cond.methodLink RL idx yX10_odds ∈ zb) (hd : decode cL_law pc = .ok (.invokevirtual idx, 3))
    (kk : ∀ (r : Int64) (mi' : Nat → Option Nat) (ko' : Option Nat) (T' : TT) (I' : Nat → TT) (H : Heap) (locs : List Loc) (cells' slots' : Nat), (mi' = mi ∧ T' = T ∧ I' = I) → cells' ≤ cells + 47 → slots' ≤ slots + 4608 → GG E bx bm mi' ko' T' M I' H → va_S (fun q => s.heap.size ≤ q) s.heap H locs → W p l e room_1 s m #[Value.ref b] below meth c H locs cells' slots' (lw_Z below #[Value.ref b] s) (F0 m (pc + 3) ls (.long r :: rest))) : W p l e room_1 s m #[Value.ref b] below meth c H locs cells slots (lw_Z below #[Value.ref b] s) (F0 m pc ls (.int a3 :: .int a2 :: .int a1 :: .ref bx :: rest)) := by
  obtain ⟨hx, hb, hr, hml, hown, hts, hX0, hbl, hlocks, hgv⟩ := id C0
  have zc : zC p s m #[Value.ref b] meth c cL_law 4 RL ret := ⟨hx, hb, hml, hown, fun w hw => hts w (zb_in hw), hr, hlocks⟩
  obtain ⟨hXS, hMS, hE, hT, hMT⟩ := hG
  obtain ⟨S, V, hI, hX⟩ := id hXS
  refine zVx_l [.int a1, .int a2, .int a3] rest zc ky_X10_odds kz_X10_odds hlk (c_wx_X10_odds l (post := (fun r nf_minute nf_avalanches nf_begun nf_climbed na_huts na_known na_levels na_snow => (iv 0 31 nf_begun) ∧ (iv 0 63 nf_climbed) ∧ (∀ j, iv 0 8 (na_huts j)) ∧ (∀ j, iv 0 31 (na_known j)) ∧ (∀ j, iv (-9) 122 (na_levels j)))) (s_wx_X10_odds_0 (hT.2 1) (hT.1 3) (hT.1 4) (hT.1 6) (hT.1 7) (hT.1 8) (hT.1 9) (hT.2 2) (hT.2 3) (hT.2 4) (hT.2 5) (hT.2 6) (hT.2 7) (hT.2 8) (hT.2 9) (hT.1 10) (hT.1 11) (hT.1 13) (hT.1 14) (hT.1 15) (hT.1 16) (hT.2 10) (hT.2 11) (hT.2 12) (hT.2 13) (hT.2 14) (hT.2 15) (hT.2 16) (hT.2 17) (hT.1 17) (hT.2 18) (hT.2 19) (hT.2 20) (hT.1 18) (hT.2 21) (hT.2 22) (hT.2 23) (hI.1 22) (hI.1 23) (hI.2 18) (hI.2 19) (hI.2 20) (fun _ _ _ _ _ _ _ _ _ h0 h1 h2 h3 h4 => ⟨h0, h1, h2, h3, h4⟩))) (wxPreV0 hK hX) hS (fun q (h : wxA bx q) => Nat.le_trans hbx h.1) rfl rfl hls hW ⟨rfl, rfl⟩ ⟨(Nat.le_of_ble_eq_true rfl), (Nat.le_of_ble_eq_true rfl)⟩ ⟨Nat.le_trans (Nat.le_add_right _ _) hcs.1, Nat.le_trans (Nat.le_add_right _ _) hcs.2⟩ hd (fun r u H1 locs1 hw h9 hk hS => ?_)
  obtain ⟨nf_minute, nf_avalanches, nf_begun, nf_climbed, na_huts, na_known, na_levels, na_snow⟩ := u
  obtain ⟨n_nf_begun, n_nf_climbed, n_na_huts, n_na_known, n_na_levels⟩ := hw
  exact kk r _ _ _ _ _ _ _ _ ⟨rfl, rfl, rfl⟩ (Nat.le_add_right _ _) (Nat.le_add_right _ _) ⟨XS_of (T := T) h9 (hI.1 0) (hI.1 1) (hI.1 2) (hI.1 3) (hI.1 4) (hI.1 5) (hI.1 6) (hI.2 0) (hI.2 1) (hI.2 2) (hI.2 3) (hI.2 4) (hI.2 5) (hI.2 6) (hI.2 7) (hI.1 7) (hI.2 8) (hI.2 9) (hI.2 10) (hI.1 8) (hI.2 11) (hI.2 12) (hI.2 13) (hI.1 9) (hI.1 10) (hI.2 14) (hI.2 15) (hI.1 11) (hI.1 12) (hI.2 17) (hI.1 13) (hI.1 14) (hI.1 15) (hI.1 16) n_nf_begun n_nf_climbed n_na_huts n_na_known n_na_levels (hI.2 22) (hI.2 23) (hI.2 24) (hI.2 26) (hI.2 27) (hI.2 28) (hI.2 32), MS_kp hMS (fun z h1 h2 h3 => hk z h1 (fun (hA : wxA bx z) => zap hbm h2 hA.2)), lE_kp hE (fun z h1 h2 => hk z h1 (fun (hA : wxA bx z) => zap hbm (Nat.le_trans (Nat.le_add_right _ _) h2) hA.2)), hT, hMT⟩ hS

set_option maxRecDepth 40000 in
set_option maxHeartbeats 4000000 in
theorem gx_psalm {p : Program} {l : Launch} {e : Env} {s : State} {m : MethodId} {below : List Frame} {meth : Method} {c : Code} {E : zE} {G : zG} {b L bx bm cells slots : Nat} {xs : Nat → Int32} {mi : Nat → Option Nat} {ko : Option Nat} {T : TT} {M : Nat → Nat → Int32} {I : Nat → TT} {H : Heap} {locs : List Loc} {ls : Array Slot} {pc idx : Nat} {a1 a2 a3 a4 : Int32} (rest : List Value) (hcs : cells + 47 ≤ room_1.cells ∧ slots + 4608 ≤ room_1.slots) (C0 : lw_At p s m meth c b L xs) (hbx : s.heap.size ≤ bx) (hbm : bx + 93 ≤ bm) (hK : zK E s) (hO : zO s ∧ zZ G (fun q => s.heap.size ≤ q) s s.heap) (hG : GG E bx bm mi ko T M I H) (hS : va_S (fun q => s.heap.size ≤ q) s.heap H locs) (hls : ls.size = 4) (hW : (rest.map fun v => v.category).sum ≤ 8) (hlk : Cond.methodLink RL idx yX10_psalm ∈ zb) (hd : decode cL_law pc = .ok (.invokevirtual idx, 3))
    (kk : ∀ (r : Int32) (mi' : Nat → Option Nat) (ko' : Option Nat) (T' : TT) (I' : Nat → TT) (H : Heap) (locs : List Loc) (cells' slots' : Nat), (mi' = mi ∧ T' = T ∧ I' = I) → cells' ≤ cells + 47 → slots' ≤ slots + 4608 → GG E bx bm mi' ko' T' M I' H → va_S (fun q => s.heap.size ≤ q) s.heap H locs → W p l e room_1 s m #[Value.ref b] below meth c H locs cells' slots' (lw_Z below #[Value.ref b] s) (F0 m (pc + 3) ls (.int r :: rest))) : W p l e room_1 s m #[Value.ref b] below meth c H locs cells slots (lw_Z below #[Value.ref b] s) (F0 m pc ls (.int a4 :: .int a3 :: .int a2 :: .int a1 :: .ref bx :: rest)) := by
  obtain ⟨hx, hb, hr, hml, hown, hts, hX0, hbl, hlocks, hgv⟩ := id C0
  have zc : zC p s m #[Value.ref b] meth c cL_law 4 RL ret := ⟨hx, hb, hml, hown, fun w hw => hts w (zb_in hw), hr, hlocks⟩
  obtain ⟨hXS, hMS, hE, hT, hMT⟩ := hG
  obtain ⟨S, V, hI, hX⟩ := id hXS
  refine zVx_i [.int a1, .int a2, .int a3, .int a4] rest zc ky_X10_psalm kz_X10_psalm hlk (c_wx_X10_psalm l (post := (fun r pa_heard => (∀ j, iv 0 1000 (pa_heard j)))) (s_wx_X10_psalm_0 (hT.2 1) (hT.1 3) (hT.1 6) (hT.1 7) (hT.2 2) (hT.2 4) (hT.2 5) (hT.2 6) (hT.1 10) (hT.1 13) (hT.1 14) (hT.2 10) (hT.2 12) (hT.2 13) (hT.2 14) (hI.2 23) (fun _ _ _ h1 => h1))) (wxPreV0 hK hX) hS (fun q (h : wxA bx q) => Nat.le_trans hbx h.1) rfl rfl hls hW ⟨rfl, rfl⟩ ⟨(Nat.le_of_ble_eq_true rfl), (Nat.le_of_ble_eq_true rfl)⟩ ⟨Nat.le_trans (Nat.le_add_right _ _) hcs.1, Nat.le_trans (Nat.le_add_right _ _) hcs.2⟩ hd (fun r u H1 locs1 hw h9 hk hS => ?_)
  obtain ⟨pa_heard, eu⟩ : ∃ y, y = u := ⟨u, rfl⟩
  subst eu
  have n_pa_heard := hw
  exact kk r _ _ _ _ _ _ _ _ ⟨rfl, rfl, rfl⟩ (Nat.le_add_right _ _) (Nat.le_add_right _ _) ⟨XS_of (T := T) h9 (hI.1 0) (hI.1 1) (hI.1 2) (hI.1 3) (hI.1 4) (hI.1 5) (hI.1 6) (hI.2 0) (hI.2 1) (hI.2 2) (hI.2 3) (hI.2 4) (hI.2 5) (hI.2 6) (hI.2 7) (hI.1 7) (hI.2 8) (hI.2 9) (hI.2 10) (hI.1 8) (hI.2 11) (hI.2 12) (hI.2 13) (hI.1 9) (hI.1 10) (hI.2 14) (hI.2 15) (hI.1 11) (hI.1 12) (hI.2 17) (hI.1 13) (hI.1 14) (hI.1 15) (hI.1 16) (hI.1 22) (hI.1 23) (hI.2 18) (hI.2 19) (hI.2 20) (hI.2 22) n_pa_heard (hI.2 24) (hI.2 26) (hI.2 27) (hI.2 28) (hI.2 32), MS_kp hMS (fun z h1 h2 h3 => hk z h1 (fun (hA : wxA bx z) => zap hbm h2 hA.2)), lE_kp hE (fun z h1 h2 => hk z h1 (fun (hA : wxA bx z) => zap hbm (Nat.le_trans (Nat.le_add_right _ _) h2) hA.2)), hT, hMT⟩ hS

set_option maxRecDepth 40000 in
set_option maxHeartbeats 4000000 in
theorem gx_routes {p : Program} {l : Launch} {e : Env} {s : State} {m : MethodId} {below : List Frame} {meth : Method} {c : Code} {E : zE} {G : zG} {b L bx bm cells slots : Nat} {xs : Nat → Int32} {mi : Nat → Option Nat} {ko : Option Nat} {T : TT} {M : Nat → Nat → Int32} {I : Nat → TT} {H : Heap} {locs : List Loc} {ls : Array Slot} {pc idx : Nat} {a1 a2 a3 a4 : Int32} (rest : List Value) (hcs : cells + 47 ≤ room_1.cells ∧ slots + 4608 ≤ room_1.slots) (C0 : lw_At p s m meth c b L xs) (hbx : s.heap.size ≤ bx) (hbm : bx + 93 ≤ bm) (hK : zK E s) (hO : zO s ∧ zZ G (fun q => s.heap.size ≤ q) s s.heap) (hG : GG E bx bm mi ko T M I H) (hS : va_S (fun q => s.heap.size ≤ q) s.heap H locs) (hls : ls.size = 4) (hW : (rest.map fun v => v.category).sum ≤ 8) (hlk : Cond.methodLink RL idx yX10_routes ∈ zb) (hd : decode cL_law pc = .ok (.invokevirtual idx, 3))
    (kk : ∀ (r : Int32) (mi' : Nat → Option Nat) (ko' : Option Nat) (T' : TT) (I' : Nat → TT) (H : Heap) (locs : List Loc) (cells' slots' : Nat), (mi' = mi ∧ T' = T ∧ I' = I) → cells' ≤ cells + 47 → slots' ≤ slots + 4608 → GG E bx bm mi' ko' T' M I' H → va_S (fun q => s.heap.size ≤ q) s.heap H locs → W p l e room_1 s m #[Value.ref b] below meth c H locs cells' slots' (lw_Z below #[Value.ref b] s) (F0 m (pc + 3) ls (.int r :: rest))) : W p l e room_1 s m #[Value.ref b] below meth c H locs cells slots (lw_Z below #[Value.ref b] s) (F0 m pc ls (.int a4 :: .int a3 :: .int a2 :: .int a1 :: .ref bx :: rest)) := by
  obtain ⟨hx, hb, hr, hml, hown, hts, hX0, hbl, hlocks, hgv⟩ := id C0
  have zc : zC p s m #[Value.ref b] meth c cL_law 4 RL ret := ⟨hx, hb, hml, hown, fun w hw => hts w (zb_in hw), hr, hlocks⟩
  obtain ⟨hXS, hMS, hE, hT, hMT⟩ := hG
  obtain ⟨S, V, hI, hX⟩ := id hXS
  refine zVx_i [.int a1, .int a2, .int a3, .int a4] rest zc ky_X10_routes kz_X10_routes hlk (c_wx_X10_routes l (post := (fun r pa_total pa_longest pa_now pa_then => (∀ j, iv 0 8 (pa_longest j)))) (s_wx_X10_routes_0 (hT.2 1) (hT.1 3) (hT.1 6) (hT.2 2) (hT.2 4) (hT.1 10) (hT.1 13) (hT.2 10) (hT.2 12) (hI.2 26) (fun _ _ _ _ _ h0 => h0))) (wxPreV0 hK hX) hS (fun q (h : wxA bx q) => Nat.le_trans hbx h.1) rfl rfl hls hW ⟨rfl, rfl⟩ ⟨(Nat.le_of_ble_eq_true rfl), (Nat.le_of_ble_eq_true rfl)⟩ ⟨Nat.le_trans (Nat.le_add_right _ _) hcs.1, Nat.le_trans (Nat.le_add_right _ _) hcs.2⟩ hd (fun r u H1 locs1 hw h9 hk hS => ?_)
  obtain ⟨pa_total, pa_longest, pa_now, pa_then⟩ := u
  have n_pa_longest := hw
  exact kk r _ _ _ _ _ _ _ _ ⟨rfl, rfl, rfl⟩ (Nat.le_add_right _ _) (Nat.le_add_right _ _) ⟨XS_of (T := T) h9 (hI.1 0) (hI.1 1) (hI.1 2) (hI.1 3) (hI.1 4) (hI.1 5) (hI.1 6) (hI.2 0) (hI.2 1) (hI.2 2) (hI.2 3) (hI.2 4) (hI.2 5) (hI.2 6) (hI.2 7) (hI.1 7) (hI.2 8) (hI.2 9) (hI.2 10) (hI.1 8) (hI.2 11) (hI.2 12) (hI.2 13) (hI.1 9) (hI.1 10) (hI.2 14) (hI.2 15) (hI.1 11) (hI.1 12) (hI.2 17) (hI.1 13) (hI.1 14) (hI.1 15) (hI.1 16) (hI.1 22) (hI.1 23) (hI.2 18) (hI.2 19) (hI.2 20) (hI.2 22) (hI.2 23) (hI.2 24) n_pa_longest (hI.2 27) (hI.2 28) (hI.2 32), MS_kp hMS (fun z h1 h2 h3 => hk z h1 (fun (hA : wxA bx z) => zap hbm h2 hA.2)), lE_kp hE (fun z h1 h2 => hk z h1 (fun (hA : wxA bx z) => zap hbm (Nat.le_trans (Nat.le_add_right _ _) h2) hA.2)), hT, hMT⟩ hS

set_option maxRecDepth 40000 in
set_option maxHeartbeats 4000000 in
theorem gx_slopes {p : Program} {l : Launch} {e : Env} {s : State} {m : MethodId} {below : List Frame} {meth : Method} {c : Code} {E : zE} {G : zG} {b L bx bm cells slots : Nat} {xs : Nat → Int32} {mi : Nat → Option Nat} {ko : Option Nat} {T : TT} {M : Nat → Nat → Int32} {I : Nat → TT} {H : Heap} {locs : List Loc} {ls : Array Slot} {pc idx : Nat} {a1 a2 : Int32} (rest : List Value) (hcs : cells + 47 ≤ room_1.cells ∧ slots + 4608 ≤ room_1.slots) (C0 : lw_At p s m meth c b L xs) (hbx : s.heap.size ≤ bx) (hbm : bx + 93 ≤ bm) (hK : zK E s) (hO : zO s ∧ zZ G (fun q => s.heap.size ≤ q) s s.heap) (hG : GG E bx bm mi ko T M I H) (hS : va_S (fun q => s.heap.size ≤ q) s.heap H locs) (hls : ls.size = 4) (hW : (rest.map fun v => v.category).sum ≤ 8) (hlk : Cond.methodLink RL idx yX10_slopes ∈ zb) (hd : decode cL_law pc = .ok (.invokevirtual idx, 3))
    (kk : ∀ (r : Int32) (mi' : Nat → Option Nat) (ko' : Option Nat) (T' : TT) (I' : Nat → TT) (H : Heap) (locs : List Loc) (cells' slots' : Nat), (mi' = mi ∧ T' = T ∧ I' = I) → cells' ≤ cells + 47 → slots' ≤ slots + 4608 → GG E bx bm mi' ko' T' M I' H → va_S (fun q => s.heap.size ≤ q) s.heap H locs → W p l e room_1 s m #[Value.ref b] below meth c H locs cells' slots' (lw_Z below #[Value.ref b] s) (F0 m (pc + 3) ls (.int r :: rest))) : W p l e room_1 s m #[Value.ref b] below meth c H locs cells slots (lw_Z below #[Value.ref b] s) (F0 m pc ls (.int a2 :: .int a1 :: .ref bx :: rest)) := by
  obtain ⟨hx, hb, hr, hml, hown, hts, hX0, hbl, hlocks, hgv⟩ := id C0
  have zc : zC p s m #[Value.ref b] meth c cL_law 4 RL ret := ⟨hx, hb, hml, hown, fun w hw => hts w (zb_in hw), hr, hlocks⟩
  obtain ⟨hXS, hMS, hE, hT, hMT⟩ := hG
  obtain ⟨S, V, hI, hX⟩ := id hXS
  refine zVx_i [.int a1, .int a2] rest zc ky_X10_slopes kz_X10_slopes hlk (c_wx_X10_slopes l (post := (fun r pa_heard pa_total pa_longest pa_now pa_then => (∀ j, iv 0 1000 (pa_heard j)) ∧ (∀ j, iv 0 8 (pa_longest j)))) (s_wx_X10_slopes_0 (hT.2 1) (hT.1 3) (hT.1 6) (hT.1 7) (hT.2 2) (hT.2 4) (hT.2 5) (hT.2 6) (hT.1 10) (hT.1 13) (hT.1 14) (hT.2 10) (hT.2 12) (hT.2 13) (hT.2 14) (hI.2 23) (hI.2 26) (fun _ _ _ _ _ _ h0 h1 => ⟨h0, h1⟩))) (wxPreV0 hK hX) hS (fun q (h : wxA bx q) => Nat.le_trans hbx h.1) rfl rfl hls hW ⟨rfl, rfl⟩ ⟨(Nat.le_of_ble_eq_true rfl), (Nat.le_of_ble_eq_true rfl)⟩ ⟨Nat.le_trans (Nat.le_add_right _ _) hcs.1, Nat.le_trans (Nat.le_add_right _ _) hcs.2⟩ hd (fun r u H1 locs1 hw h9 hk hS => ?_)
  obtain ⟨pa_heard, pa_total, pa_longest, pa_now, pa_then⟩ := u
  obtain ⟨n_pa_heard, n_pa_longest⟩ := hw
  exact kk r _ _ _ _ _ _ _ _ ⟨rfl, rfl, rfl⟩ (Nat.le_add_right _ _) (Nat.le_add_right _ _) ⟨XS_of (T := T) h9 (hI.1 0) (hI.1 1) (hI.1 2) (hI.1 3) (hI.1 4) (hI.1 5) (hI.1 6) (hI.2 0) (hI.2 1) (hI.2 2) (hI.2 3) (hI.2 4) (hI.2 5) (hI.2 6) (hI.2 7) (hI.1 7) (hI.2 8) (hI.2 9) (hI.2 10) (hI.1 8) (hI.2 11) (hI.2 12) (hI.2 13) (hI.1 9) (hI.1 10) (hI.2 14) (hI.2 15) (hI.1 11) (hI.1 12) (hI.2 17) (hI.1 13) (hI.1 14) (hI.1 15) (hI.1 16) (hI.1 22) (hI.1 23) (hI.2 18) (hI.2 19) (hI.2 20) (hI.2 22) n_pa_heard (hI.2 24) n_pa_longest (hI.2 27) (hI.2 28) (hI.2 32), MS_kp hMS (fun z h1 h2 h3 => hk z h1 (fun (hA : wxA bx z) => zap hbm h2 hA.2)), lE_kp hE (fun z h1 h2 => hk z h1 (fun (hA : wxA bx z) => zap hbm (Nat.le_trans (Nat.le_add_right _ _) h2) hA.2)), hT, hMT⟩ hS

set_option maxRecDepth 40000 in
set_option maxHeartbeats 4000000 in
theorem gx_state {p : Program} {l : Launch} {e : Env} {s : State} {m : MethodId} {below : List Frame} {meth : Method} {c : Code} {E : zE} {G : zG} {b L bx bm cells slots : Nat} {xs : Nat → Int32} {mi : Nat → Option Nat} {ko : Option Nat} {T : TT} {M : Nat → Nat → Int32} {I : Nat → TT} {H : Heap} {locs : List Loc} {ls : Array Slot} {pc idx : Nat} {a1 a2 a3 a4 : Int32} (rest : List Value) (hcs : cells + 47 ≤ room_1.cells ∧ slots + 4608 ≤ room_1.slots) (C0 : lw_At p s m meth c b L xs) (hbx : s.heap.size ≤ bx) (hbm : bx + 93 ≤ bm) (hK : zK E s) (hO : zO s ∧ zZ G (fun q => s.heap.size ≤ q) s s.heap) (hG : GG E bx bm mi ko T M I H) (hS : va_S (fun q => s.heap.size ≤ q) s.heap H locs) (hls : ls.size = 4) (hW : (rest.map fun v => v.category).sum ≤ 8) (hlk : Cond.methodLink RL idx yX10_state ∈ zb) (hd : decode cL_law pc = .ok (.invokevirtual idx, 3))
    (kk : ∀ (r : Int32) (mi' : Nat → Option Nat) (ko' : Option Nat) (T' : TT) (I' : Nat → TT) (H : Heap) (locs : List Loc) (cells' slots' : Nat), (mi' = mi ∧ T' = T ∧ I' = I) → cells' ≤ cells + 47 → slots' ≤ slots + 4608 → GG E bx bm mi' ko' T' M I' H → va_S (fun q => s.heap.size ≤ q) s.heap H locs → W p l e room_1 s m #[Value.ref b] below meth c H locs cells' slots' (lw_Z below #[Value.ref b] s) (F0 m (pc + 3) ls (.int r :: rest))) : W p l e room_1 s m #[Value.ref b] below meth c H locs cells slots (lw_Z below #[Value.ref b] s) (F0 m pc ls (.int a4 :: .int a3 :: .int a2 :: .int a1 :: .ref bx :: rest)) := by
  obtain ⟨hx, hb, hr, hml, hown, hts, hX0, hbl, hlocks, hgv⟩ := id C0
  have zc : zC p s m #[Value.ref b] meth c cL_law 4 RL ret := ⟨hx, hb, hml, hown, fun w hw => hts w (zb_in hw), hr, hlocks⟩
  obtain ⟨hXS, hMS, hE, hT, hMT⟩ := hG
  obtain ⟨S, V, hI, hX⟩ := id hXS
  refine zVx_i [.int a1, .int a2, .int a3, .int a4] rest zc ky_X10_state kz_X10_state hlk (c_wx_X10_state l (post := (fun r nf_minute nf_avalanches nf_begun nf_climbed na_huts na_known na_levels na_snow na_open => (iv 0 31 nf_begun) ∧ (iv 0 63 nf_climbed) ∧ (∀ j, iv 0 8 (na_huts j)) ∧ (∀ j, iv 0 31 (na_known j)) ∧ (∀ j, iv (-9) 122 (na_levels j)) ∧ (∀ j, iv 0 511 (na_open j)))) (s_wx_X10_state_0 (hT.2 1) (hT.1 3) (hT.1 4) (hT.1 6) (hT.1 7) (hT.1 8) (hT.2 2) (hT.2 3) (hT.2 4) (hT.2 5) (hT.2 6) (hT.2 7) (hT.2 8) (hT.2 9) (hT.1 10) (hT.1 11) (hT.1 13) (hT.1 14) (hT.1 15) (hT.2 10) (hT.2 11) (hT.2 12) (hT.2 13) (hT.2 14) (hT.2 15) (hT.2 16) (hT.2 17) (hT.1 17) (hT.2 18) (hT.2 19) (hT.2 20) (hT.1 18) (hT.2 21) (hT.2 22) (hT.2 23) (hI.1 22) (hI.1 23) (hI.2 18) (hI.2 19) (hI.2 20) (hI.2 22) (fun _ _ _ _ _ _ _ _ _ _ h0 h1 h2 h3 h4 h5 => ⟨h0, h1, h2, h3, h4, h5⟩))) (wxPreV0 hK hX) hS (fun q (h : wxA bx q) => Nat.le_trans hbx h.1) rfl rfl hls hW ⟨rfl, rfl⟩ ⟨(Nat.le_of_ble_eq_true rfl), (Nat.le_of_ble_eq_true rfl)⟩ ⟨Nat.le_trans (Nat.le_add_right _ _) hcs.1, Nat.le_trans (Nat.le_add_right _ _) hcs.2⟩ hd (fun r u H1 locs1 hw h9 hk hS => ?_)
  obtain ⟨nf_minute, nf_avalanches, nf_begun, nf_climbed, na_huts, na_known, na_levels, na_snow, na_open⟩ := u
  obtain ⟨n_nf_begun, n_nf_climbed, n_na_huts, n_na_known, n_na_levels, n_na_open⟩ := hw
  exact kk r _ _ _ _ _ _ _ _ ⟨rfl, rfl, rfl⟩ (Nat.le_add_right _ _) (Nat.le_add_right _ _) ⟨XS_of (T := T) h9 (hI.1 0) (hI.1 1) (hI.1 2) (hI.1 3) (hI.1 4) (hI.1 5) (hI.1 6) (hI.2 0) (hI.2 1) (hI.2 2) (hI.2 3) (hI.2 4) (hI.2 5) (hI.2 6) (hI.2 7) (hI.1 7) (hI.2 8) (hI.2 9) (hI.2 10) (hI.1 8) (hI.2 11) (hI.2 12) (hI.2 13) (hI.1 9) (hI.1 10) (hI.2 14) (hI.2 15) (hI.1 11) (hI.1 12) (hI.2 17) (hI.1 13) (hI.1 14) (hI.1 15) (hI.1 16) n_nf_begun n_nf_climbed n_na_huts n_na_known n_na_levels n_na_open (hI.2 23) (hI.2 24) (hI.2 26) (hI.2 27) (hI.2 28) (hI.2 32), MS_kp hMS (fun z h1 h2 h3 => hk z h1 (fun (hA : wxA bx z) => zap hbm h2 hA.2)), lE_kp hE (fun z h1 h2 => hk z h1 (fun (hA : wxA bx z) => zap hbm (Nat.le_trans (Nat.le_add_right _ _) h2) hA.2)), hT, hMT⟩ hS

set_option maxRecDepth 40000 in
set_option maxHeartbeats 4000000 in
theorem gx_stop {p : Program} {l : Launch} {e : Env} {s : State} {m : MethodId} {below : List Frame} {meth : Method} {c : Code} {E : zE} {G : zG} {b L bx bm cells slots : Nat} {xs : Nat → Int32} {mi : Nat → Option Nat} {ko : Option Nat} {T : TT} {M : Nat → Nat → Int32} {I : Nat → TT} {H : Heap} {locs : List Loc} {ls : Array Slot} {pc idx : Nat} {a1 a2 : Int32} (rest : List Value) (hcs : cells + 47 ≤ room_1.cells ∧ slots + 4608 ≤ room_1.slots) (C0 : lw_At p s m meth c b L xs) (hbx : s.heap.size ≤ bx) (hbm : bx + 93 ≤ bm) (hK : zK E s) (hO : zO s ∧ zZ G (fun q => s.heap.size ≤ q) s s.heap) (hG : GG E bx bm mi ko T M I H) (hS : va_S (fun q => s.heap.size ≤ q) s.heap H locs) (hls : ls.size = 4) (hW : (rest.map fun v => v.category).sum ≤ 8) (hlk : Cond.methodLink RL idx yX10_stop ∈ zb) (hd : decode cL_law pc = .ok (.invokevirtual idx, 3))
    (kk : ∀ (r : Int32) (mi' : Nat → Option Nat) (ko' : Option Nat) (T' : TT) (I' : Nat → TT) (H : Heap) (locs : List Loc) (cells' slots' : Nat), (mi' = mi ∧ T' = T ∧ I' = I) → cells' ≤ cells + 47 → slots' ≤ slots + 4608 → GG E bx bm mi' ko' T' M I' H → va_S (fun q => s.heap.size ≤ q) s.heap H locs → W p l e room_1 s m #[Value.ref b] below meth c H locs cells' slots' (lw_Z below #[Value.ref b] s) (F0 m (pc + 3) ls (.int r :: rest))) : W p l e room_1 s m #[Value.ref b] below meth c H locs cells slots (lw_Z below #[Value.ref b] s) (F0 m pc ls (.int a2 :: .int a1 :: .ref bx :: rest)) := by
  obtain ⟨hx, hb, hr, hml, hown, hts, hX0, hbl, hlocks, hgv⟩ := id C0
  have zc : zC p s m #[Value.ref b] meth c cL_law 4 RL ret := ⟨hx, hb, hml, hown, fun w hw => hts w (zb_in hw), hr, hlocks⟩
  obtain ⟨hXS, hMS, hE, hT, hMT⟩ := hG
  obtain ⟨S, V, hI, hX⟩ := id hXS
  refine zVx_i [.int a1, .int a2] rest zc ky_X10_stop kz_X10_stop hlk (c_wx_X10_stop l (post := (fun r nf_minute nf_avalanches nf_begun nf_climbed na_huts na_known na_levels na_snow => (iv 0 31 nf_begun) ∧ (iv 0 63 nf_climbed) ∧ (∀ j, iv 0 8 (na_huts j)) ∧ (∀ j, iv 0 31 (na_known j)) ∧ (∀ j, iv (-9) 122 (na_levels j)))) (s_wx_X10_stop_0 (hT.2 1) (hT.1 3) (hT.1 4) (hT.1 6) (hT.1 7) (hT.1 8) (hT.2 2) (hT.2 3) (hT.2 4) (hT.2 5) (hT.2 6) (hT.2 7) (hT.2 8) (hT.2 9) (hT.1 10) (hT.1 11) (hT.1 13) (hT.1 14) (hT.1 15) (hT.2 10) (hT.2 11) (hT.2 12) (hT.2 13) (hT.2 14) (hT.2 15) (hT.2 16) (hT.2 17) (hT.1 17) (hT.2 18) (hT.2 19) (hT.2 20) (hT.1 18) (hT.2 21) (hT.2 22) (hT.2 23) (hI.1 22) (hI.1 23) (hI.2 18) (hI.2 19) (hI.2 20) (fun _ _ _ _ _ _ _ _ _ _ h1 h2 h3 h4 h5 => ⟨h1, h2, h3, h4, h5⟩))) (wxPreV0 hK hX) hS (fun q (h : wxA bx q) => Nat.le_trans hbx h.1) rfl rfl hls hW ⟨rfl, rfl⟩ ⟨(Nat.le_of_ble_eq_true rfl), (Nat.le_of_ble_eq_true rfl)⟩ ⟨Nat.le_trans (Nat.le_add_right _ _) hcs.1, Nat.le_trans (Nat.le_add_right _ _) hcs.2⟩ hd (fun r u H1 locs1 hw h9 hk hS => ?_)
  obtain ⟨nf_minute, nf_avalanches, nf_begun, nf_climbed, na_huts, na_known, na_levels, na_snow⟩ := u
  obtain ⟨n_nf_begun, n_nf_climbed, n_na_huts, n_na_known, n_na_levels⟩ := hw
  exact kk r _ _ _ _ _ _ _ _ ⟨rfl, rfl, rfl⟩ (Nat.le_add_right _ _) (Nat.le_add_right _ _) ⟨XS_of (T := T) h9 (hI.1 0) (hI.1 1) (hI.1 2) (hI.1 3) (hI.1 4) (hI.1 5) (hI.1 6) (hI.2 0) (hI.2 1) (hI.2 2) (hI.2 3) (hI.2 4) (hI.2 5) (hI.2 6) (hI.2 7) (hI.1 7) (hI.2 8) (hI.2 9) (hI.2 10) (hI.1 8) (hI.2 11) (hI.2 12) (hI.2 13) (hI.1 9) (hI.1 10) (hI.2 14) (hI.2 15) (hI.1 11) (hI.1 12) (hI.2 17) (hI.1 13) (hI.1 14) (hI.1 15) (hI.1 16) n_nf_begun n_nf_climbed n_na_huts n_na_known n_na_levels (hI.2 22) (hI.2 23) (hI.2 24) (hI.2 26) (hI.2 27) (hI.2 28) (hI.2 32), MS_kp hMS (fun z h1 h2 h3 => hk z h1 (fun (hA : wxA bx z) => zap hbm h2 hA.2)), lE_kp hE (fun z h1 h2 => hk z h1 (fun (hA : wxA bx z) => zap hbm (Nat.le_trans (Nat.le_add_right _ _) h2) hA.2)), hT, hMT⟩ hS
end
section
set_option maxRecDepth 40000 in
set_option maxHeartbeats 4000000 in
theorem gx_teach {p : Program} {l : Launch} {e : Env} {s : State} {m : MethodId} {below : List Frame} {meth : Method} {c : Code} {E : zE} {G : zG} {b L bx bm cells slots : Nat} {xs : Nat → Int32} {mi : Nat → Option Nat} {ko : Option Nat} {T : TT} {M : Nat → Nat → Int32} {I : Nat → TT} {H : Heap} {locs : List Loc} {ls : Array Slot} {pc idx : Nat} {a1 a2 a3 a4 : Int32} (rest : List Value) (hcs : cells + 47 ≤ room_1.cells ∧ slots + 4608 ≤ room_1.slots) (C0 : lw_At p s m meth c b L xs) (hbx : s.heap.size ≤ bx) (hbm : bx + 93 ≤ bm) (hK : zK E s) (hO : zO s ∧ zZ G (fun q => s.heap.size ≤ q) s s.heap) (hG : GG E bx bm mi ko T M I H) (hS : va_S (fun q => s.heap.size ≤ q) s.heap H locs) (hls : ls.size = 4) (hW : (rest.map fun v => v.category).sum ≤ 8) (hlk : Cond.methodLink RL idx yX10_teach ∈ zb) (hd : decode cL_law pc = .ok (.invokevirtual idx, 3))
    (kk : ∀ (r : Int32) (mi' : Nat → Option Nat) (ko' : Option Nat) (T' : TT) (I' : Nat → TT) (H : Heap) (locs : List Loc) (cells' slots' : Nat), (mi' = mi ∧ T' = T ∧ I' = I) → cells' ≤ cells + 47 → slots' ≤ slots + 4608 → GG E bx bm mi' ko' T' M I' H → va_S (fun q => s.heap.size ≤ q) s.heap H locs → W p l e room_1 s m #[Value.ref b] below meth c H locs cells' slots' (lw_Z below #[Value.ref b] s) (F0 m (pc + 3) ls (.int r :: rest))) : W p l e room_1 s m #[Value.ref b] below meth c H locs cells slots (lw_Z below #[Value.ref b] s) (F0 m pc ls (.int a4 :: .int a3 :: .int a2 :: .int a1 :: .ref bx :: rest)) := by
  obtain ⟨hx, hb, hr, hml, hown, hts, hX0, hbl, hlocks, hgv⟩ := id C0
  have zc : zC p s m #[Value.ref b] meth c cL_law 4 RL ret := ⟨hx, hb, hml, hown, fun w hw => hts w (zb_in hw), hr, hlocks⟩
  obtain ⟨hXS, hMS, hE, hT, hMT⟩ := hG
  obtain ⟨S, V, hI, hX⟩ := id hXS
  refine zVx_i [.int a1, .int a2, .int a3, .int a4] rest zc ky_X10_teach kz_X10_teach hlk (c_wx_X10_teach l (post := (fun r nf_minute nf_avalanches nf_begun nf_climbed na_huts na_known na_levels na_snow => (iv 0 31 nf_begun) ∧ (iv 0 63 nf_climbed) ∧ (∀ j, iv 0 8 (na_huts j)) ∧ (∀ j, iv 0 31 (na_known j)) ∧ (∀ j, iv (-9) 122 (na_levels j)))) (s_wx_X10_teach_0 (hT.2 1) (hT.1 3) (hT.1 4) (hT.1 6) (hT.1 7) (hT.1 8) (hT.2 2) (hT.2 3) (hT.2 4) (hT.2 5) (hT.2 6) (hT.2 7) (hT.2 8) (hT.2 9) (hT.1 10) (hT.1 11) (hT.1 13) (hT.1 14) (hT.1 15) (hT.2 10) (hT.2 11) (hT.2 12) (hT.2 13) (hT.2 14) (hT.2 15) (hT.2 16) (hT.2 17) (hT.1 17) (hT.2 18) (hT.2 19) (hT.2 20) (hT.1 18) (hT.2 21) (hT.2 22) (hT.2 23) (hI.1 22) (hI.1 23) (hI.2 18) (hI.2 19) (hI.2 20) (fun _ _ _ _ _ _ _ _ _ _ h1 h2 h3 h4 h5 => ⟨h1, h2, h3, h4, h5⟩))) (wxPreV0 hK hX) hS (fun q (h : wxA bx q) => Nat.le_trans hbx h.1) rfl rfl hls hW ⟨rfl, rfl⟩ ⟨(Nat.le_of_ble_eq_true rfl), (Nat.le_of_ble_eq_true rfl)⟩ ⟨Nat.le_trans (Nat.le_add_right _ _) hcs.1, Nat.le_trans (Nat.le_add_right _ _) hcs.2⟩ hd (fun r u H1 locs1 hw h9 hk hS => ?_)
  obtain ⟨nf_minute, nf_avalanches, nf_begun, nf_climbed, na_huts, na_known, na_levels, na_snow⟩ := u
  obtain ⟨n_nf_begun, n_nf_climbed, n_na_huts, n_na_known, n_na_levels⟩ := hw
  exact kk r _ _ _ _ _ _ _ _ ⟨rfl, rfl, rfl⟩ (Nat.le_add_right _ _) (Nat.le_add_right _ _) ⟨XS_of (T := T) h9 (hI.1 0) (hI.1 1) (hI.1 2) (hI.1 3) (hI.1 4) (hI.1 5) (hI.1 6) (hI.2 0) (hI.2 1) (hI.2 2) (hI.2 3) (hI.2 4) (hI.2 5) (hI.2 6) (hI.2 7) (hI.1 7) (hI.2 8) (hI.2 9) (hI.2 10) (hI.1 8) (hI.2 11) (hI.2 12) (hI.2 13) (hI.1 9) (hI.1 10) (hI.2 14) (hI.2 15) (hI.1 11) (hI.1 12) (hI.2 17) (hI.1 13) (hI.1 14) (hI.1 15) (hI.1 16) n_nf_begun n_nf_climbed n_na_huts n_na_known n_na_levels (hI.2 22) (hI.2 23) (hI.2 24) (hI.2 26) (hI.2 27) (hI.2 28) (hI.2 32), MS_kp hMS (fun z h1 h2 h3 => hk z h1 (fun (hA : wxA bx z) => zap hbm h2 hA.2)), lE_kp hE (fun z h1 h2 => hk z h1 (fun (hA : wxA bx z) => zap hbm (Nat.le_trans (Nat.le_add_right _ _) h2) hA.2)), hT, hMT⟩ hS

set_option maxRecDepth 40000 in
set_option maxHeartbeats 4000000 in
theorem gx_text {p : Program} {l : Launch} {e : Env} {s : State} {m : MethodId} {below : List Frame} {meth : Method} {c : Code} {E : zE} {G : zG} {b L bx bm cells slots : Nat} {xs : Nat → Int32} {mi : Nat → Option Nat} {ko : Option Nat} {T : TT} {M : Nat → Nat → Int32} {I : Nat → TT} {H : Heap} {locs : List Loc} {ls : Array Slot} {pc idx : Nat} {a1 a2 : Int32} (rest : List Value) (hcs : cells + 47 ≤ room_1.cells ∧ slots + 4608 ≤ room_1.slots) (C0 : lw_At p s m meth c b L xs) (hbx : s.heap.size ≤ bx) (hbm : bx + 93 ≤ bm) (hK : zK E s) (hO : zO s ∧ zZ G (fun q => s.heap.size ≤ q) s s.heap) (hG : GG E bx bm mi ko T M I H) (hS : va_S (fun q => s.heap.size ≤ q) s.heap H locs) (hls : ls.size = 4) (hW : (rest.map fun v => v.category).sum ≤ 8) (hlk : Cond.methodLink RL idx yX10_text ∈ zb) (hd : decode cL_law pc = .ok (.invokevirtual idx, 3))
    (kk : ∀ (r : Int32) (mi' : Nat → Option Nat) (ko' : Option Nat) (T' : TT) (I' : Nat → TT) (H : Heap) (locs : List Loc) (cells' slots' : Nat), (mi' = mi ∧ I' = I ∧ xTX T T' a1 a2 r) → cells' ≤ cells + 47 → slots' ≤ slots + 4608 → GG E bx bm mi' ko' T' M I' H → va_S (fun q => s.heap.size ≤ q) s.heap H locs → W p l e room_1 s m #[Value.ref b] below meth c H locs cells' slots' (lw_Z below #[Value.ref b] s) (F0 m (pc + 3) ls (.int r :: rest))) : W p l e room_1 s m #[Value.ref b] below meth c H locs cells slots (lw_Z below #[Value.ref b] s) (F0 m pc ls (.int a2 :: .int a1 :: .ref bx :: rest)) := by
  obtain ⟨hx, hb, hr, hml, hown, hts, hX0, hbl, hlocks, hgv⟩ := id C0
  have zc : zC p s m #[Value.ref b] meth c cL_law 4 RL ret := ⟨hx, hb, hml, hown, fun w hw => hts w (zb_in hw), hr, hlocks⟩
  obtain ⟨hXS, hMS, hE, hT, hMT⟩ := hG
  obtain ⟨S, V, hI, hX⟩ := id hXS
  refine zVx_i [.int a1, .int a2] rest zc ky_X10_text kz_X10_text hlk (c_wx_X10_text l (post := (fun r tf_length tf_fault tf_place ta_counts tl0f_huts tl0f_singers tl0f_villages tl0f_dams tl0f_echoes tl0f_deep tl0f_slide tl0a_heights tl0a_ladders tl0a_minutes tl0a_echoFrom tl0a_echoTo tl0a_homes tl0a_talls tl0a_known tl1f_huts tl1f_singers tl1f_villages tl1f_dams tl1f_echoes tl1f_deep tl1f_slide tl1a_heights tl1a_ladders tl1a_minutes tl1a_echoFrom tl1a_echoTo tl1a_homes tl1a_talls tl1a_known tv0f_deeds tv0a_kinds tv0a_firsts tv0a_seconds tv1f_deeds tv1a_kinds tv1a_firsts tv1a_seconds ts0f_facts ts0a_heard ts0a_huts ts0a_minutes ts1f_facts ts1a_heard ts1a_huts ts1a_minutes tc0f_voices tc0f_step tc0a_parts tc0a_heights tc1f_voices tc1f_step tc1a_parts tc1a_heights rlf_huts rlf_singers rlf_villages rlf_dams rlf_echoes rlf_deep rlf_slide rla_heights rla_ladders rla_minutes rla_echoFrom rla_echoTo rla_homes rla_talls rla_known rvf_deeds rva_kinds rva_firsts rva_seconds rsf_facts rsa_heard rsa_huts rsa_minutes rcf_voices rcf_step rca_parts rca_heights rf_fault rf_faultPlace ra_numbers ra_tape rf_length rf_behind rf_kind rf_first rf_value rf_hutsToldOf rf_singersToldOf => (xTX T (tmk (T.2 0) tf_length tf_fault tf_place ta_counts tl0f_huts tl0f_singers tl0f_villages tl0f_dams tl0f_echoes tl0f_deep tl0f_slide tl0a_heights tl0a_ladders tl0a_minutes tl0a_echoFrom tl0a_echoTo tl0a_homes tl0a_talls tl0a_known tl1f_huts tl1f_singers tl1f_villages tl1f_dams tl1f_echoes tl1f_deep tl1f_slide tl1a_heights tl1a_ladders tl1a_minutes tl1a_echoFrom tl1a_echoTo tl1a_homes tl1a_talls tl1a_known tv0f_deeds tv0a_kinds tv0a_firsts tv0a_seconds tv1f_deeds tv1a_kinds tv1a_firsts tv1a_seconds ts0f_facts ts0a_heard ts0a_huts ts0a_minutes ts1f_facts ts1a_heard ts1a_huts ts1a_minutes tc0f_voices tc0f_step tc0a_parts tc0a_heights tc1f_voices tc1f_step tc1a_parts tc1a_heights) a1 a2 r) ∧ (iv 0 0 tf_length) ∧ (iv 0 4 tf_fault) ∧ (iv (-1) 600 tf_place) ∧ (∀ j, iv 0 2 (ta_counts j)) ∧ (iv 0 9 tl0f_huts) ∧ (iv 0 6 tl0f_singers) ∧ (iv 0 511 tl0f_villages) ∧ (iv 0 511 tl0f_dams) ∧ (iv 0 4 tl0f_echoes) ∧ (iv 1 9 tl0f_deep) ∧ (iv 0 10 tl0f_slide) ∧ (∀ j, iv 0 99 (tl0a_heights j)) ∧ (∀ j, iv 0 9 (tl0a_ladders j)) ∧ (∀ j, iv 0 9 (tl0a_minutes j)) ∧ (∀ j, iv 0 8 (tl0a_echoFrom j)) ∧ (∀ j, iv 0 8 (tl0a_echoTo j)) ∧ (∀ j, iv 0 8 (tl0a_homes j)) ∧ (∀ j, iv 0 9 (tl0a_talls j)) ∧ (∀ j, iv 0 31 (tl0a_known j)) ∧ (iv 0 9 tl1f_huts) ∧ (iv 0 6 tl1f_singers) ∧ (iv 0 511 tl1f_villages) ∧ (iv 0 511 tl1f_dams) ∧ (iv 0 4 tl1f_echoes) ∧ (iv 1 9 tl1f_deep) ∧ (iv 0 10 tl1f_slide) ∧ (∀ j, iv 0 99 (tl1a_heights j)) ∧ (∀ j, iv 0 9 (tl1a_ladders j)) ∧ (∀ j, iv 0 9 (tl1a_minutes j)) ∧ (∀ j, iv 0 8 (tl1a_echoFrom j)) ∧ (∀ j, iv 0 8 (tl1a_echoTo j)) ∧ (∀ j, iv 0 8 (tl1a_homes j)) ∧ (∀ j, iv 0 9 (tl1a_talls j)) ∧ (∀ j, iv 0 31 (tl1a_known j)) ∧ (iv 0 40 tv0f_deeds) ∧ (∀ j, iv 0 5 (tv0a_kinds j)) ∧ (∀ j, iv 0 5 (tv0a_firsts j)) ∧ (∀ j, iv (-1) 8 (tv0a_seconds j)) ∧ (iv 0 40 tv1f_deeds) ∧ (∀ j, iv 0 5 (tv1a_kinds j)) ∧ (∀ j, iv 0 5 (tv1a_firsts j)) ∧ (∀ j, iv (-1) 8 (tv1a_seconds j)) ∧ (iv 0 10 ts0f_facts) ∧ (∀ j, iv 0 1 (ts0a_heard j)) ∧ (∀ j, iv 0 8 (ts0a_huts j)) ∧ (∀ j, iv 0 60 (ts0a_minutes j)) ∧ (iv 0 10 ts1f_facts) ∧ (∀ j, iv 0 1 (ts1a_heard j)) ∧ (∀ j, iv 0 8 (ts1a_huts j)) ∧ (∀ j, iv 0 60 (ts1a_minutes j)) ∧ (iv 0 9 tc0f_voices) ∧ (iv 0 9 tc0f_step) ∧ (∀ j, iv 0 3 (tc0a_parts j)) ∧ (∀ j, iv 0 9 (tc0a_heights j)) ∧ (iv 0 9 tc1f_voices) ∧ (iv 0 9 tc1f_step) ∧ (∀ j, iv 0 3 (tc1a_parts j)) ∧ (∀ j, iv 0 9 (tc1a_heights j)) ∧ (iv 0 9 rlf_huts) ∧ (iv 0 6 rlf_singers) ∧ (iv 0 511 rlf_villages) ∧ (iv 0 511 rlf_dams) ∧ (iv 0 4 rlf_echoes) ∧ (iv 1 9 rlf_deep) ∧ (iv 0 10 rlf_slide) ∧ (∀ j, iv 0 99 (rla_heights j)) ∧ (∀ j, iv 0 9 (rla_ladders j)) ∧ (∀ j, iv 0 9 (rla_minutes j)) ∧ (∀ j, iv 0 8 (rla_echoFrom j)) ∧ (∀ j, iv 0 8 (rla_echoTo j)) ∧ (∀ j, iv 0 8 (rla_homes j)) ∧ (∀ j, iv 0 9 (rla_talls j)) ∧ (∀ j, iv 0 31 (rla_known j)) ∧ (iv 0 40 rvf_deeds) ∧ (∀ j, iv 0 5 (rva_kinds j)) ∧ (∀ j, iv 0 5 (rva_firsts j)) ∧ (∀ j, iv (-1) 8 (rva_seconds j)) ∧ (iv 0 10 rsf_facts) ∧ (∀ j, iv 0 1 (rsa_heard j)) ∧ (∀ j, iv 0 8 (rsa_huts j)) ∧ (∀ j, iv 0 60 (rsa_minutes j)) ∧ (iv 0 9 rcf_voices) ∧ (iv 0 9 rcf_step) ∧ (∀ j, iv 0 3 (rca_parts j)) ∧ (∀ j, iv 0 9 (rca_heights j)) ∧ (iv 0 4 rf_fault) ∧ (iv (-1) 600 rf_faultPlace) ∧ (∀ j, iv (-128) 127 (ra_tape j)) ∧ (iv 0 600 rf_length) ∧ (iv 0 600 rf_behind) ∧ (iv 0 4 rf_kind) ∧ (iv 0 600 rf_first))) (cj_q_wx_X10_text_0 (post_1 := fun r tf_length tf_fault tf_place ta_counts tl0f_huts tl0f_singers tl0f_villages tl0f_dams tl0f_echoes tl0f_deep tl0f_slide tl0a_heights tl0a_ladders tl0a_minutes tl0a_echoFrom tl0a_echoTo tl0a_homes tl0a_talls tl0a_known tl1f_huts tl1f_singers tl1f_villages tl1f_dams tl1f_echoes tl1f_deep tl1f_slide tl1a_heights tl1a_ladders tl1a_minutes tl1a_echoFrom tl1a_echoTo tl1a_homes tl1a_talls tl1a_known tv0f_deeds tv0a_kinds tv0a_firsts tv0a_seconds tv1f_deeds tv1a_kinds tv1a_firsts tv1a_seconds ts0f_facts ts0a_heard ts0a_huts ts0a_minutes ts1f_facts ts1a_heard ts1a_huts ts1a_minutes tc0f_voices tc0f_step tc0a_parts tc0a_heights tc1f_voices tc1f_step tc1a_parts tc1a_heights rlf_huts rlf_singers rlf_villages rlf_dams rlf_echoes rlf_deep rlf_slide rla_heights rla_ladders rla_minutes rla_echoFrom rla_echoTo rla_homes rla_talls rla_known rvf_deeds rva_kinds rva_firsts rva_seconds rsf_facts rsa_heard rsa_huts rsa_minutes rcf_voices rcf_step rca_parts rca_heights rf_fault rf_faultPlace ra_numbers ra_tape rf_length rf_behind rf_kind rf_first rf_value rf_hutsToldOf rf_singersToldOf => xTX T (tmk (T.2 0) tf_length tf_fault tf_place ta_counts tl0f_huts tl0f_singers tl0f_villages tl0f_dams tl0f_echoes tl0f_deep tl0f_slide tl0a_heights tl0a_ladders tl0a_minutes tl0a_echoFrom tl0a_echoTo tl0a_homes tl0a_talls tl0a_known tl1f_huts tl1f_singers tl1f_villages tl1f_dams tl1f_echoes tl1f_deep tl1f_slide tl1a_heights tl1a_ladders tl1a_minutes tl1a_echoFrom tl1a_echoTo tl1a_homes tl1a_talls tl1a_known tv0f_deeds tv0a_kinds tv0a_firsts tv0a_seconds tv1f_deeds tv1a_kinds tv1a_firsts tv1a_seconds ts0f_facts ts0a_heard ts0a_huts ts0a_minutes ts1f_facts ts1a_heard ts1a_huts ts1a_minutes tc0f_voices tc0f_step tc0a_parts tc0a_heights tc1f_voices tc1f_step tc1a_parts tc1a_heights) a1 a2 r) (post_2 := (fun r tf_length tf_fault tf_place ta_counts tl0f_huts tl0f_singers tl0f_villages tl0f_dams tl0f_echoes tl0f_deep tl0f_slide tl0a_heights tl0a_ladders tl0a_minutes tl0a_echoFrom tl0a_echoTo tl0a_homes tl0a_talls tl0a_known tl1f_huts tl1f_singers tl1f_villages tl1f_dams tl1f_echoes tl1f_deep tl1f_slide tl1a_heights tl1a_ladders tl1a_minutes tl1a_echoFrom tl1a_echoTo tl1a_homes tl1a_talls tl1a_known tv0f_deeds tv0a_kinds tv0a_firsts tv0a_seconds tv1f_deeds tv1a_kinds tv1a_firsts tv1a_seconds ts0f_facts ts0a_heard ts0a_huts ts0a_minutes ts1f_facts ts1a_heard ts1a_huts ts1a_minutes tc0f_voices tc0f_step tc0a_parts tc0a_heights tc1f_voices tc1f_step tc1a_parts tc1a_heights rlf_huts rlf_singers rlf_villages rlf_dams rlf_echoes rlf_deep rlf_slide rla_heights rla_ladders rla_minutes rla_echoFrom rla_echoTo rla_homes rla_talls rla_known rvf_deeds rva_kinds rva_firsts rva_seconds rsf_facts rsa_heard rsa_huts rsa_minutes rcf_voices rcf_step rca_parts rca_heights rf_fault rf_faultPlace ra_numbers ra_tape rf_length rf_behind rf_kind rf_first rf_value rf_hutsToldOf rf_singersToldOf => (iv 0 0 tf_length) ∧ (iv 0 4 tf_fault) ∧ (iv (-1) 600 tf_place) ∧ (∀ j, iv 0 2 (ta_counts j)) ∧ (iv 0 9 tl0f_huts) ∧ (iv 0 6 tl0f_singers) ∧ (iv 0 511 tl0f_villages) ∧ (iv 0 511 tl0f_dams) ∧ (iv 0 4 tl0f_echoes) ∧ (iv 1 9 tl0f_deep) ∧ (iv 0 10 tl0f_slide) ∧ (∀ j, iv 0 99 (tl0a_heights j)) ∧ (∀ j, iv 0 9 (tl0a_ladders j)) ∧ (∀ j, iv 0 9 (tl0a_minutes j)) ∧ (∀ j, iv 0 8 (tl0a_echoFrom j)) ∧ (∀ j, iv 0 8 (tl0a_echoTo j)) ∧ (∀ j, iv 0 8 (tl0a_homes j)) ∧ (∀ j, iv 0 9 (tl0a_talls j)) ∧ (∀ j, iv 0 31 (tl0a_known j)) ∧ (iv 0 9 tl1f_huts) ∧ (iv 0 6 tl1f_singers) ∧ (iv 0 511 tl1f_villages) ∧ (iv 0 511 tl1f_dams) ∧ (iv 0 4 tl1f_echoes) ∧ (iv 1 9 tl1f_deep) ∧ (iv 0 10 tl1f_slide) ∧ (∀ j, iv 0 99 (tl1a_heights j)) ∧ (∀ j, iv 0 9 (tl1a_ladders j)) ∧ (∀ j, iv 0 9 (tl1a_minutes j)) ∧ (∀ j, iv 0 8 (tl1a_echoFrom j)) ∧ (∀ j, iv 0 8 (tl1a_echoTo j)) ∧ (∀ j, iv 0 8 (tl1a_homes j)) ∧ (∀ j, iv 0 9 (tl1a_talls j)) ∧ (∀ j, iv 0 31 (tl1a_known j)) ∧ (iv 0 40 tv0f_deeds) ∧ (∀ j, iv 0 5 (tv0a_kinds j)) ∧ (∀ j, iv 0 5 (tv0a_firsts j)) ∧ (∀ j, iv (-1) 8 (tv0a_seconds j)) ∧ (iv 0 40 tv1f_deeds) ∧ (∀ j, iv 0 5 (tv1a_kinds j)) ∧ (∀ j, iv 0 5 (tv1a_firsts j)) ∧ (∀ j, iv (-1) 8 (tv1a_seconds j)) ∧ (iv 0 10 ts0f_facts) ∧ (∀ j, iv 0 1 (ts0a_heard j)) ∧ (∀ j, iv 0 8 (ts0a_huts j)) ∧ (∀ j, iv 0 60 (ts0a_minutes j)) ∧ (iv 0 10 ts1f_facts) ∧ (∀ j, iv 0 1 (ts1a_heard j)) ∧ (∀ j, iv 0 8 (ts1a_huts j)) ∧ (∀ j, iv 0 60 (ts1a_minutes j)) ∧ (iv 0 9 tc0f_voices) ∧ (iv 0 9 tc0f_step) ∧ (∀ j, iv 0 3 (tc0a_parts j)) ∧ (∀ j, iv 0 9 (tc0a_heights j)) ∧ (iv 0 9 tc1f_voices) ∧ (iv 0 9 tc1f_step) ∧ (∀ j, iv 0 3 (tc1a_parts j)) ∧ (∀ j, iv 0 9 (tc1a_heights j)) ∧ (iv 0 9 rlf_huts) ∧ (iv 0 6 rlf_singers) ∧ (iv 0 511 rlf_villages) ∧ (iv 0 511 rlf_dams) ∧ (iv 0 4 rlf_echoes) ∧ (iv 1 9 rlf_deep) ∧ (iv 0 10 rlf_slide) ∧ (∀ j, iv 0 99 (rla_heights j)) ∧ (∀ j, iv 0 9 (rla_ladders j)) ∧ (∀ j, iv 0 9 (rla_minutes j)) ∧ (∀ j, iv 0 8 (rla_echoFrom j)) ∧ (∀ j, iv 0 8 (rla_echoTo j)) ∧ (∀ j, iv 0 8 (rla_homes j)) ∧ (∀ j, iv 0 9 (rla_talls j)) ∧ (∀ j, iv 0 31 (rla_known j)) ∧ (iv 0 40 rvf_deeds) ∧ (∀ j, iv 0 5 (rva_kinds j)) ∧ (∀ j, iv 0 5 (rva_firsts j)) ∧ (∀ j, iv (-1) 8 (rva_seconds j)) ∧ (iv 0 10 rsf_facts) ∧ (∀ j, iv 0 1 (rsa_heard j)) ∧ (∀ j, iv 0 8 (rsa_huts j)) ∧ (∀ j, iv 0 60 (rsa_minutes j)) ∧ (iv 0 9 rcf_voices) ∧ (iv 0 9 rcf_step) ∧ (∀ j, iv 0 3 (rca_parts j)) ∧ (∀ j, iv 0 9 (rca_heights j)) ∧ (iv 0 4 rf_fault) ∧ (iv (-1) 600 rf_faultPlace) ∧ (∀ j, iv (-128) 127 (ra_tape j)) ∧ (iv 0 600 rf_length) ∧ (iv 0 600 rf_behind) ∧ (iv 0 4 rf_kind) ∧ (iv 0 600 rf_first))) (post_3 := (fun r tf_length tf_fault tf_place ta_counts tl0f_huts tl0f_singers tl0f_villages tl0f_dams tl0f_echoes tl0f_deep tl0f_slide tl0a_heights tl0a_ladders tl0a_minutes tl0a_echoFrom tl0a_echoTo tl0a_homes tl0a_talls tl0a_known tl1f_huts tl1f_singers tl1f_villages tl1f_dams tl1f_echoes tl1f_deep tl1f_slide tl1a_heights tl1a_ladders tl1a_minutes tl1a_echoFrom tl1a_echoTo tl1a_homes tl1a_talls tl1a_known tv0f_deeds tv0a_kinds tv0a_firsts tv0a_seconds tv1f_deeds tv1a_kinds tv1a_firsts tv1a_seconds ts0f_facts ts0a_heard ts0a_huts ts0a_minutes ts1f_facts ts1a_heard ts1a_huts ts1a_minutes tc0f_voices tc0f_step tc0a_parts tc0a_heights tc1f_voices tc1f_step tc1a_parts tc1a_heights rlf_huts rlf_singers rlf_villages rlf_dams rlf_echoes rlf_deep rlf_slide rla_heights rla_ladders rla_minutes rla_echoFrom rla_echoTo rla_homes rla_talls rla_known rvf_deeds rva_kinds rva_firsts rva_seconds rsf_facts rsa_heard rsa_huts rsa_minutes rcf_voices rcf_step rca_parts rca_heights rf_fault rf_faultPlace ra_numbers ra_tape rf_length rf_behind rf_kind rf_first rf_value rf_hutsToldOf rf_singersToldOf => (xTX T (tmk (T.2 0) tf_length tf_fault tf_place ta_counts tl0f_huts tl0f_singers tl0f_villages tl0f_dams tl0f_echoes tl0f_deep tl0f_slide tl0a_heights tl0a_ladders tl0a_minutes tl0a_echoFrom tl0a_echoTo tl0a_homes tl0a_talls tl0a_known tl1f_huts tl1f_singers tl1f_villages tl1f_dams tl1f_echoes tl1f_deep tl1f_slide tl1a_heights tl1a_ladders tl1a_minutes tl1a_echoFrom tl1a_echoTo tl1a_homes tl1a_talls tl1a_known tv0f_deeds tv0a_kinds tv0a_firsts tv0a_seconds tv1f_deeds tv1a_kinds tv1a_firsts tv1a_seconds ts0f_facts ts0a_heard ts0a_huts ts0a_minutes ts1f_facts ts1a_heard ts1a_huts ts1a_minutes tc0f_voices tc0f_step tc0a_parts tc0a_heights tc1f_voices tc1f_step tc1a_parts tc1a_heights) a1 a2 r) ∧ (iv 0 0 tf_length) ∧ (iv 0 4 tf_fault) ∧ (iv (-1) 600 tf_place) ∧ (∀ j, iv 0 2 (ta_counts j)) ∧ (iv 0 9 tl0f_huts) ∧ (iv 0 6 tl0f_singers) ∧ (iv 0 511 tl0f_villages) ∧ (iv 0 511 tl0f_dams) ∧ (iv 0 4 tl0f_echoes) ∧ (iv 1 9 tl0f_deep) ∧ (iv 0 10 tl0f_slide) ∧ (∀ j, iv 0 99 (tl0a_heights j)) ∧ (∀ j, iv 0 9 (tl0a_ladders j)) ∧ (∀ j, iv 0 9 (tl0a_minutes j)) ∧ (∀ j, iv 0 8 (tl0a_echoFrom j)) ∧ (∀ j, iv 0 8 (tl0a_echoTo j)) ∧ (∀ j, iv 0 8 (tl0a_homes j)) ∧ (∀ j, iv 0 9 (tl0a_talls j)) ∧ (∀ j, iv 0 31 (tl0a_known j)) ∧ (iv 0 9 tl1f_huts) ∧ (iv 0 6 tl1f_singers) ∧ (iv 0 511 tl1f_villages) ∧ (iv 0 511 tl1f_dams) ∧ (iv 0 4 tl1f_echoes) ∧ (iv 1 9 tl1f_deep) ∧ (iv 0 10 tl1f_slide) ∧ (∀ j, iv 0 99 (tl1a_heights j)) ∧ (∀ j, iv 0 9 (tl1a_ladders j)) ∧ (∀ j, iv 0 9 (tl1a_minutes j)) ∧ (∀ j, iv 0 8 (tl1a_echoFrom j)) ∧ (∀ j, iv 0 8 (tl1a_echoTo j)) ∧ (∀ j, iv 0 8 (tl1a_homes j)) ∧ (∀ j, iv 0 9 (tl1a_talls j)) ∧ (∀ j, iv 0 31 (tl1a_known j)) ∧ (iv 0 40 tv0f_deeds) ∧ (∀ j, iv 0 5 (tv0a_kinds j)) ∧ (∀ j, iv 0 5 (tv0a_firsts j)) ∧ (∀ j, iv (-1) 8 (tv0a_seconds j)) ∧ (iv 0 40 tv1f_deeds) ∧ (∀ j, iv 0 5 (tv1a_kinds j)) ∧ (∀ j, iv 0 5 (tv1a_firsts j)) ∧ (∀ j, iv (-1) 8 (tv1a_seconds j)) ∧ (iv 0 10 ts0f_facts) ∧ (∀ j, iv 0 1 (ts0a_heard j)) ∧ (∀ j, iv 0 8 (ts0a_huts j)) ∧ (∀ j, iv 0 60 (ts0a_minutes j)) ∧ (iv 0 10 ts1f_facts) ∧ (∀ j, iv 0 1 (ts1a_heard j)) ∧ (∀ j, iv 0 8 (ts1a_huts j)) ∧ (∀ j, iv 0 60 (ts1a_minutes j)) ∧ (iv 0 9 tc0f_voices) ∧ (iv 0 9 tc0f_step) ∧ (∀ j, iv 0 3 (tc0a_parts j)) ∧ (∀ j, iv 0 9 (tc0a_heights j)) ∧ (iv 0 9 tc1f_voices) ∧ (iv 0 9 tc1f_step) ∧ (∀ j, iv 0 3 (tc1a_parts j)) ∧ (∀ j, iv 0 9 (tc1a_heights j)) ∧ (iv 0 9 rlf_huts) ∧ (iv 0 6 rlf_singers) ∧ (iv 0 511 rlf_villages) ∧ (iv 0 511 rlf_dams) ∧ (iv 0 4 rlf_echoes) ∧ (iv 1 9 rlf_deep) ∧ (iv 0 10 rlf_slide) ∧ (∀ j, iv 0 99 (rla_heights j)) ∧ (∀ j, iv 0 9 (rla_ladders j)) ∧ (∀ j, iv 0 9 (rla_minutes j)) ∧ (∀ j, iv 0 8 (rla_echoFrom j)) ∧ (∀ j, iv 0 8 (rla_echoTo j)) ∧ (∀ j, iv 0 8 (rla_homes j)) ∧ (∀ j, iv 0 9 (rla_talls j)) ∧ (∀ j, iv 0 31 (rla_known j)) ∧ (iv 0 40 rvf_deeds) ∧ (∀ j, iv 0 5 (rva_kinds j)) ∧ (∀ j, iv 0 5 (rva_firsts j)) ∧ (∀ j, iv (-1) 8 (rva_seconds j)) ∧ (iv 0 10 rsf_facts) ∧ (∀ j, iv 0 1 (rsa_heard j)) ∧ (∀ j, iv 0 8 (rsa_huts j)) ∧ (∀ j, iv 0 60 (rsa_minutes j)) ∧ (iv 0 9 rcf_voices) ∧ (iv 0 9 rcf_step) ∧ (∀ j, iv 0 3 (rca_parts j)) ∧ (∀ j, iv 0 9 (rca_heights j)) ∧ (iv 0 4 rf_fault) ∧ (iv (-1) 600 rf_faultPlace) ∧ (∀ j, iv (-128) 127 (ra_tape j)) ∧ (iv 0 600 rf_length) ∧ (iv 0 600 rf_behind) ∧ (iv 0 4 rf_kind) ∧ (iv 0 600 rf_first))) (fun _ _ _ _ _ _ _ _ _ _ _ _ _ _ _ _ _ _ _ _ _ _ _ _ _ _ _ _ _ _ _ _ _ _ _ _ _ _ _ _ _ _ _ _ _ _ _ _ _ _ _ _ _ _ _ _ _ _ _ _ _ _ _ _ _ _ _ _ _ _ _ _ _ _ _ _ _ _ _ _ _ _ _ _ _ _ _ _ _ _ _ _ _ _ _ _ _ a b => ⟨a, b⟩) (e_x_text (T := T) (hT.1 0) (hT.2 0) (hT.2 1) (fun _ _ _ _ _ _ _ _ _ _ _ _ _ _ _ _ _ _ _ _ _ _ _ _ _ _ _ _ _ _ _ _ _ _ _ _ _ _ _ _ _ _ _ _ _ _ _ _ _ _ _ _ _ _ _ _ _ _ _ _ _ _ _ _ _ _ _ _ _ _ _ _ _ _ _ _ _ _ _ _ _ _ _ _ _ _ _ _ _ _ _ _ _ _ _ _ _ h => h)) (s_wx_X10_text_0 (hT.2 0) (hT.1 0) (hT.1 1) (hT.1 2) (hT.2 1) (hT.1 3) (hT.1 4) (hT.1 5) (hT.1 6) (hT.1 7) (hT.1 8) (hT.1 9) (hT.2 2) (hT.2 3) (hT.2 4) (hT.2 5) (hT.2 6) (hT.2 7) (hT.2 8) (hT.2 9) (hT.1 10) (hT.1 11) (hT.1 12) (hT.1 13) (hT.1 14) (hT.1 15) (hT.1 16) (hT.2 10) (hT.2 11) (hT.2 12) (hT.2 13) (hT.2 14) (hT.2 15) (hT.2 16) (hT.2 17) (hT.1 17) (hT.2 18) (hT.2 19) (hT.2 20) (hT.1 18) (hT.2 21) (hT.2 22) (hT.2 23) (hT.1 19) (hT.2 24) (hT.2 25) (hT.2 26) (hT.1 20) (hT.2 27) (hT.2 28) (hT.2 29) (hT.1 21) (hT.1 22) (hT.2 30) (hT.2 31) (hT.1 23) (hT.1 24) (hT.2 32) (hT.2 33) (hI.1 0) (hI.1 1) (hI.1 2) (hI.1 3) (hI.1 4) (hI.1 5) (hI.1 6) (hI.2 0) (hI.2 1) (hI.2 2) (hI.2 3) (hI.2 4) (hI.2 5) (hI.2 6) (hI.2 7) (hI.1 7) (hI.2 8) (hI.2 9) (hI.2 10) (hI.1 8) (hI.2 11) (hI.2 12) (hI.2 13) (hI.1 9) (hI.1 10) (hI.2 14) (hI.2 15) (hI.1 11) (hI.1 12) (hI.2 17) (hI.1 13) (hI.1 14) (hI.1 15) (hI.1 16) (fun _ _ _ _ _ _ _ _ _ _ _ _ _ _ _ _ _ _ _ _ _ _ _ _ _ _ _ _ _ _ _ _ _ _ _ _ _ _ _ _ _ _ _ _ _ _ _ _ _ _ _ _ _ _ _ _ _ _ _ _ _ _ _ _ _ _ _ _ _ _ _ _ _ _ _ _ _ _ _ _ _ _ _ _ _ _ _ _ _ _ _ _ _ _ _ _ _ _ h1 h2 h3 h4 h5 h6 h7 h8 h9 h10 h11 h12 h13 h14 h15 h16 h17 h18 h19 h20 h21 h22 h23 h24 h25 h26 h27 h28 h29 h30 h31 h32 h33 h34 h35 h36 h37 h38 h39 h40 h41 h42 h43 h44 h45 h46 h47 h48 h49 h50 h51 h52 h53 h54 h55 h56 h57 h58 h59 h60 h61 h62 h63 h64 h65 h66 h67 h68 h69 h70 h71 h72 h73 h74 h75 h76 h77 h78 h79 h80 h81 h82 h83 h84 h85 h86 h87 h88 h89 h90 h91 h92 => ⟨h1, h2, h3, h4, h5, h6, h7, h8, h9, h10, h11, h12, h13, h14, h15, h16, h17, h18, h19, h20, h21, h22, h23, h24, h25, h26, h27, h28, h29, h30, h31, h32, h33, h34, h35, h36, h37, h38, h39, h40, h41, h42, h43, h44, h45, h46, h47, h48, h49, h50, h51, h52, h53, h54, h55, h56, h57, h58, h59, h60, h61, h62, h63, h64, h65, h66, h67, h68, h69, h70, h71, h72, h73, h74, h75, h76, h77, h78, h79, h80, h81, h82, h83, h84, h85, h86, h87, h88, h89, h90, h91, h92⟩)))) (⟨fun _ _ _ _ h => ⟨h.1, ⟨h.2.1.1, zK_calling h.2.1.2⟩, zZ_calling h.2.2⟩, va_recv hK.1 hX (ci := 10) (q0 := 0) rfl rfl, fun U hU hW => ⟨rfl, ⟨by rw [hU]; exact hX, zK_moved hW hK⟩, zZ_use hO.2 hS (fun q (h : wxA bx q) => Nat.le_trans hbx h.1) hU hW⟩⟩) hS (fun q (h : wxA bx q) => Nat.le_trans hbx h.1) rfl rfl hls hW ⟨rfl, rfl⟩ ⟨(Nat.le_of_ble_eq_true rfl), (Nat.le_of_ble_eq_true rfl)⟩ ⟨Nat.le_trans (Nat.le_add_right _ _) hcs.1, Nat.le_trans (Nat.le_add_right _ _) hcs.2⟩ hd (fun r u H1 locs1 hw h9 hk hS => ?_)
  revert u
  refine tu_tt (fun tf_length tf_fault tf_place ta_counts tl0f_huts tl0f_singers tl0f_villages tl0f_dams tl0f_echoes tl0f_deep tl0f_slide tl0a_heights tl0a_ladders tl0a_minutes tl0a_echoFrom tl0a_echoTo tl0a_homes tl0a_talls tl0a_known tl1f_huts tl1f_singers tl1f_villages tl1f_dams tl1f_echoes tl1f_deep tl1f_slide tl1a_heights tl1a_ladders tl1a_minutes tl1a_echoFrom tl1a_echoTo tl1a_homes tl1a_talls tl1a_known tv0f_deeds tv0a_kinds tv0a_firsts tv0a_seconds tv1f_deeds tv1a_kinds tv1a_firsts tv1a_seconds ts0f_facts ts0a_heard ts0a_huts ts0a_minutes ts1f_facts ts1a_heard ts1a_huts ts1a_minutes tc0f_voices tc0f_step tc0a_parts tc0a_heights tc1f_voices tc1f_step tc1a_parts tc1a_heights rlf_huts rlf_singers rlf_villages rlf_dams rlf_echoes rlf_deep rlf_slide rla_heights rla_ladders rla_minutes rla_echoFrom rla_echoTo rla_homes rla_talls rla_known rvf_deeds rva_kinds rva_firsts rva_seconds rsf_facts rsa_heard rsa_huts rsa_minutes rcf_voices rcf_step rca_parts rca_heights rf_fault rf_faultPlace ra_numbers ra_tape rf_length rf_behind rf_kind rf_first rf_value rf_hutsToldOf rf_singersToldOf => ?_)
  intro hw h9
  refine an_tt hw (fun hrel n_tf_length n_tf_fault n_tf_place n_ta_counts n_tl0f_huts n_tl0f_singers n_tl0f_villages n_tl0f_dams n_tl0f_echoes n_tl0f_deep n_tl0f_slide n_tl0a_heights n_tl0a_ladders n_tl0a_minutes n_tl0a_echoFrom n_tl0a_echoTo n_tl0a_homes n_tl0a_talls n_tl0a_known n_tl1f_huts n_tl1f_singers n_tl1f_villages n_tl1f_dams n_tl1f_echoes n_tl1f_deep n_tl1f_slide n_tl1a_heights n_tl1a_ladders n_tl1a_minutes n_tl1a_echoFrom n_tl1a_echoTo n_tl1a_homes n_tl1a_talls n_tl1a_known n_tv0f_deeds n_tv0a_kinds n_tv0a_firsts n_tv0a_seconds n_tv1f_deeds n_tv1a_kinds n_tv1a_firsts n_tv1a_seconds n_ts0f_facts n_ts0a_heard n_ts0a_huts n_ts0a_minutes n_ts1f_facts n_ts1a_heard n_ts1a_huts n_ts1a_minutes n_tc0f_voices n_tc0f_step n_tc0a_parts n_tc0a_heights n_tc1f_voices n_tc1f_step n_tc1a_parts n_tc1a_heights n_rlf_huts n_rlf_singers n_rlf_villages n_rlf_dams n_rlf_echoes n_rlf_deep n_rlf_slide n_rla_heights n_rla_ladders n_rla_minutes n_rla_echoFrom n_rla_echoTo n_rla_homes n_rla_talls n_rla_known n_rvf_deeds n_rva_kinds n_rva_firsts n_rva_seconds n_rsf_facts n_rsa_heard n_rsa_huts n_rsa_minutes n_rcf_voices n_rcf_step n_rca_parts n_rca_heights n_rf_fault n_rf_faultPlace n_ra_tape n_rf_length n_rf_behind n_rf_kind n_rf_first => ?_)
  exact kk r _ _ _ _ _ _ _ _ ⟨rfl, rfl, hrel⟩ (Nat.le_add_right _ _) (Nat.le_add_right _ _) ⟨XS_of2 h9 n_rlf_huts n_rlf_singers n_rlf_villages n_rlf_dams n_rlf_echoes n_rlf_deep n_rlf_slide n_rla_heights n_rla_ladders n_rla_minutes n_rla_echoFrom n_rla_echoTo n_rla_homes n_rla_talls n_rla_known n_rvf_deeds n_rva_kinds n_rva_firsts n_rva_seconds n_rsf_facts n_rsa_heard n_rsa_huts n_rsa_minutes n_rcf_voices n_rcf_step n_rca_parts n_rca_heights n_rf_fault n_rf_faultPlace n_ra_tape n_rf_length n_rf_behind n_rf_kind n_rf_first (hI.1 22) (hI.1 23) (hI.2 18) (hI.2 19) (hI.2 20) (hI.2 22) (hI.2 23) (hI.2 24) (hI.2 26) (hI.2 27) (hI.2 28) (hI.2 32), MS_kp hMS (fun z h1 h2 h3 => hk z h1 (fun (hA : wxA bx z) => zap hbm h2 hA.2)), lE_kp hE (fun z h1 h2 => hk z h1 (fun (hA : wxA bx z) => zap hbm (Nat.le_trans (Nat.le_add_right _ _) h2) hA.2)), tJ_of (hT.2 0) (iv_w n_tf_length (by decide)) n_tf_fault n_tf_place n_ta_counts n_tl0f_huts n_tl0f_singers n_tl0f_villages n_tl0f_dams n_tl0f_echoes n_tl0f_deep n_tl0f_slide n_tl0a_heights n_tl0a_ladders n_tl0a_minutes n_tl0a_echoFrom n_tl0a_echoTo n_tl0a_homes n_tl0a_talls n_tl0a_known n_tl1f_huts n_tl1f_singers n_tl1f_villages n_tl1f_dams n_tl1f_echoes n_tl1f_deep n_tl1f_slide n_tl1a_heights n_tl1a_ladders n_tl1a_minutes n_tl1a_echoFrom n_tl1a_echoTo n_tl1a_homes n_tl1a_talls n_tl1a_known n_tv0f_deeds n_tv0a_kinds n_tv0a_firsts n_tv0a_seconds n_tv1f_deeds n_tv1a_kinds n_tv1a_firsts n_tv1a_seconds n_ts0f_facts n_ts0a_heard n_ts0a_huts n_ts0a_minutes n_ts1f_facts n_ts1a_heard n_ts1a_huts n_ts1a_minutes n_tc0f_voices n_tc0f_step n_tc0a_parts n_tc0a_heights n_tc1f_voices n_tc1f_step n_tc1a_parts n_tc1a_heights, hMT⟩ hS

set_option maxRecDepth 40000 in
set_option maxHeartbeats 4000000 in
theorem gx_trade {p : Program} {l : Launch} {e : Env} {s : State} {m : MethodId} {below : List Frame} {meth : Method} {c : Code} {E : zE} {G : zG} {b L bx bm cells slots : Nat} {xs : Nat → Int32} {mi : Nat → Option Nat} {ko : Option Nat} {T : TT} {M : Nat → Nat → Int32} {I : Nat → TT} {H : Heap} {locs : List Loc} {ls : Array Slot} {pc idx : Nat} {a1 a2 a3 a4 : Int32} (rest : List Value) (hcs : cells + 47 ≤ room_1.cells ∧ slots + 4608 ≤ room_1.slots) (C0 : lw_At p s m meth c b L xs) (hbx : s.heap.size ≤ bx) (hbm : bx + 93 ≤ bm) (hK : zK E s) (hO : zO s ∧ zZ G (fun q => s.heap.size ≤ q) s s.heap) (hG : GG E bx bm mi ko T M I H) (hS : va_S (fun q => s.heap.size ≤ q) s.heap H locs) (hls : ls.size = 4) (hW : (rest.map fun v => v.category).sum ≤ 8) (hlk : Cond.methodLink RL idx yX10_trade ∈ zb) (hd : decode cL_law pc = .ok (.invokevirtual idx, 3))
    (kk : ∀ (r : Int32) (mi' : Nat → Option Nat) (ko' : Option Nat) (T' : TT) (I' : Nat → TT) (H : Heap) (locs : List Loc) (cells' slots' : Nat), (mi' = mi ∧ T' = T ∧ I' = I) → cells' ≤ cells + 47 → slots' ≤ slots + 4608 → GG E bx bm mi' ko' T' M I' H → va_S (fun q => s.heap.size ≤ q) s.heap H locs → W p l e room_1 s m #[Value.ref b] below meth c H locs cells' slots' (lw_Z below #[Value.ref b] s) (F0 m (pc + 3) ls (.int r :: rest))) : W p l e room_1 s m #[Value.ref b] below meth c H locs cells slots (lw_Z below #[Value.ref b] s) (F0 m pc ls (.int a4 :: .int a3 :: .int a2 :: .int a1 :: .ref bx :: rest)) := by
  obtain ⟨hx, hb, hr, hml, hown, hts, hX0, hbl, hlocks, hgv⟩ := id C0
  have zc : zC p s m #[Value.ref b] meth c cL_law 4 RL ret := ⟨hx, hb, hml, hown, fun w hw => hts w (zb_in hw), hr, hlocks⟩
  obtain ⟨hXS, hMS, hE, hT, hMT⟩ := hG
  obtain ⟨S, V, hI, hX⟩ := id hXS
  refine zVx_i [.int a1, .int a2, .int a3, .int a4] rest zc ky_X10_trade kz_X10_trade hlk (c_wx_X10_trade l (post := fun r _ _ => True) (tX (fun _ _ => trivial))) (wxPreV0 hK hX) hS (fun q (h : wxA bx q) => Nat.le_trans hbx h.1) rfl rfl hls hW ⟨rfl, rfl⟩ ⟨(Nat.le_of_ble_eq_true rfl), (Nat.le_of_ble_eq_true rfl)⟩ ⟨Nat.le_trans (Nat.le_add_right _ _) hcs.1, Nat.le_trans (Nat.le_add_right _ _) hcs.2⟩ hd (fun r u H1 locs1 hw h9 hk hS => ?_)
  obtain ⟨ba_less, ba_full⟩ := u
  exact kk r _ _ _ _ _ _ _ _ ⟨rfl, rfl, rfl⟩ (Nat.le_add_right _ _) (Nat.le_add_right _ _) ⟨XS_of (T := T) h9 (hI.1 0) (hI.1 1) (hI.1 2) (hI.1 3) (hI.1 4) (hI.1 5) (hI.1 6) (hI.2 0) (hI.2 1) (hI.2 2) (hI.2 3) (hI.2 4) (hI.2 5) (hI.2 6) (hI.2 7) (hI.1 7) (hI.2 8) (hI.2 9) (hI.2 10) (hI.1 8) (hI.2 11) (hI.2 12) (hI.2 13) (hI.1 9) (hI.1 10) (hI.2 14) (hI.2 15) (hI.1 11) (hI.1 12) (hI.2 17) (hI.1 13) (hI.1 14) (hI.1 15) (hI.1 16) (hI.1 22) (hI.1 23) (hI.2 18) (hI.2 19) (hI.2 20) (hI.2 22) (hI.2 23) (hI.2 24) (hI.2 26) (hI.2 27) (hI.2 28) (hI.2 32), MS_kp hMS (fun z h1 h2 h3 => hk z h1 (fun (hA : wxA bx z) => zap hbm h2 hA.2)), lE_kp hE (fun z h1 h2 => hk z h1 (fun (hA : wxA bx z) => zap hbm (Nat.le_trans (Nat.le_add_right _ _) h2) hA.2)), hT, hMT⟩ hS

set_option maxRecDepth 40000 in
set_option maxHeartbeats 4000000 in
theorem gx_villages {p : Program} {l : Launch} {e : Env} {s : State} {m : MethodId} {below : List Frame} {meth : Method} {c : Code} {E : zE} {G : zG} {b L bx bm cells slots : Nat} {xs : Nat → Int32} {mi : Nat → Option Nat} {ko : Option Nat} {T : TT} {M : Nat → Nat → Int32} {I : Nat → TT} {H : Heap} {locs : List Loc} {ls : Array Slot} {pc idx : Nat} {a1 a2 a3 : Int32} (rest : List Value) (hcs : cells + 47 ≤ room_1.cells ∧ slots + 4608 ≤ room_1.slots) (C0 : lw_At p s m meth c b L xs) (hbx : s.heap.size ≤ bx) (hbm : bx + 93 ≤ bm) (hK : zK E s) (hO : zO s ∧ zZ G (fun q => s.heap.size ≤ q) s s.heap) (hG : GG E bx bm mi ko T M I H) (hS : va_S (fun q => s.heap.size ≤ q) s.heap H locs) (hls : ls.size = 4) (hW : (rest.map fun v => v.category).sum ≤ 8) (hlk : Cond.methodLink RL idx yX10_villages ∈ zb) (hd : decode cL_law pc = .ok (.invokevirtual idx, 3))
    (kk : ∀ (r : Int32) (mi' : Nat → Option Nat) (ko' : Option Nat) (T' : TT) (I' : Nat → TT) (H : Heap) (locs : List Loc) (cells' slots' : Nat), (mi' = mi ∧ T' = T ∧ I' = I) → cells' ≤ cells + 47 → slots' ≤ slots + 4608 → GG E bx bm mi' ko' T' M I' H → va_S (fun q => s.heap.size ≤ q) s.heap H locs → W p l e room_1 s m #[Value.ref b] below meth c H locs cells' slots' (lw_Z below #[Value.ref b] s) (F0 m (pc + 3) ls (.int r :: rest))) : W p l e room_1 s m #[Value.ref b] below meth c H locs cells slots (lw_Z below #[Value.ref b] s) (F0 m pc ls (.int a3 :: .int a2 :: .int a1 :: .ref bx :: rest)) := by
  obtain ⟨hx, hb, hr, hml, hown, hts, hX0, hbl, hlocks, hgv⟩ := id C0
  have zc : zC p s m #[Value.ref b] meth c cL_law 4 RL ret := ⟨hx, hb, hml, hown, fun w hw => hts w (zb_in hw), hr, hlocks⟩
  obtain ⟨hXS, hMS, hE, hT, hMT⟩ := hG
  obtain ⟨S, V, hI, hX⟩ := id hXS
  refine zVx_i [.int a1, .int a2, .int a3] rest zc ky_X10_villages kz_X10_villages hlk (c_wx_X10_villages l (post := (fun r pa_heard pa_cover => (∀ j, iv 0 1000 (pa_heard j)) ∧ (∀ j, iv 0 511 (pa_cover j)))) (s_wx_X10_villages_0 (hT.2 1) (hT.1 3) (hT.1 5) (hT.1 6) (hT.1 7) (hT.2 2) (hT.2 4) (hT.2 5) (hT.2 6) (hT.1 10) (hT.1 12) (hT.1 13) (hT.1 14) (hT.2 10) (hT.2 12) (hT.2 13) (hT.2 14) (hI.2 23) (hI.2 28) (fun _ _ _ _ h1 h2 => ⟨h1, h2⟩))) (wxPreV0 hK hX) hS (fun q (h : wxA bx q) => Nat.le_trans hbx h.1) rfl rfl hls hW ⟨rfl, rfl⟩ ⟨(Nat.le_of_ble_eq_true rfl), (Nat.le_of_ble_eq_true rfl)⟩ ⟨Nat.le_trans (Nat.le_add_right _ _) hcs.1, Nat.le_trans (Nat.le_add_right _ _) hcs.2⟩ hd (fun r u H1 locs1 hw h9 hk hS => ?_)
  obtain ⟨pa_heard, pa_cover⟩ := u
  obtain ⟨n_pa_heard, n_pa_cover⟩ := hw
  exact kk r _ _ _ _ _ _ _ _ ⟨rfl, rfl, rfl⟩ (Nat.le_add_right _ _) (Nat.le_add_right _ _) ⟨XS_of (T := T) h9 (hI.1 0) (hI.1 1) (hI.1 2) (hI.1 3) (hI.1 4) (hI.1 5) (hI.1 6) (hI.2 0) (hI.2 1) (hI.2 2) (hI.2 3) (hI.2 4) (hI.2 5) (hI.2 6) (hI.2 7) (hI.1 7) (hI.2 8) (hI.2 9) (hI.2 10) (hI.1 8) (hI.2 11) (hI.2 12) (hI.2 13) (hI.1 9) (hI.1 10) (hI.2 14) (hI.2 15) (hI.1 11) (hI.1 12) (hI.2 17) (hI.1 13) (hI.1 14) (hI.1 15) (hI.1 16) (hI.1 22) (hI.1 23) (hI.2 18) (hI.2 19) (hI.2 20) (hI.2 22) n_pa_heard (hI.2 24) (hI.2 26) (hI.2 27) n_pa_cover (hI.2 32), MS_kp hMS (fun z h1 h2 h3 => hk z h1 (fun (hA : wxA bx z) => zap hbm h2 hA.2)), lE_kp hE (fun z h1 h2 => hk z h1 (fun (hA : wxA bx z) => zap hbm (Nat.le_trans (Nat.le_add_right _ _) h2) hA.2)), hT, hMT⟩ hS

set_option maxRecDepth 40000 in
set_option maxHeartbeats 4000000 in
theorem gx_choir {p : Program} {l : Launch} {e : Env} {s : State} {m : MethodId} {below : List Frame} {meth : Method} {c : Code} {E : zE} {G : zG} {b L bx bm cells slots : Nat} {xs : Nat → Int32} {mi : Nat → Option Nat} {ko : Option Nat} {T : TT} {M : Nat → Nat → Int32} {I : Nat → TT} {H : Heap} {locs : List Loc} {ls : Array Slot} {pc idx : Nat} {a1 a2 : Int32} (rest : List Value) (hcs : cells + 47 ≤ room_1.cells ∧ slots + 4608 ≤ room_1.slots) (C0 : lw_At p s m meth c b L xs) (hbx : s.heap.size ≤ bx) (hbm : bx + 93 ≤ bm) (hK : zK E s) (hO : zO s ∧ zZ G (fun q => s.heap.size ≤ q) s s.heap) (hG : GG E bx bm mi ko T M I H) (hS : va_S (fun q => s.heap.size ≤ q) s.heap H locs) (hls : ls.size = 4) (hW : (rest.map fun v => v.category).sum ≤ 8) (hlk : Cond.methodLink RL idx yX10_choir ∈ zb) (hd : decode cL_law pc = .ok (.invokevirtual idx, 3))
    (kk : ∀ (r : Int32) (mi' : Nat → Option Nat) (ko' : Option Nat) (T' : TT) (I' : Nat → TT) (H : Heap) (locs : List Loc) (cells' slots' : Nat), (mi' = mi ∧ T' = T ∧ I' = I) → cells' ≤ cells + 47 → slots' ≤ slots + 4608 → GG E bx bm mi' ko' T' M I' H → va_S (fun q => s.heap.size ≤ q) s.heap H locs → W p l e room_1 s m #[Value.ref b] below meth c H locs cells' slots' (lw_Z below #[Value.ref b] s) (F0 m (pc + 3) ls (.int r :: rest))) : W p l e room_1 s m #[Value.ref b] below meth c H locs cells slots (lw_Z below #[Value.ref b] s) (F0 m pc ls (.int a2 :: .int a1 :: .ref bx :: rest)) := by
  obtain ⟨hx, hb, hr, hml, hown, hts, hX0, hbl, hlocks, hgv⟩ := id C0
  have zc : zC p s m #[Value.ref b] meth c cL_law 4 RL ret := ⟨hx, hb, hml, hown, fun w hw => hts w (zb_in hw), hr, hlocks⟩
  have hlo : bx + 93 ≤ bm + 29 := Nat.le_trans hbm (Nat.le_add_right _ _)
  obtain ⟨hXS, hMS, hE, hT, hMT⟩ := hG
  have hloH := MS_lt hMS
  obtain ⟨S, V, hI, hX⟩ := id hXS
  cases ko with
  | none =>
    refine zVa_i [.int a1, .int a2] rest zc ky_X10_choir kz_X10_choir hlk (c0_choir (h := H.size) l (hT.2 1) (hT.1 21) (hT.1 22) (hT.2 30) (hT.2 31) (hT.1 23) (hT.1 24) (hT.2 32) (hT.2 33) (hI.2 32)) (x0PreV ⟨rfl, Nat.le_trans hlo hloH⟩ hX hK) hS (fun q hq => by have := hS.1; unfold zImA zR at hq; omega) rfl rfl hls hW ⟨rfl, rfl⟩ ⟨(Nat.le_of_ble_eq_true rfl), (Nat.le_of_ble_eq_true rfl)⟩ ⟨Nat.le_trans (Nat.add_le_add_left (by decide) _) hcs.1, hcs.2⟩ hd (fun r _ H1 locs1 hrel hB hsz hk hS => ?_)
    obtain ⟨o, ka_gaps, ka_behind, hX1, hbh, ho⟩ := hB
    exact kk r _ _ _ _ _ _ _ _ ⟨rfl, rfl, rfl⟩ (Nat.add_le_add_left (by decide) _) (Nat.le_refl _) ⟨XS_of (T := T) hX1 (hI.1 0) (hI.1 1) (hI.1 2) (hI.1 3) (hI.1 4) (hI.1 5) (hI.1 6) (hI.2 0) (hI.2 1) (hI.2 2) (hI.2 3) (hI.2 4) (hI.2 5) (hI.2 6) (hI.2 7) (hI.1 7) (hI.2 8) (hI.2 9) (hI.2 10) (hI.1 8) (hI.2 11) (hI.2 12) (hI.2 13) (hI.1 9) (hI.1 10) (hI.2 14) (hI.2 15) (hI.1 11) (hI.1 12) (hI.2 17) (hI.1 13) (hI.1 14) (hI.1 15) (hI.1 16) (hI.1 22) (hI.1 23) (hI.2 18) (hI.2 19) (hI.2 20) (hI.2 22) (hI.2 23) (hI.2 24) (hI.2 26) (hI.2 27) (hI.2 28) hbh, MS_kp hMS (fun z h1 h2 h3 => hk z h1 (fun hA => by unfold zImA zR at hA; omega)), lE_tab hE hlo hloH hk ho, hT, hMT⟩ hS
  | some t =>
    obtain ⟨hlt, z, hTb⟩ := hE.2.2.1 t rfl
    have hXt := x0_wxt hX hTb (Nat.le_trans hlo hlt) (Nat.le_refl t)
    refine zVx_i [.int a1, .int a2] rest zc ky_X10_choir kz_X10_choir hlk (c_wxt_X10_choir l (post := (fun r ka_gaps ka_behind z_tab => (∀ j, iv 0 511 (ka_behind j)))) (s_wxt_X10_choir_0 (hT.2 1) (hT.1 21) (hT.1 22) (hT.2 30) (hT.2 31) (hT.1 23) (hT.1 24) (hT.2 32) (hT.2 33) (hI.2 32) (fun _ _ _ _ h0 => h0))) (wxtPreV0 hK hXt) hS (fun q hq => by unfold wxtA at hq; omega) rfl rfl hls hW ⟨rfl, rfl⟩ ⟨(Nat.le_of_ble_eq_true rfl), (Nat.le_of_ble_eq_true rfl)⟩ ⟨Nat.le_trans (Nat.le_add_right _ _) hcs.1, Nat.le_trans (Nat.le_add_right _ _) hcs.2⟩ hd (fun r u H1 locs1 hbh h9 hk hS => ?_)
    obtain ⟨ka_gaps, ka_behind, z_tab⟩ := u
    have hs := x0_split h9
    exact kk r _ _ _ _ _ _ _ _ ⟨rfl, rfl, rfl⟩ (Nat.le_add_right _ _) (Nat.le_add_right _ _) ⟨XS_of (T := T) hs.1 (hI.1 0) (hI.1 1) (hI.1 2) (hI.1 3) (hI.1 4) (hI.1 5) (hI.1 6) (hI.2 0) (hI.2 1) (hI.2 2) (hI.2 3) (hI.2 4) (hI.2 5) (hI.2 6) (hI.2 7) (hI.1 7) (hI.2 8) (hI.2 9) (hI.2 10) (hI.1 8) (hI.2 11) (hI.2 12) (hI.2 13) (hI.1 9) (hI.1 10) (hI.2 14) (hI.2 15) (hI.1 11) (hI.1 12) (hI.2 17) (hI.1 13) (hI.1 14) (hI.1 15) (hI.1 16) (hI.1 22) (hI.1 23) (hI.2 18) (hI.2 19) (hI.2 20) (hI.2 22) (hI.2 23) (hI.2 24) (hI.2 26) (hI.2 27) (hI.2 28) hbh, MS_kp hMS (fun z h1 h2 h3 => hk z h1 (fun hA => by unfold wxtA at hA; omega)), lE_tab2 hE hlo hk hs.2, hT, hMT⟩ hS

set_option maxRecDepth 40000 in
set_option maxHeartbeats 4000000 in
theorem gx_orders {p : Program} {l : Launch} {e : Env} {s : State} {m : MethodId} {below : List Frame} {meth : Method} {c : Code} {E : zE} {G : zG} {b L bx bm cells slots : Nat} {xs : Nat → Int32} {mi : Nat → Option Nat} {ko : Option Nat} {T : TT} {M : Nat → Nat → Int32} {I : Nat → TT} {H : Heap} {locs : List Loc} {ls : Array Slot} {pc idx : Nat} {a1 : Int32} (rest : List Value) (hcs : cells + 47 ≤ room_1.cells ∧ slots + 4608 ≤ room_1.slots) (C0 : lw_At p s m meth c b L xs) (hbx : s.heap.size ≤ bx) (hbm : bx + 93 ≤ bm) (hK : zK E s) (hO : zO s ∧ zZ G (fun q => s.heap.size ≤ q) s s.heap) (hG : GG E bx bm mi ko T M I H) (hS : va_S (fun q => s.heap.size ≤ q) s.heap H locs) (hls : ls.size = 4) (hW : (rest.map fun v => v.category).sum ≤ 8) (hlk : Cond.methodLink RL idx yX10_orders ∈ zb) (hd : decode cL_law pc = .ok (.invokevirtual idx, 3))
    (kk : ∀ (r : Int64) (mi' : Nat → Option Nat) (ko' : Option Nat) (T' : TT) (I' : Nat → TT) (H : Heap) (locs : List Loc) (cells' slots' : Nat), (mi' = mi ∧ T' = T ∧ I' = I) → cells' ≤ cells + 47 → slots' ≤ slots + 4608 → GG E bx bm mi' ko' T' M I' H → va_S (fun q => s.heap.size ≤ q) s.heap H locs → W p l e room_1 s m #[Value.ref b] below meth c H locs cells' slots' (lw_Z below #[Value.ref b] s) (F0 m (pc + 3) ls (.long r :: rest))) : W p l e room_1 s m #[Value.ref b] below meth c H locs cells slots (lw_Z below #[Value.ref b] s) (F0 m pc ls (.int a1 :: .ref bx :: rest)) := by
  obtain ⟨hx, hb, hr, hml, hown, hts, hX0, hbl, hlocks, hgv⟩ := id C0
  have zc : zC p s m #[Value.ref b] meth c cL_law 4 RL ret := ⟨hx, hb, hml, hown, fun w hw => hts w (zb_in hw), hr, hlocks⟩
  have hlo : bx + 93 ≤ bm + 29 := Nat.le_trans hbm (Nat.le_add_right _ _)
  obtain ⟨hXS, hMS, hE, hT, hMT⟩ := hG
  have hloH := MS_lt hMS
  obtain ⟨S, V, hI, hX⟩ := id hXS
  cases ko with
  | none =>
    refine zVa_l [.int a1] rest zc ky_X10_orders kz_X10_orders hlk (c0_orders (h := H.size) l (hT.2 1) (hT.1 21) (hT.1 22) (hT.2 30) (hT.2 31) (hT.1 23) (hT.1 24) (hT.2 32) (hT.2 33) (hI.2 32)) (x0PreV ⟨rfl, Nat.le_trans hlo hloH⟩ hX hK) hS (fun q hq => by have := hS.1; unfold zImA zR at hq; omega) rfl rfl hls hW ⟨rfl, rfl⟩ ⟨(Nat.le_of_ble_eq_true rfl), (Nat.le_of_ble_eq_true rfl)⟩ ⟨Nat.le_trans (Nat.add_le_add_left (by decide) _) hcs.1, hcs.2⟩ hd (fun r _ H1 locs1 hrel hB hsz hk hS => ?_)
    obtain ⟨o, ka_gaps, ka_behind, hX1, hbh, ho⟩ := hB
    exact kk r _ _ _ _ _ _ _ _ ⟨rfl, rfl, rfl⟩ (Nat.add_le_add_left (by decide) _) (Nat.le_refl _) ⟨XS_of (T := T) hX1 (hI.1 0) (hI.1 1) (hI.1 2) (hI.1 3) (hI.1 4) (hI.1 5) (hI.1 6) (hI.2 0) (hI.2 1) (hI.2 2) (hI.2 3) (hI.2 4) (hI.2 5) (hI.2 6) (hI.2 7) (hI.1 7) (hI.2 8) (hI.2 9) (hI.2 10) (hI.1 8) (hI.2 11) (hI.2 12) (hI.2 13) (hI.1 9) (hI.1 10) (hI.2 14) (hI.2 15) (hI.1 11) (hI.1 12) (hI.2 17) (hI.1 13) (hI.1 14) (hI.1 15) (hI.1 16) (hI.1 22) (hI.1 23) (hI.2 18) (hI.2 19) (hI.2 20) (hI.2 22) (hI.2 23) (hI.2 24) (hI.2 26) (hI.2 27) (hI.2 28) hbh, MS_kp hMS (fun z h1 h2 h3 => hk z h1 (fun hA => by unfold zImA zR at hA; omega)), lE_tab hE hlo hloH hk ho, hT, hMT⟩ hS
  | some t =>
    obtain ⟨hlt, z, hTb⟩ := hE.2.2.1 t rfl
    have hXt := x0_wxt hX hTb (Nat.le_trans hlo hlt) (Nat.le_refl t)
    refine zVx_l [.int a1] rest zc ky_X10_orders kz_X10_orders hlk (c_wxt_X10_orders l (post := (fun r ka_gaps ka_behind z_tab => (∀ j, iv 0 511 (ka_behind j)))) (s_wxt_X10_orders_0 (hT.2 1) (hT.1 21) (hT.1 22) (hT.2 30) (hT.2 31) (hT.1 23) (hT.1 24) (hT.2 32) (hT.2 33) (hI.2 32) (fun _ _ _ _ h0 => h0))) (wxtPreV0 hK hXt) hS (fun q hq => by unfold wxtA at hq; omega) rfl rfl hls hW ⟨rfl, rfl⟩ ⟨(Nat.le_of_ble_eq_true rfl), (Nat.le_of_ble_eq_true rfl)⟩ ⟨Nat.le_trans (Nat.le_add_right _ _) hcs.1, Nat.le_trans (Nat.le_add_right _ _) hcs.2⟩ hd (fun r u H1 locs1 hbh h9 hk hS => ?_)
    obtain ⟨ka_gaps, ka_behind, z_tab⟩ := u
    have hs := x0_split h9
    exact kk r _ _ _ _ _ _ _ _ ⟨rfl, rfl, rfl⟩ (Nat.le_add_right _ _) (Nat.le_add_right _ _) ⟨XS_of (T := T) hs.1 (hI.1 0) (hI.1 1) (hI.1 2) (hI.1 3) (hI.1 4) (hI.1 5) (hI.1 6) (hI.2 0) (hI.2 1) (hI.2 2) (hI.2 3) (hI.2 4) (hI.2 5) (hI.2 6) (hI.2 7) (hI.1 7) (hI.2 8) (hI.2 9) (hI.2 10) (hI.1 8) (hI.2 11) (hI.2 12) (hI.2 13) (hI.1 9) (hI.1 10) (hI.2 14) (hI.2 15) (hI.1 11) (hI.1 12) (hI.2 17) (hI.1 13) (hI.1 14) (hI.1 15) (hI.1 16) (hI.1 22) (hI.1 23) (hI.2 18) (hI.2 19) (hI.2 20) (hI.2 22) (hI.2 23) (hI.2 24) (hI.2 26) (hI.2 27) (hI.2 28) hbh, MS_kp hMS (fun z h1 h2 h3 => hk z h1 (fun hA => by unfold wxtA at hA; omega)), lE_tab2 hE hlo hk hs.2, hT, hMT⟩ hS
end
section
set_option maxRecDepth 40000 in
set_option maxHeartbeats 4000000 in
theorem gx_order {p : Program} {l : Launch} {e : Env} {s : State} {m : MethodId} {below : List Frame} {meth : Method} {c : Code} {E : zE} {G : zG} {b L bx bm cells slots : Nat} {xs : Nat → Int32} {mi : Nat → Option Nat} {ko : Option Nat} {T : TT} {M : Nat → Nat → Int32} {I : Nat → TT} {H : Heap} {locs : List Loc} {ls : Array Slot} {pc idx : Nat} {a1 a2 : Int32} (rest : List Value) (hcs : cells + 47 ≤ room_1.cells ∧ slots + 4608 ≤ room_1.slots) (C0 : lw_At p s m meth c b L xs) (hbx : s.heap.size ≤ bx) (hbm : bx + 93 ≤ bm) (hK : zK E s) (hO : zO s ∧ zZ G (fun q => s.heap.size ≤ q) s s.heap) (hG : GG E bx bm mi ko T M I H) (hS : va_S (fun q => s.heap.size ≤ q) s.heap H locs) (hls : ls.size = 4) (hW : (rest.map fun v => v.category).sum ≤ 8) (hlk : Cond.methodLink RL idx yX10_order ∈ zb) (hd : decode cL_law pc = .ok (.invokevirtual idx, 3))
    (kk : ∀ (r : Int32) (mi' : Nat → Option Nat) (ko' : Option Nat) (T' : TT) (I' : Nat → TT) (H : Heap) (locs : List Loc) (cells' slots' : Nat), (mi' = mi ∧ T' = T ∧ I' = I) → cells' ≤ cells + 47 → slots' ≤ slots + 4608 → GG E bx bm mi' ko' T' M I' H → va_S (fun q => s.heap.size ≤ q) s.heap H locs → W p l e room_1 s m #[Value.ref b] below meth c H locs cells' slots' (lw_Z below #[Value.ref b] s) (F0 m (pc + 3) ls (.int r :: rest))) : W p l e room_1 s m #[Value.ref b] below meth c H locs cells slots (lw_Z below #[Value.ref b] s) (F0 m pc ls (.int a2 :: .int a1 :: .ref bx :: rest)) := by
  obtain ⟨hx, hb, hr, hml, hown, hts, hX0, hbl, hlocks, hgv⟩ := id C0
  have zc : zC p s m #[Value.ref b] meth c cL_law 4 RL ret := ⟨hx, hb, hml, hown, fun w hw => hts w (zb_in hw), hr, hlocks⟩
  have hlo : bx + 93 ≤ bm + 29 := Nat.le_trans hbm (Nat.le_add_right _ _)
  obtain ⟨hXS, hMS, hE, hT, hMT⟩ := hG
  have hloH := MS_lt hMS
  obtain ⟨S, V, hI, hX⟩ := id hXS
  cases ko with
  | none =>
    refine zVa_i [.int a1, .int a2] rest zc ky_X10_order kz_X10_order hlk (c0_order (h := H.size) l (hT.2 1) (hT.1 21) (hT.1 22) (hT.2 30) (hT.2 31) (hT.1 23) (hT.1 24) (hT.2 32) (hT.2 33) (hI.2 32)) (x0PreV ⟨rfl, Nat.le_trans hlo hloH⟩ hX hK) hS (fun q hq => by have := hS.1; unfold zImA zR at hq; omega) rfl rfl hls hW ⟨rfl, rfl⟩ ⟨(Nat.le_of_ble_eq_true rfl), (Nat.le_of_ble_eq_true rfl)⟩ ⟨Nat.le_trans (Nat.add_le_add_left (by decide) _) hcs.1, hcs.2⟩ hd (fun r _ H1 locs1 hrel hB hsz hk hS => ?_)
    obtain ⟨o, ka_gaps, ka_behind, hX1, hbh, ho⟩ := hB
    exact kk r _ _ _ _ _ _ _ _ ⟨rfl, rfl, rfl⟩ (Nat.add_le_add_left (by decide) _) (Nat.le_refl _) ⟨XS_of (T := T) hX1 (hI.1 0) (hI.1 1) (hI.1 2) (hI.1 3) (hI.1 4) (hI.1 5) (hI.1 6) (hI.2 0) (hI.2 1) (hI.2 2) (hI.2 3) (hI.2 4) (hI.2 5) (hI.2 6) (hI.2 7) (hI.1 7) (hI.2 8) (hI.2 9) (hI.2 10) (hI.1 8) (hI.2 11) (hI.2 12) (hI.2 13) (hI.1 9) (hI.1 10) (hI.2 14) (hI.2 15) (hI.1 11) (hI.1 12) (hI.2 17) (hI.1 13) (hI.1 14) (hI.1 15) (hI.1 16) (hI.1 22) (hI.1 23) (hI.2 18) (hI.2 19) (hI.2 20) (hI.2 22) (hI.2 23) (hI.2 24) (hI.2 26) (hI.2 27) (hI.2 28) hbh, MS_kp hMS (fun z h1 h2 h3 => hk z h1 (fun hA => by unfold zImA zR at hA; omega)), lE_tab hE hlo hloH hk ho, hT, hMT⟩ hS
  | some t =>
    obtain ⟨hlt, z, hTb⟩ := hE.2.2.1 t rfl
    have hXt := x0_wxt hX hTb (Nat.le_trans hlo hlt) (Nat.le_refl t)
    refine zVx_i [.int a1, .int a2] rest zc ky_X10_order kz_X10_order hlk (c_wxt_X10_order l (post := (fun r ka_gaps ka_behind z_tab => (∀ j, iv 0 511 (ka_behind j)))) (s_wxt_X10_order_0 (hT.2 1) (hT.1 21) (hT.1 22) (hT.2 30) (hT.2 31) (hT.1 23) (hT.1 24) (hT.2 32) (hT.2 33) (hI.2 32) (fun _ _ _ _ _ h1 => h1))) (wxtPreV0 hK hXt) hS (fun q hq => by unfold wxtA at hq; omega) rfl rfl hls hW ⟨rfl, rfl⟩ ⟨(Nat.le_of_ble_eq_true rfl), (Nat.le_of_ble_eq_true rfl)⟩ ⟨Nat.le_trans (Nat.le_add_right _ _) hcs.1, Nat.le_trans (Nat.le_add_right _ _) hcs.2⟩ hd (fun r u H1 locs1 hbh h9 hk hS => ?_)
    obtain ⟨ka_gaps, ka_behind, z_tab⟩ := u
    have hs := x0_split h9
    exact kk r _ _ _ _ _ _ _ _ ⟨rfl, rfl, rfl⟩ (Nat.le_add_right _ _) (Nat.le_add_right _ _) ⟨XS_of (T := T) hs.1 (hI.1 0) (hI.1 1) (hI.1 2) (hI.1 3) (hI.1 4) (hI.1 5) (hI.1 6) (hI.2 0) (hI.2 1) (hI.2 2) (hI.2 3) (hI.2 4) (hI.2 5) (hI.2 6) (hI.2 7) (hI.1 7) (hI.2 8) (hI.2 9) (hI.2 10) (hI.1 8) (hI.2 11) (hI.2 12) (hI.2 13) (hI.1 9) (hI.1 10) (hI.2 14) (hI.2 15) (hI.1 11) (hI.1 12) (hI.2 17) (hI.1 13) (hI.1 14) (hI.1 15) (hI.1 16) (hI.1 22) (hI.1 23) (hI.2 18) (hI.2 19) (hI.2 20) (hI.2 22) (hI.2 23) (hI.2 24) (hI.2 26) (hI.2 27) (hI.2 28) hbh, MS_kp hMS (fun z h1 h2 h3 => hk z h1 (fun hA => by unfold wxtA at hA; omega)), lE_tab2 hE hlo hk hs.2, hT, hMT⟩ hS

set_option maxRecDepth 40000 in
set_option maxHeartbeats 4000000 in
theorem gx_image {p : Program} {l : Launch} {e : Env} {s : State} {m : MethodId} {below : List Frame} {meth : Method} {c : Code} {E : zE} {G : zG} {b L bx bm cells slots : Nat} {xs : Nat → Int32} {mi : Nat → Option Nat} {ko : Option Nat} {T : TT} {M : Nat → Nat → Int32} {I : Nat → TT} {H : Heap} {locs : List Loc} {ls : Array Slot} {pc idx : Nat} {a1 : Int32} (rest : List Value) (hcs : cells + 47 ≤ room_1.cells ∧ slots + 4608 ≤ room_1.slots) (C0 : lw_At p s m meth c b L xs) (hbx : s.heap.size ≤ bx) (hbm : bx + 93 ≤ bm) (hK : zK E s) (hO : zO s ∧ zZ G (fun q => s.heap.size ≤ q) s s.heap) (hG : GG E bx bm mi ko T M I H) (hS : va_S (fun q => s.heap.size ≤ q) s.heap H locs) (hls : ls.size = 4) (hW : (rest.map fun v => v.category).sum ≤ 8) (hlk : Cond.methodLink RL idx yX10_image ∈ zb) (hd : decode cL_law pc = .ok (.invokevirtual idx, 3))
    (kk : ∀ (r : Int32) (mi' : Nat → Option Nat) (ko' : Option Nat) (T' : TT) (I' : Nat → TT) (H : Heap) (locs : List Loc) (cells' slots' : Nat), (T' = T ∧ xIM mi mi' I I' T a1 r) → cells' ≤ cells + 47 → slots' ≤ slots + 4608 → GG E bx bm mi' ko' T' M I' H → va_S (fun q => s.heap.size ≤ q) s.heap H locs → W p l e room_1 s m #[Value.ref b] below meth c H locs cells' slots' (lw_Z below #[Value.ref b] s) (F0 m (pc + 3) ls (.int r :: rest))) : W p l e room_1 s m #[Value.ref b] below meth c H locs cells slots (lw_Z below #[Value.ref b] s) (F0 m pc ls (.int a1 :: .ref bx :: rest)) := by
  obtain ⟨hx, hb, hr, hml, hown, hts, hX0, hbl, hlocks, hgv⟩ := id C0
  have zc : zC p s m #[Value.ref b] meth c cL_law 4 RL ret := ⟨hx, hb, hml, hown, fun w hw => hts w (zb_in hw), hr, hlocks⟩
  have hlo : bx + 93 ≤ bm + 29 := Nat.le_trans hbm (Nat.le_add_right _ _)
  obtain ⟨hXS, hMS, hE, hT, hMT⟩ := hG
  have hloH := MS_lt hMS
  obtain ⟨S, V, hI, hX⟩ := id hXS
  have hnj : ¬ (¬ a1 < 0 ∧ a1 < 3) → ∀ k, k < 3 → ¬ a1 = nI k := fun h k hk e => h (by rw [e]; exact ⟨Int32.not_lt.mpr (nI_pos' (by omega)), by rw [Int32.lt_iff_toInt_lt]; have e3 : (3 : Int32).toInt = 3 := rfl; have e9 : iv k k (nI k) := iv_ofN (by omega) (by omega) (by omega); unfold iv at e9; omega⟩)
  by_cases hr : ¬ a1 < 0 ∧ a1 < 3
  rotate_left
  · exact zV_i [.int a1] rest zc ky_X10_image kz_X10_image hlk (c_image_no (E := E) l (by by_cases h : a1 < 0; exact Or.inl h; exact Or.inr (fun h2 => hr ⟨h, h2⟩))) (⟨fun _ _ _ _ h => ⟨h.1, trivial⟩, va_recv hK.1 hX (ci := 10) (q0 := 0) rfl rfl, fun U hU hW => ⟨rfl, trivial⟩⟩) rfl rfl hls hW ⟨rfl, rfl⟩ ⟨(Nat.le_of_ble_eq_true rfl), (Nat.le_of_ble_eq_true rfl)⟩ ⟨Nat.le_trans (Nat.le_add_right _ _) hcs.1, Nat.le_trans (Nat.le_add_right _ _) hcs.2⟩ hd (fun r hr0 => kk r _ _ _ _ _ _ _ _ ⟨rfl, fun _ => ⟨hr0, rfl, rfl⟩, fun k hk e => absurd e (hnj hr k hk)⟩ (Nat.le_add_right _ _) (Nat.le_add_right _ _) ⟨hXS, hMS, hE, hT, hMT⟩ hS)
  obtain ⟨j, hj, ej⟩ : ∃ j, j < 3 ∧ a1 = nI j := by
    obtain ⟨k, hk, e⟩ := nI_of2 (M := 2) (n := 2) (by decide) hr.1 (by rw [Int32.le_iff_toInt_le]; have := r_lt hr.2; have e3 : (3 : Int32).toInt = 3 := rfl; have e2 : (2 : Int32).toInt = 2 := rfl; omega)
    exact ⟨k, by omega, e⟩
  have ec : Int32.toNatClampNeg a1 = j := by rw [ej]; exact nI_clamp (by omega)
  have hij : imJ a1 := imJ_nI.mpr ⟨j, hj, ej⟩
  have hsame : ∀ k, k < 3 → a1 = nI k → k = j := fun k hk e => (nI_eq (by omega) (by omega)).mp (e.symm.trans ej)
  cases hm : mi (Int32.toNatClampNeg a1) with
  | none =>
    refine zVa_i [.int a1] rest zc ky_X10_image kz_X10_image hlk (c3_image_new (h := H.size) l hr hm (g_tJ hT)) (⟨fun _ _ _ _ h => ⟨h.1, h.2.1, h.2.2.1, zK_calling h.2.2.2.1, zO_calling h.2.2.2.2⟩, va_recv hK.1 hX (ci := 10) (q0 := 0) rfl rfl, fun U hU hW => ⟨rfl, by rw [hU]; exact ⟨rfl, Nat.le_trans hlo hloH⟩, by rw [hU]; exact hX, zK_moved hW hK, zO_moved hW hO.1⟩⟩) hS (fun q hq => by have := hS.1; unfold zImA zR at hq; omega) rfl rfl hls hW ⟨rfl, rfl⟩ ⟨(Nat.le_of_ble_eq_true rfl), (Nat.le_of_ble_eq_true rfl)⟩ ⟨hcs.1, Nat.le_trans (Nat.add_le_add_left (by decide) _) hcs.2⟩ hd (fun r _ H1 locs1 hr1 hB hsz hk hS => ?_)
    refine ex_tt hB (fun na_tape nf_length nf_fault nf_place na_counts nl0f_huts nl0f_singers nl0f_villages nl0f_dams nl0f_echoes nl0f_deep nl0f_slide nl0a_heights nl0a_ladders nl0a_minutes nl0a_echoFrom nl0a_echoTo nl0a_homes nl0a_talls nl0a_known nl1f_huts nl1f_singers nl1f_villages nl1f_dams nl1f_echoes nl1f_deep nl1f_slide nl1a_heights nl1a_ladders nl1a_minutes nl1a_echoFrom nl1a_echoTo nl1a_homes nl1a_talls nl1a_known nv0f_deeds nv0a_kinds nv0a_firsts nv0a_seconds nv1f_deeds nv1a_kinds nv1a_firsts nv1a_seconds ns0f_facts ns0a_heard ns0a_huts ns0a_minutes ns1f_facts ns1a_heard ns1a_huts ns1a_minutes nc0f_voices nc0f_step nc0a_parts nc0a_heights nc1f_voices nc1f_step nc1a_parts nc1a_heights hB => ?_)
    obtain ⟨hN, hlen, hB⟩ := hB
    rw [ec] at hB
    exact kk r _ _ T (va_up I j (tmk na_tape nf_length nf_fault nf_place na_counts nl0f_huts nl0f_singers nl0f_villages nl0f_dams nl0f_echoes nl0f_deep nl0f_slide nl0a_heights nl0a_ladders nl0a_minutes nl0a_echoFrom nl0a_echoTo nl0a_homes nl0a_talls nl0a_known nl1f_huts nl1f_singers nl1f_villages nl1f_dams nl1f_echoes nl1f_deep nl1f_slide nl1a_heights nl1a_ladders nl1a_minutes nl1a_echoFrom nl1a_echoTo nl1a_homes nl1a_talls nl1a_known nv0f_deeds nv0a_kinds nv0a_firsts nv0a_seconds nv1f_deeds nv1a_kinds nv1a_firsts nv1a_seconds ns0f_facts ns0a_heard ns0a_huts ns0a_minutes ns1f_facts ns1a_heard ns1a_huts ns1a_minutes nc0f_voices nc0f_step nc0a_parts nc0a_heights nc1f_voices nc1f_step nc1a_parts nc1a_heights)) _ _ _ _ ⟨rfl, fun hn => absurd hij hn, fun k hk e => by
      have hkj := hsame k hk e
      subst hkj
      exact ⟨hr1, by rw [va_up_self]; exact fun h => by simp at h, fun i hi => ⟨va_up_ne _ _ hi, va_up_ne _ _ hi⟩, by rw [va_up_self]; exact tCP_r hlen⟩⟩ (Nat.le_refl _) (Nat.add_le_add_left (by decide) _) ⟨⟨S, V, hI, xi_x hB⟩, MS_kp hMS (fun z h1 h2 h3 => hk z h1 (fun hA => by unfold zImA zR at hA; omega)), lE_img hE hlo hloH hk (tJ_g hN) (xi_t hB), hT, hMT⟩ hS
  | some q =>
    have hm0 := hm
    rw [ec] at hm
    obtain ⟨hlq, hI2, hX2⟩ := hE.1 _ hj q hm
    have hXi := xi_of hX hX2 (Nat.le_trans hlo hlq)
    refine zVx_i [.int a1] rest zc ky_X10_image kz_X10_image hlk (c3_image_old l hr hm0 (g_tJ hT) (g_tJ hI2)) (⟨fun _ _ _ _ h => ⟨h.1, h.2.1, zK_calling h.2.2⟩, va_recv hK.1 hX (ci := 10) (q0 := 0) rfl rfl, fun U hU hW => ⟨rfl, by rw [hU]; exact hXi, zK_moved hW hK⟩⟩) hS (fun z hz => by unfold wttA at hz; omega) rfl rfl hls hW ⟨rfl, rfl⟩ ⟨(Nat.le_of_ble_eq_true rfl), (Nat.le_of_ble_eq_true rfl)⟩ ⟨Nat.le_trans (Nat.le_add_right _ _) hcs.1, Nat.le_trans (Nat.le_add_right _ _) hcs.2⟩ hd (fun r _ H1 locs1 hr1 hB hk hS => ?_)
    refine ex_tt hB (fun na_tape nf_length nf_fault nf_place na_counts nl0f_huts nl0f_singers nl0f_villages nl0f_dams nl0f_echoes nl0f_deep nl0f_slide nl0a_heights nl0a_ladders nl0a_minutes nl0a_echoFrom nl0a_echoTo nl0a_homes nl0a_talls nl0a_known nl1f_huts nl1f_singers nl1f_villages nl1f_dams nl1f_echoes nl1f_deep nl1f_slide nl1a_heights nl1a_ladders nl1a_minutes nl1a_echoFrom nl1a_echoTo nl1a_homes nl1a_talls nl1a_known nv0f_deeds nv0a_kinds nv0a_firsts nv0a_seconds nv1f_deeds nv1a_kinds nv1a_firsts nv1a_seconds ns0f_facts ns0a_heard ns0a_huts ns0a_minutes ns1f_facts ns1a_heard ns1a_huts ns1a_minutes nc0f_voices nc0f_step nc0a_parts nc0a_heights nc1f_voices nc1f_step nc1a_parts nc1a_heights hB => ?_)
    obtain ⟨hN, hlen, hB⟩ := hB
    exact kk r _ _ T (va_up I j (tmk na_tape nf_length nf_fault nf_place na_counts nl0f_huts nl0f_singers nl0f_villages nl0f_dams nl0f_echoes nl0f_deep nl0f_slide nl0a_heights nl0a_ladders nl0a_minutes nl0a_echoFrom nl0a_echoTo nl0a_homes nl0a_talls nl0a_known nl1f_huts nl1f_singers nl1f_villages nl1f_dams nl1f_echoes nl1f_deep nl1f_slide nl1a_heights nl1a_ladders nl1a_minutes nl1a_echoFrom nl1a_echoTo nl1a_homes nl1a_talls nl1a_known nv0f_deeds nv0a_kinds nv0a_firsts nv0a_seconds nv1f_deeds nv1a_kinds nv1a_firsts nv1a_seconds ns0f_facts ns0a_heard ns0a_huts ns0a_minutes ns1f_facts ns1a_heard ns1a_huts ns1a_minutes nc0f_voices nc0f_step nc0a_parts nc0a_heights nc1f_voices nc1f_step nc1a_parts nc1a_heights)) _ _ _ _ ⟨rfl, fun hn => absurd hij hn, fun k hk e => by
      have hkj := hsame k hk e
      subst hkj
      exact ⟨hr1, (fun h => by rw [hm] at h; cases h), fun i hi => ⟨rfl, va_up_ne _ _ hi⟩, by rw [va_up_self]; exact tCP_r hlen⟩⟩ (Nat.le_add_right _ _) (Nat.le_add_right _ _) ⟨⟨S, V, hI, xi_x hB⟩, MS_kp hMS (fun z h1 h2 h3 => hk z h1 (fun hA => by unfold wttA at hA; omega)), lE_img2 hE hlo hj hm (fun z h1 h2 => hk z h1 (fun hA => h2 (by unfold wttA at hA; omega))) (tJ_g hN) (xi_t hB), hT, hMT⟩ hS

set_option maxRecDepth 40000 in
set_option maxHeartbeats 4000000 in
theorem gx_again {p : Program} {l : Launch} {e : Env} {s : State} {m : MethodId} {below : List Frame} {meth : Method} {c : Code} {E : zE} {G : zG} {b L bx bm cells slots : Nat} {xs : Nat → Int32} {mi : Nat → Option Nat} {ko : Option Nat} {T : TT} {M : Nat → Nat → Int32} {I : Nat → TT} {H : Heap} {locs : List Loc} {ls : Array Slot} {pc idx : Nat} {a1 : Int32} (rest : List Value) (hcs : cells + 47 ≤ room_1.cells ∧ slots + 4608 ≤ room_1.slots) (C0 : lw_At p s m meth c b L xs) (hbx : s.heap.size ≤ bx) (hbm : bx + 93 ≤ bm) (hK : zK E s) (hO : zO s ∧ zZ G (fun q => s.heap.size ≤ q) s s.heap) (hG : GG E bx bm mi ko T M I H) (hS : va_S (fun q => s.heap.size ≤ q) s.heap H locs) (hls : ls.size = 4) (hW : (rest.map fun v => v.category).sum ≤ 8) (hlk : Cond.methodLink RL idx yX10_again ∈ zb) (hd : decode cL_law pc = .ok (.invokevirtual idx, 3))
    (kk : ∀ (r : Int32) (mi' : Nat → Option Nat) (ko' : Option Nat) (T' : TT) (I' : Nat → TT) (H : Heap) (locs : List Loc) (cells' slots' : Nat), (mi' = mi ∧ I' = I ∧ xAG mi I T T' a1 r) → cells' ≤ cells + 47 → slots' ≤ slots + 4608 → GG E bx bm mi' ko' T' M I' H → va_S (fun q => s.heap.size ≤ q) s.heap H locs → W p l e room_1 s m #[Value.ref b] below meth c H locs cells' slots' (lw_Z below #[Value.ref b] s) (F0 m (pc + 3) ls (.int r :: rest))) : W p l e room_1 s m #[Value.ref b] below meth c H locs cells slots (lw_Z below #[Value.ref b] s) (F0 m pc ls (.int a1 :: .ref bx :: rest)) := by
  obtain ⟨hx, hb, hr, hml, hown, hts, hX0, hbl, hlocks, hgv⟩ := id C0
  have zc : zC p s m #[Value.ref b] meth c cL_law 4 RL ret := ⟨hx, hb, hml, hown, fun w hw => hts w (zb_in hw), hr, hlocks⟩
  have hlo : bx + 93 ≤ bm + 29 := Nat.le_trans hbm (Nat.le_add_right _ _)
  obtain ⟨hXS, hMS, hE, hT, hMT⟩ := hG
  have hloH := MS_lt hMS
  obtain ⟨S, V, hI, hX⟩ := id hXS
  have hnj : ¬ (¬ a1 < 0 ∧ a1 < 3) → ∀ k, k < 3 → ¬ a1 = nI k := fun h k hk e => h (by rw [e]; exact ⟨Int32.not_lt.mpr (nI_pos' (by omega)), by rw [Int32.lt_iff_toInt_lt]; have e3 : (3 : Int32).toInt = 3 := rfl; have e9 : iv k k (nI k) := iv_ofN (by omega) (by omega) (by omega); unfold iv at e9; omega⟩)
  by_cases hr : ¬ a1 < 0 ∧ a1 < 3
  rotate_left
  · exact zV_i [.int a1] rest zc ky_X10_again kz_X10_again hlk (c_again_no l (fun h1 h2 => absurd ⟨h1, h2⟩ hr)) (wxPreV0 hK hX) rfl rfl hls hW ⟨rfl, rfl⟩ ⟨(Nat.le_of_ble_eq_true rfl), (Nat.le_of_ble_eq_true rfl)⟩ ⟨Nat.le_trans (Nat.le_add_right _ _) hcs.1, Nat.le_trans (Nat.le_add_right _ _) hcs.2⟩ hd (fun r hr0 => kk r _ _ _ _ _ _ _ _ ⟨rfl, rfl, fun _ => ⟨hr0, rfl⟩, fun k hk e h9 => absurd e (hnj hr k hk)⟩ (Nat.le_add_right _ _) (Nat.le_add_right _ _) ⟨hXS, hMS, hE, hT, hMT⟩ hS)
  obtain ⟨j, hj, ej⟩ : ∃ j, j < 3 ∧ a1 = nI j := by
    obtain ⟨k, hk, e⟩ := nI_of2 (M := 2) (n := 2) (by decide) hr.1 (by rw [Int32.le_iff_toInt_le]; have := r_lt hr.2; have e3 : (3 : Int32).toInt = 3 := rfl; have e2 : (2 : Int32).toInt = 2 := rfl; omega)
    exact ⟨k, by omega, e⟩
  have ec : Int32.toNatClampNeg a1 = j := by rw [ej]; exact nI_clamp (by omega)
  have hsame : ∀ k, k < 3 → a1 = nI k → k = j := fun k hk e => (nI_eq (by omega) (by omega)).mp (e.symm.trans ej)
  cases hm : mi (Int32.toNatClampNeg a1) with
  | none =>
    exact zV_i [.int a1] rest zc ky_X10_again kz_X10_again hlk (c_again_no l (fun _ _ => hm)) (wxPreV0 hK hX) rfl rfl hls hW ⟨rfl, rfl⟩ ⟨(Nat.le_of_ble_eq_true rfl), (Nat.le_of_ble_eq_true rfl)⟩ ⟨Nat.le_trans (Nat.le_add_right _ _) hcs.1, Nat.le_trans (Nat.le_add_right _ _) hcs.2⟩ hd (fun r hr0 => kk r _ _ _ _ _ _ _ _ ⟨rfl, rfl, fun _ => ⟨hr0, rfl⟩, fun k hk e h9 => by rw [hsame k hk e, ← ec] at h9; exact absurd hm h9⟩ (Nat.le_add_right _ _) (Nat.le_add_right _ _) ⟨hXS, hMS, hE, hT, hMT⟩ hS)
  | some q =>
    have hm0 := hm
    rw [ec] at hm
    obtain ⟨hlq, hI2, hX2⟩ := hE.1 _ hj q hm
    have hXi := xi_of hX hX2 (Nat.le_trans hlo hlq)
    refine zVx_i [.int a1] rest zc ky_X10_again kz_X10_again hlk (c3_again_yes l hr hm0 (g_tJ hT) (g_tJ hI2)) (⟨fun _ _ _ _ h => ⟨h.1, h.2.1, zK_calling h.2.2⟩, va_recv hK.1 hX (ci := 10) (q0 := 0) rfl rfl, fun U hU hW => ⟨rfl, by rw [hU]; exact hXi, zK_moved hW hK⟩⟩) hS (fun z hz => by unfold wttA at hz; omega) rfl rfl hls hW ⟨rfl, rfl⟩ ⟨(Nat.le_of_ble_eq_true rfl), (Nat.le_of_ble_eq_true rfl)⟩ ⟨Nat.le_trans (Nat.le_add_right _ _) hcs.1, Nat.le_trans (Nat.le_add_right _ _) hcs.2⟩ hd (fun r _ H1 locs1 hr1 hB hk hS => ?_)
    refine ex_tt hB (fun na_tape nf_length nf_fault nf_place na_counts nl0f_huts nl0f_singers nl0f_villages nl0f_dams nl0f_echoes nl0f_deep nl0f_slide nl0a_heights nl0a_ladders nl0a_minutes nl0a_echoFrom nl0a_echoTo nl0a_homes nl0a_talls nl0a_known nl1f_huts nl1f_singers nl1f_villages nl1f_dams nl1f_echoes nl1f_deep nl1f_slide nl1a_heights nl1a_ladders nl1a_minutes nl1a_echoFrom nl1a_echoTo nl1a_homes nl1a_talls nl1a_known nv0f_deeds nv0a_kinds nv0a_firsts nv0a_seconds nv1f_deeds nv1a_kinds nv1a_firsts nv1a_seconds ns0f_facts ns0a_heard ns0a_huts ns0a_minutes ns1f_facts ns1a_heard ns1a_huts ns1a_minutes nc0f_voices nc0f_step nc0a_parts nc0a_heights nc1f_voices nc1f_step nc1a_parts nc1a_heights hB => ?_)
    obtain ⟨hN, hlen, hB⟩ := hB
    exact kk r _ _ (tmk na_tape nf_length nf_fault nf_place na_counts nl0f_huts nl0f_singers nl0f_villages nl0f_dams nl0f_echoes nl0f_deep nl0f_slide nl0a_heights nl0a_ladders nl0a_minutes nl0a_echoFrom nl0a_echoTo nl0a_homes nl0a_talls nl0a_known nl1f_huts nl1f_singers nl1f_villages nl1f_dams nl1f_echoes nl1f_deep nl1f_slide nl1a_heights nl1a_ladders nl1a_minutes nl1a_echoFrom nl1a_echoTo nl1a_homes nl1a_talls nl1a_known nv0f_deeds nv0a_kinds nv0a_firsts nv0a_seconds nv1f_deeds nv1a_kinds nv1a_firsts nv1a_seconds ns0f_facts ns0a_heard ns0a_huts ns0a_minutes ns1f_facts ns1a_heard ns1a_huts ns1a_minutes nc0f_voices nc0f_step nc0a_parts nc0a_heights nc1f_voices nc1f_step nc1a_parts nc1a_heights) _ _ _ _ _ ⟨rfl, rfl, fun hn => absurd ⟨j, hj, ej, fun h => by rw [hm] at h; cases h⟩ hn, fun k hk e _ => by
      have hkj := hsame k hk e
      subst hkj
      exact ⟨hr1, tCP_r hlen⟩⟩ (Nat.le_add_right _ _) (Nat.le_add_right _ _) ⟨XS_of2 (xi_x hB) (hI.1 0) (hI.1 1) (hI.1 2) (hI.1 3) (hI.1 4) (hI.1 5) (hI.1 6) (hI.2 0) (hI.2 1) (hI.2 2) (hI.2 3) (hI.2 4) (hI.2 5) (hI.2 6) (hI.2 7) (hI.1 7) (hI.2 8) (hI.2 9) (hI.2 10) (hI.1 8) (hI.2 11) (hI.2 12) (hI.2 13) (hI.1 9) (hI.1 10) (hI.2 14) (hI.2 15) (hI.1 11) (hI.1 12) (hI.2 17) (hI.1 13) (hI.1 14) (hI.1 15) (hI.1 16) (hI.1 22) (hI.1 23) (hI.2 18) (hI.2 19) (hI.2 20) (hI.2 22) (hI.2 23) (hI.2 24) (hI.2 26) (hI.2 27) (hI.2 28) (hI.2 32), MS_kp hMS (fun z h1 h2 h3 => hk z h1 (fun hA => by unfold wttA at hA; omega)), lE_ag hE hlo hj hm (fun z h1 h2 => hk z h1 (fun hA => h2 (by unfold wttA at hA; omega))) (xi_t hB), tJ_g hN, hMT⟩ hS
end
section
set_option maxRecDepth 40000 in
set_option maxHeartbeats 4000000 in
theorem gm_again {p : Program} {l : Launch} {e : Env} {s : State} {m : MethodId} {below : List Frame} {meth : Method} {c : Code} {E : zE} {G : zG} {b L bx bm cells slots : Nat} {xs : Nat → Int32} {mi : Nat → Option Nat} {ko : Option Nat} {T : TT} {M : Nat → Nat → Int32} {I : Nat → TT} {H : Heap} {locs : List Loc} {ls : Array Slot} {pc idx : Nat} {a1 : Int32} (rest : List Value) (hcs : cells ≤ room_1.cells ∧ slots ≤ room_1.slots) (C0 : lw_At p s m meth c b L xs) (hbx : s.heap.size ≤ bx) (hbm : bx + 93 ≤ bm) (hK : zK E s) (hO : zO s ∧ zZ G (fun q => s.heap.size ≤ q) s s.heap) (hG : GG E bx bm mi ko T M I H) (hS : va_S (fun q => s.heap.size ≤ q) s.heap H locs) (hls : ls.size = 4) (hW : (rest.map fun v => v.category).sum ≤ 8) (hlk : Cond.methodLink RL idx yX11_again ∈ zb) (hd : decode cL_law pc = .ok (.invokevirtual idx, 3))
    (kk : ∀ (r : Int32) (M' : Nat → Nat → Int32) (H : Heap) (locs : List Loc), (mAG M M' a1 r) → GG E bx bm mi ko T M' I H → va_S (fun q => s.heap.size ≤ q) s.heap H locs → W p l e room_1 s m #[Value.ref b] below meth c H locs cells slots (lw_Z below #[Value.ref b] s) (F0 m (pc + 3) ls (.int r :: rest))) : W p l e room_1 s m #[Value.ref b] below meth c H locs cells slots (lw_Z below #[Value.ref b] s) (F0 m pc ls (.int a1 :: .ref bm :: rest)) := by
  obtain ⟨hx, hb, hr, hml, hown, hts, hX0, hbl, hlocks, hgv⟩ := id C0
  have zc : zC p s m #[Value.ref b] meth c cL_law 4 RL ret := ⟨hx, hb, hml, hown, fun w hw => hts w (zb_in hw), hr, hlocks⟩
  obtain ⟨hXS, hMS, hE, hT, hMT⟩ := hG
  obtain ⟨S, V, f_word, a_rest, hI, hM⟩ := id hMS
  refine zVx_i [.int a1] rest zc ky_X11_again kz_X11_again hlk (c_m_again l (post := (fun r f_code a_tape a_size a_fault a_faultPlace a_many a_lands a_evenings a_sights a_choirs => (mAG M (mmk a_tape a_size a_fault a_faultPlace a_many a_lands a_evenings a_sights a_choirs (M 9)) a1 r) ∧ (iv 0 0 f_code) ∧ (∀ j, iv (-128) 127 (a_tape j)) ∧ (∀ j, iv 0 600 (a_size j)) ∧ (∀ j, iv 0 2 (a_many j)) ∧ (mLand a_lands) ∧ (mEve a_evenings) ∧ (mSig a_sights) ∧ (mCho a_choirs))) (cj_q_m_again_0 (post_1 := fun r f_code a_tape a_size a_fault a_faultPlace a_many a_lands a_evenings a_sights a_choirs => mAG M (mmk a_tape a_size a_fault a_faultPlace a_many a_lands a_evenings a_sights a_choirs (M 9)) a1 r) (post_2 := (fun r f_code a_tape a_size a_fault a_faultPlace a_many a_lands a_evenings a_sights a_choirs => (iv 0 0 f_code) ∧ (∀ j, iv (-128) 127 (a_tape j)) ∧ (∀ j, iv 0 600 (a_size j)) ∧ (∀ j, iv 0 2 (a_many j)) ∧ (mLand a_lands) ∧ (mEve a_evenings) ∧ (mSig a_sights) ∧ (mCho a_choirs))) (post_3 := (fun r f_code a_tape a_size a_fault a_faultPlace a_many a_lands a_evenings a_sights a_choirs => (mAG M (mmk a_tape a_size a_fault a_faultPlace a_many a_lands a_evenings a_sights a_choirs (M 9)) a1 r) ∧ (iv 0 0 f_code) ∧ (∀ j, iv (-128) 127 (a_tape j)) ∧ (∀ j, iv 0 600 (a_size j)) ∧ (∀ j, iv 0 2 (a_many j)) ∧ (mLand a_lands) ∧ (mEve a_evenings) ∧ (mSig a_sights) ∧ (mCho a_choirs))) (fun _ _ _ _ _ _ _ _ _ _ _ a b => ⟨a, b⟩) (e_m_again2 (M := M) (hMT.1) (fun _ _ _ _ _ _ _ _ _ _ h => h)) (e_m_again (hMT.1) (hMT.2.1) (hMT.2.2.1) (hMT.2.2.2.1) (hMT.2.2.2.2.1) (hMT.2.2.2.2.2.1) (hMT.2.2.2.2.2.2.1) (fun _ => ⟨iv_lit (by decide), (hMT.1), (hMT.2.1), (hMT.2.2.1), (hMT.2.2.2.1), (hMT.2.2.2.2.1), (hMT.2.2.2.2.2.1), (hMT.2.2.2.2.2.2.1)⟩) (fun _ _ _ _ t z fa fp mn l e2 s c _ _ g0 g1 g2 g3 g4 g5 g6 => ⟨iv_lit (by decide), g0, g1, g2, g3, g4, g5, g6⟩)))) (mPreV0 hK hM) hS (fun q (h : mA bm q) => Nat.le_trans hbx (Nat.le_trans (Nat.le_trans (Nat.le_add_right bx 93) hbm) h.1)) rfl rfl hls hW ⟨rfl, rfl⟩ ⟨(Nat.le_of_ble_eq_true rfl), (Nat.le_of_ble_eq_true rfl)⟩ hcs hd (fun r u H1 locs1 hw h9 hk hS => ?_)
  obtain ⟨f_code, a_tape, a_size, a_fault, a_faultPlace, a_many, a_lands, a_evenings, a_sights, a_choirs⟩ := u
  obtain ⟨hrel, n_f_code, n_a_tape, n_a_size, n_a_many, n_a_lands, n_a_evenings, n_a_sights, n_a_choirs⟩ := hw
  exact kk r (mmk a_tape a_size a_fault a_faultPlace a_many a_lands a_evenings a_sights a_choirs (M 9)) _ _ hrel ⟨XS_kp hXS (fun z h1 h2 h3 => hk z h1 (fun (hA : mA bm z) => zap hbm hA.1 h3)), MS_of h9 n_f_code (hI.1 12) (hI.1 13) (hI.1 14) (hI.2 2) (hI.2 3) (hI.2 4) (hI.2 6) (hI.1 16) (hI.2 7) (hI.2 8) (hI.2 12) (hI.2 13) (hI.2 14) (hI.1 21) (hI.2 16), lE_kp hE (fun z h1 h2 => hk z h1 (fun (hA : mA bm z) => absurd hA.2 (Nat.not_lt.mpr h2))), hT, ⟨n_a_tape, n_a_size, n_a_many, n_a_lands, n_a_evenings, n_a_sights, n_a_choirs, (hMT.2.2.2.2.2.2.2)⟩⟩ hS

set_option maxRecDepth 40000 in
set_option maxHeartbeats 4000000 in
theorem gm_best {p : Program} {l : Launch} {e : Env} {s : State} {m : MethodId} {below : List Frame} {meth : Method} {c : Code} {E : zE} {G : zG} {b L bx bm cells slots : Nat} {xs : Nat → Int32} {mi : Nat → Option Nat} {ko : Option Nat} {T : TT} {M : Nat → Nat → Int32} {I : Nat → TT} {H : Heap} {locs : List Loc} {ls : Array Slot} {pc idx : Nat} {a1 a2 : Int32} (rest : List Value) (hcs : cells ≤ room_1.cells ∧ slots ≤ room_1.slots) (C0 : lw_At p s m meth c b L xs) (hbx : s.heap.size ≤ bx) (hbm : bx + 93 ≤ bm) (hK : zK E s) (hO : zO s ∧ zZ G (fun q => s.heap.size ≤ q) s s.heap) (hG : GG E bx bm mi ko T M I H) (hS : va_S (fun q => s.heap.size ≤ q) s.heap H locs) (hls : ls.size = 4) (hW : (rest.map fun v => v.category).sum ≤ 8) (hlk : Cond.methodLink RL idx yX11_best ∈ zb) (hd : decode cL_law pc = .ok (.invokevirtual idx, 3))
    (kk : ∀ (r : Int32) (M' : Nat → Nat → Int32) (H : Heap) (locs : List Loc), (M' = M) → GG E bx bm mi ko T M' I H → va_S (fun q => s.heap.size ≤ q) s.heap H locs → W p l e room_1 s m #[Value.ref b] below meth c H locs cells slots (lw_Z below #[Value.ref b] s) (F0 m (pc + 3) ls (.int r :: rest))) : W p l e room_1 s m #[Value.ref b] below meth c H locs cells slots (lw_Z below #[Value.ref b] s) (F0 m pc ls (.int a2 :: .int a1 :: .ref bm :: rest)) := by
  obtain ⟨hx, hb, hr, hml, hown, hts, hX0, hbl, hlocks, hgv⟩ := id C0
  have zc : zC p s m #[Value.ref b] meth c cL_law 4 RL ret := ⟨hx, hb, hml, hown, fun w hw => hts w (zb_in hw), hr, hlocks⟩
  obtain ⟨hXS, hMS, hE, hT, hMT⟩ := hG
  obtain ⟨S, V, f_word, a_rest, hI, hM⟩ := id hMS
  refine zVx_i [.int a1, .int a2] rest zc ky_X11_best kz_X11_best hlk (c_m_best l (post := (fun r f_code f_land f_huts f_singers a_run => (iv 0 0 f_code) ∧ (iv 0 1 f_land) ∧ (iv 0 9 f_huts) ∧ (iv 0 6 f_singers) ∧ (∀ j, iv 0 1000000 (a_run j)))) (s_m_best_0 (hI.1 0) (hMT.2.2.1) (hMT.2.2.2.1) (hI.1 12) (hI.1 13) (hI.1 14) (hI.2 7) (fun _ _ _ _ _ _ _ h1 h2 h3 h4 h5 => ⟨h1, h2, h3, h4, h5⟩))) (mPreV0 hK hM) hS (fun q (h : mA bm q) => Nat.le_trans hbx (Nat.le_trans (Nat.le_trans (Nat.le_add_right bx 93) hbm) h.1)) rfl rfl hls hW ⟨rfl, rfl⟩ ⟨(Nat.le_of_ble_eq_true rfl), (Nat.le_of_ble_eq_true rfl)⟩ hcs hd (fun r u H1 locs1 hw h9 hk hS => ?_)
  obtain ⟨f_code, f_land, f_huts, f_singers, a_run⟩ := u
  obtain ⟨n_f_code, n_f_land, n_f_huts, n_f_singers, n_a_run⟩ := hw
  exact kk r _ _ _ rfl ⟨XS_kp hXS (fun z h1 h2 h3 => hk z h1 (fun (hA : mA bm z) => zap hbm hA.1 h3)), MS_of1 (M := M) h9 n_f_code n_f_land n_f_huts n_f_singers (hI.2 2) (hI.2 3) (hI.2 4) (hI.2 6) (hI.1 16) n_a_run (hI.2 8) (hI.2 12) (hI.2 13) (hI.2 14) (hI.1 21) (hI.2 16), lE_kp hE (fun z h1 h2 => hk z h1 (fun (hA : mA bm z) => absurd hA.2 (Nat.not_lt.mpr h2))), hT, hMT⟩ hS

set_option maxRecDepth 40000 in
set_option maxHeartbeats 4000000 in
theorem gm_carry {p : Program} {l : Launch} {e : Env} {s : State} {m : MethodId} {below : List Frame} {meth : Method} {c : Code} {E : zE} {G : zG} {b L bx bm cells slots : Nat} {xs : Nat → Int32} {mi : Nat → Option Nat} {ko : Option Nat} {T : TT} {M : Nat → Nat → Int32} {I : Nat → TT} {H : Heap} {locs : List Loc} {ls : Array Slot} {pc idx : Nat} {a1 a2 a3 : Int32} (rest : List Value) (hcs : cells ≤ room_1.cells ∧ slots ≤ room_1.slots) (C0 : lw_At p s m meth c b L xs) (hbx : s.heap.size ≤ bx) (hbm : bx + 93 ≤ bm) (hK : zK E s) (hO : zO s ∧ zZ G (fun q => s.heap.size ≤ q) s s.heap) (hG : GG E bx bm mi ko T M I H) (hS : va_S (fun q => s.heap.size ≤ q) s.heap H locs) (hls : ls.size = 4) (hW : (rest.map fun v => v.category).sum ≤ 8) (hlk : Cond.methodLink RL idx yX11_carry ∈ zb) (hd : decode cL_law pc = .ok (.invokevirtual idx, 3))
    (kk : ∀ (r : Int32) (M' : Nat → Nat → Int32) (H : Heap) (locs : List Loc), (M' = M) → GG E bx bm mi ko T M' I H → va_S (fun q => s.heap.size ≤ q) s.heap H locs → W p l e room_1 s m #[Value.ref b] below meth c H locs cells slots (lw_Z below #[Value.ref b] s) (F0 m (pc + 3) ls (.int r :: rest))) : W p l e room_1 s m #[Value.ref b] below meth c H locs cells slots (lw_Z below #[Value.ref b] s) (F0 m pc ls (.int a3 :: .int a2 :: .int a1 :: .ref bm :: rest)) := by
  obtain ⟨hx, hb, hr, hml, hown, hts, hX0, hbl, hlocks, hgv⟩ := id C0
  have zc : zC p s m #[Value.ref b] meth c cL_law 4 RL ret := ⟨hx, hb, hml, hown, fun w hw => hts w (zb_in hw), hr, hlocks⟩
  obtain ⟨hXS, hMS, hE, hT, hMT⟩ := hG
  obtain ⟨S, V, f_word, a_rest, hI, hM⟩ := id hMS
  refine zVx_i [.int a1, .int a2, .int a3] rest zc ky_X11_carry kz_X11_carry hlk (c_m_carry l (post := (fun r f_code f_land f_huts f_singers a_run a_far => (iv 0 0 f_code) ∧ (iv 0 1 f_land) ∧ (iv 0 9 f_huts) ∧ (iv 0 6 f_singers) ∧ (∀ j, iv 0 1000000 (a_run j)) ∧ (∀ j, iv 0 1000000 (a_far j)))) (s_m_carry_0 (hI.1 0) (hMT.2.2.1) (hMT.2.2.2.1) (hI.1 12) (hI.1 13) (hI.1 14) (hI.2 7) (hI.2 13) (fun _ _ _ _ _ _ _ _ h1 h2 h3 h4 h5 h6 => ⟨h1, h2, h3, h4, h5, h6⟩))) (mPreV0 hK hM) hS (fun q (h : mA bm q) => Nat.le_trans hbx (Nat.le_trans (Nat.le_trans (Nat.le_add_right bx 93) hbm) h.1)) rfl rfl hls hW ⟨rfl, rfl⟩ ⟨(Nat.le_of_ble_eq_true rfl), (Nat.le_of_ble_eq_true rfl)⟩ hcs hd (fun r u H1 locs1 hw h9 hk hS => ?_)
  obtain ⟨f_code, f_land, f_huts, f_singers, a_run, a_far⟩ := u
  obtain ⟨n_f_code, n_f_land, n_f_huts, n_f_singers, n_a_run, n_a_far⟩ := hw
  exact kk r _ _ _ rfl ⟨XS_kp hXS (fun z h1 h2 h3 => hk z h1 (fun (hA : mA bm z) => zap hbm hA.1 h3)), MS_of1 (M := M) h9 n_f_code n_f_land n_f_huts n_f_singers (hI.2 2) (hI.2 3) (hI.2 4) (hI.2 6) (hI.1 16) n_a_run (hI.2 8) (hI.2 12) n_a_far (hI.2 14) (hI.1 21) (hI.2 16), lE_kp hE (fun z h1 h2 => hk z h1 (fun (hA : mA bm z) => absurd hA.2 (Nat.not_lt.mpr h2))), hT, hMT⟩ hS

set_option maxRecDepth 40000 in
set_option maxHeartbeats 4000000 in
theorem gm_choir {p : Program} {l : Launch} {e : Env} {s : State} {m : MethodId} {below : List Frame} {meth : Method} {c : Code} {E : zE} {G : zG} {b L bx bm cells slots : Nat} {xs : Nat → Int32} {mi : Nat → Option Nat} {ko : Option Nat} {T : TT} {M : Nat → Nat → Int32} {I : Nat → TT} {H : Heap} {locs : List Loc} {ls : Array Slot} {pc idx : Nat} {a1 a2 : Int32} (rest : List Value) (hcs : cells ≤ room_1.cells ∧ slots ≤ room_1.slots) (C0 : lw_At p s m meth c b L xs) (hbx : s.heap.size ≤ bx) (hbm : bx + 93 ≤ bm) (hK : zK E s) (hO : zO s ∧ zZ G (fun q => s.heap.size ≤ q) s s.heap) (hG : GG E bx bm mi ko T M I H) (hS : va_S (fun q => s.heap.size ≤ q) s.heap H locs) (hls : ls.size = 4) (hW : (rest.map fun v => v.category).sum ≤ 8) (hlk : Cond.methodLink RL idx yX11_choir ∈ zb) (hd : decode cL_law pc = .ok (.invokevirtual idx, 3))
    (kk : ∀ (r : Int32) (M' : Nat → Nat → Int32) (H : Heap) (locs : List Loc), (M' = M) → GG E bx bm mi ko T M' I H → va_S (fun q => s.heap.size ≤ q) s.heap H locs → W p l e room_1 s m #[Value.ref b] below meth c H locs cells slots (lw_Z below #[Value.ref b] s) (F0 m (pc + 3) ls (.int r :: rest))) : W p l e room_1 s m #[Value.ref b] below meth c H locs cells slots (lw_Z below #[Value.ref b] s) (F0 m pc ls (.int a2 :: .int a1 :: .ref bm :: rest)) := by
  obtain ⟨hx, hb, hr, hml, hown, hts, hX0, hbl, hlocks, hgv⟩ := id C0
  have zc : zC p s m #[Value.ref b] meth c cL_law 4 RL ret := ⟨hx, hb, hml, hown, fun w hw => hts w (zb_in hw), hr, hlocks⟩
  obtain ⟨hXS, hMS, hE, hT, hMT⟩ := hG
  obtain ⟨S, V, f_word, a_rest, hI, hM⟩ := id hMS
  refine zVx_i [.int a1, .int a2] rest zc ky_X11_choir kz_X11_choir hlk (c_m_choir l (post := (fun r f_code f_choir f_voices a_rest => (iv 0 0 f_code) ∧ (iv 0 9 f_voices))) (s_m_choir_0 (hI.1 0) (hMT.2.2.1) (hMT.2.2.2.2.2.2.1) (hI.1 21) (fun _ _ _ _ _ h0 h1 => ⟨h0, h1⟩))) (mPreV0 hK hM) hS (fun q (h : mA bm q) => Nat.le_trans hbx (Nat.le_trans (Nat.le_trans (Nat.le_add_right bx 93) hbm) h.1)) rfl rfl hls hW ⟨rfl, rfl⟩ ⟨(Nat.le_of_ble_eq_true rfl), (Nat.le_of_ble_eq_true rfl)⟩ hcs hd (fun r u H1 locs1 hw h9 hk hS => ?_)
  obtain ⟨f_code, f_choir, f_voices, a_rest⟩ := u
  obtain ⟨n_f_code, n_f_voices⟩ := hw
  exact kk r _ _ _ rfl ⟨XS_kp hXS (fun z h1 h2 h3 => hk z h1 (fun (hA : mA bm z) => zap hbm hA.1 h3)), MS_of1 (M := M) h9 n_f_code (hI.1 12) (hI.1 13) (hI.1 14) (hI.2 2) (hI.2 3) (hI.2 4) (hI.2 6) (hI.1 16) (hI.2 7) (hI.2 8) (hI.2 12) (hI.2 13) (hI.2 14) n_f_voices (hI.2 16), lE_kp hE (fun z h1 h2 => hk z h1 (fun (hA : mA bm z) => absurd hA.2 (Nat.not_lt.mpr h2))), hT, hMT⟩ hS

set_option maxRecDepth 40000 in
set_option maxHeartbeats 4000000 in
theorem gm_comes {p : Program} {l : Launch} {e : Env} {s : State} {m : MethodId} {below : List Frame} {meth : Method} {c : Code} {E : zE} {G : zG} {b L bx bm cells slots : Nat} {xs : Nat → Int32} {mi : Nat → Option Nat} {ko : Option Nat} {T : TT} {M : Nat → Nat → Int32} {I : Nat → TT} {H : Heap} {locs : List Loc} {ls : Array Slot} {pc idx : Nat} {a1 a2 a3 : Int32} (rest : List Value) (hcs : cells ≤ room_1.cells ∧ slots ≤ room_1.slots) (C0 : lw_At p s m meth c b L xs) (hbx : s.heap.size ≤ bx) (hbm : bx + 93 ≤ bm) (hK : zK E s) (hO : zO s ∧ zZ G (fun q => s.heap.size ≤ q) s s.heap) (hG : GG E bx bm mi ko T M I H) (hS : va_S (fun q => s.heap.size ≤ q) s.heap H locs) (hls : ls.size = 4) (hW : (rest.map fun v => v.category).sum ≤ 8) (hlk : Cond.methodLink RL idx yX11_comes ∈ zb) (hd : decode cL_law pc = .ok (.invokevirtual idx, 3))
    (kk : ∀ (r : Int32) (M' : Nat → Nat → Int32) (H : Heap) (locs : List Loc), (M' = M) → GG E bx bm mi ko T M' I H → va_S (fun q => s.heap.size ≤ q) s.heap H locs → W p l e room_1 s m #[Value.ref b] below meth c H locs cells slots (lw_Z below #[Value.ref b] s) (F0 m (pc + 3) ls (.int r :: rest))) : W p l e room_1 s m #[Value.ref b] below meth c H locs cells slots (lw_Z below #[Value.ref b] s) (F0 m pc ls (.int a3 :: .int a2 :: .int a1 :: .ref bm :: rest)) := by
  obtain ⟨hx, hb, hr, hml, hown, hts, hX0, hbl, hlocks, hgv⟩ := id C0
  have zc : zC p s m #[Value.ref b] meth c cL_law 4 RL ret := ⟨hx, hb, hml, hown, fun w hw => hts w (zb_in hw), hr, hlocks⟩
  obtain ⟨hXS, hMS, hE, hT, hMT⟩ := hG
  obtain ⟨S, V, f_word, a_rest, hI, hM⟩ := id hMS
  refine zVx_i [.int a1, .int a2, .int a3] rest zc ky_X11_comes kz_X11_comes hlk (c_m_comes l (post := (fun r f_code f_land f_huts f_singers a_run => (iv 0 0 f_code) ∧ (iv 0 1 f_land) ∧ (iv 0 9 f_huts) ∧ (iv 0 6 f_singers) ∧ (∀ j, iv 0 1000000 (a_run j)))) (s_m_comes_0 (hI.1 0) (hMT.2.2.1) (hMT.2.2.2.1) (hI.1 12) (hI.1 13) (hI.1 14) (hI.2 7) (fun _ _ _ _ _ _ _ h1 h2 h3 h4 h5 => ⟨h1, h2, h3, h4, h5⟩))) (mPreV0 hK hM) hS (fun q (h : mA bm q) => Nat.le_trans hbx (Nat.le_trans (Nat.le_trans (Nat.le_add_right bx 93) hbm) h.1)) rfl rfl hls hW ⟨rfl, rfl⟩ ⟨(Nat.le_of_ble_eq_true rfl), (Nat.le_of_ble_eq_true rfl)⟩ hcs hd (fun r u H1 locs1 hw h9 hk hS => ?_)
  obtain ⟨f_code, f_land, f_huts, f_singers, a_run⟩ := u
  obtain ⟨n_f_code, n_f_land, n_f_huts, n_f_singers, n_a_run⟩ := hw
  exact kk r _ _ _ rfl ⟨XS_kp hXS (fun z h1 h2 h3 => hk z h1 (fun (hA : mA bm z) => zap hbm hA.1 h3)), MS_of1 (M := M) h9 n_f_code n_f_land n_f_huts n_f_singers (hI.2 2) (hI.2 3) (hI.2 4) (hI.2 6) (hI.1 16) n_a_run (hI.2 8) (hI.2 12) (hI.2 13) (hI.2 14) (hI.1 21) (hI.2 16), lE_kp hE (fun z h1 h2 => hk z h1 (fun (hA : mA bm z) => absurd hA.2 (Nat.not_lt.mpr h2))), hT, hMT⟩ hS

set_option maxRecDepth 40000 in
set_option maxHeartbeats 4000000 in
theorem gm_count {p : Program} {l : Launch} {e : Env} {s : State} {m : MethodId} {below : List Frame} {meth : Method} {c : Code} {E : zE} {G : zG} {b L bx bm cells slots : Nat} {xs : Nat → Int32} {mi : Nat → Option Nat} {ko : Option Nat} {T : TT} {M : Nat → Nat → Int32} {I : Nat → TT} {H : Heap} {locs : List Loc} {ls : Array Slot} {pc idx : Nat} {a1 : Int32} (rest : List Value) (hcs : cells ≤ room_1.cells ∧ slots ≤ room_1.slots) (C0 : lw_At p s m meth c b L xs) (hbx : s.heap.size ≤ bx) (hbm : bx + 93 ≤ bm) (hK : zK E s) (hO : zO s ∧ zZ G (fun q => s.heap.size ≤ q) s s.heap) (hG : GG E bx bm mi ko T M I H) (hS : va_S (fun q => s.heap.size ≤ q) s.heap H locs) (hls : ls.size = 4) (hW : (rest.map fun v => v.category).sum ≤ 8) (hlk : Cond.methodLink RL idx yX11_count ∈ zb) (hd : decode cL_law pc = .ok (.invokevirtual idx, 3))
    (kk : ∀ (r : Int32) (M' : Nat → Nat → Int32) (H : Heap) (locs : List Loc), (M' = M) → GG E bx bm mi ko T M' I H → va_S (fun q => s.heap.size ≤ q) s.heap H locs → W p l e room_1 s m #[Value.ref b] below meth c H locs cells slots (lw_Z below #[Value.ref b] s) (F0 m (pc + 3) ls (.int r :: rest))) : W p l e room_1 s m #[Value.ref b] below meth c H locs cells slots (lw_Z below #[Value.ref b] s) (F0 m pc ls (.int a1 :: .ref bm :: rest)) := by
  obtain ⟨hx, hb, hr, hml, hown, hts, hX0, hbl, hlocks, hgv⟩ := id C0
  have zc : zC p s m #[Value.ref b] meth c cL_law 4 RL ret := ⟨hx, hb, hml, hown, fun w hw => hts w (zb_in hw), hr, hlocks⟩
  obtain ⟨hXS, hMS, hE, hT, hMT⟩ := hG
  obtain ⟨S, V, f_word, a_rest, hI, hM⟩ := id hMS
  refine zVx_i [.int a1] rest zc ky_X11_count kz_X11_count hlk (c_m_count l (post := (fun r f_code => (iv 0 0 f_code))) (s_m_count_0 (hI.1 0) (hMT.2.2.1) (fun _ _ _ h1 => h1))) (mPreV0 hK hM) hS (fun q (h : mA bm q) => Nat.le_trans hbx (Nat.le_trans (Nat.le_trans (Nat.le_add_right bx 93) hbm) h.1)) rfl rfl hls hW ⟨rfl, rfl⟩ ⟨(Nat.le_of_ble_eq_true rfl), (Nat.le_of_ble_eq_true rfl)⟩ hcs hd (fun r u H1 locs1 hw h9 hk hS => ?_)
  obtain ⟨f_code, eu⟩ : ∃ y, y = u := ⟨u, rfl⟩
  subst eu
  have n_f_code := hw
  exact kk r _ _ _ rfl ⟨XS_kp hXS (fun z h1 h2 h3 => hk z h1 (fun (hA : mA bm z) => zap hbm hA.1 h3)), MS_of1 (M := M) h9 n_f_code (hI.1 12) (hI.1 13) (hI.1 14) (hI.2 2) (hI.2 3) (hI.2 4) (hI.2 6) (hI.1 16) (hI.2 7) (hI.2 8) (hI.2 12) (hI.2 13) (hI.2 14) (hI.1 21) (hI.2 16), lE_kp hE (fun z h1 h2 => hk z h1 (fun (hA : mA bm z) => absurd hA.2 (Nat.not_lt.mpr h2))), hT, hMT⟩ hS

set_option maxRecDepth 40000 in
set_option maxHeartbeats 4000000 in
theorem gm_deed {p : Program} {l : Launch} {e : Env} {s : State} {m : MethodId} {below : List Frame} {meth : Method} {c : Code} {E : zE} {G : zG} {b L bx bm cells slots : Nat} {xs : Nat → Int32} {mi : Nat → Option Nat} {ko : Option Nat} {T : TT} {M : Nat → Nat → Int32} {I : Nat → TT} {H : Heap} {locs : List Loc} {ls : Array Slot} {pc idx : Nat} {a1 a2 a3 : Int32} (rest : List Value) (hcs : cells ≤ room_1.cells ∧ slots ≤ room_1.slots) (C0 : lw_At p s m meth c b L xs) (hbx : s.heap.size ≤ bx) (hbm : bx + 93 ≤ bm) (hK : zK E s) (hO : zO s ∧ zZ G (fun q => s.heap.size ≤ q) s s.heap) (hG : GG E bx bm mi ko T M I H) (hS : va_S (fun q => s.heap.size ≤ q) s.heap H locs) (hls : ls.size = 4) (hW : (rest.map fun v => v.category).sum ≤ 8) (hlk : Cond.methodLink RL idx yX11_deed ∈ zb) (hd : decode cL_law pc = .ok (.invokevirtual idx, 3))
    (kk : ∀ (r : Int32) (M' : Nat → Nat → Int32) (H : Heap) (locs : List Loc), (M' = M) → GG E bx bm mi ko T M' I H → va_S (fun q => s.heap.size ≤ q) s.heap H locs → W p l e room_1 s m #[Value.ref b] below meth c H locs cells slots (lw_Z below #[Value.ref b] s) (F0 m (pc + 3) ls (.int r :: rest))) : W p l e room_1 s m #[Value.ref b] below meth c H locs cells slots (lw_Z below #[Value.ref b] s) (F0 m pc ls (.int a3 :: .int a2 :: .int a1 :: .ref bm :: rest)) := by
  obtain ⟨hx, hb, hr, hml, hown, hts, hX0, hbl, hlocks, hgv⟩ := id C0
  have zc : zC p s m #[Value.ref b] meth c cL_law 4 RL ret := ⟨hx, hb, hml, hown, fun w hw => hts w (zb_in hw), hr, hlocks⟩
  obtain ⟨hXS, hMS, hE, hT, hMT⟩ := hG
  obtain ⟨S, V, f_word, a_rest, hI, hM⟩ := id hMS
  refine zVx_i [.int a1, .int a2, .int a3] rest zc ky_X11_deed kz_X11_deed hlk (c_m_deed l (post := (fun r f_code f_evening => (iv 0 0 f_code))) (s_m_deed_0 (hI.1 0) (hMT.2.2.1) (hMT.2.2.2.2.1) (fun _ _ _ _ h1 => h1))) (mPreV0 hK hM) hS (fun q (h : mA bm q) => Nat.le_trans hbx (Nat.le_trans (Nat.le_trans (Nat.le_add_right bx 93) hbm) h.1)) rfl rfl hls hW ⟨rfl, rfl⟩ ⟨(Nat.le_of_ble_eq_true rfl), (Nat.le_of_ble_eq_true rfl)⟩ hcs hd (fun r u H1 locs1 hw h9 hk hS => ?_)
  obtain ⟨f_code, f_evening⟩ := u
  have n_f_code := hw
  exact kk r _ _ _ rfl ⟨XS_kp hXS (fun z h1 h2 h3 => hk z h1 (fun (hA : mA bm z) => zap hbm hA.1 h3)), MS_of1 (M := M) h9 n_f_code (hI.1 12) (hI.1 13) (hI.1 14) (hI.2 2) (hI.2 3) (hI.2 4) (hI.2 6) (hI.1 16) (hI.2 7) (hI.2 8) (hI.2 12) (hI.2 13) (hI.2 14) (hI.1 21) (hI.2 16), lE_kp hE (fun z h1 h2 => hk z h1 (fun (hA : mA bm z) => absurd hA.2 (Nat.not_lt.mpr h2))), hT, hMT⟩ hS

set_option maxRecDepth 40000 in
set_option maxHeartbeats 4000000 in
theorem gm_drawn {p : Program} {l : Launch} {e : Env} {s : State} {m : MethodId} {below : List Frame} {meth : Method} {c : Code} {E : zE} {G : zG} {b L bx bm cells slots : Nat} {xs : Nat → Int32} {mi : Nat → Option Nat} {ko : Option Nat} {T : TT} {M : Nat → Nat → Int32} {I : Nat → TT} {H : Heap} {locs : List Loc} {ls : Array Slot} {pc idx : Nat} {a1 a2 a3 a4 : Int32} (rest : List Value) (hcs : cells ≤ room_1.cells ∧ slots ≤ room_1.slots) (C0 : lw_At p s m meth c b L xs) (hbx : s.heap.size ≤ bx) (hbm : bx + 93 ≤ bm) (hK : zK E s) (hO : zO s ∧ zZ G (fun q => s.heap.size ≤ q) s s.heap) (hG : GG E bx bm mi ko T M I H) (hS : va_S (fun q => s.heap.size ≤ q) s.heap H locs) (hls : ls.size = 4) (hW : (rest.map fun v => v.category).sum ≤ 8) (hlk : Cond.methodLink RL idx yX11_drawn ∈ zb) (hd : decode cL_law pc = .ok (.invokevirtual idx, 3))
    (kk : ∀ (r : Int32) (M' : Nat → Nat → Int32) (H : Heap) (locs : List Loc), (M' = M) → GG E bx bm mi ko T M' I H → va_S (fun q => s.heap.size ≤ q) s.heap H locs → W p l e room_1 s m #[Value.ref b] below meth c H locs cells slots (lw_Z below #[Value.ref b] s) (F0 m (pc + 3) ls (.int r :: rest))) : W p l e room_1 s m #[Value.ref b] below meth c H locs cells slots (lw_Z below #[Value.ref b] s) (F0 m pc ls (.int a4 :: .int a3 :: .int a2 :: .int a1 :: .ref bm :: rest)) := by
  obtain ⟨hx, hb, hr, hml, hown, hts, hX0, hbl, hlocks, hgv⟩ := id C0
  have zc : zC p s m #[Value.ref b] meth c cL_law 4 RL ret := ⟨hx, hb, hml, hown, fun w hw => hts w (zb_in hw), hr, hlocks⟩
  obtain ⟨hXS, hMS, hE, hT, hMT⟩ := hG
  obtain ⟨S, V, f_word, a_rest, hI, hM⟩ := id hMS
  refine zVx_i [.int a1, .int a2, .int a3, .int a4] rest zc ky_X11_drawn kz_X11_drawn hlk (c_m_drawn l (post := (fun r f_code f_land f_huts f_singers a_at a_knows a_climbed a_snow a_level f_begun f_minute f_avalanches f_seed => (iv 0 0 f_code) ∧ (iv 0 1 f_land) ∧ (iv 0 9 f_huts) ∧ (iv 0 6 f_singers) ∧ (∀ j, iv 0 8 (a_at j)) ∧ (∀ j, iv 0 31 (a_knows j)) ∧ (∀ j, iv 0 1 (a_climbed j)) ∧ (∀ j, iv (-9) 108 (a_level j)) ∧ (iv 0 31 f_begun))) (s_m_drawn_0 (hI.1 0) (hMT.2.2.1) (hMT.2.2.2.1) (hI.1 12) (hI.1 13) (hI.1 14) (hI.2 2) (hI.2 3) (hI.2 4) (hI.2 6) (hI.1 16) (fun _ _ _ _ _ _ _ _ _ _ _ _ _ _ h0 h1 h2 h3 h4 h5 h6 h7 h8 => ⟨h0, h1, h2, h3, h4, h5, h6, h7, h8⟩))) (mPreV0 hK hM) hS (fun q (h : mA bm q) => Nat.le_trans hbx (Nat.le_trans (Nat.le_trans (Nat.le_add_right bx 93) hbm) h.1)) rfl rfl hls hW ⟨rfl, rfl⟩ ⟨(Nat.le_of_ble_eq_true rfl), (Nat.le_of_ble_eq_true rfl)⟩ hcs hd (fun r u H1 locs1 hw h9 hk hS => ?_)
  obtain ⟨f_code, f_land, f_huts, f_singers, a_at, a_knows, a_climbed, a_snow, a_level, f_begun, f_minute, f_avalanches, f_seed⟩ := u
  obtain ⟨n_f_code, n_f_land, n_f_huts, n_f_singers, n_a_at, n_a_knows, n_a_climbed, n_a_level, n_f_begun⟩ := hw
  exact kk r _ _ _ rfl ⟨XS_kp hXS (fun z h1 h2 h3 => hk z h1 (fun (hA : mA bm z) => zap hbm hA.1 h3)), MS_of1 (M := M) h9 n_f_code n_f_land n_f_huts n_f_singers n_a_at n_a_knows n_a_climbed n_a_level n_f_begun (hI.2 7) (hI.2 8) (hI.2 12) (hI.2 13) (hI.2 14) (hI.1 21) (hI.2 16), lE_kp hE (fun z h1 h2 => hk z h1 (fun (hA : mA bm z) => absurd hA.2 (Nat.not_lt.mpr h2))), hT, hMT⟩ hS
end
section
set_option maxRecDepth 40000 in
set_option maxHeartbeats 4000000 in
theorem gm_echo {p : Program} {l : Launch} {e : Env} {s : State} {m : MethodId} {below : List Frame} {meth : Method} {c : Code} {E : zE} {G : zG} {b L bx bm cells slots : Nat} {xs : Nat → Int32} {mi : Nat → Option Nat} {ko : Option Nat} {T : TT} {M : Nat → Nat → Int32} {I : Nat → TT} {H : Heap} {locs : List Loc} {ls : Array Slot} {pc idx : Nat} {a1 a2 a3 : Int32} (rest : List Value) (hcs : cells ≤ room_1.cells ∧ slots ≤ room_1.slots) (C0 : lw_At p s m meth c b L xs) (hbx : s.heap.size ≤ bx) (hbm : bx + 93 ≤ bm) (hK : zK E s) (hO : zO s ∧ zZ G (fun q => s.heap.size ≤ q) s s.heap) (hG : GG E bx bm mi ko T M I H) (hS : va_S (fun q => s.heap.size ≤ q) s.heap H locs) (hls : ls.size = 4) (hW : (rest.map fun v => v.category).sum ≤ 8) (hlk : Cond.methodLink RL idx yX11_echo ∈ zb) (hd : decode cL_law pc = .ok (.invokevirtual idx, 3))
    (kk : ∀ (r : Int32) (M' : Nat → Nat → Int32) (H : Heap) (locs : List Loc), (M' = M) → GG E bx bm mi ko T M' I H → va_S (fun q => s.heap.size ≤ q) s.heap H locs → W p l e room_1 s m #[Value.ref b] below meth c H locs cells slots (lw_Z below #[Value.ref b] s) (F0 m (pc + 3) ls (.int r :: rest))) : W p l e room_1 s m #[Value.ref b] below meth c H locs cells slots (lw_Z below #[Value.ref b] s) (F0 m pc ls (.int a3 :: .int a2 :: .int a1 :: .ref bm :: rest)) := by
  obtain ⟨hx, hb, hr, hml, hown, hts, hX0, hbl, hlocks, hgv⟩ := id C0
  have zc : zC p s m #[Value.ref b] meth c cL_law 4 RL ret := ⟨hx, hb, hml, hown, fun w hw => hts w (zb_in hw), hr, hlocks⟩
  obtain ⟨hXS, hMS, hE, hT, hMT⟩ := hG
  obtain ⟨S, V, f_word, a_rest, hI, hM⟩ := id hMS
  refine zVx_i [.int a1, .int a2, .int a3] rest zc ky_X11_echo kz_X11_echo hlk (c_m_echo l (post := (fun r f_code f_land f_huts f_singers => (iv 0 0 f_code) ∧ (iv 0 1 f_land) ∧ (iv 0 9 f_huts) ∧ (iv 0 6 f_singers))) (s_m_echo_0 (hI.1 0) (hMT.2.2.1) (hMT.2.2.2.1) (hI.1 12) (hI.1 13) (hI.1 14) (fun _ _ _ _ _ _ h1 h2 h3 h4 => ⟨h1, h2, h3, h4⟩))) (mPreV0 hK hM) hS (fun q (h : mA bm q) => Nat.le_trans hbx (Nat.le_trans (Nat.le_trans (Nat.le_add_right bx 93) hbm) h.1)) rfl rfl hls hW ⟨rfl, rfl⟩ ⟨(Nat.le_of_ble_eq_true rfl), (Nat.le_of_ble_eq_true rfl)⟩ hcs hd (fun r u H1 locs1 hw h9 hk hS => ?_)
  obtain ⟨f_code, f_land, f_huts, f_singers⟩ := u
  obtain ⟨n_f_code, n_f_land, n_f_huts, n_f_singers⟩ := hw
  exact kk r _ _ _ rfl ⟨XS_kp hXS (fun z h1 h2 h3 => hk z h1 (fun (hA : mA bm z) => zap hbm hA.1 h3)), MS_of1 (M := M) h9 n_f_code n_f_land n_f_huts n_f_singers (hI.2 2) (hI.2 3) (hI.2 4) (hI.2 6) (hI.1 16) (hI.2 7) (hI.2 8) (hI.2 12) (hI.2 13) (hI.2 14) (hI.1 21) (hI.2 16), lE_kp hE (fun z h1 h2 => hk z h1 (fun (hA : mA bm z) => absurd hA.2 (Nat.not_lt.mpr h2))), hT, hMT⟩ hS

set_option maxRecDepth 40000 in
set_option maxHeartbeats 4000000 in
theorem gm_end {p : Program} {l : Launch} {e : Env} {s : State} {m : MethodId} {below : List Frame} {meth : Method} {c : Code} {E : zE} {G : zG} {b L bx bm cells slots : Nat} {xs : Nat → Int32} {mi : Nat → Option Nat} {ko : Option Nat} {T : TT} {M : Nat → Nat → Int32} {I : Nat → TT} {H : Heap} {locs : List Loc} {ls : Array Slot} {pc idx : Nat} {a1 : Int32} (rest : List Value) (hcs : cells ≤ room_1.cells ∧ slots ≤ room_1.slots) (C0 : lw_At p s m meth c b L xs) (hbx : s.heap.size ≤ bx) (hbm : bx + 93 ≤ bm) (hK : zK E s) (hO : zO s ∧ zZ G (fun q => s.heap.size ≤ q) s s.heap) (hG : GG E bx bm mi ko T M I H) (hS : va_S (fun q => s.heap.size ≤ q) s.heap H locs) (hls : ls.size = 4) (hW : (rest.map fun v => v.category).sum ≤ 8) (hlk : Cond.methodLink RL idx yX11_end ∈ zb) (hd : decode cL_law pc = .ok (.invokevirtual idx, 3))
    (kk : ∀ (r : Int32) (M' : Nat → Nat → Int32) (H : Heap) (locs : List Loc), (mEN M M' a1 r) → GG E bx bm mi ko T M' I H → va_S (fun q => s.heap.size ≤ q) s.heap H locs → W p l e room_1 s m #[Value.ref b] below meth c H locs cells slots (lw_Z below #[Value.ref b] s) (F0 m (pc + 3) ls (.int r :: rest))) : W p l e room_1 s m #[Value.ref b] below meth c H locs cells slots (lw_Z below #[Value.ref b] s) (F0 m pc ls (.int a1 :: .ref bm :: rest)) := by
  obtain ⟨hx, hb, hr, hml, hown, hts, hX0, hbl, hlocks, hgv⟩ := id C0
  have zc : zC p s m #[Value.ref b] meth c cL_law 4 RL ret := ⟨hx, hb, hml, hown, fun w hw => hts w (zb_in hw), hr, hlocks⟩
  obtain ⟨hXS, hMS, hE, hT, hMT⟩ := hG
  obtain ⟨S, V, f_word, a_rest, hI, hM⟩ := id hMS
  refine zVx_i [.int a1] rest zc ky_X11_end kz_X11_end hlk (c_m_end l (post := fun r f_code a_size => r = enR (M 1 0) a1 ∧ a_size 0 = enL (M 1 0) a1 ∧ (∀ j, ¬ j = 0 → a_size j = M 1 j) ∧ iv 0 0 f_code ∧ (∀ j, iv 0 600 (a_size j))) (e_m_end (hMT.2.1) (fun _ h1 h2 h3 => ⟨rfl, h2, h3, iv_lit (by decide), h1⟩))) (mPreV0 hK hM) hS (fun q (h : mA bm q) => Nat.le_trans hbx (Nat.le_trans (Nat.le_trans (Nat.le_add_right bx 93) hbm) h.1)) rfl rfl hls hW ⟨rfl, rfl⟩ ⟨(Nat.le_of_ble_eq_true rfl), (Nat.le_of_ble_eq_true rfl)⟩ hcs hd (fun r u H1 locs1 hw h9 hk hS => ?_)
  obtain ⟨f_code, a_size⟩ := u
  obtain ⟨hr1, z1, z2, n_f_code, n_a_size⟩ := hw
  exact kk r (mmk (M 0) a_size (M 2) (M 3) (M 4) (M 5) (M 6) (M 7) (M 8) (M 9)) _ _ ⟨mSA_mk z2, rfl, hr1, z1⟩ ⟨XS_kp hXS (fun z h1 h2 h3 => hk z h1 (fun (hA : mA bm z) => zap hbm hA.1 h3)), MS_of h9 n_f_code (hI.1 12) (hI.1 13) (hI.1 14) (hI.2 2) (hI.2 3) (hI.2 4) (hI.2 6) (hI.1 16) (hI.2 7) (hI.2 8) (hI.2 12) (hI.2 13) (hI.2 14) (hI.1 21) (hI.2 16), lE_kp hE (fun z h1 h2 => hk z h1 (fun (hA : mA bm z) => absurd hA.2 (Nat.not_lt.mpr h2))), hT, ⟨(hMT.1), n_a_size, (hMT.2.2.1), (hMT.2.2.2.1), (hMT.2.2.2.2.1), (hMT.2.2.2.2.2.1), (hMT.2.2.2.2.2.2.1), (hMT.2.2.2.2.2.2.2)⟩⟩ hS

set_option maxRecDepth 40000 in
set_option maxHeartbeats 4000000 in
theorem gm_fact {p : Program} {l : Launch} {e : Env} {s : State} {m : MethodId} {below : List Frame} {meth : Method} {c : Code} {E : zE} {G : zG} {b L bx bm cells slots : Nat} {xs : Nat → Int32} {mi : Nat → Option Nat} {ko : Option Nat} {T : TT} {M : Nat → Nat → Int32} {I : Nat → TT} {H : Heap} {locs : List Loc} {ls : Array Slot} {pc idx : Nat} {a1 a2 a3 : Int32} (rest : List Value) (hcs : cells ≤ room_1.cells ∧ slots ≤ room_1.slots) (C0 : lw_At p s m meth c b L xs) (hbx : s.heap.size ≤ bx) (hbm : bx + 93 ≤ bm) (hK : zK E s) (hO : zO s ∧ zZ G (fun q => s.heap.size ≤ q) s s.heap) (hG : GG E bx bm mi ko T M I H) (hS : va_S (fun q => s.heap.size ≤ q) s.heap H locs) (hls : ls.size = 4) (hW : (rest.map fun v => v.category).sum ≤ 8) (hlk : Cond.methodLink RL idx yX11_fact ∈ zb) (hd : decode cL_law pc = .ok (.invokevirtual idx, 3))
    (kk : ∀ (r : Int32) (M' : Nat → Nat → Int32) (H : Heap) (locs : List Loc), (M' = M) → GG E bx bm mi ko T M' I H → va_S (fun q => s.heap.size ≤ q) s.heap H locs → W p l e room_1 s m #[Value.ref b] below meth c H locs cells slots (lw_Z below #[Value.ref b] s) (F0 m (pc + 3) ls (.int r :: rest))) : W p l e room_1 s m #[Value.ref b] below meth c H locs cells slots (lw_Z below #[Value.ref b] s) (F0 m pc ls (.int a3 :: .int a2 :: .int a1 :: .ref bm :: rest)) := by
  obtain ⟨hx, hb, hr, hml, hown, hts, hX0, hbl, hlocks, hgv⟩ := id C0
  have zc : zC p s m #[Value.ref b] meth c cL_law 4 RL ret := ⟨hx, hb, hml, hown, fun w hw => hts w (zb_in hw), hr, hlocks⟩
  obtain ⟨hXS, hMS, hE, hT, hMT⟩ := hG
  obtain ⟨S, V, f_word, a_rest, hI, hM⟩ := id hMS
  refine zVx_i [.int a1, .int a2, .int a3] rest zc ky_X11_fact kz_X11_fact hlk (c_m_fact l (post := (fun r f_code f_sight => (iv 0 0 f_code))) (s_m_fact_0 (hI.1 0) (hMT.2.2.1) (hMT.2.2.2.2.2.1) (fun _ _ _ _ h1 => h1))) (mPreV0 hK hM) hS (fun q (h : mA bm q) => Nat.le_trans hbx (Nat.le_trans (Nat.le_trans (Nat.le_add_right bx 93) hbm) h.1)) rfl rfl hls hW ⟨rfl, rfl⟩ ⟨(Nat.le_of_ble_eq_true rfl), (Nat.le_of_ble_eq_true rfl)⟩ hcs hd (fun r u H1 locs1 hw h9 hk hS => ?_)
  obtain ⟨f_code, f_sight⟩ := u
  have n_f_code := hw
  exact kk r _ _ _ rfl ⟨XS_kp hXS (fun z h1 h2 h3 => hk z h1 (fun (hA : mA bm z) => zap hbm hA.1 h3)), MS_of1 (M := M) h9 n_f_code (hI.1 12) (hI.1 13) (hI.1 14) (hI.2 2) (hI.2 3) (hI.2 4) (hI.2 6) (hI.1 16) (hI.2 7) (hI.2 8) (hI.2 12) (hI.2 13) (hI.2 14) (hI.1 21) (hI.2 16), lE_kp hE (fun z h1 h2 => hk z h1 (fun (hA : mA bm z) => absurd hA.2 (Nat.not_lt.mpr h2))), hT, hMT⟩ hS

set_option maxRecDepth 40000 in
set_option maxHeartbeats 4000000 in
theorem gm_fault {p : Program} {l : Launch} {e : Env} {s : State} {m : MethodId} {below : List Frame} {meth : Method} {c : Code} {E : zE} {G : zG} {b L bx bm cells slots : Nat} {xs : Nat → Int32} {mi : Nat → Option Nat} {ko : Option Nat} {T : TT} {M : Nat → Nat → Int32} {I : Nat → TT} {H : Heap} {locs : List Loc} {ls : Array Slot} {pc idx : Nat} {a1 : Int32} (rest : List Value) (hcs : cells ≤ room_1.cells ∧ slots ≤ room_1.slots) (C0 : lw_At p s m meth c b L xs) (hbx : s.heap.size ≤ bx) (hbm : bx + 93 ≤ bm) (hK : zK E s) (hO : zO s ∧ zZ G (fun q => s.heap.size ≤ q) s s.heap) (hG : GG E bx bm mi ko T M I H) (hS : va_S (fun q => s.heap.size ≤ q) s.heap H locs) (hls : ls.size = 4) (hW : (rest.map fun v => v.category).sum ≤ 8) (hlk : Cond.methodLink RL idx yX11_fault ∈ zb) (hd : decode cL_law pc = .ok (.invokevirtual idx, 3))
    (kk : ∀ (r : Int32) (M' : Nat → Nat → Int32) (H : Heap) (locs : List Loc), (M' = M) → GG E bx bm mi ko T M' I H → va_S (fun q => s.heap.size ≤ q) s.heap H locs → W p l e room_1 s m #[Value.ref b] below meth c H locs cells slots (lw_Z below #[Value.ref b] s) (F0 m (pc + 3) ls (.int r :: rest))) : W p l e room_1 s m #[Value.ref b] below meth c H locs cells slots (lw_Z below #[Value.ref b] s) (F0 m pc ls (.int a1 :: .ref bm :: rest)) := by
  obtain ⟨hx, hb, hr, hml, hown, hts, hX0, hbl, hlocks, hgv⟩ := id C0
  have zc : zC p s m #[Value.ref b] meth c cL_law 4 RL ret := ⟨hx, hb, hml, hown, fun w hw => hts w (zb_in hw), hr, hlocks⟩
  obtain ⟨hXS, hMS, hE, hT, hMT⟩ := hG
  obtain ⟨S, V, f_word, a_rest, hI, hM⟩ := id hMS
  refine zVx_i [.int a1] rest zc ky_X11_fault kz_X11_fault hlk (c_m_fault l (post := (fun r f_code => (iv 0 0 f_code))) (s_m_fault_0 (hI.1 0) (fun _ _ h0 => h0))) (mPreV0 hK hM) hS (fun q (h : mA bm q) => Nat.le_trans hbx (Nat.le_trans (Nat.le_trans (Nat.le_add_right bx 93) hbm) h.1)) rfl rfl hls hW ⟨rfl, rfl⟩ ⟨(Nat.le_of_ble_eq_true rfl), (Nat.le_of_ble_eq_true rfl)⟩ hcs hd (fun r u H1 locs1 hw h9 hk hS => ?_)
  obtain ⟨f_code, eu⟩ : ∃ y, y = u := ⟨u, rfl⟩
  subst eu
  have n_f_code := hw
  exact kk r _ _ _ rfl ⟨XS_kp hXS (fun z h1 h2 h3 => hk z h1 (fun (hA : mA bm z) => zap hbm hA.1 h3)), MS_of1 (M := M) h9 n_f_code (hI.1 12) (hI.1 13) (hI.1 14) (hI.2 2) (hI.2 3) (hI.2 4) (hI.2 6) (hI.1 16) (hI.2 7) (hI.2 8) (hI.2 12) (hI.2 13) (hI.2 14) (hI.1 21) (hI.2 16), lE_kp hE (fun z h1 h2 => hk z h1 (fun (hA : mA bm z) => absurd hA.2 (Nat.not_lt.mpr h2))), hT, hMT⟩ hS

set_option maxRecDepth 40000 in
set_option maxHeartbeats 4000000 in
theorem gm_feed {p : Program} {l : Launch} {e : Env} {s : State} {m : MethodId} {below : List Frame} {meth : Method} {c : Code} {E : zE} {G : zG} {b L bx bm cells slots : Nat} {xs : Nat → Int32} {mi : Nat → Option Nat} {ko : Option Nat} {T : TT} {M : Nat → Nat → Int32} {I : Nat → TT} {H : Heap} {locs : List Loc} {ls : Array Slot} {pc idx : Nat} {a1 a2 a3 a4 a5 : Int32} (rest : List Value) (hcs : cells ≤ room_1.cells ∧ slots ≤ room_1.slots) (C0 : lw_At p s m meth c b L xs) (hbx : s.heap.size ≤ bx) (hbm : bx + 93 ≤ bm) (hK : zK E s) (hO : zO s ∧ zZ G (fun q => s.heap.size ≤ q) s s.heap) (hG : GG E bx bm mi ko T M I H) (hS : va_S (fun q => s.heap.size ≤ q) s.heap H locs) (hls : ls.size = 4) (hW : (rest.map fun v => v.category).sum ≤ 8) (hlk : Cond.methodLink RL idx yX11_feed ∈ zb) (hd : decode cL_law pc = .ok (.invokevirtual idx, 3))
    (kk : ∀ (r : Int32) (M' : Nat → Nat → Int32) (H : Heap) (locs : List Loc), (mFD M M' a1 a2 a3 a4 a5 r) → GG E bx bm mi ko T M' I H → va_S (fun q => s.heap.size ≤ q) s.heap H locs → W p l e room_1 s m #[Value.ref b] below meth c H locs cells slots (lw_Z below #[Value.ref b] s) (F0 m (pc + 3) ls (.int r :: rest))) : W p l e room_1 s m #[Value.ref b] below meth c H locs cells slots (lw_Z below #[Value.ref b] s) (F0 m pc ls (.int a5 :: .int a4 :: .int a3 :: .int a2 :: .int a1 :: .ref bm :: rest)) := by
  obtain ⟨hx, hb, hr, hml, hown, hts, hX0, hbl, hlocks, hgv⟩ := id C0
  have zc : zC p s m #[Value.ref b] meth c cL_law 4 RL ret := ⟨hx, hb, hml, hown, fun w hw => hts w (zb_in hw), hr, hlocks⟩
  obtain ⟨hXS, hMS, hE, hT, hMT⟩ := hG
  obtain ⟨S, V, f_word, a_rest, hI, hM⟩ := id hMS
  refine zVx_i [.int a1, .int a2, .int a3, .int a4, .int a5] rest zc ky_X11_feed kz_X11_feed hlk (c_m_feed l (post := (fun r f_code a_tape a_size => (mFD M (mmk a_tape a_size (M 2) (M 3) (M 4) (M 5) (M 6) (M 7) (M 8) (M 9)) a1 a2 a3 a4 a5 r) ∧ (iv 0 0 f_code) ∧ (∀ j, iv (-128) 127 (a_tape j)) ∧ (∀ j, iv 0 600 (a_size j)))) (cj_q_m_feed_0 (post_1 := fun r f_code a_tape a_size => mFD M (mmk a_tape a_size (M 2) (M 3) (M 4) (M 5) (M 6) (M 7) (M 8) (M 9)) a1 a2 a3 a4 a5 r) (post_2 := (fun r f_code a_tape a_size => (iv 0 0 f_code) ∧ (∀ j, iv (-128) 127 (a_tape j)) ∧ (∀ j, iv 0 600 (a_size j)))) (post_3 := (fun r f_code a_tape a_size => (mFD M (mmk a_tape a_size (M 2) (M 3) (M 4) (M 5) (M 6) (M 7) (M 8) (M 9)) a1 a2 a3 a4 a5 r) ∧ (iv 0 0 f_code) ∧ (∀ j, iv (-128) 127 (a_tape j)) ∧ (∀ j, iv 0 600 (a_size j)))) (fun _ _ _ _ a b => ⟨a, b⟩) (e_m_feed2 ((hMT.2.1) 0) (fun h => mFD_no h) (fun _ e hle _ _ hb h0 hz => mFD_yes e hle hb h0 hz)) (e_m_feed (hMT.1) (hMT.2.1) (fun _ _ h1 h2 _ _ => ⟨iv_lit (by decide), h1, h2⟩)))) (mPreV0 hK hM) hS (fun q (h : mA bm q) => Nat.le_trans hbx (Nat.le_trans (Nat.le_trans (Nat.le_add_right bx 93) hbm) h.1)) rfl rfl hls hW ⟨rfl, rfl⟩ ⟨(Nat.le_of_ble_eq_true rfl), (Nat.le_of_ble_eq_true rfl)⟩ hcs hd (fun r u H1 locs1 hw h9 hk hS => ?_)
  obtain ⟨f_code, a_tape, a_size⟩ := u
  obtain ⟨hrel, n_f_code, n_a_tape, n_a_size⟩ := hw
  exact kk r (mmk a_tape a_size (M 2) (M 3) (M 4) (M 5) (M 6) (M 7) (M 8) (M 9)) _ _ hrel ⟨XS_kp hXS (fun z h1 h2 h3 => hk z h1 (fun (hA : mA bm z) => zap hbm hA.1 h3)), MS_of h9 n_f_code (hI.1 12) (hI.1 13) (hI.1 14) (hI.2 2) (hI.2 3) (hI.2 4) (hI.2 6) (hI.1 16) (hI.2 7) (hI.2 8) (hI.2 12) (hI.2 13) (hI.2 14) (hI.1 21) (hI.2 16), lE_kp hE (fun z h1 h2 => hk z h1 (fun (hA : mA bm z) => absurd hA.2 (Nat.not_lt.mpr h2))), hT, ⟨n_a_tape, n_a_size, (hMT.2.2.1), (hMT.2.2.2.1), (hMT.2.2.2.2.1), (hMT.2.2.2.2.2.1), (hMT.2.2.2.2.2.2.1), (hMT.2.2.2.2.2.2.2)⟩⟩ hS

set_option maxRecDepth 40000 in
set_option maxHeartbeats 4000000 in
theorem gm_fits {p : Program} {l : Launch} {e : Env} {s : State} {m : MethodId} {below : List Frame} {meth : Method} {c : Code} {E : zE} {G : zG} {b L bx bm cells slots : Nat} {xs : Nat → Int32} {mi : Nat → Option Nat} {ko : Option Nat} {T : TT} {M : Nat → Nat → Int32} {I : Nat → TT} {H : Heap} {locs : List Loc} {ls : Array Slot} {pc idx : Nat} {a1 a2 a3 : Int32} (rest : List Value) (hcs : cells ≤ room_1.cells ∧ slots ≤ room_1.slots) (C0 : lw_At p s m meth c b L xs) (hbx : s.heap.size ≤ bx) (hbm : bx + 93 ≤ bm) (hK : zK E s) (hO : zO s ∧ zZ G (fun q => s.heap.size ≤ q) s s.heap) (hG : GG E bx bm mi ko T M I H) (hS : va_S (fun q => s.heap.size ≤ q) s.heap H locs) (hls : ls.size = 4) (hW : (rest.map fun v => v.category).sum ≤ 8) (hlk : Cond.methodLink RL idx yX11_fits ∈ zb) (hd : decode cL_law pc = .ok (.invokevirtual idx, 3))
    (kk : ∀ (r : Int32) (M' : Nat → Nat → Int32) (H : Heap) (locs : List Loc), (M' = M) → GG E bx bm mi ko T M' I H → va_S (fun q => s.heap.size ≤ q) s.heap H locs → W p l e room_1 s m #[Value.ref b] below meth c H locs cells slots (lw_Z below #[Value.ref b] s) (F0 m (pc + 3) ls (.int r :: rest))) : W p l e room_1 s m #[Value.ref b] below meth c H locs cells slots (lw_Z below #[Value.ref b] s) (F0 m pc ls (.int a3 :: .int a2 :: .int a1 :: .ref bm :: rest)) := by
  obtain ⟨hx, hb, hr, hml, hown, hts, hX0, hbl, hlocks, hgv⟩ := id C0
  have zc : zC p s m #[Value.ref b] meth c cL_law 4 RL ret := ⟨hx, hb, hml, hown, fun w hw => hts w (zb_in hw), hr, hlocks⟩
  obtain ⟨hXS, hMS, hE, hT, hMT⟩ := hG
  obtain ⟨S, V, f_word, a_rest, hI, hM⟩ := id hMS
  refine zVx_i [.int a1, .int a2, .int a3] rest zc ky_X11_fits kz_X11_fits hlk (c_m_fits l (post := (fun r f_code f_land f_huts f_singers a_run f_sight a_runs => (iv 0 0 f_code) ∧ (iv 0 1 f_land) ∧ (iv 0 9 f_huts) ∧ (iv 0 6 f_singers) ∧ (∀ j, iv 0 1000000 (a_run j)) ∧ (∀ j, iv 0 1000000 (a_runs j)))) (s_m_fits_0 (hI.1 0) (hMT.2.2.1) (hMT.2.2.2.1) (hMT.2.2.2.2.2.1) (hI.1 12) (hI.1 13) (hI.1 14) (hI.2 7) (hI.2 14) (fun _ _ _ _ _ _ _ _ _ h1 h2 h3 h4 h5 h6 => ⟨h1, h2, h3, h4, h5, h6⟩))) (mPreV0 hK hM) hS (fun q (h : mA bm q) => Nat.le_trans hbx (Nat.le_trans (Nat.le_trans (Nat.le_add_right bx 93) hbm) h.1)) rfl rfl hls hW ⟨rfl, rfl⟩ ⟨(Nat.le_of_ble_eq_true rfl), (Nat.le_of_ble_eq_true rfl)⟩ hcs hd (fun r u H1 locs1 hw h9 hk hS => ?_)
  obtain ⟨f_code, f_land, f_huts, f_singers, a_run, f_sight, a_runs⟩ := u
  obtain ⟨n_f_code, n_f_land, n_f_huts, n_f_singers, n_a_run, n_a_runs⟩ := hw
  exact kk r _ _ _ rfl ⟨XS_kp hXS (fun z h1 h2 h3 => hk z h1 (fun (hA : mA bm z) => zap hbm hA.1 h3)), MS_of1 (M := M) h9 n_f_code n_f_land n_f_huts n_f_singers (hI.2 2) (hI.2 3) (hI.2 4) (hI.2 6) (hI.1 16) n_a_run (hI.2 8) (hI.2 12) (hI.2 13) n_a_runs (hI.1 21) (hI.2 16), lE_kp hE (fun z h1 h2 => hk z h1 (fun (hA : mA bm z) => absurd hA.2 (Nat.not_lt.mpr h2))), hT, hMT⟩ hS

set_option maxRecDepth 40000 in
set_option maxHeartbeats 4000000 in
theorem gm_flood {p : Program} {l : Launch} {e : Env} {s : State} {m : MethodId} {below : List Frame} {meth : Method} {c : Code} {E : zE} {G : zG} {b L bx bm cells slots : Nat} {xs : Nat → Int32} {mi : Nat → Option Nat} {ko : Option Nat} {T : TT} {M : Nat → Nat → Int32} {I : Nat → TT} {H : Heap} {locs : List Loc} {ls : Array Slot} {pc idx : Nat} {a1 a2 a3 a4 : Int32} (rest : List Value) (hcs : cells ≤ room_1.cells ∧ slots ≤ room_1.slots) (C0 : lw_At p s m meth c b L xs) (hbx : s.heap.size ≤ bx) (hbm : bx + 93 ≤ bm) (hK : zK E s) (hO : zO s ∧ zZ G (fun q => s.heap.size ≤ q) s s.heap) (hG : GG E bx bm mi ko T M I H) (hS : va_S (fun q => s.heap.size ≤ q) s.heap H locs) (hKL : LK M) (hls : ls.size = 4) (hW : (rest.map fun v => v.category).sum ≤ 8) (hlk : Cond.methodLink RL idx yX11_flood ∈ zb) (hd : decode cL_law pc = .ok (.invokevirtual idx, 3))
    (kk : ∀ (r : Int32) (M' : Nat → Nat → Int32) (H : Heap) (locs : List Loc), (M' = M ∧ r = AN_flood M a1 a2 a3 a4) → GG E bx bm mi ko T M' I H → va_S (fun q => s.heap.size ≤ q) s.heap H locs → W p l e room_1 s m #[Value.ref b] below meth c H locs cells slots (lw_Z below #[Value.ref b] s) (F0 m (pc + 3) ls (.int r :: rest))) : W p l e room_1 s m #[Value.ref b] below meth c H locs cells slots (lw_Z below #[Value.ref b] s) (F0 m pc ls (.int a4 :: .int a3 :: .int a2 :: .int a1 :: .ref bm :: rest)) := by
  obtain ⟨hx, hb, hr, hml, hown, hts, hX0, hbl, hlocks, hgv⟩ := id C0
  have zc : zC p s m #[Value.ref b] meth c cL_law 4 RL ret := ⟨hx, hb, hml, hown, fun w hw => hts w (zb_in hw), hr, hlocks⟩
  obtain ⟨hXS, hMS, hE, hT, hMT⟩ := hG
  obtain ⟨S, V, f_word, a_rest, hI, hM⟩ := id hMS
  refine zVx_i [.int a1, .int a2, .int a3, .int a4] rest zc ky_X11_flood kz_X11_flood hlk (c_m_flood l (post := (fun r f_code f_land f_huts f_singers a_run => (r = AN_flood M a1 a2 a3 a4) ∧ (iv 0 0 f_code) ∧ (iv 0 1 f_land) ∧ (iv 0 9 f_huts) ∧ (iv 0 6 f_singers) ∧ (∀ j, iv 0 1000000 (a_run j)))) (cj_q_m_flood_0 (post_1 := fun r f_code f_land f_huts f_singers a_run => r = AN_flood M a1 a2 a3 a4) (post_2 := (fun r f_code f_land f_huts f_singers a_run => (iv 0 0 f_code) ∧ (iv 0 1 f_land) ∧ (iv 0 9 f_huts) ∧ (iv 0 6 f_singers) ∧ (∀ j, iv 0 1000000 (a_run j)))) (post_3 := (fun r f_code f_land f_huts f_singers a_run => (r = AN_flood M a1 a2 a3 a4) ∧ (iv 0 0 f_code) ∧ (iv 0 1 f_land) ∧ (iv 0 9 f_huts) ∧ (iv 0 6 f_singers) ∧ (∀ j, iv 0 1000000 (a_run j)))) (fun _ _ _ _ _ _ a b => ⟨a, b⟩) (e_m_flood (M := M) (hMT.2.2.1) (hMT.2.2.2.1) hKL (fun _ _ _ _ _ => rfl)) (s_m_flood_0 (hI.1 0) (hMT.2.2.1) (hMT.2.2.2.1) (hI.1 12) (hI.1 13) (hI.1 14) (hI.2 7) (fun _ _ _ _ _ _ h0 h1 h2 h3 h4 => ⟨h0, h1, h2, h3, h4⟩)))) (mPreV0 hK hM) hS (fun q (h : mA bm q) => Nat.le_trans hbx (Nat.le_trans (Nat.le_trans (Nat.le_add_right bx 93) hbm) h.1)) rfl rfl hls hW ⟨rfl, rfl⟩ ⟨(Nat.le_of_ble_eq_true rfl), (Nat.le_of_ble_eq_true rfl)⟩ hcs hd (fun r u H1 locs1 hw h9 hk hS => ?_)
  obtain ⟨f_code, f_land, f_huts, f_singers, a_run⟩ := u
  obtain ⟨hrel, n_f_code, n_f_land, n_f_huts, n_f_singers, n_a_run⟩ := hw
  exact kk r _ _ _ ⟨rfl, hrel⟩ ⟨XS_kp hXS (fun z h1 h2 h3 => hk z h1 (fun (hA : mA bm z) => zap hbm hA.1 h3)), MS_of1 (M := M) h9 n_f_code n_f_land n_f_huts n_f_singers (hI.2 2) (hI.2 3) (hI.2 4) (hI.2 6) (hI.1 16) n_a_run (hI.2 8) (hI.2 12) (hI.2 13) (hI.2 14) (hI.1 21) (hI.2 16), lE_kp hE (fun z h1 h2 => hk z h1 (fun (hA : mA bm z) => absurd hA.2 (Nat.not_lt.mpr h2))), hT, hMT⟩ hS

set_option maxRecDepth 40000 in
set_option maxHeartbeats 4000000 in
theorem gm_image {p : Program} {l : Launch} {e : Env} {s : State} {m : MethodId} {below : List Frame} {meth : Method} {c : Code} {E : zE} {G : zG} {b L bx bm cells slots : Nat} {xs : Nat → Int32} {mi : Nat → Option Nat} {ko : Option Nat} {T : TT} {M : Nat → Nat → Int32} {I : Nat → TT} {H : Heap} {locs : List Loc} {ls : Array Slot} {pc idx : Nat} {a1 : Int32} (rest : List Value) (hcs : cells ≤ room_1.cells ∧ slots ≤ room_1.slots) (C0 : lw_At p s m meth c b L xs) (hbx : s.heap.size ≤ bx) (hbm : bx + 93 ≤ bm) (hK : zK E s) (hO : zO s ∧ zZ G (fun q => s.heap.size ≤ q) s s.heap) (hG : GG E bx bm mi ko T M I H) (hS : va_S (fun q => s.heap.size ≤ q) s.heap H locs) (hls : ls.size = 4) (hW : (rest.map fun v => v.category).sum ≤ 8) (hlk : Cond.methodLink RL idx yX11_image ∈ zb) (hd : decode cL_law pc = .ok (.invokevirtual idx, 3))
    (kk : ∀ (r : Int32) (M' : Nat → Nat → Int32) (H : Heap) (locs : List Loc), (mIM M M' a1 r) → GG E bx bm mi ko T M' I H → va_S (fun q => s.heap.size ≤ q) s.heap H locs → W p l e room_1 s m #[Value.ref b] below meth c H locs cells slots (lw_Z below #[Value.ref b] s) (F0 m (pc + 3) ls (.int r :: rest))) : W p l e room_1 s m #[Value.ref b] below meth c H locs cells slots (lw_Z below #[Value.ref b] s) (F0 m pc ls (.int a1 :: .ref bm :: rest)) := by
  obtain ⟨hx, hb, hr, hml, hown, hts, hX0, hbl, hlocks, hgv⟩ := id C0
  have zc : zC p s m #[Value.ref b] meth c cL_law 4 RL ret := ⟨hx, hb, hml, hown, fun w hw => hts w (zb_in hw), hr, hlocks⟩
  obtain ⟨hXS, hMS, hE, hT, hMT⟩ := hG
  obtain ⟨S, V, f_word, a_rest, hI, hM⟩ := id hMS
  refine zVx_i [.int a1] rest zc ky_X11_image kz_X11_image hlk (c_m_image l (post := (fun r f_code a_tape a_size a_fault a_faultPlace a_many a_lands a_evenings a_sights a_choirs a_kept => (mIM M (mmk a_tape a_size a_fault a_faultPlace a_many a_lands a_evenings a_sights a_choirs a_kept) a1 r) ∧ (iv 0 0 f_code) ∧ (∀ j, iv (-128) 127 (a_tape j)) ∧ (∀ j, iv 0 600 (a_size j)) ∧ (∀ j, iv 0 2 (a_many j)) ∧ (mLand a_lands) ∧ (mEve a_evenings) ∧ (mSig a_sights) ∧ (mCho a_choirs) ∧ (∀ j, iv 0 1 (a_kept j)))) (cj_q_m_image_0 (post_1 := fun r f_code a_tape a_size a_fault a_faultPlace a_many a_lands a_evenings a_sights a_choirs a_kept => mIM M (mmk a_tape a_size a_fault a_faultPlace a_many a_lands a_evenings a_sights a_choirs a_kept) a1 r) (post_2 := (fun r f_code a_tape a_size a_fault a_faultPlace a_many a_lands a_evenings a_sights a_choirs a_kept => (iv 0 0 f_code) ∧ (∀ j, iv (-128) 127 (a_tape j)) ∧ (∀ j, iv 0 600 (a_size j)) ∧ (∀ j, iv 0 2 (a_many j)) ∧ (mLand a_lands) ∧ (mEve a_evenings) ∧ (mSig a_sights) ∧ (mCho a_choirs) ∧ (∀ j, iv 0 1 (a_kept j)))) (post_3 := (fun r f_code a_tape a_size a_fault a_faultPlace a_many a_lands a_evenings a_sights a_choirs a_kept => (mIM M (mmk a_tape a_size a_fault a_faultPlace a_many a_lands a_evenings a_sights a_choirs a_kept) a1 r) ∧ (iv 0 0 f_code) ∧ (∀ j, iv (-128) 127 (a_tape j)) ∧ (∀ j, iv 0 600 (a_size j)) ∧ (∀ j, iv 0 2 (a_many j)) ∧ (mLand a_lands) ∧ (mEve a_evenings) ∧ (mSig a_sights) ∧ (mCho a_choirs) ∧ (∀ j, iv 0 1 (a_kept j)))) (fun _ _ _ _ _ _ _ _ _ _ _ _ a b => ⟨a, b⟩) (e_m_image2 (M := M) (hMT.1) (fun _ _ _ _ _ _ _ _ _ _ _ h => h)) (e_m_image (hMT.1) (hMT.2.1) (hMT.2.2.1) (hMT.2.2.2.1) (hMT.2.2.2.2.1) (hMT.2.2.2.2.2.1) (hMT.2.2.2.2.2.2.1) (hMT.2.2.2.2.2.2.2) (fun _ => ⟨iv_lit (by decide), (hMT.1), (hMT.2.1), (hMT.2.2.1), (hMT.2.2.2.1), (hMT.2.2.2.2.1), (hMT.2.2.2.2.2.1), (hMT.2.2.2.2.2.2.1), (hMT.2.2.2.2.2.2.2)⟩) (fun _ _ _ t z fa fp mn l e2 s c kp _ _ _ _ g0 g1 g2 g3 g4 g5 g6 g7 => ⟨iv_lit (by decide), g0, g1, g2, g3, g4, g5, g6, g7⟩)))) (mPreV0 hK hM) hS (fun q (h : mA bm q) => Nat.le_trans hbx (Nat.le_trans (Nat.le_trans (Nat.le_add_right bx 93) hbm) h.1)) rfl rfl hls hW ⟨rfl, rfl⟩ ⟨(Nat.le_of_ble_eq_true rfl), (Nat.le_of_ble_eq_true rfl)⟩ hcs hd (fun r u H1 locs1 hw h9 hk hS => ?_)
  obtain ⟨f_code, a_tape, a_size, a_fault, a_faultPlace, a_many, a_lands, a_evenings, a_sights, a_choirs, a_kept⟩ := u
  obtain ⟨hrel, n_f_code, n_a_tape, n_a_size, n_a_many, n_a_lands, n_a_evenings, n_a_sights, n_a_choirs, n_a_kept⟩ := hw
  exact kk r (mmk a_tape a_size a_fault a_faultPlace a_many a_lands a_evenings a_sights a_choirs a_kept) _ _ hrel ⟨XS_kp hXS (fun z h1 h2 h3 => hk z h1 (fun (hA : mA bm z) => zap hbm hA.1 h3)), MS_of h9 n_f_code (hI.1 12) (hI.1 13) (hI.1 14) (hI.2 2) (hI.2 3) (hI.2 4) (hI.2 6) (hI.1 16) (hI.2 7) (hI.2 8) (hI.2 12) (hI.2 13) (hI.2 14) (hI.1 21) (hI.2 16), lE_kp hE (fun z h1 h2 => hk z h1 (fun (hA : mA bm z) => absurd hA.2 (Nat.not_lt.mpr h2))), hT, ⟨n_a_tape, n_a_size, n_a_many, n_a_lands, n_a_evenings, n_a_sights, n_a_choirs, n_a_kept⟩⟩ hS
end
section
set_option maxRecDepth 40000 in
set_option maxHeartbeats 4000000 in
theorem gm_join {p : Program} {l : Launch} {e : Env} {s : State} {m : MethodId} {below : List Frame} {meth : Method} {c : Code} {E : zE} {G : zG} {b L bx bm cells slots : Nat} {xs : Nat → Int32} {mi : Nat → Option Nat} {ko : Option Nat} {T : TT} {M : Nat → Nat → Int32} {I : Nat → TT} {H : Heap} {locs : List Loc} {ls : Array Slot} {pc idx : Nat} {a1 a2 a3 a4 : Int32} (rest : List Value) (hcs : cells ≤ room_1.cells ∧ slots ≤ room_1.slots) (C0 : lw_At p s m meth c b L xs) (hbx : s.heap.size ≤ bx) (hbm : bx + 93 ≤ bm) (hK : zK E s) (hO : zO s ∧ zZ G (fun q => s.heap.size ≤ q) s s.heap) (hG : GG E bx bm mi ko T M I H) (hS : va_S (fun q => s.heap.size ≤ q) s.heap H locs) (hls : ls.size = 4) (hW : (rest.map fun v => v.category).sum ≤ 8) (hlk : Cond.methodLink RL idx yX11_join ∈ zb) (hd : decode cL_law pc = .ok (.invokevirtual idx, 3))
    (kk : ∀ (r : Int32) (M' : Nat → Nat → Int32) (H : Heap) (locs : List Loc), (M' = M) → GG E bx bm mi ko T M' I H → va_S (fun q => s.heap.size ≤ q) s.heap H locs → W p l e room_1 s m #[Value.ref b] below meth c H locs cells slots (lw_Z below #[Value.ref b] s) (F0 m (pc + 3) ls (.int r :: rest))) : W p l e room_1 s m #[Value.ref b] below meth c H locs cells slots (lw_Z below #[Value.ref b] s) (F0 m pc ls (.int a4 :: .int a3 :: .int a2 :: .int a1 :: .ref bm :: rest)) := by
  obtain ⟨hx, hb, hr, hml, hown, hts, hX0, hbl, hlocks, hgv⟩ := id C0
  have zc : zC p s m #[Value.ref b] meth c cL_law 4 RL ret := ⟨hx, hb, hml, hown, fun w hw => hts w (zb_in hw), hr, hlocks⟩
  obtain ⟨hXS, hMS, hE, hT, hMT⟩ := hG
  obtain ⟨S, V, f_word, a_rest, hI, hM⟩ := id hMS
  refine zVx_i [.int a1, .int a2, .int a3, .int a4] rest zc ky_X11_join kz_X11_join hlk (c_m_join l (post := (fun r f_code f_land f_huts f_singers a_run a_other => (iv 0 0 f_code) ∧ (iv 0 1 f_land) ∧ (iv 0 9 f_huts) ∧ (iv 0 6 f_singers) ∧ (∀ j, iv 0 1000000 (a_run j)) ∧ (∀ j, iv 0 1000000 (a_other j)))) (s_m_join_0 (hI.1 0) (hMT.2.2.1) (hMT.2.2.2.1) (hI.1 12) (hI.1 13) (hI.1 14) (hI.2 7) (hI.2 16) (fun _ _ _ _ _ _ _ _ h1 h2 h3 h4 h5 h6 => ⟨h1, h2, h3, h4, h5, h6⟩))) (mPreV0 hK hM) hS (fun q (h : mA bm q) => Nat.le_trans hbx (Nat.le_trans (Nat.le_trans (Nat.le_add_right bx 93) hbm) h.1)) rfl rfl hls hW ⟨rfl, rfl⟩ ⟨(Nat.le_of_ble_eq_true rfl), (Nat.le_of_ble_eq_true rfl)⟩ hcs hd (fun r u H1 locs1 hw h9 hk hS => ?_)
  obtain ⟨f_code, f_land, f_huts, f_singers, a_run, a_other⟩ := u
  obtain ⟨n_f_code, n_f_land, n_f_huts, n_f_singers, n_a_run, n_a_other⟩ := hw
  exact kk r _ _ _ rfl ⟨XS_kp hXS (fun z h1 h2 h3 => hk z h1 (fun (hA : mA bm z) => zap hbm hA.1 h3)), MS_of1 (M := M) h9 n_f_code n_f_land n_f_huts n_f_singers (hI.2 2) (hI.2 3) (hI.2 4) (hI.2 6) (hI.1 16) n_a_run (hI.2 8) (hI.2 12) (hI.2 13) (hI.2 14) (hI.1 21) n_a_other, lE_kp hE (fun z h1 h2 => hk z h1 (fun (hA : mA bm z) => absurd hA.2 (Nat.not_lt.mpr h2))), hT, hMT⟩ hS

set_option maxRecDepth 40000 in
set_option maxHeartbeats 4000000 in
theorem gm_land {p : Program} {l : Launch} {e : Env} {s : State} {m : MethodId} {below : List Frame} {meth : Method} {c : Code} {E : zE} {G : zG} {b L bx bm cells slots : Nat} {xs : Nat → Int32} {mi : Nat → Option Nat} {ko : Option Nat} {T : TT} {M : Nat → Nat → Int32} {I : Nat → TT} {H : Heap} {locs : List Loc} {ls : Array Slot} {pc idx : Nat} {a1 a2 : Int32} (rest : List Value) (hcs : cells ≤ room_1.cells ∧ slots ≤ room_1.slots) (C0 : lw_At p s m meth c b L xs) (hbx : s.heap.size ≤ bx) (hbm : bx + 93 ≤ bm) (hK : zK E s) (hO : zO s ∧ zZ G (fun q => s.heap.size ≤ q) s s.heap) (hG : GG E bx bm mi ko T M I H) (hS : va_S (fun q => s.heap.size ≤ q) s.heap H locs) (hls : ls.size = 4) (hW : (rest.map fun v => v.category).sum ≤ 8) (hlk : Cond.methodLink RL idx yX11_land ∈ zb) (hd : decode cL_law pc = .ok (.invokevirtual idx, 3))
    (kk : ∀ (r : Int32) (M' : Nat → Nat → Int32) (H : Heap) (locs : List Loc), (M' = M) → GG E bx bm mi ko T M' I H → va_S (fun q => s.heap.size ≤ q) s.heap H locs → W p l e room_1 s m #[Value.ref b] below meth c H locs cells slots (lw_Z below #[Value.ref b] s) (F0 m (pc + 3) ls (.int r :: rest))) : W p l e room_1 s m #[Value.ref b] below meth c H locs cells slots (lw_Z below #[Value.ref b] s) (F0 m pc ls (.int a2 :: .int a1 :: .ref bm :: rest)) := by
  obtain ⟨hx, hb, hr, hml, hown, hts, hX0, hbl, hlocks, hgv⟩ := id C0
  have zc : zC p s m #[Value.ref b] meth c cL_law 4 RL ret := ⟨hx, hb, hml, hown, fun w hw => hts w (zb_in hw), hr, hlocks⟩
  obtain ⟨hXS, hMS, hE, hT, hMT⟩ := hG
  obtain ⟨S, V, f_word, a_rest, hI, hM⟩ := id hMS
  refine zVx_i [.int a1, .int a2] rest zc ky_X11_land kz_X11_land hlk (c_m_land l (post := (fun r f_code f_land f_huts f_singers => (iv 0 0 f_code) ∧ (iv 0 1 f_land) ∧ (iv 0 9 f_huts) ∧ (iv 0 6 f_singers))) (s_m_land_0 (hI.1 0) (hMT.2.2.1) (hMT.2.2.2.1) (hI.1 12) (hI.1 13) (hI.1 14) (fun _ _ _ _ _ _ h1 h2 h3 h4 => ⟨h1, h2, h3, h4⟩))) (mPreV0 hK hM) hS (fun q (h : mA bm q) => Nat.le_trans hbx (Nat.le_trans (Nat.le_trans (Nat.le_add_right bx 93) hbm) h.1)) rfl rfl hls hW ⟨rfl, rfl⟩ ⟨(Nat.le_of_ble_eq_true rfl), (Nat.le_of_ble_eq_true rfl)⟩ hcs hd (fun r u H1 locs1 hw h9 hk hS => ?_)
  obtain ⟨f_code, f_land, f_huts, f_singers⟩ := u
  obtain ⟨n_f_code, n_f_land, n_f_huts, n_f_singers⟩ := hw
  exact kk r _ _ _ rfl ⟨XS_kp hXS (fun z h1 h2 h3 => hk z h1 (fun (hA : mA bm z) => zap hbm hA.1 h3)), MS_of1 (M := M) h9 n_f_code n_f_land n_f_huts n_f_singers (hI.2 2) (hI.2 3) (hI.2 4) (hI.2 6) (hI.1 16) (hI.2 7) (hI.2 8) (hI.2 12) (hI.2 13) (hI.2 14) (hI.1 21) (hI.2 16), lE_kp hE (fun z h1 h2 => hk z h1 (fun (hA : mA bm z) => absurd hA.2 (Nat.not_lt.mpr h2))), hT, hMT⟩ hS

set_option maxRecDepth 40000 in
set_option maxHeartbeats 4000000 in
theorem gm_masses {p : Program} {l : Launch} {e : Env} {s : State} {m : MethodId} {below : List Frame} {meth : Method} {c : Code} {E : zE} {G : zG} {b L bx bm cells slots : Nat} {xs : Nat → Int32} {mi : Nat → Option Nat} {ko : Option Nat} {T : TT} {M : Nat → Nat → Int32} {I : Nat → TT} {H : Heap} {locs : List Loc} {ls : Array Slot} {pc idx : Nat} {a1 a2 a3 : Int32} (rest : List Value) (hcs : cells ≤ room_1.cells ∧ slots ≤ room_1.slots) (C0 : lw_At p s m meth c b L xs) (hbx : s.heap.size ≤ bx) (hbm : bx + 93 ≤ bm) (hK : zK E s) (hO : zO s ∧ zZ G (fun q => s.heap.size ≤ q) s s.heap) (hG : GG E bx bm mi ko T M I H) (hS : va_S (fun q => s.heap.size ≤ q) s.heap H locs) (hls : ls.size = 4) (hW : (rest.map fun v => v.category).sum ≤ 8) (hlk : Cond.methodLink RL idx yX11_masses ∈ zb) (hd : decode cL_law pc = .ok (.invokevirtual idx, 3))
    (kk : ∀ (r : Int32) (M' : Nat → Nat → Int32) (H : Heap) (locs : List Loc), (M' = M) → GG E bx bm mi ko T M' I H → va_S (fun q => s.heap.size ≤ q) s.heap H locs → W p l e room_1 s m #[Value.ref b] below meth c H locs cells slots (lw_Z below #[Value.ref b] s) (F0 m (pc + 3) ls (.int r :: rest))) : W p l e room_1 s m #[Value.ref b] below meth c H locs cells slots (lw_Z below #[Value.ref b] s) (F0 m pc ls (.int a3 :: .int a2 :: .int a1 :: .ref bm :: rest)) := by
  obtain ⟨hx, hb, hr, hml, hown, hts, hX0, hbl, hlocks, hgv⟩ := id C0
  have zc : zC p s m #[Value.ref b] meth c cL_law 4 RL ret := ⟨hx, hb, hml, hown, fun w hw => hts w (zb_in hw), hr, hlocks⟩
  obtain ⟨hXS, hMS, hE, hT, hMT⟩ := hG
  obtain ⟨S, V, f_word, a_rest, hI, hM⟩ := id hMS
  refine zVx_i [.int a1, .int a2, .int a3] rest zc ky_X11_masses kz_X11_masses hlk (c_m_masses l (post := (fun r f_code f_land f_huts f_singers a_covers a_far => (iv 0 0 f_code) ∧ (iv 0 1 f_land) ∧ (iv 0 9 f_huts) ∧ (iv 0 6 f_singers) ∧ (∀ j, iv 0 511 (a_covers j)) ∧ (∀ j, iv 0 1000000 (a_far j)))) (s_m_masses_0 (hI.1 0) (hMT.2.2.1) (hMT.2.2.2.1) (hI.1 12) (hI.1 13) (hI.1 14) (hI.2 8) (hI.2 13) (fun _ _ _ _ _ _ _ h0 h1 h2 h3 h4 h5 => ⟨h0, h1, h2, h3, h4, h5⟩))) (mPreV0 hK hM) hS (fun q (h : mA bm q) => Nat.le_trans hbx (Nat.le_trans (Nat.le_trans (Nat.le_add_right bx 93) hbm) h.1)) rfl rfl hls hW ⟨rfl, rfl⟩ ⟨(Nat.le_of_ble_eq_true rfl), (Nat.le_of_ble_eq_true rfl)⟩ hcs hd (fun r u H1 locs1 hw h9 hk hS => ?_)
  obtain ⟨f_code, f_land, f_huts, f_singers, a_covers, a_far⟩ := u
  obtain ⟨n_f_code, n_f_land, n_f_huts, n_f_singers, n_a_covers, n_a_far⟩ := hw
  exact kk r _ _ _ rfl ⟨XS_kp hXS (fun z h1 h2 h3 => hk z h1 (fun (hA : mA bm z) => zap hbm hA.1 h3)), MS_of1 (M := M) h9 n_f_code n_f_land n_f_huts n_f_singers (hI.2 2) (hI.2 3) (hI.2 4) (hI.2 6) (hI.1 16) (hI.2 7) n_a_covers (hI.2 12) n_a_far (hI.2 14) (hI.1 21) (hI.2 16), lE_kp hE (fun z h1 h2 => hk z h1 (fun (hA : mA bm z) => absurd hA.2 (Nat.not_lt.mpr h2))), hT, hMT⟩ hS

set_option maxRecDepth 40000 in
set_option maxHeartbeats 4000000 in
theorem gm_meet {p : Program} {l : Launch} {e : Env} {s : State} {m : MethodId} {below : List Frame} {meth : Method} {c : Code} {E : zE} {G : zG} {b L bx bm cells slots : Nat} {xs : Nat → Int32} {mi : Nat → Option Nat} {ko : Option Nat} {T : TT} {M : Nat → Nat → Int32} {I : Nat → TT} {H : Heap} {locs : List Loc} {ls : Array Slot} {pc idx : Nat} {a1 a2 a3 a4 : Int32} (rest : List Value) (hcs : cells ≤ room_1.cells ∧ slots ≤ room_1.slots) (C0 : lw_At p s m meth c b L xs) (hbx : s.heap.size ≤ bx) (hbm : bx + 93 ≤ bm) (hK : zK E s) (hO : zO s ∧ zZ G (fun q => s.heap.size ≤ q) s s.heap) (hG : GG E bx bm mi ko T M I H) (hS : va_S (fun q => s.heap.size ≤ q) s.heap H locs) (hls : ls.size = 4) (hW : (rest.map fun v => v.category).sum ≤ 8) (hlk : Cond.methodLink RL idx yX11_meet ∈ zb) (hd : decode cL_law pc = .ok (.invokevirtual idx, 3))
    (kk : ∀ (r : Int32) (M' : Nat → Nat → Int32) (H : Heap) (locs : List Loc), (M' = M) → GG E bx bm mi ko T M' I H → va_S (fun q => s.heap.size ≤ q) s.heap H locs → W p l e room_1 s m #[Value.ref b] below meth c H locs cells slots (lw_Z below #[Value.ref b] s) (F0 m (pc + 3) ls (.int r :: rest))) : W p l e room_1 s m #[Value.ref b] below meth c H locs cells slots (lw_Z below #[Value.ref b] s) (F0 m pc ls (.int a4 :: .int a3 :: .int a2 :: .int a1 :: .ref bm :: rest)) := by
  obtain ⟨hx, hb, hr, hml, hown, hts, hX0, hbl, hlocks, hgv⟩ := id C0
  have zc : zC p s m #[Value.ref b] meth c cL_law 4 RL ret := ⟨hx, hb, hml, hown, fun w hw => hts w (zb_in hw), hr, hlocks⟩
  obtain ⟨hXS, hMS, hE, hT, hMT⟩ := hG
  obtain ⟨S, V, f_word, a_rest, hI, hM⟩ := id hMS
  refine zVx_i [.int a1, .int a2, .int a3, .int a4] rest zc ky_X11_meet kz_X11_meet hlk (c_m_meet l (post := (fun r f_code f_land f_huts f_singers a_far => (iv 0 0 f_code) ∧ (iv 0 1 f_land) ∧ (iv 0 9 f_huts) ∧ (iv 0 6 f_singers) ∧ (∀ j, iv 0 1000000 (a_far j)))) (s_m_meet_0 (hI.1 0) (hMT.2.2.1) (hMT.2.2.2.1) (hI.1 12) (hI.1 13) (hI.1 14) (hI.2 13) (fun _ _ _ _ _ _ _ h1 h2 h3 h4 h5 => ⟨h1, h2, h3, h4, h5⟩))) (mPreV0 hK hM) hS (fun q (h : mA bm q) => Nat.le_trans hbx (Nat.le_trans (Nat.le_trans (Nat.le_add_right bx 93) hbm) h.1)) rfl rfl hls hW ⟨rfl, rfl⟩ ⟨(Nat.le_of_ble_eq_true rfl), (Nat.le_of_ble_eq_true rfl)⟩ hcs hd (fun r u H1 locs1 hw h9 hk hS => ?_)
  obtain ⟨f_code, f_land, f_huts, f_singers, a_far⟩ := u
  obtain ⟨n_f_code, n_f_land, n_f_huts, n_f_singers, n_a_far⟩ := hw
  exact kk r _ _ _ rfl ⟨XS_kp hXS (fun z h1 h2 h3 => hk z h1 (fun (hA : mA bm z) => zap hbm hA.1 h3)), MS_of1 (M := M) h9 n_f_code n_f_land n_f_huts n_f_singers (hI.2 2) (hI.2 3) (hI.2 4) (hI.2 6) (hI.1 16) (hI.2 7) (hI.2 8) (hI.2 12) n_a_far (hI.2 14) (hI.1 21) (hI.2 16), lE_kp hE (fun z h1 h2 => hk z h1 (fun (hA : mA bm z) => absurd hA.2 (Nat.not_lt.mpr h2))), hT, hMT⟩ hS

set_option maxRecDepth 40000 in
set_option maxHeartbeats 4000000 in
theorem gm_mutes {p : Program} {l : Launch} {e : Env} {s : State} {m : MethodId} {below : List Frame} {meth : Method} {c : Code} {E : zE} {G : zG} {b L bx bm cells slots : Nat} {xs : Nat → Int32} {mi : Nat → Option Nat} {ko : Option Nat} {T : TT} {M : Nat → Nat → Int32} {I : Nat → TT} {H : Heap} {locs : List Loc} {ls : Array Slot} {pc idx : Nat} {a1 a2 a3 : Int32} (rest : List Value) (hcs : cells ≤ room_1.cells ∧ slots ≤ room_1.slots) (C0 : lw_At p s m meth c b L xs) (hbx : s.heap.size ≤ bx) (hbm : bx + 93 ≤ bm) (hK : zK E s) (hO : zO s ∧ zZ G (fun q => s.heap.size ≤ q) s s.heap) (hG : GG E bx bm mi ko T M I H) (hS : va_S (fun q => s.heap.size ≤ q) s.heap H locs) (hls : ls.size = 4) (hW : (rest.map fun v => v.category).sum ≤ 8) (hlk : Cond.methodLink RL idx yX11_mutes ∈ zb) (hd : decode cL_law pc = .ok (.invokevirtual idx, 3))
    (kk : ∀ (r : Int32) (M' : Nat → Nat → Int32) (H : Heap) (locs : List Loc), (M' = M) → GG E bx bm mi ko T M' I H → va_S (fun q => s.heap.size ≤ q) s.heap H locs → W p l e room_1 s m #[Value.ref b] below meth c H locs cells slots (lw_Z below #[Value.ref b] s) (F0 m (pc + 3) ls (.int r :: rest))) : W p l e room_1 s m #[Value.ref b] below meth c H locs cells slots (lw_Z below #[Value.ref b] s) (F0 m pc ls (.int a3 :: .int a2 :: .int a1 :: .ref bm :: rest)) := by
  obtain ⟨hx, hb, hr, hml, hown, hts, hX0, hbl, hlocks, hgv⟩ := id C0
  have zc : zC p s m #[Value.ref b] meth c cL_law 4 RL ret := ⟨hx, hb, hml, hown, fun w hw => hts w (zb_in hw), hr, hlocks⟩
  obtain ⟨hXS, hMS, hE, hT, hMT⟩ := hG
  obtain ⟨S, V, f_word, a_rest, hI, hM⟩ := id hMS
  refine zVx_i [.int a1, .int a2, .int a3] rest zc ky_X11_mutes kz_X11_mutes hlk (c_m_mutes l (post := (fun r f_code f_land f_huts f_singers a_run => (iv 0 0 f_code) ∧ (iv 0 1 f_land) ∧ (iv 0 9 f_huts) ∧ (iv 0 6 f_singers) ∧ (∀ j, iv 0 1000000 (a_run j)))) (s_m_mutes_0 (hI.1 0) (hMT.2.2.1) (hMT.2.2.2.1) (hI.1 12) (hI.1 13) (hI.1 14) (hI.2 7) (fun _ _ _ _ _ _ h0 h1 h2 h3 h4 => ⟨h0, h1, h2, h3, h4⟩))) (mPreV0 hK hM) hS (fun q (h : mA bm q) => Nat.le_trans hbx (Nat.le_trans (Nat.le_trans (Nat.le_add_right bx 93) hbm) h.1)) rfl rfl hls hW ⟨rfl, rfl⟩ ⟨(Nat.le_of_ble_eq_true rfl), (Nat.le_of_ble_eq_true rfl)⟩ hcs hd (fun r u H1 locs1 hw h9 hk hS => ?_)
  obtain ⟨f_code, f_land, f_huts, f_singers, a_run⟩ := u
  obtain ⟨n_f_code, n_f_land, n_f_huts, n_f_singers, n_a_run⟩ := hw
  exact kk r _ _ _ rfl ⟨XS_kp hXS (fun z h1 h2 h3 => hk z h1 (fun (hA : mA bm z) => zap hbm hA.1 h3)), MS_of1 (M := M) h9 n_f_code n_f_land n_f_huts n_f_singers (hI.2 2) (hI.2 3) (hI.2 4) (hI.2 6) (hI.1 16) n_a_run (hI.2 8) (hI.2 12) (hI.2 13) (hI.2 14) (hI.1 21) (hI.2 16), lE_kp hE (fun z h1 h2 => hk z h1 (fun (hA : mA bm z) => absurd hA.2 (Nat.not_lt.mpr h2))), hT, hMT⟩ hS

set_option maxRecDepth 40000 in
set_option maxHeartbeats 4000000 in
theorem gm_odds {p : Program} {l : Launch} {e : Env} {s : State} {m : MethodId} {below : List Frame} {meth : Method} {c : Code} {E : zE} {G : zG} {b L bx bm cells slots : Nat} {xs : Nat → Int32} {mi : Nat → Option Nat} {ko : Option Nat} {T : TT} {M : Nat → Nat → Int32} {I : Nat → TT} {H : Heap} {locs : List Loc} {ls : Array Slot} {pc idx : Nat} {a1 a2 a3 : Int32} (rest : List Value) (hcs : cells ≤ room_1.cells ∧ slots ≤ room_1.slots) (C0 : lw_At p s m meth c b L xs) (hbx : s.heap.size ≤ bx) (hbm : bx + 93 ≤ bm) (hK : zK E s) (hO : zO s ∧ zZ G (fun q => s.heap.size ≤ q) s s.heap) (hG : GG E bx bm mi ko T M I H) (hS : va_S (fun q => s.heap.size ≤ q) s.heap H locs) (hls : ls.size = 4) (hW : (rest.map fun v => v.category).sum ≤ 8) (hlk : Cond.methodLink RL idx yX11_odds ∈ zb) (hd : decode cL_law pc = .ok (.invokevirtual idx, 3))
    (kk : ∀ (r : Int64) (M' : Nat → Nat → Int32) (H : Heap) (locs : List Loc), (M' = M) → GG E bx bm mi ko T M' I H → va_S (fun q => s.heap.size ≤ q) s.heap H locs → W p l e room_1 s m #[Value.ref b] below meth c H locs cells slots (lw_Z below #[Value.ref b] s) (F0 m (pc + 3) ls (.long r :: rest))) : W p l e room_1 s m #[Value.ref b] below meth c H locs cells slots (lw_Z below #[Value.ref b] s) (F0 m pc ls (.int a3 :: .int a2 :: .int a1 :: .ref bm :: rest)) := by
  obtain ⟨hx, hb, hr, hml, hown, hts, hX0, hbl, hlocks, hgv⟩ := id C0
  have zc : zC p s m #[Value.ref b] meth c cL_law 4 RL ret := ⟨hx, hb, hml, hown, fun w hw => hts w (zb_in hw), hr, hlocks⟩
  obtain ⟨hXS, hMS, hE, hT, hMT⟩ := hG
  obtain ⟨S, V, f_word, a_rest, hI, hM⟩ := id hMS
  refine zVx_l [.int a1, .int a2, .int a3] rest zc ky_X11_odds kz_X11_odds hlk (c_m_odds l (post := (fun r f_code f_land f_huts f_singers f_evening a_at a_knows a_climbed a_snow a_level f_begun f_minute f_avalanches => (iv 0 0 f_code) ∧ (iv 0 1 f_land) ∧ (iv 0 9 f_huts) ∧ (iv 0 6 f_singers) ∧ (∀ j, iv 0 8 (a_at j)) ∧ (∀ j, iv 0 31 (a_knows j)) ∧ (∀ j, iv 0 1 (a_climbed j)) ∧ (∀ j, iv (-9) 108 (a_level j)) ∧ (iv 0 31 f_begun))) (s_m_odds_0 (hI.1 0) (hMT.2.2.1) (hMT.2.2.2.1) (hMT.2.2.2.2.1) (hI.1 12) (hI.1 13) (hI.1 14) (hI.2 2) (hI.2 3) (hI.2 4) (hI.2 6) (hI.1 16) (fun _ _ _ _ _ _ _ _ _ _ _ _ _ _ h0 h1 h2 h3 h4 h5 h6 h7 h8 => ⟨h0, h1, h2, h3, h4, h5, h6, h7, h8⟩))) (mPreV0 hK hM) hS (fun q (h : mA bm q) => Nat.le_trans hbx (Nat.le_trans (Nat.le_trans (Nat.le_add_right bx 93) hbm) h.1)) rfl rfl hls hW ⟨rfl, rfl⟩ ⟨(Nat.le_of_ble_eq_true rfl), (Nat.le_of_ble_eq_true rfl)⟩ hcs hd (fun r u H1 locs1 hw h9 hk hS => ?_)
  obtain ⟨f_code, f_land, f_huts, f_singers, f_evening, a_at, a_knows, a_climbed, a_snow, a_level, f_begun, f_minute, f_avalanches⟩ := u
  obtain ⟨n_f_code, n_f_land, n_f_huts, n_f_singers, n_a_at, n_a_knows, n_a_climbed, n_a_level, n_f_begun⟩ := hw
  exact kk r _ _ _ rfl ⟨XS_kp hXS (fun z h1 h2 h3 => hk z h1 (fun (hA : mA bm z) => zap hbm hA.1 h3)), MS_of1 (M := M) h9 n_f_code n_f_land n_f_huts n_f_singers n_a_at n_a_knows n_a_climbed n_a_level n_f_begun (hI.2 7) (hI.2 8) (hI.2 12) (hI.2 13) (hI.2 14) (hI.1 21) (hI.2 16), lE_kp hE (fun z h1 h2 => hk z h1 (fun (hA : mA bm z) => absurd hA.2 (Nat.not_lt.mpr h2))), hT, hMT⟩ hS

set_option maxRecDepth 40000 in
set_option maxHeartbeats 4000000 in
theorem gm_order {p : Program} {l : Launch} {e : Env} {s : State} {m : MethodId} {below : List Frame} {meth : Method} {c : Code} {E : zE} {G : zG} {b L bx bm cells slots : Nat} {xs : Nat → Int32} {mi : Nat → Option Nat} {ko : Option Nat} {T : TT} {M : Nat → Nat → Int32} {I : Nat → TT} {H : Heap} {locs : List Loc} {ls : Array Slot} {pc idx : Nat} {a1 a2 : Int32} (rest : List Value) (hcs : cells ≤ room_1.cells ∧ slots ≤ room_1.slots) (C0 : lw_At p s m meth c b L xs) (hbx : s.heap.size ≤ bx) (hbm : bx + 93 ≤ bm) (hK : zK E s) (hO : zO s ∧ zZ G (fun q => s.heap.size ≤ q) s s.heap) (hG : GG E bx bm mi ko T M I H) (hS : va_S (fun q => s.heap.size ≤ q) s.heap H locs) (hls : ls.size = 4) (hW : (rest.map fun v => v.category).sum ≤ 8) (hlk : Cond.methodLink RL idx yX11_order ∈ zb) (hd : decode cL_law pc = .ok (.invokevirtual idx, 3))
    (kk : ∀ (r : Int32) (M' : Nat → Nat → Int32) (H : Heap) (locs : List Loc), (M' = M) → GG E bx bm mi ko T M' I H → va_S (fun q => s.heap.size ≤ q) s.heap H locs → W p l e room_1 s m #[Value.ref b] below meth c H locs cells slots (lw_Z below #[Value.ref b] s) (F0 m (pc + 3) ls (.int r :: rest))) : W p l e room_1 s m #[Value.ref b] below meth c H locs cells slots (lw_Z below #[Value.ref b] s) (F0 m pc ls (.int a2 :: .int a1 :: .ref bm :: rest)) := by
  obtain ⟨hx, hb, hr, hml, hown, hts, hX0, hbl, hlocks, hgv⟩ := id C0
  have zc : zC p s m #[Value.ref b] meth c cL_law 4 RL ret := ⟨hx, hb, hml, hown, fun w hw => hts w (zb_in hw), hr, hlocks⟩
  obtain ⟨hXS, hMS, hE, hT, hMT⟩ := hG
  obtain ⟨S, V, f_word, a_rest, hI, hM⟩ := id hMS
  refine zVx_i [.int a1, .int a2] rest zc ky_X11_order kz_X11_order hlk (c_m_order l (post := (fun r f_code f_choir f_voices a_rest => (iv 0 0 f_code) ∧ (iv 0 9 f_voices))) (s_m_order_0 (hI.1 0) (hMT.2.2.1) (hMT.2.2.2.2.2.2.1) (hI.1 21) (fun _ _ _ _ _ h0 h1 => ⟨h0, h1⟩))) (mPreV0 hK hM) hS (fun q (h : mA bm q) => Nat.le_trans hbx (Nat.le_trans (Nat.le_trans (Nat.le_add_right bx 93) hbm) h.1)) rfl rfl hls hW ⟨rfl, rfl⟩ ⟨(Nat.le_of_ble_eq_true rfl), (Nat.le_of_ble_eq_true rfl)⟩ hcs hd (fun r u H1 locs1 hw h9 hk hS => ?_)
  obtain ⟨f_code, f_choir, f_voices, a_rest⟩ := u
  obtain ⟨n_f_code, n_f_voices⟩ := hw
  exact kk r _ _ _ rfl ⟨XS_kp hXS (fun z h1 h2 h3 => hk z h1 (fun (hA : mA bm z) => zap hbm hA.1 h3)), MS_of1 (M := M) h9 n_f_code (hI.1 12) (hI.1 13) (hI.1 14) (hI.2 2) (hI.2 3) (hI.2 4) (hI.2 6) (hI.1 16) (hI.2 7) (hI.2 8) (hI.2 12) (hI.2 13) (hI.2 14) n_f_voices (hI.2 16), lE_kp hE (fun z h1 h2 => hk z h1 (fun (hA : mA bm z) => absurd hA.2 (Nat.not_lt.mpr h2))), hT, hMT⟩ hS

set_option maxRecDepth 40000 in
set_option maxHeartbeats 4000000 in
theorem gm_orders {p : Program} {l : Launch} {e : Env} {s : State} {m : MethodId} {below : List Frame} {meth : Method} {c : Code} {E : zE} {G : zG} {b L bx bm cells slots : Nat} {xs : Nat → Int32} {mi : Nat → Option Nat} {ko : Option Nat} {T : TT} {M : Nat → Nat → Int32} {I : Nat → TT} {H : Heap} {locs : List Loc} {ls : Array Slot} {pc idx : Nat} {a1 : Int32} (rest : List Value) (hcs : cells ≤ room_1.cells ∧ slots ≤ room_1.slots) (C0 : lw_At p s m meth c b L xs) (hbx : s.heap.size ≤ bx) (hbm : bx + 93 ≤ bm) (hK : zK E s) (hO : zO s ∧ zZ G (fun q => s.heap.size ≤ q) s s.heap) (hG : GG E bx bm mi ko T M I H) (hS : va_S (fun q => s.heap.size ≤ q) s.heap H locs) (hls : ls.size = 4) (hW : (rest.map fun v => v.category).sum ≤ 8) (hlk : Cond.methodLink RL idx yX11_orders ∈ zb) (hd : decode cL_law pc = .ok (.invokevirtual idx, 3))
    (kk : ∀ (r : Int64) (M' : Nat → Nat → Int32) (H : Heap) (locs : List Loc), (M' = M) → GG E bx bm mi ko T M' I H → va_S (fun q => s.heap.size ≤ q) s.heap H locs → W p l e room_1 s m #[Value.ref b] below meth c H locs cells slots (lw_Z below #[Value.ref b] s) (F0 m (pc + 3) ls (.long r :: rest))) : W p l e room_1 s m #[Value.ref b] below meth c H locs cells slots (lw_Z below #[Value.ref b] s) (F0 m pc ls (.int a1 :: .ref bm :: rest)) := by
  obtain ⟨hx, hb, hr, hml, hown, hts, hX0, hbl, hlocks, hgv⟩ := id C0
  have zc : zC p s m #[Value.ref b] meth c cL_law 4 RL ret := ⟨hx, hb, hml, hown, fun w hw => hts w (zb_in hw), hr, hlocks⟩
  obtain ⟨hXS, hMS, hE, hT, hMT⟩ := hG
  obtain ⟨S, V, f_word, a_rest, hI, hM⟩ := id hMS
  refine zVx_l [.int a1] rest zc ky_X11_orders kz_X11_orders hlk (c_m_orders l (post := (fun r f_code f_choir f_voices a_rest => (iv 0 0 f_code) ∧ (iv 0 9 f_voices))) (s_m_orders_0 (hI.1 0) (hMT.2.2.1) (hMT.2.2.2.2.2.2.1) (hI.1 21) (fun _ _ _ _ _ h0 h1 => ⟨h0, h1⟩))) (mPreV0 hK hM) hS (fun q (h : mA bm q) => Nat.le_trans hbx (Nat.le_trans (Nat.le_trans (Nat.le_add_right bx 93) hbm) h.1)) rfl rfl hls hW ⟨rfl, rfl⟩ ⟨(Nat.le_of_ble_eq_true rfl), (Nat.le_of_ble_eq_true rfl)⟩ hcs hd (fun r u H1 locs1 hw h9 hk hS => ?_)
  obtain ⟨f_code, f_choir, f_voices, a_rest⟩ := u
  obtain ⟨n_f_code, n_f_voices⟩ := hw
  exact kk r _ _ _ rfl ⟨XS_kp hXS (fun z h1 h2 h3 => hk z h1 (fun (hA : mA bm z) => zap hbm hA.1 h3)), MS_of1 (M := M) h9 n_f_code (hI.1 12) (hI.1 13) (hI.1 14) (hI.2 2) (hI.2 3) (hI.2 4) (hI.2 6) (hI.1 16) (hI.2 7) (hI.2 8) (hI.2 12) (hI.2 13) (hI.2 14) n_f_voices (hI.2 16), lE_kp hE (fun z h1 h2 => hk z h1 (fun (hA : mA bm z) => absurd hA.2 (Nat.not_lt.mpr h2))), hT, hMT⟩ hS
end
section
set_option maxRecDepth 40000 in
set_option maxHeartbeats 4000000 in
theorem gm_psalm {p : Program} {l : Launch} {e : Env} {s : State} {m : MethodId} {below : List Frame} {meth : Method} {c : Code} {E : zE} {G : zG} {b L bx bm cells slots : Nat} {xs : Nat → Int32} {mi : Nat → Option Nat} {ko : Option Nat} {T : TT} {M : Nat → Nat → Int32} {I : Nat → TT} {H : Heap} {locs : List Loc} {ls : Array Slot} {pc idx : Nat} {a1 a2 a3 a4 : Int32} (rest : List Value) (hcs : cells ≤ room_1.cells ∧ slots ≤ room_1.slots) (C0 : lw_At p s m meth c b L xs) (hbx : s.heap.size ≤ bx) (hbm : bx + 93 ≤ bm) (hK : zK E s) (hO : zO s ∧ zZ G (fun q => s.heap.size ≤ q) s s.heap) (hG : GG E bx bm mi ko T M I H) (hS : va_S (fun q => s.heap.size ≤ q) s.heap H locs) (hls : ls.size = 4) (hW : (rest.map fun v => v.category).sum ≤ 8) (hlk : Cond.methodLink RL idx yX11_psalm ∈ zb) (hd : decode cL_law pc = .ok (.invokevirtual idx, 3))
    (kk : ∀ (r : Int32) (M' : Nat → Nat → Int32) (H : Heap) (locs : List Loc), (M' = M) → GG E bx bm mi ko T M' I H → va_S (fun q => s.heap.size ≤ q) s.heap H locs → W p l e room_1 s m #[Value.ref b] below meth c H locs cells slots (lw_Z below #[Value.ref b] s) (F0 m (pc + 3) ls (.int r :: rest))) : W p l e room_1 s m #[Value.ref b] below meth c H locs cells slots (lw_Z below #[Value.ref b] s) (F0 m pc ls (.int a4 :: .int a3 :: .int a2 :: .int a1 :: .ref bm :: rest)) := by
  obtain ⟨hx, hb, hr, hml, hown, hts, hX0, hbl, hlocks, hgv⟩ := id C0
  have zc : zC p s m #[Value.ref b] meth c cL_law 4 RL ret := ⟨hx, hb, hml, hown, fun w hw => hts w (zb_in hw), hr, hlocks⟩
  obtain ⟨hXS, hMS, hE, hT, hMT⟩ := hG
  obtain ⟨S, V, f_word, a_rest, hI, hM⟩ := id hMS
  refine zVx_i [.int a1, .int a2, .int a3, .int a4] rest zc ky_X11_psalm kz_X11_psalm hlk (c_m_psalm l (post := (fun r f_code f_land f_huts f_singers a_run => (iv 0 0 f_code) ∧ (iv 0 1 f_land) ∧ (iv 0 9 f_huts) ∧ (iv 0 6 f_singers) ∧ (∀ j, iv 0 1000000 (a_run j)))) (s_m_psalm_0 (hI.1 0) (hMT.2.2.1) (hMT.2.2.2.1) (hI.1 12) (hI.1 13) (hI.1 14) (hI.2 7) (fun _ _ _ _ _ _ _ h1 h2 h3 h4 h5 => ⟨h1, h2, h3, h4, h5⟩))) (mPreV0 hK hM) hS (fun q (h : mA bm q) => Nat.le_trans hbx (Nat.le_trans (Nat.le_trans (Nat.le_add_right bx 93) hbm) h.1)) rfl rfl hls hW ⟨rfl, rfl⟩ ⟨(Nat.le_of_ble_eq_true rfl), (Nat.le_of_ble_eq_true rfl)⟩ hcs hd (fun r u H1 locs1 hw h9 hk hS => ?_)
  obtain ⟨f_code, f_land, f_huts, f_singers, a_run⟩ := u
  obtain ⟨n_f_code, n_f_land, n_f_huts, n_f_singers, n_a_run⟩ := hw
  exact kk r _ _ _ rfl ⟨XS_kp hXS (fun z h1 h2 h3 => hk z h1 (fun (hA : mA bm z) => zap hbm hA.1 h3)), MS_of1 (M := M) h9 n_f_code n_f_land n_f_huts n_f_singers (hI.2 2) (hI.2 3) (hI.2 4) (hI.2 6) (hI.1 16) n_a_run (hI.2 8) (hI.2 12) (hI.2 13) (hI.2 14) (hI.1 21) (hI.2 16), lE_kp hE (fun z h1 h2 => hk z h1 (fun (hA : mA bm z) => absurd hA.2 (Nat.not_lt.mpr h2))), hT, hMT⟩ hS

set_option maxRecDepth 40000 in
set_option maxHeartbeats 4000000 in
theorem gm_routes {p : Program} {l : Launch} {e : Env} {s : State} {m : MethodId} {below : List Frame} {meth : Method} {c : Code} {E : zE} {G : zG} {b L bx bm cells slots : Nat} {xs : Nat → Int32} {mi : Nat → Option Nat} {ko : Option Nat} {T : TT} {M : Nat → Nat → Int32} {I : Nat → TT} {H : Heap} {locs : List Loc} {ls : Array Slot} {pc idx : Nat} {a1 a2 a3 a4 : Int32} (rest : List Value) (hcs : cells ≤ room_1.cells ∧ slots ≤ room_1.slots) (C0 : lw_At p s m meth c b L xs) (hbx : s.heap.size ≤ bx) (hbm : bx + 93 ≤ bm) (hK : zK E s) (hO : zO s ∧ zZ G (fun q => s.heap.size ≤ q) s s.heap) (hG : GG E bx bm mi ko T M I H) (hS : va_S (fun q => s.heap.size ≤ q) s.heap H locs) (hls : ls.size = 4) (hW : (rest.map fun v => v.category).sum ≤ 8) (hlk : Cond.methodLink RL idx yX11_routes ∈ zb) (hd : decode cL_law pc = .ok (.invokevirtual idx, 3))
    (kk : ∀ (r : Int32) (M' : Nat → Nat → Int32) (H : Heap) (locs : List Loc), (M' = M) → GG E bx bm mi ko T M' I H → va_S (fun q => s.heap.size ≤ q) s.heap H locs → W p l e room_1 s m #[Value.ref b] below meth c H locs cells slots (lw_Z below #[Value.ref b] s) (F0 m (pc + 3) ls (.int r :: rest))) : W p l e room_1 s m #[Value.ref b] below meth c H locs cells slots (lw_Z below #[Value.ref b] s) (F0 m pc ls (.int a4 :: .int a3 :: .int a2 :: .int a1 :: .ref bm :: rest)) := by
  obtain ⟨hx, hb, hr, hml, hown, hts, hX0, hbl, hlocks, hgv⟩ := id C0
  have zc : zC p s m #[Value.ref b] meth c cL_law 4 RL ret := ⟨hx, hb, hml, hown, fun w hw => hts w (zb_in hw), hr, hlocks⟩
  obtain ⟨hXS, hMS, hE, hT, hMT⟩ := hG
  obtain ⟨S, V, f_word, a_rest, hI, hM⟩ := id hMS
  refine zVx_i [.int a1, .int a2, .int a3, .int a4] rest zc ky_X11_routes kz_X11_routes hlk (c_m_routes l (post := (fun r f_code f_land f_huts f_singers a_routes a_longest a_steep a_laid => (iv 0 0 f_code) ∧ (iv 0 1 f_land) ∧ (iv 0 9 f_huts) ∧ (iv 0 6 f_singers) ∧ (∀ j, iv 0 1 (a_laid j)))) (s_m_routes_0 (hI.1 0) (hMT.2.2.1) (hMT.2.2.2.1) (hI.1 12) (hI.1 13) (hI.1 14) (hI.2 12) (fun _ _ _ _ _ _ _ _ _ h0 h1 h2 h3 h4 => ⟨h0, h1, h2, h3, h4⟩))) (mPreV0 hK hM) hS (fun q (h : mA bm q) => Nat.le_trans hbx (Nat.le_trans (Nat.le_trans (Nat.le_add_right bx 93) hbm) h.1)) rfl rfl hls hW ⟨rfl, rfl⟩ ⟨(Nat.le_of_ble_eq_true rfl), (Nat.le_of_ble_eq_true rfl)⟩ hcs hd (fun r u H1 locs1 hw h9 hk hS => ?_)
  obtain ⟨f_code, f_land, f_huts, f_singers, a_routes, a_longest, a_steep, a_laid⟩ := u
  obtain ⟨n_f_code, n_f_land, n_f_huts, n_f_singers, n_a_laid⟩ := hw
  exact kk r _ _ _ rfl ⟨XS_kp hXS (fun z h1 h2 h3 => hk z h1 (fun (hA : mA bm z) => zap hbm hA.1 h3)), MS_of1 (M := M) h9 n_f_code n_f_land n_f_huts n_f_singers (hI.2 2) (hI.2 3) (hI.2 4) (hI.2 6) (hI.1 16) (hI.2 7) (hI.2 8) n_a_laid (hI.2 13) (hI.2 14) (hI.1 21) (hI.2 16), lE_kp hE (fun z h1 h2 => hk z h1 (fun (hA : mA bm z) => absurd hA.2 (Nat.not_lt.mpr h2))), hT, hMT⟩ hS

set_option maxRecDepth 40000 in
set_option maxHeartbeats 4000000 in
theorem gm_slopes {p : Program} {l : Launch} {e : Env} {s : State} {m : MethodId} {below : List Frame} {meth : Method} {c : Code} {E : zE} {G : zG} {b L bx bm cells slots : Nat} {xs : Nat → Int32} {mi : Nat → Option Nat} {ko : Option Nat} {T : TT} {M : Nat → Nat → Int32} {I : Nat → TT} {H : Heap} {locs : List Loc} {ls : Array Slot} {pc idx : Nat} {a1 a2 : Int32} (rest : List Value) (hcs : cells ≤ room_1.cells ∧ slots ≤ room_1.slots) (C0 : lw_At p s m meth c b L xs) (hbx : s.heap.size ≤ bx) (hbm : bx + 93 ≤ bm) (hK : zK E s) (hO : zO s ∧ zZ G (fun q => s.heap.size ≤ q) s s.heap) (hG : GG E bx bm mi ko T M I H) (hS : va_S (fun q => s.heap.size ≤ q) s.heap H locs) (hls : ls.size = 4) (hW : (rest.map fun v => v.category).sum ≤ 8) (hlk : Cond.methodLink RL idx yX11_slopes ∈ zb) (hd : decode cL_law pc = .ok (.invokevirtual idx, 3))
    (kk : ∀ (r : Int32) (M' : Nat → Nat → Int32) (H : Heap) (locs : List Loc), (M' = M) → GG E bx bm mi ko T M' I H → va_S (fun q => s.heap.size ≤ q) s.heap H locs → W p l e room_1 s m #[Value.ref b] below meth c H locs cells slots (lw_Z below #[Value.ref b] s) (F0 m (pc + 3) ls (.int r :: rest))) : W p l e room_1 s m #[Value.ref b] below meth c H locs cells slots (lw_Z below #[Value.ref b] s) (F0 m pc ls (.int a2 :: .int a1 :: .ref bm :: rest)) := by
  obtain ⟨hx, hb, hr, hml, hown, hts, hX0, hbl, hlocks, hgv⟩ := id C0
  have zc : zC p s m #[Value.ref b] meth c cL_law 4 RL ret := ⟨hx, hb, hml, hown, fun w hw => hts w (zb_in hw), hr, hlocks⟩
  obtain ⟨hXS, hMS, hE, hT, hMT⟩ := hG
  obtain ⟨S, V, f_word, a_rest, hI, hM⟩ := id hMS
  refine zVx_i [.int a1, .int a2] rest zc ky_X11_slopes kz_X11_slopes hlk (c_m_slopes l (post := (fun r f_code f_land f_huts f_singers a_run a_routes a_longest a_steep a_laid => (iv 0 0 f_code) ∧ (iv 0 1 f_land) ∧ (iv 0 9 f_huts) ∧ (iv 0 6 f_singers) ∧ (∀ j, iv 0 1000000 (a_run j)) ∧ (∀ j, iv 0 1 (a_laid j)))) (s_m_slopes_0 (hI.1 0) (hMT.2.2.1) (hMT.2.2.2.1) (hI.1 12) (hI.1 13) (hI.1 14) (hI.2 7) (hI.2 12) (fun _ _ _ _ _ _ _ _ _ _ h0 h1 h2 h3 h4 h5 => ⟨h0, h1, h2, h3, h4, h5⟩))) (mPreV0 hK hM) hS (fun q (h : mA bm q) => Nat.le_trans hbx (Nat.le_trans (Nat.le_trans (Nat.le_add_right bx 93) hbm) h.1)) rfl rfl hls hW ⟨rfl, rfl⟩ ⟨(Nat.le_of_ble_eq_true rfl), (Nat.le_of_ble_eq_true rfl)⟩ hcs hd (fun r u H1 locs1 hw h9 hk hS => ?_)
  obtain ⟨f_code, f_land, f_huts, f_singers, a_run, a_routes, a_longest, a_steep, a_laid⟩ := u
  obtain ⟨n_f_code, n_f_land, n_f_huts, n_f_singers, n_a_run, n_a_laid⟩ := hw
  exact kk r _ _ _ rfl ⟨XS_kp hXS (fun z h1 h2 h3 => hk z h1 (fun (hA : mA bm z) => zap hbm hA.1 h3)), MS_of1 (M := M) h9 n_f_code n_f_land n_f_huts n_f_singers (hI.2 2) (hI.2 3) (hI.2 4) (hI.2 6) (hI.1 16) n_a_run (hI.2 8) n_a_laid (hI.2 13) (hI.2 14) (hI.1 21) (hI.2 16), lE_kp hE (fun z h1 h2 => hk z h1 (fun (hA : mA bm z) => absurd hA.2 (Nat.not_lt.mpr h2))), hT, hMT⟩ hS

set_option maxRecDepth 40000 in
set_option maxHeartbeats 4000000 in
theorem gm_state {p : Program} {l : Launch} {e : Env} {s : State} {m : MethodId} {below : List Frame} {meth : Method} {c : Code} {E : zE} {G : zG} {b L bx bm cells slots : Nat} {xs : Nat → Int32} {mi : Nat → Option Nat} {ko : Option Nat} {T : TT} {M : Nat → Nat → Int32} {I : Nat → TT} {H : Heap} {locs : List Loc} {ls : Array Slot} {pc idx : Nat} {a1 a2 a3 a4 : Int32} (rest : List Value) (hcs : cells ≤ room_1.cells ∧ slots ≤ room_1.slots) (C0 : lw_At p s m meth c b L xs) (hbx : s.heap.size ≤ bx) (hbm : bx + 93 ≤ bm) (hK : zK E s) (hO : zO s ∧ zZ G (fun q => s.heap.size ≤ q) s s.heap) (hG : GG E bx bm mi ko T M I H) (hS : va_S (fun q => s.heap.size ≤ q) s.heap H locs) (hls : ls.size = 4) (hW : (rest.map fun v => v.category).sum ≤ 8) (hlk : Cond.methodLink RL idx yX11_state ∈ zb) (hd : decode cL_law pc = .ok (.invokevirtual idx, 3))
    (kk : ∀ (r : Int32) (M' : Nat → Nat → Int32) (H : Heap) (locs : List Loc), (M' = M) → GG E bx bm mi ko T M' I H → va_S (fun q => s.heap.size ≤ q) s.heap H locs → W p l e room_1 s m #[Value.ref b] below meth c H locs cells slots (lw_Z below #[Value.ref b] s) (F0 m (pc + 3) ls (.int r :: rest))) : W p l e room_1 s m #[Value.ref b] below meth c H locs cells slots (lw_Z below #[Value.ref b] s) (F0 m pc ls (.int a4 :: .int a3 :: .int a2 :: .int a1 :: .ref bm :: rest)) := by
  obtain ⟨hx, hb, hr, hml, hown, hts, hX0, hbl, hlocks, hgv⟩ := id C0
  have zc : zC p s m #[Value.ref b] meth c cL_law 4 RL ret := ⟨hx, hb, hml, hown, fun w hw => hts w (zb_in hw), hr, hlocks⟩
  obtain ⟨hXS, hMS, hE, hT, hMT⟩ := hG
  obtain ⟨S, V, f_word, a_rest, hI, hM⟩ := id hMS
  refine zVx_i [.int a1, .int a2, .int a3, .int a4] rest zc ky_X11_state kz_X11_state hlk (c_m_state l (post := (fun r f_code f_land f_huts f_singers f_evening a_at a_knows a_climbed a_snow a_level f_begun f_minute f_avalanches => (iv 0 0 f_code) ∧ (iv 0 1 f_land) ∧ (iv 0 9 f_huts) ∧ (iv 0 6 f_singers) ∧ (∀ j, iv 0 8 (a_at j)) ∧ (∀ j, iv 0 31 (a_knows j)) ∧ (∀ j, iv 0 1 (a_climbed j)) ∧ (∀ j, iv (-9) 108 (a_level j)) ∧ (iv 0 31 f_begun))) (s_m_state_0 (hI.1 0) (hMT.2.2.1) (hMT.2.2.2.1) (hMT.2.2.2.2.1) (hI.1 12) (hI.1 13) (hI.1 14) (hI.2 2) (hI.2 3) (hI.2 4) (hI.2 6) (hI.1 16) (fun _ _ _ _ _ _ _ _ _ _ _ _ _ _ h0 h1 h2 h3 h4 h5 h6 h7 h8 => ⟨h0, h1, h2, h3, h4, h5, h6, h7, h8⟩))) (mPreV0 hK hM) hS (fun q (h : mA bm q) => Nat.le_trans hbx (Nat.le_trans (Nat.le_trans (Nat.le_add_right bx 93) hbm) h.1)) rfl rfl hls hW ⟨rfl, rfl⟩ ⟨(Nat.le_of_ble_eq_true rfl), (Nat.le_of_ble_eq_true rfl)⟩ hcs hd (fun r u H1 locs1 hw h9 hk hS => ?_)
  obtain ⟨f_code, f_land, f_huts, f_singers, f_evening, a_at, a_knows, a_climbed, a_snow, a_level, f_begun, f_minute, f_avalanches⟩ := u
  obtain ⟨n_f_code, n_f_land, n_f_huts, n_f_singers, n_a_at, n_a_knows, n_a_climbed, n_a_level, n_f_begun⟩ := hw
  exact kk r _ _ _ rfl ⟨XS_kp hXS (fun z h1 h2 h3 => hk z h1 (fun (hA : mA bm z) => zap hbm hA.1 h3)), MS_of1 (M := M) h9 n_f_code n_f_land n_f_huts n_f_singers n_a_at n_a_knows n_a_climbed n_a_level n_f_begun (hI.2 7) (hI.2 8) (hI.2 12) (hI.2 13) (hI.2 14) (hI.1 21) (hI.2 16), lE_kp hE (fun z h1 h2 => hk z h1 (fun (hA : mA bm z) => absurd hA.2 (Nat.not_lt.mpr h2))), hT, hMT⟩ hS

set_option maxRecDepth 40000 in
set_option maxHeartbeats 4000000 in
theorem gm_stop {p : Program} {l : Launch} {e : Env} {s : State} {m : MethodId} {below : List Frame} {meth : Method} {c : Code} {E : zE} {G : zG} {b L bx bm cells slots : Nat} {xs : Nat → Int32} {mi : Nat → Option Nat} {ko : Option Nat} {T : TT} {M : Nat → Nat → Int32} {I : Nat → TT} {H : Heap} {locs : List Loc} {ls : Array Slot} {pc idx : Nat} {a1 a2 : Int32} (rest : List Value) (hcs : cells ≤ room_1.cells ∧ slots ≤ room_1.slots) (C0 : lw_At p s m meth c b L xs) (hbx : s.heap.size ≤ bx) (hbm : bx + 93 ≤ bm) (hK : zK E s) (hO : zO s ∧ zZ G (fun q => s.heap.size ≤ q) s s.heap) (hG : GG E bx bm mi ko T M I H) (hS : va_S (fun q => s.heap.size ≤ q) s.heap H locs) (hls : ls.size = 4) (hW : (rest.map fun v => v.category).sum ≤ 8) (hlk : Cond.methodLink RL idx yX11_stop ∈ zb) (hd : decode cL_law pc = .ok (.invokevirtual idx, 3))
    (kk : ∀ (r : Int32) (M' : Nat → Nat → Int32) (H : Heap) (locs : List Loc), (M' = M) → GG E bx bm mi ko T M' I H → va_S (fun q => s.heap.size ≤ q) s.heap H locs → W p l e room_1 s m #[Value.ref b] below meth c H locs cells slots (lw_Z below #[Value.ref b] s) (F0 m (pc + 3) ls (.int r :: rest))) : W p l e room_1 s m #[Value.ref b] below meth c H locs cells slots (lw_Z below #[Value.ref b] s) (F0 m pc ls (.int a2 :: .int a1 :: .ref bm :: rest)) := by
  obtain ⟨hx, hb, hr, hml, hown, hts, hX0, hbl, hlocks, hgv⟩ := id C0
  have zc : zC p s m #[Value.ref b] meth c cL_law 4 RL ret := ⟨hx, hb, hml, hown, fun w hw => hts w (zb_in hw), hr, hlocks⟩
  obtain ⟨hXS, hMS, hE, hT, hMT⟩ := hG
  obtain ⟨S, V, f_word, a_rest, hI, hM⟩ := id hMS
  refine zVx_i [.int a1, .int a2] rest zc ky_X11_stop kz_X11_stop hlk (c_m_stop l (post := (fun r f_code f_land f_huts f_singers f_evening a_at a_knows a_climbed a_snow a_level f_begun f_minute f_avalanches => (iv 0 0 f_code) ∧ (iv 0 1 f_land) ∧ (iv 0 9 f_huts) ∧ (iv 0 6 f_singers) ∧ (∀ j, iv 0 8 (a_at j)) ∧ (∀ j, iv 0 31 (a_knows j)) ∧ (∀ j, iv 0 1 (a_climbed j)) ∧ (∀ j, iv (-9) 108 (a_level j)) ∧ (iv 0 31 f_begun))) (s_m_stop_0 (hI.1 0) (hMT.2.2.1) (hMT.2.2.2.1) (hMT.2.2.2.2.1) (hI.1 12) (hI.1 13) (hI.1 14) (hI.2 2) (hI.2 3) (hI.2 4) (hI.2 6) (hI.1 16) (fun _ _ _ _ _ _ _ _ _ _ _ _ _ _ _ h1 h2 h3 h4 h5 h6 h7 h8 h9 => ⟨h1, h2, h3, h4, h5, h6, h7, h8, h9⟩))) (mPreV0 hK hM) hS (fun q (h : mA bm q) => Nat.le_trans hbx (Nat.le_trans (Nat.le_trans (Nat.le_add_right bx 93) hbm) h.1)) rfl rfl hls hW ⟨rfl, rfl⟩ ⟨(Nat.le_of_ble_eq_true rfl), (Nat.le_of_ble_eq_true rfl)⟩ hcs hd (fun r u H1 locs1 hw h9 hk hS => ?_)
  obtain ⟨f_code, f_land, f_huts, f_singers, f_evening, a_at, a_knows, a_climbed, a_snow, a_level, f_begun, f_minute, f_avalanches⟩ := u
  obtain ⟨n_f_code, n_f_land, n_f_huts, n_f_singers, n_a_at, n_a_knows, n_a_climbed, n_a_level, n_f_begun⟩ := hw
  exact kk r _ _ _ rfl ⟨XS_kp hXS (fun z h1 h2 h3 => hk z h1 (fun (hA : mA bm z) => zap hbm hA.1 h3)), MS_of1 (M := M) h9 n_f_code n_f_land n_f_huts n_f_singers n_a_at n_a_knows n_a_climbed n_a_level n_f_begun (hI.2 7) (hI.2 8) (hI.2 12) (hI.2 13) (hI.2 14) (hI.1 21) (hI.2 16), lE_kp hE (fun z h1 h2 => hk z h1 (fun (hA : mA bm z) => absurd hA.2 (Nat.not_lt.mpr h2))), hT, hMT⟩ hS

set_option maxRecDepth 40000 in
set_option maxHeartbeats 4000000 in
theorem gm_teach {p : Program} {l : Launch} {e : Env} {s : State} {m : MethodId} {below : List Frame} {meth : Method} {c : Code} {E : zE} {G : zG} {b L bx bm cells slots : Nat} {xs : Nat → Int32} {mi : Nat → Option Nat} {ko : Option Nat} {T : TT} {M : Nat → Nat → Int32} {I : Nat → TT} {H : Heap} {locs : List Loc} {ls : Array Slot} {pc idx : Nat} {a1 a2 a3 a4 : Int32} (rest : List Value) (hcs : cells ≤ room_1.cells ∧ slots ≤ room_1.slots) (C0 : lw_At p s m meth c b L xs) (hbx : s.heap.size ≤ bx) (hbm : bx + 93 ≤ bm) (hK : zK E s) (hO : zO s ∧ zZ G (fun q => s.heap.size ≤ q) s s.heap) (hG : GG E bx bm mi ko T M I H) (hS : va_S (fun q => s.heap.size ≤ q) s.heap H locs) (hls : ls.size = 4) (hW : (rest.map fun v => v.category).sum ≤ 8) (hlk : Cond.methodLink RL idx yX11_teach ∈ zb) (hd : decode cL_law pc = .ok (.invokevirtual idx, 3))
    (kk : ∀ (r : Int32) (M' : Nat → Nat → Int32) (H : Heap) (locs : List Loc), (M' = M) → GG E bx bm mi ko T M' I H → va_S (fun q => s.heap.size ≤ q) s.heap H locs → W p l e room_1 s m #[Value.ref b] below meth c H locs cells slots (lw_Z below #[Value.ref b] s) (F0 m (pc + 3) ls (.int r :: rest))) : W p l e room_1 s m #[Value.ref b] below meth c H locs cells slots (lw_Z below #[Value.ref b] s) (F0 m pc ls (.int a4 :: .int a3 :: .int a2 :: .int a1 :: .ref bm :: rest)) := by
  obtain ⟨hx, hb, hr, hml, hown, hts, hX0, hbl, hlocks, hgv⟩ := id C0
  have zc : zC p s m #[Value.ref b] meth c cL_law 4 RL ret := ⟨hx, hb, hml, hown, fun w hw => hts w (zb_in hw), hr, hlocks⟩
  obtain ⟨hXS, hMS, hE, hT, hMT⟩ := hG
  obtain ⟨S, V, f_word, a_rest, hI, hM⟩ := id hMS
  refine zVx_i [.int a1, .int a2, .int a3, .int a4] rest zc ky_X11_teach kz_X11_teach hlk (c_m_teach l (post := (fun r f_code f_land f_huts f_singers f_evening a_at a_knows a_climbed a_snow a_level f_begun f_minute f_avalanches => (iv 0 0 f_code) ∧ (iv 0 1 f_land) ∧ (iv 0 9 f_huts) ∧ (iv 0 6 f_singers) ∧ (∀ j, iv 0 8 (a_at j)) ∧ (∀ j, iv 0 31 (a_knows j)) ∧ (∀ j, iv 0 1 (a_climbed j)) ∧ (∀ j, iv (-9) 108 (a_level j)) ∧ (iv 0 31 f_begun))) (s_m_teach_0 (hI.1 0) (hMT.2.2.1) (hMT.2.2.2.1) (hMT.2.2.2.2.1) (hI.1 12) (hI.1 13) (hI.1 14) (hI.2 2) (hI.2 3) (hI.2 4) (hI.2 6) (hI.1 16) (fun _ _ _ _ _ _ _ _ _ _ _ _ _ _ h0 h1 h2 h3 h4 h5 h6 h7 h8 => ⟨h0, h1, h2, h3, h4, h5, h6, h7, h8⟩))) (mPreV0 hK hM) hS (fun q (h : mA bm q) => Nat.le_trans hbx (Nat.le_trans (Nat.le_trans (Nat.le_add_right bx 93) hbm) h.1)) rfl rfl hls hW ⟨rfl, rfl⟩ ⟨(Nat.le_of_ble_eq_true rfl), (Nat.le_of_ble_eq_true rfl)⟩ hcs hd (fun r u H1 locs1 hw h9 hk hS => ?_)
  obtain ⟨f_code, f_land, f_huts, f_singers, f_evening, a_at, a_knows, a_climbed, a_snow, a_level, f_begun, f_minute, f_avalanches⟩ := u
  obtain ⟨n_f_code, n_f_land, n_f_huts, n_f_singers, n_a_at, n_a_knows, n_a_climbed, n_a_level, n_f_begun⟩ := hw
  exact kk r _ _ _ rfl ⟨XS_kp hXS (fun z h1 h2 h3 => hk z h1 (fun (hA : mA bm z) => zap hbm hA.1 h3)), MS_of1 (M := M) h9 n_f_code n_f_land n_f_huts n_f_singers n_a_at n_a_knows n_a_climbed n_a_level n_f_begun (hI.2 7) (hI.2 8) (hI.2 12) (hI.2 13) (hI.2 14) (hI.1 21) (hI.2 16), lE_kp hE (fun z h1 h2 => hk z h1 (fun (hA : mA bm z) => absurd hA.2 (Nat.not_lt.mpr h2))), hT, hMT⟩ hS

set_option maxRecDepth 40000 in
set_option maxHeartbeats 4000000 in
theorem gm_text {p : Program} {l : Launch} {e : Env} {s : State} {m : MethodId} {below : List Frame} {meth : Method} {c : Code} {E : zE} {G : zG} {b L bx bm cells slots : Nat} {xs : Nat → Int32} {mi : Nat → Option Nat} {ko : Option Nat} {T : TT} {M : Nat → Nat → Int32} {I : Nat → TT} {H : Heap} {locs : List Loc} {ls : Array Slot} {pc idx : Nat} {a1 a2 : Int32} (rest : List Value) (hcs : cells ≤ room_1.cells ∧ slots ≤ room_1.slots) (C0 : lw_At p s m meth c b L xs) (hbx : s.heap.size ≤ bx) (hbm : bx + 93 ≤ bm) (hK : zK E s) (hO : zO s ∧ zZ G (fun q => s.heap.size ≤ q) s s.heap) (hG : GG E bx bm mi ko T M I H) (hS : va_S (fun q => s.heap.size ≤ q) s.heap H locs) (hls : ls.size = 4) (hW : (rest.map fun v => v.category).sum ≤ 8) (hlk : Cond.methodLink RL idx yX11_text ∈ zb) (hd : decode cL_law pc = .ok (.invokevirtual idx, 3))
    (kk : ∀ (r : Int32) (M' : Nat → Nat → Int32) (H : Heap) (locs : List Loc), (mTX M M' a1 a2 r) → GG E bx bm mi ko T M' I H → va_S (fun q => s.heap.size ≤ q) s.heap H locs → W p l e room_1 s m #[Value.ref b] below meth c H locs cells slots (lw_Z below #[Value.ref b] s) (F0 m (pc + 3) ls (.int r :: rest))) : W p l e room_1 s m #[Value.ref b] below meth c H locs cells slots (lw_Z below #[Value.ref b] s) (F0 m pc ls (.int a2 :: .int a1 :: .ref bm :: rest)) := by
  obtain ⟨hx, hb, hr, hml, hown, hts, hX0, hbl, hlocks, hgv⟩ := id C0
  have zc : zC p s m #[Value.ref b] meth c cL_law 4 RL ret := ⟨hx, hb, hml, hown, fun w hw => hts w (zb_in hw), hr, hlocks⟩
  obtain ⟨hXS, hMS, hE, hT, hMT⟩ := hG
  obtain ⟨S, V, f_word, a_rest, hI, hM⟩ := id hMS
  refine zVx_i [.int a1, .int a2] rest zc ky_X11_text kz_X11_text hlk (c_m_text l (post := (fun r f_code a_size a_fault a_faultPlace a_many a_lands a_evenings a_sights a_choirs f_reached f_length f_begins f_sort f_value f_word f_wrongAt f_laterFault f_laterPlace a_told a_read f_farHut f_farSinger f_good => (mTX M (mmk (M 0) a_size a_fault a_faultPlace a_many a_lands a_evenings a_sights a_choirs (M 9)) a1 a2 r) ∧ (iv 0 0 f_code) ∧ (∀ j, iv 0 600 (a_size j)) ∧ (∀ j, iv 0 2 (a_many j)) ∧ (mLand a_lands) ∧ (mEve a_evenings) ∧ (mSig a_sights) ∧ (mCho a_choirs))) (cj_q_m_text_0 (post_1 := fun r f_code a_size a_fault a_faultPlace a_many a_lands a_evenings a_sights a_choirs f_reached f_length f_begins f_sort f_value f_word f_wrongAt f_laterFault f_laterPlace a_told a_read f_farHut f_farSinger f_good => mTX M (mmk (M 0) a_size a_fault a_faultPlace a_many a_lands a_evenings a_sights a_choirs (M 9)) a1 a2 r) (post_2 := (fun r f_code a_size a_fault a_faultPlace a_many a_lands a_evenings a_sights a_choirs f_reached f_length f_begins f_sort f_value f_word f_wrongAt f_laterFault f_laterPlace a_told a_read f_farHut f_farSinger f_good => (iv 0 0 f_code) ∧ (∀ j, iv 0 600 (a_size j)) ∧ (∀ j, iv 0 2 (a_many j)) ∧ (mLand a_lands) ∧ (mEve a_evenings) ∧ (mSig a_sights) ∧ (mCho a_choirs))) (post_3 := (fun r f_code a_size a_fault a_faultPlace a_many a_lands a_evenings a_sights a_choirs f_reached f_length f_begins f_sort f_value f_word f_wrongAt f_laterFault f_laterPlace a_told a_read f_farHut f_farSinger f_good => (mTX M (mmk (M 0) a_size a_fault a_faultPlace a_many a_lands a_evenings a_sights a_choirs (M 9)) a1 a2 r) ∧ (iv 0 0 f_code) ∧ (∀ j, iv 0 600 (a_size j)) ∧ (∀ j, iv 0 2 (a_many j)) ∧ (mLand a_lands) ∧ (mEve a_evenings) ∧ (mSig a_sights) ∧ (mCho a_choirs))) (fun _ _ _ _ _ _ _ _ _ _ _ _ _ _ _ _ _ _ _ _ _ _ _ _ a b => ⟨a, b⟩) (e_m_text2 (M := M) ((hMT.2.1) 0) (hMT.1) (hMT.2.2.1) (fun _ _ _ _ _ _ _ _ _ _ _ _ _ _ _ _ _ _ _ _ _ _ _ h => h)) (s_m_text_0 (hI.1 0) (hMT.1) (hMT.2.1) (hMT.2.2.1) (hMT.2.2.2.1) (hMT.2.2.2.2.1) (hMT.2.2.2.2.2.1) (hMT.2.2.2.2.2.2.1) (fun _ _ _ _ _ _ _ _ _ _ _ _ _ _ _ _ _ _ _ _ _ _ _ _ h0 h1 h2 h3 h4 h5 h6 => ⟨h0, h1, h2, h3, h4, h5, h6⟩)))) (mPreV0 hK hM) hS (fun q (h : mA bm q) => Nat.le_trans hbx (Nat.le_trans (Nat.le_trans (Nat.le_add_right bx 93) hbm) h.1)) rfl rfl hls hW ⟨rfl, rfl⟩ ⟨(Nat.le_of_ble_eq_true rfl), (Nat.le_of_ble_eq_true rfl)⟩ hcs hd (fun r u H1 locs1 hw h9 hk hS => ?_)
  obtain ⟨f_code, a_size, a_fault, a_faultPlace, a_many, a_lands, a_evenings, a_sights, a_choirs, f_reached, f_length, f_begins, f_sort, f_value, f_word, f_wrongAt, f_laterFault, f_laterPlace, a_told, a_read, f_farHut, f_farSinger, f_good⟩ := u
  obtain ⟨hrel, n_f_code, n_a_size, n_a_many, n_a_lands, n_a_evenings, n_a_sights, n_a_choirs⟩ := hw
  exact kk r (mmk (M 0) a_size a_fault a_faultPlace a_many a_lands a_evenings a_sights a_choirs (M 9)) _ _ hrel ⟨XS_kp hXS (fun z h1 h2 h3 => hk z h1 (fun (hA : mA bm z) => zap hbm hA.1 h3)), MS_of h9 n_f_code (hI.1 12) (hI.1 13) (hI.1 14) (hI.2 2) (hI.2 3) (hI.2 4) (hI.2 6) (hI.1 16) (hI.2 7) (hI.2 8) (hI.2 12) (hI.2 13) (hI.2 14) (hI.1 21) (hI.2 16), lE_kp hE (fun z h1 h2 => hk z h1 (fun (hA : mA bm z) => absurd hA.2 (Nat.not_lt.mpr h2))), hT, ⟨(hMT.1), n_a_size, n_a_many, n_a_lands, n_a_evenings, n_a_sights, n_a_choirs, (hMT.2.2.2.2.2.2.2)⟩⟩ hS

set_option maxRecDepth 40000 in
set_option maxHeartbeats 4000000 in
theorem gm_trade {p : Program} {l : Launch} {e : Env} {s : State} {m : MethodId} {below : List Frame} {meth : Method} {c : Code} {E : zE} {G : zG} {b L bx bm cells slots : Nat} {xs : Nat → Int32} {mi : Nat → Option Nat} {ko : Option Nat} {T : TT} {M : Nat → Nat → Int32} {I : Nat → TT} {H : Heap} {locs : List Loc} {ls : Array Slot} {pc idx : Nat} {a1 a2 a3 a4 : Int32} (rest : List Value) (hcs : cells ≤ room_1.cells ∧ slots ≤ room_1.slots) (C0 : lw_At p s m meth c b L xs) (hbx : s.heap.size ≤ bx) (hbm : bx + 93 ≤ bm) (hK : zK E s) (hO : zO s ∧ zZ G (fun q => s.heap.size ≤ q) s s.heap) (hG : GG E bx bm mi ko T M I H) (hS : va_S (fun q => s.heap.size ≤ q) s.heap H locs) (hls : ls.size = 4) (hW : (rest.map fun v => v.category).sum ≤ 8) (hlk : Cond.methodLink RL idx yX11_trade ∈ zb) (hd : decode cL_law pc = .ok (.invokevirtual idx, 3))
    (kk : ∀ (r : Int32) (M' : Nat → Nat → Int32) (H : Heap) (locs : List Loc), (M' = M) → GG E bx bm mi ko T M' I H → va_S (fun q => s.heap.size ≤ q) s.heap H locs → W p l e room_1 s m #[Value.ref b] below meth c H locs cells slots (lw_Z below #[Value.ref b] s) (F0 m (pc + 3) ls (.int r :: rest))) : W p l e room_1 s m #[Value.ref b] below meth c H locs cells slots (lw_Z below #[Value.ref b] s) (F0 m pc ls (.int a4 :: .int a3 :: .int a2 :: .int a1 :: .ref bm :: rest)) := by
  obtain ⟨hx, hb, hr, hml, hown, hts, hX0, hbl, hlocks, hgv⟩ := id C0
  have zc : zC p s m #[Value.ref b] meth c cL_law 4 RL ret := ⟨hx, hb, hml, hown, fun w hw => hts w (zb_in hw), hr, hlocks⟩
  obtain ⟨hXS, hMS, hE, hT, hMT⟩ := hG
  obtain ⟨S, V, f_word, a_rest, hI, hM⟩ := id hMS
  refine zVx_i [.int a1, .int a2, .int a3, .int a4] rest zc ky_X11_trade kz_X11_trade hlk (c_m_trade l (post := fun r f_code _ => iv 0 0 f_code) (tM (fun _ _ h => h))) (mPreV0 hK hM) hS (fun q (h : mA bm q) => Nat.le_trans hbx (Nat.le_trans (Nat.le_trans (Nat.le_add_right bx 93) hbm) h.1)) rfl rfl hls hW ⟨rfl, rfl⟩ ⟨(Nat.le_of_ble_eq_true rfl), (Nat.le_of_ble_eq_true rfl)⟩ hcs hd (fun r u H1 locs1 hw h9 hk hS => ?_)
  obtain ⟨f_code, a_wins⟩ := u
  have n_f_code := hw
  exact kk r _ _ _ rfl ⟨XS_kp hXS (fun z h1 h2 h3 => hk z h1 (fun (hA : mA bm z) => zap hbm hA.1 h3)), MS_of1 (M := M) h9 n_f_code (hI.1 12) (hI.1 13) (hI.1 14) (hI.2 2) (hI.2 3) (hI.2 4) (hI.2 6) (hI.1 16) (hI.2 7) (hI.2 8) (hI.2 12) (hI.2 13) (hI.2 14) (hI.1 21) (hI.2 16), lE_kp hE (fun z h1 h2 => hk z h1 (fun (hA : mA bm z) => absurd hA.2 (Nat.not_lt.mpr h2))), hT, hMT⟩ hS
end
section
set_option maxRecDepth 40000 in
set_option maxHeartbeats 4000000 in
theorem gm_villages {p : Program} {l : Launch} {e : Env} {s : State} {m : MethodId} {below : List Frame} {meth : Method} {c : Code} {E : zE} {G : zG} {b L bx bm cells slots : Nat} {xs : Nat → Int32} {mi : Nat → Option Nat} {ko : Option Nat} {T : TT} {M : Nat → Nat → Int32} {I : Nat → TT} {H : Heap} {locs : List Loc} {ls : Array Slot} {pc idx : Nat} {a1 a2 a3 : Int32} (rest : List Value) (hcs : cells ≤ room_1.cells ∧ slots ≤ room_1.slots) (C0 : lw_At p s m meth c b L xs) (hbx : s.heap.size ≤ bx) (hbm : bx + 93 ≤ bm) (hK : zK E s) (hO : zO s ∧ zZ G (fun q => s.heap.size ≤ q) s s.heap) (hG : GG E bx bm mi ko T M I H) (hS : va_S (fun q => s.heap.size ≤ q) s.heap H locs) (hls : ls.size = 4) (hW : (rest.map fun v => v.category).sum ≤ 8) (hlk : Cond.methodLink RL idx yX11_villages ∈ zb) (hd : decode cL_law pc = .ok (.invokevirtual idx, 3))
    (kk : ∀ (r : Int32) (M' : Nat → Nat → Int32) (H : Heap) (locs : List Loc), (M' = M) → GG E bx bm mi ko T M' I H → va_S (fun q => s.heap.size ≤ q) s.heap H locs → W p l e room_1 s m #[Value.ref b] below meth c H locs cells slots (lw_Z below #[Value.ref b] s) (F0 m (pc + 3) ls (.int r :: rest))) : W p l e room_1 s m #[Value.ref b] below meth c H locs cells slots (lw_Z below #[Value.ref b] s) (F0 m pc ls (.int a3 :: .int a2 :: .int a1 :: .ref bm :: rest)) := by
  obtain ⟨hx, hb, hr, hml, hown, hts, hX0, hbl, hlocks, hgv⟩ := id C0
  have zc : zC p s m #[Value.ref b] meth c cL_law 4 RL ret := ⟨hx, hb, hml, hown, fun w hw => hts w (zb_in hw), hr, hlocks⟩
  obtain ⟨hXS, hMS, hE, hT, hMT⟩ := hG
  obtain ⟨S, V, f_word, a_rest, hI, hM⟩ := id hMS
  refine zVx_i [.int a1, .int a2, .int a3] rest zc ky_X11_villages kz_X11_villages hlk (c_m_villages l (post := (fun r f_code f_land f_huts f_singers a_run a_covers => (iv 0 0 f_code) ∧ (iv 0 1 f_land) ∧ (iv 0 9 f_huts) ∧ (iv 0 6 f_singers) ∧ (∀ j, iv 0 1000000 (a_run j)) ∧ (∀ j, iv 0 511 (a_covers j)))) (s_m_villages_0 (hI.1 0) (hMT.2.2.1) (hMT.2.2.2.1) (hI.1 12) (hI.1 13) (hI.1 14) (hI.2 7) (hI.2 8) (fun _ _ _ _ _ _ _ _ h1 h2 h3 h4 h5 h6 => ⟨h1, h2, h3, h4, h5, h6⟩))) (mPreV0 hK hM) hS (fun q (h : mA bm q) => Nat.le_trans hbx (Nat.le_trans (Nat.le_trans (Nat.le_add_right bx 93) hbm) h.1)) rfl rfl hls hW ⟨rfl, rfl⟩ ⟨(Nat.le_of_ble_eq_true rfl), (Nat.le_of_ble_eq_true rfl)⟩ hcs hd (fun r u H1 locs1 hw h9 hk hS => ?_)
  obtain ⟨f_code, f_land, f_huts, f_singers, a_run, a_covers⟩ := u
  obtain ⟨n_f_code, n_f_land, n_f_huts, n_f_singers, n_a_run, n_a_covers⟩ := hw
  exact kk r _ _ _ rfl ⟨XS_kp hXS (fun z h1 h2 h3 => hk z h1 (fun (hA : mA bm z) => zap hbm hA.1 h3)), MS_of1 (M := M) h9 n_f_code n_f_land n_f_huts n_f_singers (hI.2 2) (hI.2 3) (hI.2 4) (hI.2 6) (hI.1 16) n_a_run n_a_covers (hI.2 12) (hI.2 13) (hI.2 14) (hI.1 21) (hI.2 16), lE_kp hE (fun z h1 h2 => hk z h1 (fun (hA : mA bm z) => absurd hA.2 (Nat.not_lt.mpr h2))), hT, hMT⟩ hS
end
section
set_option maxRecDepth 40000 in
set_option maxHeartbeats 4000000 in
theorem g_0 {p : Program} {l : Launch} {e : Env} {s : State} {m : MethodId} {below : List Frame} {meth : Method} {c : Code} {E : zE} {G : zG} {b L i bx bm cells slots : Nat} {xs : Nat → Int32} {mi : Nat → Option Nat} {ko : Option Nat} {T : TT} {M : Nat → Nat → Int32} {I : Nat → TT} {H : Heap} {locs : List Loc} {ls : Array Slot} (hi : i + 6 ≤ L) (hL : L ≤ 3072) (hR : RG T M I mi) (hcs : cells + 47 ≤ room_1.cells ∧ slots + 4608 ≤ room_1.slots) (C0 : lw_At p s m meth c b L xs) (hbx : s.heap.size ≤ bx) (hbm : bx + 93 ≤ bm) (hK : zK E s) (hO : zO s ∧ zZ G (fun q => s.heap.size ≤ q) s s.heap) (hG : GG E bx bm mi ko T M I H) (hS : va_S (fun q => s.heap.size ≤ q) s.heap H locs) (hl : lv_has ls 4 [(0, .ref b), (1, .ref bx), (2, .ref bm), (3, .int (nI i))])
    (kk : ∀ (mi : Nat → Option Nat) (ko : Option Nat) (T : TT) (M : Nat → Nat → Int32) (I : Nat → TT) (H : Heap) (locs : List Loc) (cells' slots' : Nat), cells' ≤ cells + 47 → slots' ≤ slots + 4608 → RG T M I mi → GG E bx bm mi ko T M I H → va_S (fun q => s.heap.size ≤ q) s.heap H locs → W p l e room_1 s m #[Value.ref b] below meth c H locs cells' slots' (lw_Z below #[Value.ref b] s) (F0 m 1647 ls [])) : W p l e room_1 s m #[Value.ref b] below meth c H locs cells slots (lw_Z below #[Value.ref b] s) (F0 m 180 ls []) := by
  obtain ⟨hx, hb, hr, hml, hown, hts, hX0, hbl, hlocks, hgv⟩ := id C0
  have zc : zC p s m #[Value.ref b] meth c cL_law 4 RL ret := ⟨hx, hb, hml, hown, fun w hw => hts w (zb_in hw), hr, hlocks⟩
  have hbA : ¬ (fun q : Nat => s.heap.size ≤ q) b := Nat.not_le.mpr hbl
  refine lv_aload_n hx hb dL_law_180 rfl (lv_at hl 1 rfl) ?_
  refine lv_aload_n hx hb dL_law_181 rfl (lv_at hl 0 rfl) ?_
  refine lv_iload_n hx hb dL_law_182 rfl (lv_at hl 3 rfl) ?_
  refine lv_iconst (v := (1 : Int32)) hx hb dL_law_183 (by decide) ?_
  refine lv_iadd hx hb dL_law_184 ?_
  refine va_sld hx hb hX0 hbl hbA hS (zidx (k := 1) hi hL rfl (by decide)) dL_law_185 ?_
  refine lv_aload_n hx hb dL_law_186 rfl (lv_at hl 0 rfl) ?_
  refine lv_iload_n hx hb dL_law_187 rfl (lv_at hl 3 rfl) ?_
  refine lv_iconst (v := (2 : Int32)) hx hb dL_law_188 (by decide) ?_
  refine lv_iadd hx hb dL_law_189 ?_
  refine va_sld hx hb hX0 hbl hbA hS (zidx (k := 2) hi hL rfl (by decide)) dL_law_190 ?_
  refine lv_aload_n hx hb dL_law_191 rfl (lv_at hl 0 rfl) ?_
  refine lv_iload_n hx hb dL_law_192 rfl (lv_at hl 3 rfl) ?_
  refine lv_iconst (v := (3 : Int32)) hx hb dL_law_193 (by decide) ?_
  refine lv_iadd hx hb dL_law_194 ?_
  refine va_sld hx hb hX0 hbl hbA hS (zidx (k := 3) hi hL rfl (by decide)) dL_law_195 ?_
  refine lv_aload_n hx hb dL_law_196 rfl (lv_at hl 0 rfl) ?_
  refine lv_iload_n hx hb dL_law_197 rfl (lv_at hl 3 rfl) ?_
  refine lv_iconst (v := (4 : Int32)) hx hb dL_law_198 (by decide) ?_
  refine lv_iadd hx hb dL_law_199 ?_
  refine va_sld hx hb hX0 hbl hbA hS (zidx (k := 4) hi hL rfl (by decide)) dL_law_200 ?_
  refine lv_aload_n hx hb dL_law_201 rfl (lv_at hl 0 rfl) ?_
  refine lv_iload_n hx hb dL_law_202 rfl (lv_at hl 3 rfl) ?_
  refine lv_iconst (v := (5 : Int32)) hx hb dL_law_203 (by decide) ?_
  refine lv_iadd hx hb dL_law_204 ?_
  refine va_sld hx hb hX0 hbl hbA hS (zidx (k := 5) hi hL rfl (by decide)) dL_law_205 ?_
  have hB0 := tB_of hG.2.2.2.1
  have hI0 := tBI_of hG.2.2.1
  refine gx_feed [] hcs C0 hbx hbm hK hO hG hS hl.1 (Nat.le_of_ble_eq_true rfl) kmL_13 dL_law_206 (fun r1 mi' ko' T' I' H locs cells' slots' hx1 e1 e2 hG1 hS1 => ?_)
  obtain ⟨rfl, rfl, hx2⟩ := hx1
  have hG := hG1
  have hS := hS1
  refine lv_pop hx hb dL_law_209 rfl ?_
  refine lv_aload_n hx hb dL_law_210 rfl (lv_at hl 2 rfl) ?_
  refine lv_aload_n hx hb dL_law_211 rfl (lv_at hl 0 rfl) ?_
  refine lv_iload_n hx hb dL_law_212 rfl (lv_at hl 3 rfl) ?_
  refine lv_iconst (v := (1 : Int32)) hx hb dL_law_213 (by decide) ?_
  refine lv_iadd hx hb dL_law_214 ?_
  refine va_sld hx hb hX0 hbl hbA hS (zidx (k := 1) hi hL rfl (by decide)) dL_law_215 ?_
  refine lv_aload_n hx hb dL_law_216 rfl (lv_at hl 0 rfl) ?_
  refine lv_iload_n hx hb dL_law_217 rfl (lv_at hl 3 rfl) ?_
  refine lv_iconst (v := (2 : Int32)) hx hb dL_law_218 (by decide) ?_
  refine lv_iadd hx hb dL_law_219 ?_
  refine va_sld hx hb hX0 hbl hbA hS (zidx (k := 2) hi hL rfl (by decide)) dL_law_220 ?_
  refine lv_aload_n hx hb dL_law_221 rfl (lv_at hl 0 rfl) ?_
  refine lv_iload_n hx hb dL_law_222 rfl (lv_at hl 3 rfl) ?_
  refine lv_iconst (v := (3 : Int32)) hx hb dL_law_223 (by decide) ?_
  refine lv_iadd hx hb dL_law_224 ?_
  refine va_sld hx hb hX0 hbl hbA hS (zidx (k := 3) hi hL rfl (by decide)) dL_law_225 ?_
  refine lv_aload_n hx hb dL_law_226 rfl (lv_at hl 0 rfl) ?_
  refine lv_iload_n hx hb dL_law_227 rfl (lv_at hl 3 rfl) ?_
  refine lv_iconst (v := (4 : Int32)) hx hb dL_law_228 (by decide) ?_
  refine lv_iadd hx hb dL_law_229 ?_
  refine va_sld hx hb hX0 hbl hbA hS (zidx (k := 4) hi hL rfl (by decide)) dL_law_230 ?_
  refine lv_aload_n hx hb dL_law_231 rfl (lv_at hl 0 rfl) ?_
  refine lv_iload_n hx hb dL_law_232 rfl (lv_at hl 3 rfl) ?_
  refine lv_iconst (v := (5 : Int32)) hx hb dL_law_233 (by decide) ?_
  refine lv_iadd hx hb dL_law_234 ?_
  refine va_sld hx hb hX0 hbl hbA hS (zidx (k := 5) hi hL rfl (by decide)) dL_law_235 ?_
  refine gm_feed [] ⟨Nat.le_trans e1 hcs.1, Nat.le_trans e2 hcs.2⟩ C0 hbx hbm hK hO hG hS hl.1 (Nat.le_of_ble_eq_true rfl) kmL_17 dL_law_236 (fun r2 M' H locs hm1 hG2 hS2 => ?_)
  obtain ⟨hrr, hR⟩ := RG_fd hR hB0 hI0 hx2 hm1
  have hG := hG2
  have hS := hS2
  refine lv_pop hx hb dL_law_239 rfl ?_
  refine lv_goto (tgt := 1647) hx hb dL_law_240 (by decide) ?_
  exact kk _ _ _ _ _ _ _ _ _ e1 e2 hR hG hS

set_option maxRecDepth 40000 in
set_option maxHeartbeats 4000000 in
theorem g_1 {p : Program} {l : Launch} {e : Env} {s : State} {m : MethodId} {below : List Frame} {meth : Method} {c : Code} {E : zE} {G : zG} {b L i bx bm cells slots : Nat} {xs : Nat → Int32} {mi : Nat → Option Nat} {ko : Option Nat} {T : TT} {M : Nat → Nat → Int32} {I : Nat → TT} {H : Heap} {locs : List Loc} {ls : Array Slot} (hi : i + 6 ≤ L) (hL : L ≤ 3072) (hR : RG T M I mi) (hcs : cells + 47 ≤ room_1.cells ∧ slots + 4608 ≤ room_1.slots) (C0 : lw_At p s m meth c b L xs) (hbx : s.heap.size ≤ bx) (hbm : bx + 93 ≤ bm) (hK : zK E s) (hO : zO s ∧ zZ G (fun q => s.heap.size ≤ q) s s.heap) (hG : GG E bx bm mi ko T M I H) (hS : va_S (fun q => s.heap.size ≤ q) s.heap H locs) (hl : lv_has ls 4 [(0, .ref b), (1, .ref bx), (2, .ref bm), (3, .int (nI i))])
    (kk : ∀ (mi : Nat → Option Nat) (ko : Option Nat) (T : TT) (M : Nat → Nat → Int32) (I : Nat → TT) (H : Heap) (locs : List Loc) (cells' slots' : Nat), cells' ≤ cells + 47 → slots' ≤ slots + 4608 → RG T M I mi → GG E bx bm mi ko T M I H → va_S (fun q => s.heap.size ≤ q) s.heap H locs → W p l e room_1 s m #[Value.ref b] below meth c H locs cells' slots' (lw_Z below #[Value.ref b] s) (F0 m 1647 ls [])) : W p l e room_1 s m #[Value.ref b] below meth c H locs cells slots (lw_Z below #[Value.ref b] s) (F0 m 243 ls []) := by
  obtain ⟨hx, hb, hr, hml, hown, hts, hX0, hbl, hlocks, hgv⟩ := id C0
  have zc : zC p s m #[Value.ref b] meth c cL_law 4 RL ret := ⟨hx, hb, hml, hown, fun w hw => hts w (zb_in hw), hr, hlocks⟩
  have hbA : ¬ (fun q : Nat => s.heap.size ≤ q) b := Nat.not_le.mpr hbl
  refine lv_aload_n hx hb dL_law_243 rfl (lv_at hl 1 rfl) ?_
  refine lv_aload_n hx hb dL_law_244 rfl (lv_at hl 0 rfl) ?_
  refine lv_iload_n hx hb dL_law_245 rfl (lv_at hl 3 rfl) ?_
  refine lv_iconst (v := (1 : Int32)) hx hb dL_law_246 (by decide) ?_
  refine lv_iadd hx hb dL_law_247 ?_
  refine va_sld hx hb hX0 hbl hbA hS (zidx (k := 1) hi hL rfl (by decide)) dL_law_248 ?_
  have hB0 := tB_of hG.2.2.2.1
  have hI0 := tBI_of hG.2.2.1
  refine gx_end [] hcs C0 hbx hbm hK hO hG hS hl.1 (Nat.le_of_ble_eq_true rfl) kmL_18 dL_law_249 (fun r1 mi' ko' T' I' H locs cells' slots' hx1 e1 e2 hG1 hS1 => ?_)
  obtain ⟨rfl, rfl, hx2⟩ := hx1
  have hG := hG1
  have hS := hS1
  refine lv_pop hx hb dL_law_252 rfl ?_
  refine lv_aload_n hx hb dL_law_253 rfl (lv_at hl 2 rfl) ?_
  refine lv_aload_n hx hb dL_law_254 rfl (lv_at hl 0 rfl) ?_
  refine lv_iload_n hx hb dL_law_255 rfl (lv_at hl 3 rfl) ?_
  refine lv_iconst (v := (1 : Int32)) hx hb dL_law_256 (by decide) ?_
  refine lv_iadd hx hb dL_law_257 ?_
  refine va_sld hx hb hX0 hbl hbA hS (zidx (k := 1) hi hL rfl (by decide)) dL_law_258 ?_
  refine gm_end [] ⟨Nat.le_trans e1 hcs.1, Nat.le_trans e2 hcs.2⟩ C0 hbx hbm hK hO hG hS hl.1 (Nat.le_of_ble_eq_true rfl) kmL_22 dL_law_259 (fun r2 M' H locs hm1 hG2 hS2 => ?_)
  obtain ⟨hrr, hR⟩ := RG_en hR hB0 hI0 hx2 hm1
  have hG := hG2
  have hS := hS2
  refine lv_pop hx hb dL_law_262 rfl ?_
  refine lv_goto (tgt := 1647) hx hb dL_law_263 (by decide) ?_
  exact kk _ _ _ _ _ _ _ _ _ e1 e2 hR hG hS

set_option maxRecDepth 40000 in
set_option maxHeartbeats 4000000 in
theorem g_2 {p : Program} {l : Launch} {e : Env} {s : State} {m : MethodId} {below : List Frame} {meth : Method} {c : Code} {E : zE} {G : zG} {b L i bx bm cells slots : Nat} {xs : Nat → Int32} {mi : Nat → Option Nat} {ko : Option Nat} {T : TT} {M : Nat → Nat → Int32} {I : Nat → TT} {H : Heap} {locs : List Loc} {ls : Array Slot} (hi : i + 6 ≤ L) (hL : L ≤ 3072) (hR : RG T M I mi) (hcs : cells + 47 ≤ room_1.cells ∧ slots + 4608 ≤ room_1.slots) (C0 : lw_At p s m meth c b L xs) (hbx : s.heap.size ≤ bx) (hbm : bx + 93 ≤ bm) (hK : zK E s) (hO : zO s ∧ zZ G (fun q => s.heap.size ≤ q) s s.heap) (hG : GG E bx bm mi ko T M I H) (hS : va_S (fun q => s.heap.size ≤ q) s.heap H locs) (hl : lv_has ls 4 [(0, .ref b), (1, .ref bx), (2, .ref bm), (3, .int (nI i))])
    (kk : ∀ (mi : Nat → Option Nat) (ko : Option Nat) (T : TT) (M : Nat → Nat → Int32) (I : Nat → TT) (H : Heap) (locs : List Loc) (cells' slots' : Nat), cells' ≤ cells + 47 → slots' ≤ slots + 4608 → RG T M I mi → GG E bx bm mi ko T M I H → va_S (fun q => s.heap.size ≤ q) s.heap H locs → W p l e room_1 s m #[Value.ref b] below meth c H locs cells' slots' (lw_Z below #[Value.ref b] s) (F0 m 1647 ls [])) : W p l e room_1 s m #[Value.ref b] below meth c H locs cells slots (lw_Z below #[Value.ref b] s) (F0 m 266 ls []) := by
  obtain ⟨hx, hb, hr, hml, hown, hts, hX0, hbl, hlocks, hgv⟩ := id C0
  have zc : zC p s m #[Value.ref b] meth c cL_law 4 RL ret := ⟨hx, hb, hml, hown, fun w hw => hts w (zb_in hw), hr, hlocks⟩
  have hbA : ¬ (fun q : Nat => s.heap.size ≤ q) b := Nat.not_le.mpr hbl
  refine lv_aload_n hx hb dL_law_266 rfl (lv_at hl 1 rfl) ?_
  refine lv_aload_n hx hb dL_law_267 rfl (lv_at hl 0 rfl) ?_
  refine lv_iload_n hx hb dL_law_268 rfl (lv_at hl 3 rfl) ?_
  refine lv_iconst (v := (1 : Int32)) hx hb dL_law_269 (by decide) ?_
  refine lv_iadd hx hb dL_law_270 ?_
  refine va_sld hx hb hX0 hbl hbA hS (zidx (k := 1) hi hL rfl (by decide)) dL_law_271 ?_
  refine lv_aload_n hx hb dL_law_272 rfl (lv_at hl 0 rfl) ?_
  refine lv_iload_n hx hb dL_law_273 rfl (lv_at hl 3 rfl) ?_
  refine lv_iconst (v := (2 : Int32)) hx hb dL_law_274 (by decide) ?_
  refine lv_iadd hx hb dL_law_275 ?_
  refine va_sld hx hb hX0 hbl hbA hS (zidx (k := 2) hi hL rfl (by decide)) dL_law_276 ?_
  have hB0 := tB_of hG.2.2.2.1
  have hI0 := tBI_of hG.2.2.1
  refine gx_text [] hcs C0 hbx hbm hK hO hG hS hl.1 (Nat.le_of_ble_eq_true rfl) kmL_23 dL_law_277 (fun r1 mi' ko' T' I' H locs cells' slots' hx1 e1 e2 hG1 hS1 => ?_)
  obtain ⟨rfl, rfl, hx2⟩ := hx1
  have hB1 := tB_of hG1.2.2.2.1
  have hG := hG1
  have hS := hS1
  refine lv_pop hx hb dL_law_280 rfl ?_
  refine lv_aload_n hx hb dL_law_281 rfl (lv_at hl 2 rfl) ?_
  refine lv_aload_n hx hb dL_law_282 rfl (lv_at hl 0 rfl) ?_
  refine lv_iload_n hx hb dL_law_283 rfl (lv_at hl 3 rfl) ?_
  refine lv_iconst (v := (1 : Int32)) hx hb dL_law_284 (by decide) ?_
  refine lv_iadd hx hb dL_law_285 ?_
  refine va_sld hx hb hX0 hbl hbA hS (zidx (k := 1) hi hL rfl (by decide)) dL_law_286 ?_
  refine lv_aload_n hx hb dL_law_287 rfl (lv_at hl 0 rfl) ?_
  refine lv_iload_n hx hb dL_law_288 rfl (lv_at hl 3 rfl) ?_
  refine lv_iconst (v := (2 : Int32)) hx hb dL_law_289 (by decide) ?_
  refine lv_iadd hx hb dL_law_290 ?_
  refine va_sld hx hb hX0 hbl hbA hS (zidx (k := 2) hi hL rfl (by decide)) dL_law_291 ?_
  refine gm_text [] ⟨Nat.le_trans e1 hcs.1, Nat.le_trans e2 hcs.2⟩ C0 hbx hbm hK hO hG hS hl.1 (Nat.le_of_ble_eq_true rfl) kmL_27 dL_law_292 (fun r2 M' H locs hm1 hG2 hS2 => ?_)
  obtain ⟨hrr, hR⟩ := RG_tx hR hB0 hB1 hI0 hx2 hm1
  have hG := hG2
  have hS := hS2
  refine lv_pop hx hb dL_law_295 rfl ?_
  refine lv_goto (tgt := 1647) hx hb dL_law_296 (by decide) ?_
  exact kk _ _ _ _ _ _ _ _ _ e1 e2 hR hG hS

set_option maxRecDepth 40000 in
set_option maxHeartbeats 4000000 in
theorem g_3 {p : Program} {l : Launch} {e : Env} {s : State} {m : MethodId} {below : List Frame} {meth : Method} {c : Code} {E : zE} {G : zG} {b L i bx bm cells slots : Nat} {xs : Nat → Int32} {mi : Nat → Option Nat} {ko : Option Nat} {T : TT} {M : Nat → Nat → Int32} {I : Nat → TT} {H : Heap} {locs : List Loc} {ls : Array Slot} (hi : i + 6 ≤ L) (hL : L ≤ 3072) (hR : RG T M I mi) (hcs : cells + 47 ≤ room_1.cells ∧ slots + 4608 ≤ room_1.slots) (C0 : lw_At p s m meth c b L xs) (hbx : s.heap.size ≤ bx) (hbm : bx + 93 ≤ bm) (hK : zK E s) (hO : zO s ∧ zZ G (fun q => s.heap.size ≤ q) s s.heap) (hG : GG E bx bm mi ko T M I H) (hS : va_S (fun q => s.heap.size ≤ q) s.heap H locs) (hl : lv_has ls 4 [(0, .ref b), (1, .ref bx), (2, .ref bm), (3, .int (nI i))])
    (kk : ∀ (mi : Nat → Option Nat) (ko : Option Nat) (T : TT) (M : Nat → Nat → Int32) (I : Nat → TT) (H : Heap) (locs : List Loc) (cells' slots' : Nat), cells' ≤ cells + 47 → slots' ≤ slots + 4608 → RG T M I mi → GG E bx bm mi ko T M I H → va_S (fun q => s.heap.size ≤ q) s.heap H locs → W p l e room_1 s m #[Value.ref b] below meth c H locs cells' slots' (lw_Z below #[Value.ref b] s) (F0 m 1647 ls [])) : W p l e room_1 s m #[Value.ref b] below meth c H locs cells slots (lw_Z below #[Value.ref b] s) (F0 m 299 ls []) := by
  obtain ⟨hx, hb, hr, hml, hown, hts, hX0, hbl, hlocks, hgv⟩ := id C0
  have zc : zC p s m #[Value.ref b] meth c cL_law 4 RL ret := ⟨hx, hb, hml, hown, fun w hw => hts w (zb_in hw), hr, hlocks⟩
  have hbA : ¬ (fun q : Nat => s.heap.size ≤ q) b := Nat.not_le.mpr hbl
  refine lv_aload_n hx hb dL_law_299 rfl (lv_at hl 1 rfl) ?_
  refine lv_aload_n hx hb dL_law_300 rfl (lv_at hl 0 rfl) ?_
  refine lv_iload_n hx hb dL_law_301 rfl (lv_at hl 3 rfl) ?_
  refine lv_iconst (v := (1 : Int32)) hx hb dL_law_302 (by decide) ?_
  refine lv_iadd hx hb dL_law_303 ?_
  refine va_sld hx hb hX0 hbl hbA hS (zidx (k := 1) hi hL rfl (by decide)) dL_law_304 ?_
  have hB0 := tB_of hG.2.2.2.1
  have hI0 := tBI_of hG.2.2.1
  refine gx_fault [] hcs C0 hbx hbm hK hO hG hS hl.1 (Nat.le_of_ble_eq_true rfl) kmL_28 dL_law_305 (fun r1 mi' ko' T' I' H locs cells' slots' hx1 e1 e2 hG1 hS1 => ?_)
  obtain ⟨rfl, rfl, rfl⟩ := hx1
  have hG := hG1
  have hS := hS1
  refine lv_pop hx hb dL_law_308 rfl ?_
  refine lv_aload_n hx hb dL_law_309 rfl (lv_at hl 2 rfl) ?_
  refine lv_aload_n hx hb dL_law_310 rfl (lv_at hl 0 rfl) ?_
  refine lv_iload_n hx hb dL_law_311 rfl (lv_at hl 3 rfl) ?_
  refine lv_iconst (v := (1 : Int32)) hx hb dL_law_312 (by decide) ?_
  refine lv_iadd hx hb dL_law_313 ?_
  refine va_sld hx hb hX0 hbl hbA hS (zidx (k := 1) hi hL rfl (by decide)) dL_law_314 ?_
  refine gm_fault [] ⟨Nat.le_trans e1 hcs.1, Nat.le_trans e2 hcs.2⟩ C0 hbx hbm hK hO hG hS hl.1 (Nat.le_of_ble_eq_true rfl) kmL_31 dL_law_315 (fun r2 M' H locs hm1 hG2 hS2 => ?_)
  obtain rfl := hm1
  have hG := hG2
  have hS := hS2
  refine lv_pop hx hb dL_law_318 rfl ?_
  refine lv_goto (tgt := 1647) hx hb dL_law_319 (by decide) ?_
  exact kk _ _ _ _ _ _ _ _ _ e1 e2 hR hG hS

set_option maxRecDepth 40000 in
set_option maxHeartbeats 4000000 in
theorem g_4 {p : Program} {l : Launch} {e : Env} {s : State} {m : MethodId} {below : List Frame} {meth : Method} {c : Code} {E : zE} {G : zG} {b L i bx bm cells slots : Nat} {xs : Nat → Int32} {mi : Nat → Option Nat} {ko : Option Nat} {T : TT} {M : Nat → Nat → Int32} {I : Nat → TT} {H : Heap} {locs : List Loc} {ls : Array Slot} (hi : i + 6 ≤ L) (hL : L ≤ 3072) (hR : RG T M I mi) (hcs : cells + 47 ≤ room_1.cells ∧ slots + 4608 ≤ room_1.slots) (C0 : lw_At p s m meth c b L xs) (hbx : s.heap.size ≤ bx) (hbm : bx + 93 ≤ bm) (hK : zK E s) (hO : zO s ∧ zZ G (fun q => s.heap.size ≤ q) s s.heap) (hG : GG E bx bm mi ko T M I H) (hS : va_S (fun q => s.heap.size ≤ q) s.heap H locs) (hl : lv_has ls 4 [(0, .ref b), (1, .ref bx), (2, .ref bm), (3, .int (nI i))])
    (kk : ∀ (mi : Nat → Option Nat) (ko : Option Nat) (T : TT) (M : Nat → Nat → Int32) (I : Nat → TT) (H : Heap) (locs : List Loc) (cells' slots' : Nat), cells' ≤ cells + 47 → slots' ≤ slots + 4608 → RG T M I mi → GG E bx bm mi ko T M I H → va_S (fun q => s.heap.size ≤ q) s.heap H locs → W p l e room_1 s m #[Value.ref b] below meth c H locs cells' slots' (lw_Z below #[Value.ref b] s) (F0 m 1647 ls [])) : W p l e room_1 s m #[Value.ref b] below meth c H locs cells slots (lw_Z below #[Value.ref b] s) (F0 m 322 ls []) := by
  obtain ⟨hx, hb, hr, hml, hown, hts, hX0, hbl, hlocks, hgv⟩ := id C0
  have zc : zC p s m #[Value.ref b] meth c cL_law 4 RL ret := ⟨hx, hb, hml, hown, fun w hw => hts w (zb_in hw), hr, hlocks⟩
  have hbA : ¬ (fun q : Nat => s.heap.size ≤ q) b := Nat.not_le.mpr hbl
  refine lv_aload_n hx hb dL_law_322 rfl (lv_at hl 1 rfl) ?_
  refine lv_aload_n hx hb dL_law_323 rfl (lv_at hl 0 rfl) ?_
  refine lv_iload_n hx hb dL_law_324 rfl (lv_at hl 3 rfl) ?_
  refine lv_iconst (v := (1 : Int32)) hx hb dL_law_325 (by decide) ?_
  refine lv_iadd hx hb dL_law_326 ?_
  refine va_sld hx hb hX0 hbl hbA hS (zidx (k := 1) hi hL rfl (by decide)) dL_law_327 ?_
  refine lv_aload_n hx hb dL_law_328 rfl (lv_at hl 0 rfl) ?_
  refine lv_iload_n hx hb dL_law_329 rfl (lv_at hl 3 rfl) ?_
  refine lv_iconst (v := (2 : Int32)) hx hb dL_law_330 (by decide) ?_
  refine lv_iadd hx hb dL_law_331 ?_
  refine va_sld hx hb hX0 hbl hbA hS (zidx (k := 2) hi hL rfl (by decide)) dL_law_332 ?_
  have hB0 := tB_of hG.2.2.2.1
  have hI0 := tBI_of hG.2.2.1
  refine gx_land [] hcs C0 hbx hbm hK hO hG hS hl.1 (Nat.le_of_ble_eq_true rfl) kmL_32 dL_law_333 (fun r1 mi' ko' T' I' H locs cells' slots' hx1 e1 e2 hG1 hS1 => ?_)
  obtain ⟨rfl, rfl, rfl⟩ := hx1
  have hG := hG1
  have hS := hS1
  refine lv_pop hx hb dL_law_336 rfl ?_
  refine lv_aload_n hx hb dL_law_337 rfl (lv_at hl 2 rfl) ?_
  refine lv_aload_n hx hb dL_law_338 rfl (lv_at hl 0 rfl) ?_
  refine lv_iload_n hx hb dL_law_339 rfl (lv_at hl 3 rfl) ?_
  refine lv_iconst (v := (1 : Int32)) hx hb dL_law_340 (by decide) ?_
  refine lv_iadd hx hb dL_law_341 ?_
  refine va_sld hx hb hX0 hbl hbA hS (zidx (k := 1) hi hL rfl (by decide)) dL_law_342 ?_
  refine lv_aload_n hx hb dL_law_343 rfl (lv_at hl 0 rfl) ?_
  refine lv_iload_n hx hb dL_law_344 rfl (lv_at hl 3 rfl) ?_
  refine lv_iconst (v := (2 : Int32)) hx hb dL_law_345 (by decide) ?_
  refine lv_iadd hx hb dL_law_346 ?_
  refine va_sld hx hb hX0 hbl hbA hS (zidx (k := 2) hi hL rfl (by decide)) dL_law_347 ?_
  refine gm_land [] ⟨Nat.le_trans e1 hcs.1, Nat.le_trans e2 hcs.2⟩ C0 hbx hbm hK hO hG hS hl.1 (Nat.le_of_ble_eq_true rfl) kmL_35 dL_law_348 (fun r2 M' H locs hm1 hG2 hS2 => ?_)
  obtain rfl := hm1
  have hG := hG2
  have hS := hS2
  refine lv_pop hx hb dL_law_351 rfl ?_
  refine lv_goto (tgt := 1647) hx hb dL_law_352 (by decide) ?_
  exact kk _ _ _ _ _ _ _ _ _ e1 e2 hR hG hS

set_option maxRecDepth 40000 in
set_option maxHeartbeats 4000000 in
theorem g_5 {p : Program} {l : Launch} {e : Env} {s : State} {m : MethodId} {below : List Frame} {meth : Method} {c : Code} {E : zE} {G : zG} {b L i bx bm cells slots : Nat} {xs : Nat → Int32} {mi : Nat → Option Nat} {ko : Option Nat} {T : TT} {M : Nat → Nat → Int32} {I : Nat → TT} {H : Heap} {locs : List Loc} {ls : Array Slot} (hi : i + 6 ≤ L) (hL : L ≤ 3072) (hR : RG T M I mi) (hcs : cells + 47 ≤ room_1.cells ∧ slots + 4608 ≤ room_1.slots) (C0 : lw_At p s m meth c b L xs) (hbx : s.heap.size ≤ bx) (hbm : bx + 93 ≤ bm) (hK : zK E s) (hO : zO s ∧ zZ G (fun q => s.heap.size ≤ q) s s.heap) (hG : GG E bx bm mi ko T M I H) (hS : va_S (fun q => s.heap.size ≤ q) s.heap H locs) (hl : lv_has ls 4 [(0, .ref b), (1, .ref bx), (2, .ref bm), (3, .int (nI i))])
    (kk : ∀ (mi : Nat → Option Nat) (ko : Option Nat) (T : TT) (M : Nat → Nat → Int32) (I : Nat → TT) (H : Heap) (locs : List Loc) (cells' slots' : Nat), cells' ≤ cells + 47 → slots' ≤ slots + 4608 → RG T M I mi → GG E bx bm mi ko T M I H → va_S (fun q => s.heap.size ≤ q) s.heap H locs → W p l e room_1 s m #[Value.ref b] below meth c H locs cells' slots' (lw_Z below #[Value.ref b] s) (F0 m 1647 ls [])) : W p l e room_1 s m #[Value.ref b] below meth c H locs cells slots (lw_Z below #[Value.ref b] s) (F0 m 355 ls []) := by
  obtain ⟨hx, hb, hr, hml, hown, hts, hX0, hbl, hlocks, hgv⟩ := id C0
  have zc : zC p s m #[Value.ref b] meth c cL_law 4 RL ret := ⟨hx, hb, hml, hown, fun w hw => hts w (zb_in hw), hr, hlocks⟩
  have hbA : ¬ (fun q : Nat => s.heap.size ≤ q) b := Nat.not_le.mpr hbl
  refine lv_aload_n hx hb dL_law_355 rfl (lv_at hl 1 rfl) ?_
  refine lv_aload_n hx hb dL_law_356 rfl (lv_at hl 0 rfl) ?_
  refine lv_iload_n hx hb dL_law_357 rfl (lv_at hl 3 rfl) ?_
  refine lv_iconst (v := (1 : Int32)) hx hb dL_law_358 (by decide) ?_
  refine lv_iadd hx hb dL_law_359 ?_
  refine va_sld hx hb hX0 hbl hbA hS (zidx (k := 1) hi hL rfl (by decide)) dL_law_360 ?_
  refine lv_aload_n hx hb dL_law_361 rfl (lv_at hl 0 rfl) ?_
  refine lv_iload_n hx hb dL_law_362 rfl (lv_at hl 3 rfl) ?_
  refine lv_iconst (v := (2 : Int32)) hx hb dL_law_363 (by decide) ?_
  refine lv_iadd hx hb dL_law_364 ?_
  refine va_sld hx hb hX0 hbl hbA hS (zidx (k := 2) hi hL rfl (by decide)) dL_law_365 ?_
  refine lv_aload_n hx hb dL_law_366 rfl (lv_at hl 0 rfl) ?_
  refine lv_iload_n hx hb dL_law_367 rfl (lv_at hl 3 rfl) ?_
  refine lv_iconst (v := (3 : Int32)) hx hb dL_law_368 (by decide) ?_
  refine lv_iadd hx hb dL_law_369 ?_
  refine va_sld hx hb hX0 hbl hbA hS (zidx (k := 3) hi hL rfl (by decide)) dL_law_370 ?_
  have hB0 := tB_of hG.2.2.2.1
  have hI0 := tBI_of hG.2.2.1
  refine gx_echo [] hcs C0 hbx hbm hK hO hG hS hl.1 (Nat.le_of_ble_eq_true rfl) kmL_36 dL_law_371 (fun r1 mi' ko' T' I' H locs cells' slots' hx1 e1 e2 hG1 hS1 => ?_)
  obtain ⟨rfl, rfl, rfl⟩ := hx1
  have hG := hG1
  have hS := hS1
  refine lv_pop hx hb dL_law_374 rfl ?_
  refine lv_aload_n hx hb dL_law_375 rfl (lv_at hl 2 rfl) ?_
  refine lv_aload_n hx hb dL_law_376 rfl (lv_at hl 0 rfl) ?_
  refine lv_iload_n hx hb dL_law_377 rfl (lv_at hl 3 rfl) ?_
  refine lv_iconst (v := (1 : Int32)) hx hb dL_law_378 (by decide) ?_
  refine lv_iadd hx hb dL_law_379 ?_
  refine va_sld hx hb hX0 hbl hbA hS (zidx (k := 1) hi hL rfl (by decide)) dL_law_380 ?_
  refine lv_aload_n hx hb dL_law_381 rfl (lv_at hl 0 rfl) ?_
  refine lv_iload_n hx hb dL_law_382 rfl (lv_at hl 3 rfl) ?_
  refine lv_iconst (v := (2 : Int32)) hx hb dL_law_383 (by decide) ?_
  refine lv_iadd hx hb dL_law_384 ?_
  refine va_sld hx hb hX0 hbl hbA hS (zidx (k := 2) hi hL rfl (by decide)) dL_law_385 ?_
  refine lv_aload_n hx hb dL_law_386 rfl (lv_at hl 0 rfl) ?_
  refine lv_iload_n hx hb dL_law_387 rfl (lv_at hl 3 rfl) ?_
  refine lv_iconst (v := (3 : Int32)) hx hb dL_law_388 (by decide) ?_
  refine lv_iadd hx hb dL_law_389 ?_
  refine va_sld hx hb hX0 hbl hbA hS (zidx (k := 3) hi hL rfl (by decide)) dL_law_390 ?_
  refine gm_echo [] ⟨Nat.le_trans e1 hcs.1, Nat.le_trans e2 hcs.2⟩ C0 hbx hbm hK hO hG hS hl.1 (Nat.le_of_ble_eq_true rfl) kmL_40 dL_law_391 (fun r2 M' H locs hm1 hG2 hS2 => ?_)
  obtain rfl := hm1
  have hG := hG2
  have hS := hS2
  refine lv_pop hx hb dL_law_394 rfl ?_
  refine lv_goto (tgt := 1647) hx hb dL_law_395 (by decide) ?_
  exact kk _ _ _ _ _ _ _ _ _ e1 e2 hR hG hS

set_option maxRecDepth 40000 in
set_option maxHeartbeats 4000000 in
theorem g_6 {p : Program} {l : Launch} {e : Env} {s : State} {m : MethodId} {below : List Frame} {meth : Method} {c : Code} {E : zE} {G : zG} {b L i bx bm cells slots : Nat} {xs : Nat → Int32} {mi : Nat → Option Nat} {ko : Option Nat} {T : TT} {M : Nat → Nat → Int32} {I : Nat → TT} {H : Heap} {locs : List Loc} {ls : Array Slot} (hi : i + 6 ≤ L) (hL : L ≤ 3072) (hR : RG T M I mi) (hcs : cells + 47 ≤ room_1.cells ∧ slots + 4608 ≤ room_1.slots) (C0 : lw_At p s m meth c b L xs) (hbx : s.heap.size ≤ bx) (hbm : bx + 93 ≤ bm) (hK : zK E s) (hO : zO s ∧ zZ G (fun q => s.heap.size ≤ q) s s.heap) (hG : GG E bx bm mi ko T M I H) (hS : va_S (fun q => s.heap.size ≤ q) s.heap H locs) (hl : lv_has ls 4 [(0, .ref b), (1, .ref bx), (2, .ref bm), (3, .int (nI i))])
    (kk : ∀ (mi : Nat → Option Nat) (ko : Option Nat) (T : TT) (M : Nat → Nat → Int32) (I : Nat → TT) (H : Heap) (locs : List Loc) (cells' slots' : Nat), cells' ≤ cells + 47 → slots' ≤ slots + 4608 → RG T M I mi → GG E bx bm mi ko T M I H → va_S (fun q => s.heap.size ≤ q) s.heap H locs → W p l e room_1 s m #[Value.ref b] below meth c H locs cells' slots' (lw_Z below #[Value.ref b] s) (F0 m 1647 ls [])) : W p l e room_1 s m #[Value.ref b] below meth c H locs cells slots (lw_Z below #[Value.ref b] s) (F0 m 398 ls []) := by
  obtain ⟨hx, hb, hr, hml, hown, hts, hX0, hbl, hlocks, hgv⟩ := id C0
  have zc : zC p s m #[Value.ref b] meth c cL_law 4 RL ret := ⟨hx, hb, hml, hown, fun w hw => hts w (zb_in hw), hr, hlocks⟩
  have hbA : ¬ (fun q : Nat => s.heap.size ≤ q) b := Nat.not_le.mpr hbl
  refine lv_aload_n hx hb dL_law_398 rfl (lv_at hl 1 rfl) ?_
  refine lv_aload_n hx hb dL_law_399 rfl (lv_at hl 0 rfl) ?_
  refine lv_iload_n hx hb dL_law_400 rfl (lv_at hl 3 rfl) ?_
  refine lv_iconst (v := (1 : Int32)) hx hb dL_law_401 (by decide) ?_
  refine lv_iadd hx hb dL_law_402 ?_
  refine va_sld hx hb hX0 hbl hbA hS (zidx (k := 1) hi hL rfl (by decide)) dL_law_403 ?_
  refine lv_aload_n hx hb dL_law_404 rfl (lv_at hl 0 rfl) ?_
  refine lv_iload_n hx hb dL_law_405 rfl (lv_at hl 3 rfl) ?_
  refine lv_iconst (v := (2 : Int32)) hx hb dL_law_406 (by decide) ?_
  refine lv_iadd hx hb dL_law_407 ?_
  refine va_sld hx hb hX0 hbl hbA hS (zidx (k := 2) hi hL rfl (by decide)) dL_law_408 ?_
  refine lv_aload_n hx hb dL_law_409 rfl (lv_at hl 0 rfl) ?_
  refine lv_iload_n hx hb dL_law_410 rfl (lv_at hl 3 rfl) ?_
  refine lv_iconst (v := (3 : Int32)) hx hb dL_law_411 (by decide) ?_
  refine lv_iadd hx hb dL_law_412 ?_
  refine va_sld hx hb hX0 hbl hbA hS (zidx (k := 3) hi hL rfl (by decide)) dL_law_413 ?_
  have hB0 := tB_of hG.2.2.2.1
  have hI0 := tBI_of hG.2.2.1
  refine gx_deed [] hcs C0 hbx hbm hK hO hG hS hl.1 (Nat.le_of_ble_eq_true rfl) kmL_41 dL_law_414 (fun r1 mi' ko' T' I' H locs cells' slots' hx1 e1 e2 hG1 hS1 => ?_)
  obtain ⟨rfl, rfl, rfl⟩ := hx1
  have hG := hG1
  have hS := hS1
  refine lv_pop hx hb dL_law_417 rfl ?_
  refine lv_aload_n hx hb dL_law_418 rfl (lv_at hl 2 rfl) ?_
  refine lv_aload_n hx hb dL_law_419 rfl (lv_at hl 0 rfl) ?_
  refine lv_iload_n hx hb dL_law_420 rfl (lv_at hl 3 rfl) ?_
  refine lv_iconst (v := (1 : Int32)) hx hb dL_law_421 (by decide) ?_
  refine lv_iadd hx hb dL_law_422 ?_
  refine va_sld hx hb hX0 hbl hbA hS (zidx (k := 1) hi hL rfl (by decide)) dL_law_423 ?_
  refine lv_aload_n hx hb dL_law_424 rfl (lv_at hl 0 rfl) ?_
  refine lv_iload_n hx hb dL_law_425 rfl (lv_at hl 3 rfl) ?_
  refine lv_iconst (v := (2 : Int32)) hx hb dL_law_426 (by decide) ?_
  refine lv_iadd hx hb dL_law_427 ?_
  refine va_sld hx hb hX0 hbl hbA hS (zidx (k := 2) hi hL rfl (by decide)) dL_law_428 ?_
  refine lv_aload_n hx hb dL_law_429 rfl (lv_at hl 0 rfl) ?_
  refine lv_iload_n hx hb dL_law_430 rfl (lv_at hl 3 rfl) ?_
  refine lv_iconst (v := (3 : Int32)) hx hb dL_law_431 (by decide) ?_
  refine lv_iadd hx hb dL_law_432 ?_
  refine va_sld hx hb hX0 hbl hbA hS (zidx (k := 3) hi hL rfl (by decide)) dL_law_433 ?_
  refine gm_deed [] ⟨Nat.le_trans e1 hcs.1, Nat.le_trans e2 hcs.2⟩ C0 hbx hbm hK hO hG hS hl.1 (Nat.le_of_ble_eq_true rfl) kmL_44 dL_law_434 (fun r2 M' H locs hm1 hG2 hS2 => ?_)
  obtain rfl := hm1
  have hG := hG2
  have hS := hS2
  refine lv_pop hx hb dL_law_437 rfl ?_
  refine lv_goto (tgt := 1647) hx hb dL_law_438 (by decide) ?_
  exact kk _ _ _ _ _ _ _ _ _ e1 e2 hR hG hS

set_option maxRecDepth 40000 in
set_option maxHeartbeats 4000000 in
theorem g_7 {p : Program} {l : Launch} {e : Env} {s : State} {m : MethodId} {below : List Frame} {meth : Method} {c : Code} {E : zE} {G : zG} {b L i bx bm cells slots : Nat} {xs : Nat → Int32} {mi : Nat → Option Nat} {ko : Option Nat} {T : TT} {M : Nat → Nat → Int32} {I : Nat → TT} {H : Heap} {locs : List Loc} {ls : Array Slot} (hi : i + 6 ≤ L) (hL : L ≤ 3072) (hR : RG T M I mi) (hcs : cells + 47 ≤ room_1.cells ∧ slots + 4608 ≤ room_1.slots) (C0 : lw_At p s m meth c b L xs) (hbx : s.heap.size ≤ bx) (hbm : bx + 93 ≤ bm) (hK : zK E s) (hO : zO s ∧ zZ G (fun q => s.heap.size ≤ q) s s.heap) (hG : GG E bx bm mi ko T M I H) (hS : va_S (fun q => s.heap.size ≤ q) s.heap H locs) (hl : lv_has ls 4 [(0, .ref b), (1, .ref bx), (2, .ref bm), (3, .int (nI i))])
    (kk : ∀ (mi : Nat → Option Nat) (ko : Option Nat) (T : TT) (M : Nat → Nat → Int32) (I : Nat → TT) (H : Heap) (locs : List Loc) (cells' slots' : Nat), cells' ≤ cells + 47 → slots' ≤ slots + 4608 → RG T M I mi → GG E bx bm mi ko T M I H → va_S (fun q => s.heap.size ≤ q) s.heap H locs → W p l e room_1 s m #[Value.ref b] below meth c H locs cells' slots' (lw_Z below #[Value.ref b] s) (F0 m 1647 ls [])) : W p l e room_1 s m #[Value.ref b] below meth c H locs cells slots (lw_Z below #[Value.ref b] s) (F0 m 441 ls []) := by
  obtain ⟨hx, hb, hr, hml, hown, hts, hX0, hbl, hlocks, hgv⟩ := id C0
  have zc : zC p s m #[Value.ref b] meth c cL_law 4 RL ret := ⟨hx, hb, hml, hown, fun w hw => hts w (zb_in hw), hr, hlocks⟩
  have hbA : ¬ (fun q : Nat => s.heap.size ≤ q) b := Nat.not_le.mpr hbl
  refine lv_aload_n hx hb dL_law_441 rfl (lv_at hl 1 rfl) ?_
  refine lv_aload_n hx hb dL_law_442 rfl (lv_at hl 0 rfl) ?_
  refine lv_iload_n hx hb dL_law_443 rfl (lv_at hl 3 rfl) ?_
  refine lv_iconst (v := (1 : Int32)) hx hb dL_law_444 (by decide) ?_
  refine lv_iadd hx hb dL_law_445 ?_
  refine va_sld hx hb hX0 hbl hbA hS (zidx (k := 1) hi hL rfl (by decide)) dL_law_446 ?_
  refine lv_aload_n hx hb dL_law_447 rfl (lv_at hl 0 rfl) ?_
  refine lv_iload_n hx hb dL_law_448 rfl (lv_at hl 3 rfl) ?_
  refine lv_iconst (v := (2 : Int32)) hx hb dL_law_449 (by decide) ?_
  refine lv_iadd hx hb dL_law_450 ?_
  refine va_sld hx hb hX0 hbl hbA hS (zidx (k := 2) hi hL rfl (by decide)) dL_law_451 ?_
  have hB0 := tB_of hG.2.2.2.1
  have hI0 := tBI_of hG.2.2.1
  refine gx_stop [] hcs C0 hbx hbm hK hO hG hS hl.1 (Nat.le_of_ble_eq_true rfl) kmL_45 dL_law_452 (fun r1 mi' ko' T' I' H locs cells' slots' hx1 e1 e2 hG1 hS1 => ?_)
  obtain ⟨rfl, rfl, rfl⟩ := hx1
  have hG := hG1
  have hS := hS1
  refine lv_pop hx hb dL_law_455 rfl ?_
  refine lv_aload_n hx hb dL_law_456 rfl (lv_at hl 2 rfl) ?_
  refine lv_aload_n hx hb dL_law_457 rfl (lv_at hl 0 rfl) ?_
  refine lv_iload_n hx hb dL_law_458 rfl (lv_at hl 3 rfl) ?_
  refine lv_iconst (v := (1 : Int32)) hx hb dL_law_459 (by decide) ?_
  refine lv_iadd hx hb dL_law_460 ?_
  refine va_sld hx hb hX0 hbl hbA hS (zidx (k := 1) hi hL rfl (by decide)) dL_law_461 ?_
  refine lv_aload_n hx hb dL_law_462 rfl (lv_at hl 0 rfl) ?_
  refine lv_iload_n hx hb dL_law_463 rfl (lv_at hl 3 rfl) ?_
  refine lv_iconst (v := (2 : Int32)) hx hb dL_law_464 (by decide) ?_
  refine lv_iadd hx hb dL_law_465 ?_
  refine va_sld hx hb hX0 hbl hbA hS (zidx (k := 2) hi hL rfl (by decide)) dL_law_466 ?_
  refine gm_stop [] ⟨Nat.le_trans e1 hcs.1, Nat.le_trans e2 hcs.2⟩ C0 hbx hbm hK hO hG hS hl.1 (Nat.le_of_ble_eq_true rfl) kmL_48 dL_law_467 (fun r2 M' H locs hm1 hG2 hS2 => ?_)
  obtain rfl := hm1
  have hG := hG2
  have hS := hS2
  refine lv_pop hx hb dL_law_470 rfl ?_
  refine lv_goto (tgt := 1647) hx hb dL_law_471 (by decide) ?_
  exact kk _ _ _ _ _ _ _ _ _ e1 e2 hR hG hS

set_option maxRecDepth 40000 in
set_option maxHeartbeats 4000000 in
theorem g_8 {p : Program} {l : Launch} {e : Env} {s : State} {m : MethodId} {below : List Frame} {meth : Method} {c : Code} {E : zE} {G : zG} {b L i bx bm cells slots : Nat} {xs : Nat → Int32} {mi : Nat → Option Nat} {ko : Option Nat} {T : TT} {M : Nat → Nat → Int32} {I : Nat → TT} {H : Heap} {locs : List Loc} {ls : Array Slot} (hi : i + 6 ≤ L) (hL : L ≤ 3072) (hR : RG T M I mi) (hcs : cells + 47 ≤ room_1.cells ∧ slots + 4608 ≤ room_1.slots) (C0 : lw_At p s m meth c b L xs) (hbx : s.heap.size ≤ bx) (hbm : bx + 93 ≤ bm) (hK : zK E s) (hO : zO s ∧ zZ G (fun q => s.heap.size ≤ q) s s.heap) (hG : GG E bx bm mi ko T M I H) (hS : va_S (fun q => s.heap.size ≤ q) s.heap H locs) (hl : lv_has ls 4 [(0, .ref b), (1, .ref bx), (2, .ref bm), (3, .int (nI i))])
    (kk : ∀ (mi : Nat → Option Nat) (ko : Option Nat) (T : TT) (M : Nat → Nat → Int32) (I : Nat → TT) (H : Heap) (locs : List Loc) (cells' slots' : Nat), cells' ≤ cells + 47 → slots' ≤ slots + 4608 → RG T M I mi → GG E bx bm mi ko T M I H → va_S (fun q => s.heap.size ≤ q) s.heap H locs → W p l e room_1 s m #[Value.ref b] below meth c H locs cells' slots' (lw_Z below #[Value.ref b] s) (F0 m 1647 ls [])) : W p l e room_1 s m #[Value.ref b] below meth c H locs cells slots (lw_Z below #[Value.ref b] s) (F0 m 474 ls []) := by
  obtain ⟨hx, hb, hr, hml, hown, hts, hX0, hbl, hlocks, hgv⟩ := id C0
  have zc : zC p s m #[Value.ref b] meth c cL_law 4 RL ret := ⟨hx, hb, hml, hown, fun w hw => hts w (zb_in hw), hr, hlocks⟩
  have hbA : ¬ (fun q : Nat => s.heap.size ≤ q) b := Nat.not_le.mpr hbl
  refine lv_aload_n hx hb dL_law_474 rfl (lv_at hl 1 rfl) ?_
  refine lv_aload_n hx hb dL_law_475 rfl (lv_at hl 0 rfl) ?_
  refine lv_iload_n hx hb dL_law_476 rfl (lv_at hl 3 rfl) ?_
  refine lv_iconst (v := (1 : Int32)) hx hb dL_law_477 (by decide) ?_
  refine lv_iadd hx hb dL_law_478 ?_
  refine va_sld hx hb hX0 hbl hbA hS (zidx (k := 1) hi hL rfl (by decide)) dL_law_479 ?_
  refine lv_aload_n hx hb dL_law_480 rfl (lv_at hl 0 rfl) ?_
  refine lv_iload_n hx hb dL_law_481 rfl (lv_at hl 3 rfl) ?_
  refine lv_iconst (v := (2 : Int32)) hx hb dL_law_482 (by decide) ?_
  refine lv_iadd hx hb dL_law_483 ?_
  refine va_sld hx hb hX0 hbl hbA hS (zidx (k := 2) hi hL rfl (by decide)) dL_law_484 ?_
  refine lv_aload_n hx hb dL_law_485 rfl (lv_at hl 0 rfl) ?_
  refine lv_iload_n hx hb dL_law_486 rfl (lv_at hl 3 rfl) ?_
  refine lv_iconst (v := (3 : Int32)) hx hb dL_law_487 (by decide) ?_
  refine lv_iadd hx hb dL_law_488 ?_
  refine va_sld hx hb hX0 hbl hbA hS (zidx (k := 3) hi hL rfl (by decide)) dL_law_489 ?_
  refine lv_aload_n hx hb dL_law_490 rfl (lv_at hl 0 rfl) ?_
  refine lv_iload_n hx hb dL_law_491 rfl (lv_at hl 3 rfl) ?_
  refine lv_iconst (v := (4 : Int32)) hx hb dL_law_492 (by decide) ?_
  refine lv_iadd hx hb dL_law_493 ?_
  refine va_sld hx hb hX0 hbl hbA hS (zidx (k := 4) hi hL rfl (by decide)) dL_law_494 ?_
  have hB0 := tB_of hG.2.2.2.1
  have hI0 := tBI_of hG.2.2.1
  refine gx_state [] hcs C0 hbx hbm hK hO hG hS hl.1 (Nat.le_of_ble_eq_true rfl) kmL_49 dL_law_495 (fun r1 mi' ko' T' I' H locs cells' slots' hx1 e1 e2 hG1 hS1 => ?_)
  obtain ⟨rfl, rfl, rfl⟩ := hx1
  have hG := hG1
  have hS := hS1
  refine lv_pop hx hb dL_law_498 rfl ?_
  refine lv_aload_n hx hb dL_law_499 rfl (lv_at hl 2 rfl) ?_
  refine lv_aload_n hx hb dL_law_500 rfl (lv_at hl 0 rfl) ?_
  refine lv_iload_n hx hb dL_law_501 rfl (lv_at hl 3 rfl) ?_
  refine lv_iconst (v := (1 : Int32)) hx hb dL_law_502 (by decide) ?_
  refine lv_iadd hx hb dL_law_503 ?_
  refine va_sld hx hb hX0 hbl hbA hS (zidx (k := 1) hi hL rfl (by decide)) dL_law_504 ?_
  refine lv_aload_n hx hb dL_law_505 rfl (lv_at hl 0 rfl) ?_
  refine lv_iload_n hx hb dL_law_506 rfl (lv_at hl 3 rfl) ?_
  refine lv_iconst (v := (2 : Int32)) hx hb dL_law_507 (by decide) ?_
  refine lv_iadd hx hb dL_law_508 ?_
  refine va_sld hx hb hX0 hbl hbA hS (zidx (k := 2) hi hL rfl (by decide)) dL_law_509 ?_
  refine lv_aload_n hx hb dL_law_510 rfl (lv_at hl 0 rfl) ?_
  refine lv_iload_n hx hb dL_law_511 rfl (lv_at hl 3 rfl) ?_
  refine lv_iconst (v := (3 : Int32)) hx hb dL_law_512 (by decide) ?_
  refine lv_iadd hx hb dL_law_513 ?_
  refine va_sld hx hb hX0 hbl hbA hS (zidx (k := 3) hi hL rfl (by decide)) dL_law_514 ?_
  refine lv_aload_n hx hb dL_law_515 rfl (lv_at hl 0 rfl) ?_
  refine lv_iload_n hx hb dL_law_516 rfl (lv_at hl 3 rfl) ?_
  refine lv_iconst (v := (4 : Int32)) hx hb dL_law_517 (by decide) ?_
  refine lv_iadd hx hb dL_law_518 ?_
  refine va_sld hx hb hX0 hbl hbA hS (zidx (k := 4) hi hL rfl (by decide)) dL_law_519 ?_
  refine gm_state [] ⟨Nat.le_trans e1 hcs.1, Nat.le_trans e2 hcs.2⟩ C0 hbx hbm hK hO hG hS hl.1 (Nat.le_of_ble_eq_true rfl) kmL_53 dL_law_520 (fun r2 M' H locs hm1 hG2 hS2 => ?_)
  obtain rfl := hm1
  have hG := hG2
  have hS := hS2
  refine lv_pop hx hb dL_law_523 rfl ?_
  refine lv_goto (tgt := 1647) hx hb dL_law_524 (by decide) ?_
  exact kk _ _ _ _ _ _ _ _ _ e1 e2 hR hG hS

set_option maxRecDepth 40000 in
set_option maxHeartbeats 4000000 in
theorem g_9 {p : Program} {l : Launch} {e : Env} {s : State} {m : MethodId} {below : List Frame} {meth : Method} {c : Code} {E : zE} {G : zG} {b L i bx bm cells slots : Nat} {xs : Nat → Int32} {mi : Nat → Option Nat} {ko : Option Nat} {T : TT} {M : Nat → Nat → Int32} {I : Nat → TT} {H : Heap} {locs : List Loc} {ls : Array Slot} (hi : i + 6 ≤ L) (hL : L ≤ 3072) (hR : RG T M I mi) (hcs : cells + 47 ≤ room_1.cells ∧ slots + 4608 ≤ room_1.slots) (C0 : lw_At p s m meth c b L xs) (hbx : s.heap.size ≤ bx) (hbm : bx + 93 ≤ bm) (hK : zK E s) (hO : zO s ∧ zZ G (fun q => s.heap.size ≤ q) s s.heap) (hG : GG E bx bm mi ko T M I H) (hS : va_S (fun q => s.heap.size ≤ q) s.heap H locs) (hl : lv_has ls 4 [(0, .ref b), (1, .ref bx), (2, .ref bm), (3, .int (nI i))])
    (kk : ∀ (mi : Nat → Option Nat) (ko : Option Nat) (T : TT) (M : Nat → Nat → Int32) (I : Nat → TT) (H : Heap) (locs : List Loc) (cells' slots' : Nat), cells' ≤ cells + 47 → slots' ≤ slots + 4608 → RG T M I mi → GG E bx bm mi ko T M I H → va_S (fun q => s.heap.size ≤ q) s.heap H locs → W p l e room_1 s m #[Value.ref b] below meth c H locs cells' slots' (lw_Z below #[Value.ref b] s) (F0 m 1647 ls [])) : W p l e room_1 s m #[Value.ref b] below meth c H locs cells slots (lw_Z below #[Value.ref b] s) (F0 m 527 ls []) := by
  obtain ⟨hx, hb, hr, hml, hown, hts, hX0, hbl, hlocks, hgv⟩ := id C0
  have zc : zC p s m #[Value.ref b] meth c cL_law 4 RL ret := ⟨hx, hb, hml, hown, fun w hw => hts w (zb_in hw), hr, hlocks⟩
  have hbA : ¬ (fun q : Nat => s.heap.size ≤ q) b := Nat.not_le.mpr hbl
  refine lv_aload_n hx hb dL_law_527 rfl (lv_at hl 1 rfl) ?_
  refine lv_aload_n hx hb dL_law_528 rfl (lv_at hl 0 rfl) ?_
  refine lv_iload_n hx hb dL_law_529 rfl (lv_at hl 3 rfl) ?_
  refine lv_iconst (v := (1 : Int32)) hx hb dL_law_530 (by decide) ?_
  refine lv_iadd hx hb dL_law_531 ?_
  refine va_sld hx hb hX0 hbl hbA hS (zidx (k := 1) hi hL rfl (by decide)) dL_law_532 ?_
  refine lv_aload_n hx hb dL_law_533 rfl (lv_at hl 0 rfl) ?_
  refine lv_iload_n hx hb dL_law_534 rfl (lv_at hl 3 rfl) ?_
  refine lv_iconst (v := (2 : Int32)) hx hb dL_law_535 (by decide) ?_
  refine lv_iadd hx hb dL_law_536 ?_
  refine va_sld hx hb hX0 hbl hbA hS (zidx (k := 2) hi hL rfl (by decide)) dL_law_537 ?_
  refine lv_aload_n hx hb dL_law_538 rfl (lv_at hl 0 rfl) ?_
  refine lv_iload_n hx hb dL_law_539 rfl (lv_at hl 3 rfl) ?_
  refine lv_iconst (v := (3 : Int32)) hx hb dL_law_540 (by decide) ?_
  refine lv_iadd hx hb dL_law_541 ?_
  refine va_sld hx hb hX0 hbl hbA hS (zidx (k := 3) hi hL rfl (by decide)) dL_law_542 ?_
  have hB0 := tB_of hG.2.2.2.1
  have hI0 := tBI_of hG.2.2.1
  refine gx_comes [] hcs C0 hbx hbm hK hO hG hS hl.1 (Nat.le_of_ble_eq_true rfl) kmL_54 dL_law_543 (fun r1 mi' ko' T' I' H locs cells' slots' hx1 e1 e2 hG1 hS1 => ?_)
  obtain ⟨rfl, rfl, rfl⟩ := hx1
  have hG := hG1
  have hS := hS1
  refine lv_pop hx hb dL_law_546 rfl ?_
  refine lv_aload_n hx hb dL_law_547 rfl (lv_at hl 2 rfl) ?_
  refine lv_aload_n hx hb dL_law_548 rfl (lv_at hl 0 rfl) ?_
  refine lv_iload_n hx hb dL_law_549 rfl (lv_at hl 3 rfl) ?_
  refine lv_iconst (v := (1 : Int32)) hx hb dL_law_550 (by decide) ?_
  refine lv_iadd hx hb dL_law_551 ?_
  refine va_sld hx hb hX0 hbl hbA hS (zidx (k := 1) hi hL rfl (by decide)) dL_law_552 ?_
  refine lv_aload_n hx hb dL_law_553 rfl (lv_at hl 0 rfl) ?_
  refine lv_iload_n hx hb dL_law_554 rfl (lv_at hl 3 rfl) ?_
  refine lv_iconst (v := (2 : Int32)) hx hb dL_law_555 (by decide) ?_
  refine lv_iadd hx hb dL_law_556 ?_
  refine va_sld hx hb hX0 hbl hbA hS (zidx (k := 2) hi hL rfl (by decide)) dL_law_557 ?_
  refine lv_aload_n hx hb dL_law_558 rfl (lv_at hl 0 rfl) ?_
  refine lv_iload_n hx hb dL_law_559 rfl (lv_at hl 3 rfl) ?_
  refine lv_iconst (v := (3 : Int32)) hx hb dL_law_560 (by decide) ?_
  refine lv_iadd hx hb dL_law_561 ?_
  refine va_sld hx hb hX0 hbl hbA hS (zidx (k := 3) hi hL rfl (by decide)) dL_law_562 ?_
  refine gm_comes [] ⟨Nat.le_trans e1 hcs.1, Nat.le_trans e2 hcs.2⟩ C0 hbx hbm hK hO hG hS hl.1 (Nat.le_of_ble_eq_true rfl) kmL_57 dL_law_563 (fun r2 M' H locs hm1 hG2 hS2 => ?_)
  obtain rfl := hm1
  have hG := hG2
  have hS := hS2
  refine lv_pop hx hb dL_law_566 rfl ?_
  refine lv_goto (tgt := 1647) hx hb dL_law_567 (by decide) ?_
  exact kk _ _ _ _ _ _ _ _ _ e1 e2 hR hG hS

set_option maxRecDepth 40000 in
set_option maxHeartbeats 4000000 in
theorem g_10 {p : Program} {l : Launch} {e : Env} {s : State} {m : MethodId} {below : List Frame} {meth : Method} {c : Code} {E : zE} {G : zG} {b L i bx bm cells slots : Nat} {xs : Nat → Int32} {mi : Nat → Option Nat} {ko : Option Nat} {T : TT} {M : Nat → Nat → Int32} {I : Nat → TT} {H : Heap} {locs : List Loc} {ls : Array Slot} (hi : i + 6 ≤ L) (hL : L ≤ 3072) (hR : RG T M I mi) (hcs : cells + 47 ≤ room_1.cells ∧ slots + 4608 ≤ room_1.slots) (C0 : lw_At p s m meth c b L xs) (hbx : s.heap.size ≤ bx) (hbm : bx + 93 ≤ bm) (hK : zK E s) (hO : zO s ∧ zZ G (fun q => s.heap.size ≤ q) s s.heap) (hG : GG E bx bm mi ko T M I H) (hS : va_S (fun q => s.heap.size ≤ q) s.heap H locs) (hl : lv_has ls 4 [(0, .ref b), (1, .ref bx), (2, .ref bm), (3, .int (nI i))])
    (kk : ∀ (mi : Nat → Option Nat) (ko : Option Nat) (T : TT) (M : Nat → Nat → Int32) (I : Nat → TT) (H : Heap) (locs : List Loc) (cells' slots' : Nat), cells' ≤ cells + 47 → slots' ≤ slots + 4608 → RG T M I mi → GG E bx bm mi ko T M I H → va_S (fun q => s.heap.size ≤ q) s.heap H locs → W p l e room_1 s m #[Value.ref b] below meth c H locs cells' slots' (lw_Z below #[Value.ref b] s) (F0 m 1647 ls [])) : W p l e room_1 s m #[Value.ref b] below meth c H locs cells slots (lw_Z below #[Value.ref b] s) (F0 m 570 ls []) := by
  obtain ⟨hx, hb, hr, hml, hown, hts, hX0, hbl, hlocks, hgv⟩ := id C0
  have zc : zC p s m #[Value.ref b] meth c cL_law 4 RL ret := ⟨hx, hb, hml, hown, fun w hw => hts w (zb_in hw), hr, hlocks⟩
  have hbA : ¬ (fun q : Nat => s.heap.size ≤ q) b := Nat.not_le.mpr hbl
  refine lv_aload_n hx hb dL_law_570 rfl (lv_at hl 1 rfl) ?_
  refine lv_aload_n hx hb dL_law_571 rfl (lv_at hl 0 rfl) ?_
  refine lv_iload_n hx hb dL_law_572 rfl (lv_at hl 3 rfl) ?_
  refine lv_iconst (v := (1 : Int32)) hx hb dL_law_573 (by decide) ?_
  refine lv_iadd hx hb dL_law_574 ?_
  refine va_sld hx hb hX0 hbl hbA hS (zidx (k := 1) hi hL rfl (by decide)) dL_law_575 ?_
  refine lv_aload_n hx hb dL_law_576 rfl (lv_at hl 0 rfl) ?_
  refine lv_iload_n hx hb dL_law_577 rfl (lv_at hl 3 rfl) ?_
  refine lv_iconst (v := (2 : Int32)) hx hb dL_law_578 (by decide) ?_
  refine lv_iadd hx hb dL_law_579 ?_
  refine va_sld hx hb hX0 hbl hbA hS (zidx (k := 2) hi hL rfl (by decide)) dL_law_580 ?_
  refine lv_aload_n hx hb dL_law_581 rfl (lv_at hl 0 rfl) ?_
  refine lv_iload_n hx hb dL_law_582 rfl (lv_at hl 3 rfl) ?_
  refine lv_iconst (v := (3 : Int32)) hx hb dL_law_583 (by decide) ?_
  refine lv_iadd hx hb dL_law_584 ?_
  refine va_sld hx hb hX0 hbl hbA hS (zidx (k := 3) hi hL rfl (by decide)) dL_law_585 ?_
  have hB0 := tB_of hG.2.2.2.1
  have hI0 := tBI_of hG.2.2.1
  refine gx_villages [] hcs C0 hbx hbm hK hO hG hS hl.1 (Nat.le_of_ble_eq_true rfl) kmL_58 dL_law_586 (fun r1 mi' ko' T' I' H locs cells' slots' hx1 e1 e2 hG1 hS1 => ?_)
  obtain ⟨rfl, rfl, rfl⟩ := hx1
  have hG := hG1
  have hS := hS1
  refine lv_pop hx hb dL_law_589 rfl ?_
  refine lv_aload_n hx hb dL_law_590 rfl (lv_at hl 2 rfl) ?_
  refine lv_aload_n hx hb dL_law_591 rfl (lv_at hl 0 rfl) ?_
  refine lv_iload_n hx hb dL_law_592 rfl (lv_at hl 3 rfl) ?_
  refine lv_iconst (v := (1 : Int32)) hx hb dL_law_593 (by decide) ?_
  refine lv_iadd hx hb dL_law_594 ?_
  refine va_sld hx hb hX0 hbl hbA hS (zidx (k := 1) hi hL rfl (by decide)) dL_law_595 ?_
  refine lv_aload_n hx hb dL_law_596 rfl (lv_at hl 0 rfl) ?_
  refine lv_iload_n hx hb dL_law_597 rfl (lv_at hl 3 rfl) ?_
  refine lv_iconst (v := (2 : Int32)) hx hb dL_law_598 (by decide) ?_
  refine lv_iadd hx hb dL_law_599 ?_
  refine va_sld hx hb hX0 hbl hbA hS (zidx (k := 2) hi hL rfl (by decide)) dL_law_600 ?_
  refine lv_aload_n hx hb dL_law_601 rfl (lv_at hl 0 rfl) ?_
  refine lv_iload_n hx hb dL_law_602 rfl (lv_at hl 3 rfl) ?_
  refine lv_iconst (v := (3 : Int32)) hx hb dL_law_603 (by decide) ?_
  refine lv_iadd hx hb dL_law_604 ?_
  refine va_sld hx hb hX0 hbl hbA hS (zidx (k := 3) hi hL rfl (by decide)) dL_law_605 ?_
  refine gm_villages [] ⟨Nat.le_trans e1 hcs.1, Nat.le_trans e2 hcs.2⟩ C0 hbx hbm hK hO hG hS hl.1 (Nat.le_of_ble_eq_true rfl) kmL_61 dL_law_606 (fun r2 M' H locs hm1 hG2 hS2 => ?_)
  obtain rfl := hm1
  have hG := hG2
  have hS := hS2
  refine lv_pop hx hb dL_law_609 rfl ?_
  refine lv_goto (tgt := 1647) hx hb dL_law_610 (by decide) ?_
  exact kk _ _ _ _ _ _ _ _ _ e1 e2 hR hG hS
end
section
set_option maxRecDepth 40000 in
set_option maxHeartbeats 4000000 in
theorem g_11 {p : Program} {l : Launch} {e : Env} {s : State} {m : MethodId} {below : List Frame} {meth : Method} {c : Code} {E : zE} {G : zG} {b L i bx bm cells slots : Nat} {xs : Nat → Int32} {mi : Nat → Option Nat} {ko : Option Nat} {T : TT} {M : Nat → Nat → Int32} {I : Nat → TT} {H : Heap} {locs : List Loc} {ls : Array Slot} (hi : i + 6 ≤ L) (hL : L ≤ 3072) (hR : RG T M I mi) (hcs : cells + 47 ≤ room_1.cells ∧ slots + 4608 ≤ room_1.slots) (C0 : lw_At p s m meth c b L xs) (hbx : s.heap.size ≤ bx) (hbm : bx + 93 ≤ bm) (hK : zK E s) (hO : zO s ∧ zZ G (fun q => s.heap.size ≤ q) s s.heap) (hG : GG E bx bm mi ko T M I H) (hS : va_S (fun q => s.heap.size ≤ q) s.heap H locs) (hl : lv_has ls 4 [(0, .ref b), (1, .ref bx), (2, .ref bm), (3, .int (nI i))])
    (kk : ∀ (mi : Nat → Option Nat) (ko : Option Nat) (T : TT) (M : Nat → Nat → Int32) (I : Nat → TT) (H : Heap) (locs : List Loc) (cells' slots' : Nat), cells' ≤ cells + 47 → slots' ≤ slots + 4608 → RG T M I mi → GG E bx bm mi ko T M I H → va_S (fun q => s.heap.size ≤ q) s.heap H locs → W p l e room_1 s m #[Value.ref b] below meth c H locs cells' slots' (lw_Z below #[Value.ref b] s) (F0 m 1647 ls [])) : W p l e room_1 s m #[Value.ref b] below meth c H locs cells slots (lw_Z below #[Value.ref b] s) (F0 m 613 ls []) := by
  obtain ⟨hx, hb, hr, hml, hown, hts, hX0, hbl, hlocks, hgv⟩ := id C0
  have zc : zC p s m #[Value.ref b] meth c cL_law 4 RL ret := ⟨hx, hb, hml, hown, fun w hw => hts w (zb_in hw), hr, hlocks⟩
  have hbA : ¬ (fun q : Nat => s.heap.size ≤ q) b := Nat.not_le.mpr hbl
  refine lv_aload_n hx hb dL_law_613 rfl (lv_at hl 1 rfl) ?_
  refine lv_aload_n hx hb dL_law_614 rfl (lv_at hl 0 rfl) ?_
  refine lv_iload_n hx hb dL_law_615 rfl (lv_at hl 3 rfl) ?_
  refine lv_iconst (v := (1 : Int32)) hx hb dL_law_616 (by decide) ?_
  refine lv_iadd hx hb dL_law_617 ?_
  refine va_sld hx hb hX0 hbl hbA hS (zidx (k := 1) hi hL rfl (by decide)) dL_law_618 ?_
  refine lv_aload_n hx hb dL_law_619 rfl (lv_at hl 0 rfl) ?_
  refine lv_iload_n hx hb dL_law_620 rfl (lv_at hl 3 rfl) ?_
  refine lv_iconst (v := (2 : Int32)) hx hb dL_law_621 (by decide) ?_
  refine lv_iadd hx hb dL_law_622 ?_
  refine va_sld hx hb hX0 hbl hbA hS (zidx (k := 2) hi hL rfl (by decide)) dL_law_623 ?_
  refine lv_if_eq (tgt := 631) hx hb dL_law_624 (by decide) (fun hc0 => ?_) (fun hc0 => ?_)
  ·
    refine lv_iconst (v := (0 : Int32)) hx hb dL_law_631 (by decide) ?_
    have hB0 := tB_of hG.2.2.2.1
    have hI0 := tBI_of hG.2.2.1
    refine gx_best [] hcs C0 hbx hbm hK hO hG hS hl.1 (Nat.le_of_ble_eq_true rfl) kmL_62 dL_law_632 (fun r1 mi' ko' T' I' H locs cells' slots' hx1 e1 e2 hG1 hS1 => ?_)
    obtain ⟨rfl, rfl, rfl⟩ := hx1
    have hG := hG1
    have hS := hS1
    refine lv_pop hx hb dL_law_635 rfl ?_
    refine lv_aload_n hx hb dL_law_636 rfl (lv_at hl 2 rfl) ?_
    refine lv_aload_n hx hb dL_law_637 rfl (lv_at hl 0 rfl) ?_
    refine lv_iload_n hx hb dL_law_638 rfl (lv_at hl 3 rfl) ?_
    refine lv_iconst (v := (1 : Int32)) hx hb dL_law_639 (by decide) ?_
    refine lv_iadd hx hb dL_law_640 ?_
    refine va_sld hx hb hX0 hbl hbA hS (zidx (k := 1) hi hL rfl (by decide)) dL_law_641 ?_
    refine lv_aload_n hx hb dL_law_642 rfl (lv_at hl 0 rfl) ?_
    refine lv_iload_n hx hb dL_law_643 rfl (lv_at hl 3 rfl) ?_
    refine lv_iconst (v := (2 : Int32)) hx hb dL_law_644 (by decide) ?_
    refine lv_iadd hx hb dL_law_645 ?_
    refine va_sld hx hb hX0 hbl hbA hS (zidx (k := 2) hi hL rfl (by decide)) dL_law_646 ?_
    refine lv_if_eq (tgt := 654) hx hb dL_law_647 (by decide) (fun hc11 => ?_) (fun hc11 => ?_)
    ·
      refine lv_iconst (v := (0 : Int32)) hx hb dL_law_654 (by decide) ?_
      refine gm_best [] ⟨Nat.le_trans e1 hcs.1, Nat.le_trans e2 hcs.2⟩ C0 hbx hbm hK hO hG hS hl.1 (Nat.le_of_ble_eq_true rfl) kmL_66 dL_law_655 (fun r2 M' H locs hm1 hG2 hS2 => ?_)
      obtain rfl := hm1
      have hG := hG2
      have hS := hS2
      refine lv_pop hx hb dL_law_658 rfl ?_
      refine lv_goto (tgt := 1647) hx hb dL_law_659 (by decide) ?_
      exact kk _ _ _ _ _ _ _ _ _ e1 e2 hR hG hS
    ·
      refine lv_iconst (v := (1 : Int32)) hx hb dL_law_650 (by decide) ?_
      refine lv_goto (tgt := 655) hx hb dL_law_651 (by decide) ?_
      refine gm_best [] ⟨Nat.le_trans e1 hcs.1, Nat.le_trans e2 hcs.2⟩ C0 hbx hbm hK hO hG hS hl.1 (Nat.le_of_ble_eq_true rfl) kmL_66 dL_law_655 (fun r2 M' H locs hm1 hG2 hS2 => ?_)
      obtain rfl := hm1
      have hG := hG2
      have hS := hS2
      refine lv_pop hx hb dL_law_658 rfl ?_
      refine lv_goto (tgt := 1647) hx hb dL_law_659 (by decide) ?_
      exact kk _ _ _ _ _ _ _ _ _ e1 e2 hR hG hS
  ·
    refine lv_iconst (v := (1 : Int32)) hx hb dL_law_627 (by decide) ?_
    refine lv_goto (tgt := 632) hx hb dL_law_628 (by decide) ?_
    have hB0 := tB_of hG.2.2.2.1
    have hI0 := tBI_of hG.2.2.1
    refine gx_best [] hcs C0 hbx hbm hK hO hG hS hl.1 (Nat.le_of_ble_eq_true rfl) kmL_62 dL_law_632 (fun r1 mi' ko' T' I' H locs cells' slots' hx1 e1 e2 hG1 hS1 => ?_)
    obtain ⟨rfl, rfl, rfl⟩ := hx1
    have hG := hG1
    have hS := hS1
    refine lv_pop hx hb dL_law_635 rfl ?_
    refine lv_aload_n hx hb dL_law_636 rfl (lv_at hl 2 rfl) ?_
    refine lv_aload_n hx hb dL_law_637 rfl (lv_at hl 0 rfl) ?_
    refine lv_iload_n hx hb dL_law_638 rfl (lv_at hl 3 rfl) ?_
    refine lv_iconst (v := (1 : Int32)) hx hb dL_law_639 (by decide) ?_
    refine lv_iadd hx hb dL_law_640 ?_
    refine va_sld hx hb hX0 hbl hbA hS (zidx (k := 1) hi hL rfl (by decide)) dL_law_641 ?_
    refine lv_aload_n hx hb dL_law_642 rfl (lv_at hl 0 rfl) ?_
    refine lv_iload_n hx hb dL_law_643 rfl (lv_at hl 3 rfl) ?_
    refine lv_iconst (v := (2 : Int32)) hx hb dL_law_644 (by decide) ?_
    refine lv_iadd hx hb dL_law_645 ?_
    refine va_sld hx hb hX0 hbl hbA hS (zidx (k := 2) hi hL rfl (by decide)) dL_law_646 ?_
    refine lv_if_eq (tgt := 654) hx hb dL_law_647 (by decide) (fun hc11 => ?_) (fun hc11 => ?_)
    ·
      refine lv_iconst (v := (0 : Int32)) hx hb dL_law_654 (by decide) ?_
      refine gm_best [] ⟨Nat.le_trans e1 hcs.1, Nat.le_trans e2 hcs.2⟩ C0 hbx hbm hK hO hG hS hl.1 (Nat.le_of_ble_eq_true rfl) kmL_66 dL_law_655 (fun r2 M' H locs hm1 hG2 hS2 => ?_)
      obtain rfl := hm1
      have hG := hG2
      have hS := hS2
      refine lv_pop hx hb dL_law_658 rfl ?_
      refine lv_goto (tgt := 1647) hx hb dL_law_659 (by decide) ?_
      exact kk _ _ _ _ _ _ _ _ _ e1 e2 hR hG hS
    ·
      refine lv_iconst (v := (1 : Int32)) hx hb dL_law_650 (by decide) ?_
      refine lv_goto (tgt := 655) hx hb dL_law_651 (by decide) ?_
      refine gm_best [] ⟨Nat.le_trans e1 hcs.1, Nat.le_trans e2 hcs.2⟩ C0 hbx hbm hK hO hG hS hl.1 (Nat.le_of_ble_eq_true rfl) kmL_66 dL_law_655 (fun r2 M' H locs hm1 hG2 hS2 => ?_)
      obtain rfl := hm1
      have hG := hG2
      have hS := hS2
      refine lv_pop hx hb dL_law_658 rfl ?_
      refine lv_goto (tgt := 1647) hx hb dL_law_659 (by decide) ?_
      exact kk _ _ _ _ _ _ _ _ _ e1 e2 hR hG hS

set_option maxRecDepth 40000 in
set_option maxHeartbeats 4000000 in
theorem g_12 {p : Program} {l : Launch} {e : Env} {s : State} {m : MethodId} {below : List Frame} {meth : Method} {c : Code} {E : zE} {G : zG} {b L i bx bm cells slots : Nat} {xs : Nat → Int32} {mi : Nat → Option Nat} {ko : Option Nat} {T : TT} {M : Nat → Nat → Int32} {I : Nat → TT} {H : Heap} {locs : List Loc} {ls : Array Slot} (hi : i + 6 ≤ L) (hL : L ≤ 3072) (hR : RG T M I mi) (hcs : cells + 47 ≤ room_1.cells ∧ slots + 4608 ≤ room_1.slots) (C0 : lw_At p s m meth c b L xs) (hbx : s.heap.size ≤ bx) (hbm : bx + 93 ≤ bm) (hK : zK E s) (hO : zO s ∧ zZ G (fun q => s.heap.size ≤ q) s s.heap) (hG : GG E bx bm mi ko T M I H) (hS : va_S (fun q => s.heap.size ≤ q) s.heap H locs) (hl : lv_has ls 4 [(0, .ref b), (1, .ref bx), (2, .ref bm), (3, .int (nI i))])
    (kk : ∀ (mi : Nat → Option Nat) (ko : Option Nat) (T : TT) (M : Nat → Nat → Int32) (I : Nat → TT) (H : Heap) (locs : List Loc) (cells' slots' : Nat), cells' ≤ cells + 47 → slots' ≤ slots + 4608 → RG T M I mi → GG E bx bm mi ko T M I H → va_S (fun q => s.heap.size ≤ q) s.heap H locs → W p l e room_1 s m #[Value.ref b] below meth c H locs cells' slots' (lw_Z below #[Value.ref b] s) (F0 m 1647 ls [])) : W p l e room_1 s m #[Value.ref b] below meth c H locs cells slots (lw_Z below #[Value.ref b] s) (F0 m 662 ls []) := by
  obtain ⟨hx, hb, hr, hml, hown, hts, hX0, hbl, hlocks, hgv⟩ := id C0
  have zc : zC p s m #[Value.ref b] meth c cL_law 4 RL ret := ⟨hx, hb, hml, hown, fun w hw => hts w (zb_in hw), hr, hlocks⟩
  have hbA : ¬ (fun q : Nat => s.heap.size ≤ q) b := Nat.not_le.mpr hbl
  refine lv_aload_n hx hb dL_law_662 rfl (lv_at hl 1 rfl) ?_
  refine lv_aload_n hx hb dL_law_663 rfl (lv_at hl 0 rfl) ?_
  refine lv_iload_n hx hb dL_law_664 rfl (lv_at hl 3 rfl) ?_
  refine lv_iconst (v := (1 : Int32)) hx hb dL_law_665 (by decide) ?_
  refine lv_iadd hx hb dL_law_666 ?_
  refine va_sld hx hb hX0 hbl hbA hS (zidx (k := 1) hi hL rfl (by decide)) dL_law_667 ?_
  refine lv_aload_n hx hb dL_law_668 rfl (lv_at hl 0 rfl) ?_
  refine lv_iload_n hx hb dL_law_669 rfl (lv_at hl 3 rfl) ?_
  refine lv_iconst (v := (2 : Int32)) hx hb dL_law_670 (by decide) ?_
  refine lv_iadd hx hb dL_law_671 ?_
  refine va_sld hx hb hX0 hbl hbA hS (zidx (k := 2) hi hL rfl (by decide)) dL_law_672 ?_
  refine lv_aload_n hx hb dL_law_673 rfl (lv_at hl 0 rfl) ?_
  refine lv_iload_n hx hb dL_law_674 rfl (lv_at hl 3 rfl) ?_
  refine lv_iconst (v := (3 : Int32)) hx hb dL_law_675 (by decide) ?_
  refine lv_iadd hx hb dL_law_676 ?_
  refine va_sld hx hb hX0 hbl hbA hS (zidx (k := 3) hi hL rfl (by decide)) dL_law_677 ?_
  refine lv_aload_n hx hb dL_law_678 rfl (lv_at hl 0 rfl) ?_
  refine lv_iload_n hx hb dL_law_679 rfl (lv_at hl 3 rfl) ?_
  refine lv_iconst (v := (4 : Int32)) hx hb dL_law_680 (by decide) ?_
  refine lv_iadd hx hb dL_law_681 ?_
  refine va_sld hx hb hX0 hbl hbA hS (zidx (k := 4) hi hL rfl (by decide)) dL_law_682 ?_
  have hB0 := tB_of hG.2.2.2.1
  have hI0 := tBI_of hG.2.2.1
  refine gx_routes [] hcs C0 hbx hbm hK hO hG hS hl.1 (Nat.le_of_ble_eq_true rfl) kmL_67 dL_law_683 (fun r1 mi' ko' T' I' H locs cells' slots' hx1 e1 e2 hG1 hS1 => ?_)
  obtain ⟨rfl, rfl, rfl⟩ := hx1
  have hG := hG1
  have hS := hS1
  refine lv_pop hx hb dL_law_686 rfl ?_
  refine lv_aload_n hx hb dL_law_687 rfl (lv_at hl 2 rfl) ?_
  refine lv_aload_n hx hb dL_law_688 rfl (lv_at hl 0 rfl) ?_
  refine lv_iload_n hx hb dL_law_689 rfl (lv_at hl 3 rfl) ?_
  refine lv_iconst (v := (1 : Int32)) hx hb dL_law_690 (by decide) ?_
  refine lv_iadd hx hb dL_law_691 ?_
  refine va_sld hx hb hX0 hbl hbA hS (zidx (k := 1) hi hL rfl (by decide)) dL_law_692 ?_
  refine lv_aload_n hx hb dL_law_693 rfl (lv_at hl 0 rfl) ?_
  refine lv_iload_n hx hb dL_law_694 rfl (lv_at hl 3 rfl) ?_
  refine lv_iconst (v := (2 : Int32)) hx hb dL_law_695 (by decide) ?_
  refine lv_iadd hx hb dL_law_696 ?_
  refine va_sld hx hb hX0 hbl hbA hS (zidx (k := 2) hi hL rfl (by decide)) dL_law_697 ?_
  refine lv_aload_n hx hb dL_law_698 rfl (lv_at hl 0 rfl) ?_
  refine lv_iload_n hx hb dL_law_699 rfl (lv_at hl 3 rfl) ?_
  refine lv_iconst (v := (3 : Int32)) hx hb dL_law_700 (by decide) ?_
  refine lv_iadd hx hb dL_law_701 ?_
  refine va_sld hx hb hX0 hbl hbA hS (zidx (k := 3) hi hL rfl (by decide)) dL_law_702 ?_
  refine lv_aload_n hx hb dL_law_703 rfl (lv_at hl 0 rfl) ?_
  refine lv_iload_n hx hb dL_law_704 rfl (lv_at hl 3 rfl) ?_
  refine lv_iconst (v := (4 : Int32)) hx hb dL_law_705 (by decide) ?_
  refine lv_iadd hx hb dL_law_706 ?_
  refine va_sld hx hb hX0 hbl hbA hS (zidx (k := 4) hi hL rfl (by decide)) dL_law_707 ?_
  refine gm_routes [] ⟨Nat.le_trans e1 hcs.1, Nat.le_trans e2 hcs.2⟩ C0 hbx hbm hK hO hG hS hl.1 (Nat.le_of_ble_eq_true rfl) kmL_70 dL_law_708 (fun r2 M' H locs hm1 hG2 hS2 => ?_)
  obtain rfl := hm1
  have hG := hG2
  have hS := hS2
  refine lv_pop hx hb dL_law_711 rfl ?_
  refine lv_goto (tgt := 1647) hx hb dL_law_712 (by decide) ?_
  exact kk _ _ _ _ _ _ _ _ _ e1 e2 hR hG hS

set_option maxRecDepth 40000 in
set_option maxHeartbeats 4000000 in
theorem g_13 {p : Program} {l : Launch} {e : Env} {s : State} {m : MethodId} {below : List Frame} {meth : Method} {c : Code} {E : zE} {G : zG} {b L i bx bm cells slots : Nat} {xs : Nat → Int32} {mi : Nat → Option Nat} {ko : Option Nat} {T : TT} {M : Nat → Nat → Int32} {I : Nat → TT} {H : Heap} {locs : List Loc} {ls : Array Slot} (hi : i + 6 ≤ L) (hL : L ≤ 3072) (hR : RG T M I mi) (hcs : cells + 47 ≤ room_1.cells ∧ slots + 4608 ≤ room_1.slots) (C0 : lw_At p s m meth c b L xs) (hbx : s.heap.size ≤ bx) (hbm : bx + 93 ≤ bm) (hK : zK E s) (hO : zO s ∧ zZ G (fun q => s.heap.size ≤ q) s s.heap) (hG : GG E bx bm mi ko T M I H) (hS : va_S (fun q => s.heap.size ≤ q) s.heap H locs) (hl : lv_has ls 4 [(0, .ref b), (1, .ref bx), (2, .ref bm), (3, .int (nI i))])
    (kk : ∀ (mi : Nat → Option Nat) (ko : Option Nat) (T : TT) (M : Nat → Nat → Int32) (I : Nat → TT) (H : Heap) (locs : List Loc) (cells' slots' : Nat), cells' ≤ cells + 47 → slots' ≤ slots + 4608 → RG T M I mi → GG E bx bm mi ko T M I H → va_S (fun q => s.heap.size ≤ q) s.heap H locs → W p l e room_1 s m #[Value.ref b] below meth c H locs cells' slots' (lw_Z below #[Value.ref b] s) (F0 m 1647 ls [])) : W p l e room_1 s m #[Value.ref b] below meth c H locs cells slots (lw_Z below #[Value.ref b] s) (F0 m 715 ls []) := by
  obtain ⟨hx, hb, hr, hml, hown, hts, hX0, hbl, hlocks, hgv⟩ := id C0
  have zc : zC p s m #[Value.ref b] meth c cL_law 4 RL ret := ⟨hx, hb, hml, hown, fun w hw => hts w (zb_in hw), hr, hlocks⟩
  have hbA : ¬ (fun q : Nat => s.heap.size ≤ q) b := Nat.not_le.mpr hbl
  refine lv_aload_n hx hb dL_law_715 rfl (lv_at hl 1 rfl) ?_
  refine lv_aload_n hx hb dL_law_716 rfl (lv_at hl 0 rfl) ?_
  refine lv_iload_n hx hb dL_law_717 rfl (lv_at hl 3 rfl) ?_
  refine lv_iconst (v := (1 : Int32)) hx hb dL_law_718 (by decide) ?_
  refine lv_iadd hx hb dL_law_719 ?_
  refine va_sld hx hb hX0 hbl hbA hS (zidx (k := 1) hi hL rfl (by decide)) dL_law_720 ?_
  refine lv_aload_n hx hb dL_law_721 rfl (lv_at hl 0 rfl) ?_
  refine lv_iload_n hx hb dL_law_722 rfl (lv_at hl 3 rfl) ?_
  refine lv_iconst (v := (2 : Int32)) hx hb dL_law_723 (by decide) ?_
  refine lv_iadd hx hb dL_law_724 ?_
  refine va_sld hx hb hX0 hbl hbA hS (zidx (k := 2) hi hL rfl (by decide)) dL_law_725 ?_
  refine lv_aload_n hx hb dL_law_726 rfl (lv_at hl 0 rfl) ?_
  refine lv_iload_n hx hb dL_law_727 rfl (lv_at hl 3 rfl) ?_
  refine lv_iconst (v := (3 : Int32)) hx hb dL_law_728 (by decide) ?_
  refine lv_iadd hx hb dL_law_729 ?_
  refine va_sld hx hb hX0 hbl hbA hS (zidx (k := 3) hi hL rfl (by decide)) dL_law_730 ?_
  have hB0 := tB_of hG.2.2.2.1
  have hI0 := tBI_of hG.2.2.1
  refine gx_mutes [] hcs C0 hbx hbm hK hO hG hS hl.1 (Nat.le_of_ble_eq_true rfl) kmL_71 dL_law_731 (fun r1 mi' ko' T' I' H locs cells' slots' hx1 e1 e2 hG1 hS1 => ?_)
  obtain ⟨rfl, rfl, rfl⟩ := hx1
  have hG := hG1
  have hS := hS1
  refine lv_pop hx hb dL_law_734 rfl ?_
  refine lv_aload_n hx hb dL_law_735 rfl (lv_at hl 2 rfl) ?_
  refine lv_aload_n hx hb dL_law_736 rfl (lv_at hl 0 rfl) ?_
  refine lv_iload_n hx hb dL_law_737 rfl (lv_at hl 3 rfl) ?_
  refine lv_iconst (v := (1 : Int32)) hx hb dL_law_738 (by decide) ?_
  refine lv_iadd hx hb dL_law_739 ?_
  refine va_sld hx hb hX0 hbl hbA hS (zidx (k := 1) hi hL rfl (by decide)) dL_law_740 ?_
  refine lv_aload_n hx hb dL_law_741 rfl (lv_at hl 0 rfl) ?_
  refine lv_iload_n hx hb dL_law_742 rfl (lv_at hl 3 rfl) ?_
  refine lv_iconst (v := (2 : Int32)) hx hb dL_law_743 (by decide) ?_
  refine lv_iadd hx hb dL_law_744 ?_
  refine va_sld hx hb hX0 hbl hbA hS (zidx (k := 2) hi hL rfl (by decide)) dL_law_745 ?_
  refine lv_aload_n hx hb dL_law_746 rfl (lv_at hl 0 rfl) ?_
  refine lv_iload_n hx hb dL_law_747 rfl (lv_at hl 3 rfl) ?_
  refine lv_iconst (v := (3 : Int32)) hx hb dL_law_748 (by decide) ?_
  refine lv_iadd hx hb dL_law_749 ?_
  refine va_sld hx hb hX0 hbl hbA hS (zidx (k := 3) hi hL rfl (by decide)) dL_law_750 ?_
  refine gm_mutes [] ⟨Nat.le_trans e1 hcs.1, Nat.le_trans e2 hcs.2⟩ C0 hbx hbm hK hO hG hS hl.1 (Nat.le_of_ble_eq_true rfl) kmL_74 dL_law_751 (fun r2 M' H locs hm1 hG2 hS2 => ?_)
  obtain rfl := hm1
  have hG := hG2
  have hS := hS2
  refine lv_pop hx hb dL_law_754 rfl ?_
  refine lv_goto (tgt := 1647) hx hb dL_law_755 (by decide) ?_
  exact kk _ _ _ _ _ _ _ _ _ e1 e2 hR hG hS

set_option maxRecDepth 40000 in
set_option maxHeartbeats 4000000 in
theorem g_14 {p : Program} {l : Launch} {e : Env} {s : State} {m : MethodId} {below : List Frame} {meth : Method} {c : Code} {E : zE} {G : zG} {b L i bx bm cells slots : Nat} {xs : Nat → Int32} {mi : Nat → Option Nat} {ko : Option Nat} {T : TT} {M : Nat → Nat → Int32} {I : Nat → TT} {H : Heap} {locs : List Loc} {ls : Array Slot} (hi : i + 6 ≤ L) (hL : L ≤ 3072) (hR : RG T M I mi) (hcs : cells + 47 ≤ room_1.cells ∧ slots + 4608 ≤ room_1.slots) (C0 : lw_At p s m meth c b L xs) (hbx : s.heap.size ≤ bx) (hbm : bx + 93 ≤ bm) (hK : zK E s) (hO : zO s ∧ zZ G (fun q => s.heap.size ≤ q) s s.heap) (hG : GG E bx bm mi ko T M I H) (hS : va_S (fun q => s.heap.size ≤ q) s.heap H locs) (hl : lv_has ls 4 [(0, .ref b), (1, .ref bx), (2, .ref bm), (3, .int (nI i))])
    (kk : ∀ (mi : Nat → Option Nat) (ko : Option Nat) (T : TT) (M : Nat → Nat → Int32) (I : Nat → TT) (H : Heap) (locs : List Loc) (cells' slots' : Nat), cells' ≤ cells + 47 → slots' ≤ slots + 4608 → RG T M I mi → GG E bx bm mi ko T M I H → va_S (fun q => s.heap.size ≤ q) s.heap H locs → W p l e room_1 s m #[Value.ref b] below meth c H locs cells' slots' (lw_Z below #[Value.ref b] s) (F0 m 1647 ls [])) : W p l e room_1 s m #[Value.ref b] below meth c H locs cells slots (lw_Z below #[Value.ref b] s) (F0 m 758 ls []) := by
  obtain ⟨hx, hb, hr, hml, hown, hts, hX0, hbl, hlocks, hgv⟩ := id C0
  have zc : zC p s m #[Value.ref b] meth c cL_law 4 RL ret := ⟨hx, hb, hml, hown, fun w hw => hts w (zb_in hw), hr, hlocks⟩
  have hbA : ¬ (fun q : Nat => s.heap.size ≤ q) b := Nat.not_le.mpr hbl
  refine lv_aload_n hx hb dL_law_758 rfl (lv_at hl 1 rfl) ?_
  refine lv_aload_n hx hb dL_law_759 rfl (lv_at hl 0 rfl) ?_
  refine lv_iload_n hx hb dL_law_760 rfl (lv_at hl 3 rfl) ?_
  refine lv_iconst (v := (1 : Int32)) hx hb dL_law_761 (by decide) ?_
  refine lv_iadd hx hb dL_law_762 ?_
  refine va_sld hx hb hX0 hbl hbA hS (zidx (k := 1) hi hL rfl (by decide)) dL_law_763 ?_
  refine lv_aload_n hx hb dL_law_764 rfl (lv_at hl 0 rfl) ?_
  refine lv_iload_n hx hb dL_law_765 rfl (lv_at hl 3 rfl) ?_
  refine lv_iconst (v := (2 : Int32)) hx hb dL_law_766 (by decide) ?_
  refine lv_iadd hx hb dL_law_767 ?_
  refine va_sld hx hb hX0 hbl hbA hS (zidx (k := 2) hi hL rfl (by decide)) dL_law_768 ?_
  refine lv_aload_n hx hb dL_law_769 rfl (lv_at hl 0 rfl) ?_
  refine lv_iload_n hx hb dL_law_770 rfl (lv_at hl 3 rfl) ?_
  refine lv_iconst (v := (3 : Int32)) hx hb dL_law_771 (by decide) ?_
  refine lv_iadd hx hb dL_law_772 ?_
  refine va_sld hx hb hX0 hbl hbA hS (zidx (k := 3) hi hL rfl (by decide)) dL_law_773 ?_
  refine lv_if_eq (tgt := 781) hx hb dL_law_774 (by decide) (fun hc0 => ?_) (fun hc0 => ?_)
  ·
    refine lv_iconst (v := (0 : Int32)) hx hb dL_law_781 (by decide) ?_
    have hB0 := tB_of hG.2.2.2.1
    have hI0 := tBI_of hG.2.2.1
    refine gx_masses [] hcs C0 hbx hbm hK hO hG hS hl.1 (Nat.le_of_ble_eq_true rfl) kmL_75 dL_law_782 (fun r1 mi' ko' T' I' H locs cells' slots' hx1 e1 e2 hG1 hS1 => ?_)
    obtain ⟨rfl, rfl, rfl⟩ := hx1
    have hG := hG1
    have hS := hS1
    refine lv_pop hx hb dL_law_785 rfl ?_
    refine lv_aload_n hx hb dL_law_786 rfl (lv_at hl 2 rfl) ?_
    refine lv_aload_n hx hb dL_law_787 rfl (lv_at hl 0 rfl) ?_
    refine lv_iload_n hx hb dL_law_788 rfl (lv_at hl 3 rfl) ?_
    refine lv_iconst (v := (1 : Int32)) hx hb dL_law_789 (by decide) ?_
    refine lv_iadd hx hb dL_law_790 ?_
    refine va_sld hx hb hX0 hbl hbA hS (zidx (k := 1) hi hL rfl (by decide)) dL_law_791 ?_
    refine lv_aload_n hx hb dL_law_792 rfl (lv_at hl 0 rfl) ?_
    refine lv_iload_n hx hb dL_law_793 rfl (lv_at hl 3 rfl) ?_
    refine lv_iconst (v := (2 : Int32)) hx hb dL_law_794 (by decide) ?_
    refine lv_iadd hx hb dL_law_795 ?_
    refine va_sld hx hb hX0 hbl hbA hS (zidx (k := 2) hi hL rfl (by decide)) dL_law_796 ?_
    refine lv_aload_n hx hb dL_law_797 rfl (lv_at hl 0 rfl) ?_
    refine lv_iload_n hx hb dL_law_798 rfl (lv_at hl 3 rfl) ?_
    refine lv_iconst (v := (3 : Int32)) hx hb dL_law_799 (by decide) ?_
    refine lv_iadd hx hb dL_law_800 ?_
    refine va_sld hx hb hX0 hbl hbA hS (zidx (k := 3) hi hL rfl (by decide)) dL_law_801 ?_
    refine lv_if_eq (tgt := 809) hx hb dL_law_802 (by decide) (fun hc11 => ?_) (fun hc11 => ?_)
    ·
      refine lv_iconst (v := (0 : Int32)) hx hb dL_law_809 (by decide) ?_
      refine gm_masses [] ⟨Nat.le_trans e1 hcs.1, Nat.le_trans e2 hcs.2⟩ C0 hbx hbm hK hO hG hS hl.1 (Nat.le_of_ble_eq_true rfl) kmL_79 dL_law_810 (fun r2 M' H locs hm1 hG2 hS2 => ?_)
      obtain rfl := hm1
      have hG := hG2
      have hS := hS2
      refine lv_pop hx hb dL_law_813 rfl ?_
      refine lv_goto (tgt := 1647) hx hb dL_law_814 (by decide) ?_
      exact kk _ _ _ _ _ _ _ _ _ e1 e2 hR hG hS
    ·
      refine lv_iconst (v := (1 : Int32)) hx hb dL_law_805 (by decide) ?_
      refine lv_goto (tgt := 810) hx hb dL_law_806 (by decide) ?_
      refine gm_masses [] ⟨Nat.le_trans e1 hcs.1, Nat.le_trans e2 hcs.2⟩ C0 hbx hbm hK hO hG hS hl.1 (Nat.le_of_ble_eq_true rfl) kmL_79 dL_law_810 (fun r2 M' H locs hm1 hG2 hS2 => ?_)
      obtain rfl := hm1
      have hG := hG2
      have hS := hS2
      refine lv_pop hx hb dL_law_813 rfl ?_
      refine lv_goto (tgt := 1647) hx hb dL_law_814 (by decide) ?_
      exact kk _ _ _ _ _ _ _ _ _ e1 e2 hR hG hS
  ·
    refine lv_iconst (v := (1 : Int32)) hx hb dL_law_777 (by decide) ?_
    refine lv_goto (tgt := 782) hx hb dL_law_778 (by decide) ?_
    have hB0 := tB_of hG.2.2.2.1
    have hI0 := tBI_of hG.2.2.1
    refine gx_masses [] hcs C0 hbx hbm hK hO hG hS hl.1 (Nat.le_of_ble_eq_true rfl) kmL_75 dL_law_782 (fun r1 mi' ko' T' I' H locs cells' slots' hx1 e1 e2 hG1 hS1 => ?_)
    obtain ⟨rfl, rfl, rfl⟩ := hx1
    have hG := hG1
    have hS := hS1
    refine lv_pop hx hb dL_law_785 rfl ?_
    refine lv_aload_n hx hb dL_law_786 rfl (lv_at hl 2 rfl) ?_
    refine lv_aload_n hx hb dL_law_787 rfl (lv_at hl 0 rfl) ?_
    refine lv_iload_n hx hb dL_law_788 rfl (lv_at hl 3 rfl) ?_
    refine lv_iconst (v := (1 : Int32)) hx hb dL_law_789 (by decide) ?_
    refine lv_iadd hx hb dL_law_790 ?_
    refine va_sld hx hb hX0 hbl hbA hS (zidx (k := 1) hi hL rfl (by decide)) dL_law_791 ?_
    refine lv_aload_n hx hb dL_law_792 rfl (lv_at hl 0 rfl) ?_
    refine lv_iload_n hx hb dL_law_793 rfl (lv_at hl 3 rfl) ?_
    refine lv_iconst (v := (2 : Int32)) hx hb dL_law_794 (by decide) ?_
    refine lv_iadd hx hb dL_law_795 ?_
    refine va_sld hx hb hX0 hbl hbA hS (zidx (k := 2) hi hL rfl (by decide)) dL_law_796 ?_
    refine lv_aload_n hx hb dL_law_797 rfl (lv_at hl 0 rfl) ?_
    refine lv_iload_n hx hb dL_law_798 rfl (lv_at hl 3 rfl) ?_
    refine lv_iconst (v := (3 : Int32)) hx hb dL_law_799 (by decide) ?_
    refine lv_iadd hx hb dL_law_800 ?_
    refine va_sld hx hb hX0 hbl hbA hS (zidx (k := 3) hi hL rfl (by decide)) dL_law_801 ?_
    refine lv_if_eq (tgt := 809) hx hb dL_law_802 (by decide) (fun hc11 => ?_) (fun hc11 => ?_)
    ·
      refine lv_iconst (v := (0 : Int32)) hx hb dL_law_809 (by decide) ?_
      refine gm_masses [] ⟨Nat.le_trans e1 hcs.1, Nat.le_trans e2 hcs.2⟩ C0 hbx hbm hK hO hG hS hl.1 (Nat.le_of_ble_eq_true rfl) kmL_79 dL_law_810 (fun r2 M' H locs hm1 hG2 hS2 => ?_)
      obtain rfl := hm1
      have hG := hG2
      have hS := hS2
      refine lv_pop hx hb dL_law_813 rfl ?_
      refine lv_goto (tgt := 1647) hx hb dL_law_814 (by decide) ?_
      exact kk _ _ _ _ _ _ _ _ _ e1 e2 hR hG hS
    ·
      refine lv_iconst (v := (1 : Int32)) hx hb dL_law_805 (by decide) ?_
      refine lv_goto (tgt := 810) hx hb dL_law_806 (by decide) ?_
      refine gm_masses [] ⟨Nat.le_trans e1 hcs.1, Nat.le_trans e2 hcs.2⟩ C0 hbx hbm hK hO hG hS hl.1 (Nat.le_of_ble_eq_true rfl) kmL_79 dL_law_810 (fun r2 M' H locs hm1 hG2 hS2 => ?_)
      obtain rfl := hm1
      have hG := hG2
      have hS := hS2
      refine lv_pop hx hb dL_law_813 rfl ?_
      refine lv_goto (tgt := 1647) hx hb dL_law_814 (by decide) ?_
      exact kk _ _ _ _ _ _ _ _ _ e1 e2 hR hG hS

set_option maxRecDepth 40000 in
set_option maxHeartbeats 4000000 in
theorem g_15 {p : Program} {l : Launch} {e : Env} {s : State} {m : MethodId} {below : List Frame} {meth : Method} {c : Code} {E : zE} {G : zG} {b L i bx bm cells slots : Nat} {xs : Nat → Int32} {mi : Nat → Option Nat} {ko : Option Nat} {T : TT} {M : Nat → Nat → Int32} {I : Nat → TT} {H : Heap} {locs : List Loc} {ls : Array Slot} (hi : i + 6 ≤ L) (hL : L ≤ 3072) (hR : RG T M I mi) (hcs : cells + 47 ≤ room_1.cells ∧ slots + 4608 ≤ room_1.slots) (C0 : lw_At p s m meth c b L xs) (hbx : s.heap.size ≤ bx) (hbm : bx + 93 ≤ bm) (hK : zK E s) (hO : zO s ∧ zZ G (fun q => s.heap.size ≤ q) s s.heap) (hG : GG E bx bm mi ko T M I H) (hS : va_S (fun q => s.heap.size ≤ q) s.heap H locs) (hl : lv_has ls 4 [(0, .ref b), (1, .ref bx), (2, .ref bm), (3, .int (nI i))])
    (kk : ∀ (mi : Nat → Option Nat) (ko : Option Nat) (T : TT) (M : Nat → Nat → Int32) (I : Nat → TT) (H : Heap) (locs : List Loc) (cells' slots' : Nat), cells' ≤ cells + 47 → slots' ≤ slots + 4608 → RG T M I mi → GG E bx bm mi ko T M I H → va_S (fun q => s.heap.size ≤ q) s.heap H locs → W p l e room_1 s m #[Value.ref b] below meth c H locs cells' slots' (lw_Z below #[Value.ref b] s) (F0 m 1647 ls [])) : W p l e room_1 s m #[Value.ref b] below meth c H locs cells slots (lw_Z below #[Value.ref b] s) (F0 m 817 ls []) := by
  obtain ⟨hx, hb, hr, hml, hown, hts, hX0, hbl, hlocks, hgv⟩ := id C0
  have zc : zC p s m #[Value.ref b] meth c cL_law 4 RL ret := ⟨hx, hb, hml, hown, fun w hw => hts w (zb_in hw), hr, hlocks⟩
  have hbA : ¬ (fun q : Nat => s.heap.size ≤ q) b := Nat.not_le.mpr hbl
  refine lv_aload_n hx hb dL_law_817 rfl (lv_at hl 1 rfl) ?_
  refine lv_aload_n hx hb dL_law_818 rfl (lv_at hl 0 rfl) ?_
  refine lv_iload_n hx hb dL_law_819 rfl (lv_at hl 3 rfl) ?_
  refine lv_iconst (v := (1 : Int32)) hx hb dL_law_820 (by decide) ?_
  refine lv_iadd hx hb dL_law_821 ?_
  refine va_sld hx hb hX0 hbl hbA hS (zidx (k := 1) hi hL rfl (by decide)) dL_law_822 ?_
  refine lv_aload_n hx hb dL_law_823 rfl (lv_at hl 0 rfl) ?_
  refine lv_iload_n hx hb dL_law_824 rfl (lv_at hl 3 rfl) ?_
  refine lv_iconst (v := (2 : Int32)) hx hb dL_law_825 (by decide) ?_
  refine lv_iadd hx hb dL_law_826 ?_
  refine va_sld hx hb hX0 hbl hbA hS (zidx (k := 2) hi hL rfl (by decide)) dL_law_827 ?_
  refine lv_aload_n hx hb dL_law_828 rfl (lv_at hl 0 rfl) ?_
  refine lv_iload_n hx hb dL_law_829 rfl (lv_at hl 3 rfl) ?_
  refine lv_iconst (v := (3 : Int32)) hx hb dL_law_830 (by decide) ?_
  refine lv_iadd hx hb dL_law_831 ?_
  refine va_sld hx hb hX0 hbl hbA hS (zidx (k := 3) hi hL rfl (by decide)) dL_law_832 ?_
  have hB0 := tB_of hG.2.2.2.1
  have hI0 := tBI_of hG.2.2.1
  refine gx_fact [] hcs C0 hbx hbm hK hO hG hS hl.1 (Nat.le_of_ble_eq_true rfl) kmL_80 dL_law_833 (fun r1 mi' ko' T' I' H locs cells' slots' hx1 e1 e2 hG1 hS1 => ?_)
  obtain ⟨rfl, rfl, rfl⟩ := hx1
  have hG := hG1
  have hS := hS1
  refine lv_pop hx hb dL_law_836 rfl ?_
  refine lv_aload_n hx hb dL_law_837 rfl (lv_at hl 2 rfl) ?_
  refine lv_aload_n hx hb dL_law_838 rfl (lv_at hl 0 rfl) ?_
  refine lv_iload_n hx hb dL_law_839 rfl (lv_at hl 3 rfl) ?_
  refine lv_iconst (v := (1 : Int32)) hx hb dL_law_840 (by decide) ?_
  refine lv_iadd hx hb dL_law_841 ?_
  refine va_sld hx hb hX0 hbl hbA hS (zidx (k := 1) hi hL rfl (by decide)) dL_law_842 ?_
  refine lv_aload_n hx hb dL_law_843 rfl (lv_at hl 0 rfl) ?_
  refine lv_iload_n hx hb dL_law_844 rfl (lv_at hl 3 rfl) ?_
  refine lv_iconst (v := (2 : Int32)) hx hb dL_law_845 (by decide) ?_
  refine lv_iadd hx hb dL_law_846 ?_
  refine va_sld hx hb hX0 hbl hbA hS (zidx (k := 2) hi hL rfl (by decide)) dL_law_847 ?_
  refine lv_aload_n hx hb dL_law_848 rfl (lv_at hl 0 rfl) ?_
  refine lv_iload_n hx hb dL_law_849 rfl (lv_at hl 3 rfl) ?_
  refine lv_iconst (v := (3 : Int32)) hx hb dL_law_850 (by decide) ?_
  refine lv_iadd hx hb dL_law_851 ?_
  refine va_sld hx hb hX0 hbl hbA hS (zidx (k := 3) hi hL rfl (by decide)) dL_law_852 ?_
  refine gm_fact [] ⟨Nat.le_trans e1 hcs.1, Nat.le_trans e2 hcs.2⟩ C0 hbx hbm hK hO hG hS hl.1 (Nat.le_of_ble_eq_true rfl) kmL_83 dL_law_853 (fun r2 M' H locs hm1 hG2 hS2 => ?_)
  obtain rfl := hm1
  have hG := hG2
  have hS := hS2
  refine lv_pop hx hb dL_law_856 rfl ?_
  refine lv_goto (tgt := 1647) hx hb dL_law_857 (by decide) ?_
  exact kk _ _ _ _ _ _ _ _ _ e1 e2 hR hG hS

set_option maxRecDepth 40000 in
set_option maxHeartbeats 4000000 in
theorem g_16 {p : Program} {l : Launch} {e : Env} {s : State} {m : MethodId} {below : List Frame} {meth : Method} {c : Code} {E : zE} {G : zG} {b L i bx bm cells slots : Nat} {xs : Nat → Int32} {mi : Nat → Option Nat} {ko : Option Nat} {T : TT} {M : Nat → Nat → Int32} {I : Nat → TT} {H : Heap} {locs : List Loc} {ls : Array Slot} (hi : i + 6 ≤ L) (hL : L ≤ 3072) (hR : RG T M I mi) (hcs : cells + 47 ≤ room_1.cells ∧ slots + 4608 ≤ room_1.slots) (C0 : lw_At p s m meth c b L xs) (hbx : s.heap.size ≤ bx) (hbm : bx + 93 ≤ bm) (hK : zK E s) (hO : zO s ∧ zZ G (fun q => s.heap.size ≤ q) s s.heap) (hG : GG E bx bm mi ko T M I H) (hS : va_S (fun q => s.heap.size ≤ q) s.heap H locs) (hl : lv_has ls 4 [(0, .ref b), (1, .ref bx), (2, .ref bm), (3, .int (nI i))])
    (kk : ∀ (mi : Nat → Option Nat) (ko : Option Nat) (T : TT) (M : Nat → Nat → Int32) (I : Nat → TT) (H : Heap) (locs : List Loc) (cells' slots' : Nat), cells' ≤ cells + 47 → slots' ≤ slots + 4608 → RG T M I mi → GG E bx bm mi ko T M I H → va_S (fun q => s.heap.size ≤ q) s.heap H locs → W p l e room_1 s m #[Value.ref b] below meth c H locs cells' slots' (lw_Z below #[Value.ref b] s) (F0 m 1647 ls [])) : W p l e room_1 s m #[Value.ref b] below meth c H locs cells slots (lw_Z below #[Value.ref b] s) (F0 m 860 ls []) := by
  obtain ⟨hx, hb, hr, hml, hown, hts, hX0, hbl, hlocks, hgv⟩ := id C0
  have zc : zC p s m #[Value.ref b] meth c cL_law 4 RL ret := ⟨hx, hb, hml, hown, fun w hw => hts w (zb_in hw), hr, hlocks⟩
  have hbA : ¬ (fun q : Nat => s.heap.size ≤ q) b := Nat.not_le.mpr hbl
  refine lv_aload_n hx hb dL_law_860 rfl (lv_at hl 1 rfl) ?_
  refine lv_aload_n hx hb dL_law_861 rfl (lv_at hl 0 rfl) ?_
  refine lv_iload_n hx hb dL_law_862 rfl (lv_at hl 3 rfl) ?_
  refine lv_iconst (v := (1 : Int32)) hx hb dL_law_863 (by decide) ?_
  refine lv_iadd hx hb dL_law_864 ?_
  refine va_sld hx hb hX0 hbl hbA hS (zidx (k := 1) hi hL rfl (by decide)) dL_law_865 ?_
  refine lv_aload_n hx hb dL_law_866 rfl (lv_at hl 0 rfl) ?_
  refine lv_iload_n hx hb dL_law_867 rfl (lv_at hl 3 rfl) ?_
  refine lv_iconst (v := (2 : Int32)) hx hb dL_law_868 (by decide) ?_
  refine lv_iadd hx hb dL_law_869 ?_
  refine va_sld hx hb hX0 hbl hbA hS (zidx (k := 2) hi hL rfl (by decide)) dL_law_870 ?_
  refine lv_aload_n hx hb dL_law_871 rfl (lv_at hl 0 rfl) ?_
  refine lv_iload_n hx hb dL_law_872 rfl (lv_at hl 3 rfl) ?_
  refine lv_iconst (v := (3 : Int32)) hx hb dL_law_873 (by decide) ?_
  refine lv_iadd hx hb dL_law_874 ?_
  refine va_sld hx hb hX0 hbl hbA hS (zidx (k := 3) hi hL rfl (by decide)) dL_law_875 ?_
  refine lv_if_eq (tgt := 883) hx hb dL_law_876 (by decide) (fun hc0 => ?_) (fun hc0 => ?_)
  ·
    refine lv_iconst (v := (0 : Int32)) hx hb dL_law_883 (by decide) ?_
    have hB0 := tB_of hG.2.2.2.1
    have hI0 := tBI_of hG.2.2.1
    refine gx_fits [] hcs C0 hbx hbm hK hO hG hS hl.1 (Nat.le_of_ble_eq_true rfl) kmL_84 dL_law_884 (fun r1 mi' ko' T' I' H locs cells' slots' hx1 e1 e2 hG1 hS1 => ?_)
    obtain ⟨rfl, rfl, rfl⟩ := hx1
    have hG := hG1
    have hS := hS1
    refine lv_pop hx hb dL_law_887 rfl ?_
    refine lv_aload_n hx hb dL_law_888 rfl (lv_at hl 2 rfl) ?_
    refine lv_aload_n hx hb dL_law_889 rfl (lv_at hl 0 rfl) ?_
    refine lv_iload_n hx hb dL_law_890 rfl (lv_at hl 3 rfl) ?_
    refine lv_iconst (v := (1 : Int32)) hx hb dL_law_891 (by decide) ?_
    refine lv_iadd hx hb dL_law_892 ?_
    refine va_sld hx hb hX0 hbl hbA hS (zidx (k := 1) hi hL rfl (by decide)) dL_law_893 ?_
    refine lv_aload_n hx hb dL_law_894 rfl (lv_at hl 0 rfl) ?_
    refine lv_iload_n hx hb dL_law_895 rfl (lv_at hl 3 rfl) ?_
    refine lv_iconst (v := (2 : Int32)) hx hb dL_law_896 (by decide) ?_
    refine lv_iadd hx hb dL_law_897 ?_
    refine va_sld hx hb hX0 hbl hbA hS (zidx (k := 2) hi hL rfl (by decide)) dL_law_898 ?_
    refine lv_aload_n hx hb dL_law_899 rfl (lv_at hl 0 rfl) ?_
    refine lv_iload_n hx hb dL_law_900 rfl (lv_at hl 3 rfl) ?_
    refine lv_iconst (v := (3 : Int32)) hx hb dL_law_901 (by decide) ?_
    refine lv_iadd hx hb dL_law_902 ?_
    refine va_sld hx hb hX0 hbl hbA hS (zidx (k := 3) hi hL rfl (by decide)) dL_law_903 ?_
    refine lv_if_eq (tgt := 911) hx hb dL_law_904 (by decide) (fun hc11 => ?_) (fun hc11 => ?_)
    ·
      refine lv_iconst (v := (0 : Int32)) hx hb dL_law_911 (by decide) ?_
      refine gm_fits [] ⟨Nat.le_trans e1 hcs.1, Nat.le_trans e2 hcs.2⟩ C0 hbx hbm hK hO hG hS hl.1 (Nat.le_of_ble_eq_true rfl) kmL_87 dL_law_912 (fun r2 M' H locs hm1 hG2 hS2 => ?_)
      obtain rfl := hm1
      have hG := hG2
      have hS := hS2
      refine lv_pop hx hb dL_law_915 rfl ?_
      refine lv_goto (tgt := 1647) hx hb dL_law_916 (by decide) ?_
      exact kk _ _ _ _ _ _ _ _ _ e1 e2 hR hG hS
    ·
      refine lv_iconst (v := (1 : Int32)) hx hb dL_law_907 (by decide) ?_
      refine lv_goto (tgt := 912) hx hb dL_law_908 (by decide) ?_
      refine gm_fits [] ⟨Nat.le_trans e1 hcs.1, Nat.le_trans e2 hcs.2⟩ C0 hbx hbm hK hO hG hS hl.1 (Nat.le_of_ble_eq_true rfl) kmL_87 dL_law_912 (fun r2 M' H locs hm1 hG2 hS2 => ?_)
      obtain rfl := hm1
      have hG := hG2
      have hS := hS2
      refine lv_pop hx hb dL_law_915 rfl ?_
      refine lv_goto (tgt := 1647) hx hb dL_law_916 (by decide) ?_
      exact kk _ _ _ _ _ _ _ _ _ e1 e2 hR hG hS
  ·
    refine lv_iconst (v := (1 : Int32)) hx hb dL_law_879 (by decide) ?_
    refine lv_goto (tgt := 884) hx hb dL_law_880 (by decide) ?_
    have hB0 := tB_of hG.2.2.2.1
    have hI0 := tBI_of hG.2.2.1
    refine gx_fits [] hcs C0 hbx hbm hK hO hG hS hl.1 (Nat.le_of_ble_eq_true rfl) kmL_84 dL_law_884 (fun r1 mi' ko' T' I' H locs cells' slots' hx1 e1 e2 hG1 hS1 => ?_)
    obtain ⟨rfl, rfl, rfl⟩ := hx1
    have hG := hG1
    have hS := hS1
    refine lv_pop hx hb dL_law_887 rfl ?_
    refine lv_aload_n hx hb dL_law_888 rfl (lv_at hl 2 rfl) ?_
    refine lv_aload_n hx hb dL_law_889 rfl (lv_at hl 0 rfl) ?_
    refine lv_iload_n hx hb dL_law_890 rfl (lv_at hl 3 rfl) ?_
    refine lv_iconst (v := (1 : Int32)) hx hb dL_law_891 (by decide) ?_
    refine lv_iadd hx hb dL_law_892 ?_
    refine va_sld hx hb hX0 hbl hbA hS (zidx (k := 1) hi hL rfl (by decide)) dL_law_893 ?_
    refine lv_aload_n hx hb dL_law_894 rfl (lv_at hl 0 rfl) ?_
    refine lv_iload_n hx hb dL_law_895 rfl (lv_at hl 3 rfl) ?_
    refine lv_iconst (v := (2 : Int32)) hx hb dL_law_896 (by decide) ?_
    refine lv_iadd hx hb dL_law_897 ?_
    refine va_sld hx hb hX0 hbl hbA hS (zidx (k := 2) hi hL rfl (by decide)) dL_law_898 ?_
    refine lv_aload_n hx hb dL_law_899 rfl (lv_at hl 0 rfl) ?_
    refine lv_iload_n hx hb dL_law_900 rfl (lv_at hl 3 rfl) ?_
    refine lv_iconst (v := (3 : Int32)) hx hb dL_law_901 (by decide) ?_
    refine lv_iadd hx hb dL_law_902 ?_
    refine va_sld hx hb hX0 hbl hbA hS (zidx (k := 3) hi hL rfl (by decide)) dL_law_903 ?_
    refine lv_if_eq (tgt := 911) hx hb dL_law_904 (by decide) (fun hc11 => ?_) (fun hc11 => ?_)
    ·
      refine lv_iconst (v := (0 : Int32)) hx hb dL_law_911 (by decide) ?_
      refine gm_fits [] ⟨Nat.le_trans e1 hcs.1, Nat.le_trans e2 hcs.2⟩ C0 hbx hbm hK hO hG hS hl.1 (Nat.le_of_ble_eq_true rfl) kmL_87 dL_law_912 (fun r2 M' H locs hm1 hG2 hS2 => ?_)
      obtain rfl := hm1
      have hG := hG2
      have hS := hS2
      refine lv_pop hx hb dL_law_915 rfl ?_
      refine lv_goto (tgt := 1647) hx hb dL_law_916 (by decide) ?_
      exact kk _ _ _ _ _ _ _ _ _ e1 e2 hR hG hS
    ·
      refine lv_iconst (v := (1 : Int32)) hx hb dL_law_907 (by decide) ?_
      refine lv_goto (tgt := 912) hx hb dL_law_908 (by decide) ?_
      refine gm_fits [] ⟨Nat.le_trans e1 hcs.1, Nat.le_trans e2 hcs.2⟩ C0 hbx hbm hK hO hG hS hl.1 (Nat.le_of_ble_eq_true rfl) kmL_87 dL_law_912 (fun r2 M' H locs hm1 hG2 hS2 => ?_)
      obtain rfl := hm1
      have hG := hG2
      have hS := hS2
      refine lv_pop hx hb dL_law_915 rfl ?_
      refine lv_goto (tgt := 1647) hx hb dL_law_916 (by decide) ?_
      exact kk _ _ _ _ _ _ _ _ _ e1 e2 hR hG hS

set_option maxRecDepth 40000 in
set_option maxHeartbeats 4000000 in
theorem g_17 {p : Program} {l : Launch} {e : Env} {s : State} {m : MethodId} {below : List Frame} {meth : Method} {c : Code} {E : zE} {G : zG} {b L i bx bm cells slots : Nat} {xs : Nat → Int32} {mi : Nat → Option Nat} {ko : Option Nat} {T : TT} {M : Nat → Nat → Int32} {I : Nat → TT} {H : Heap} {locs : List Loc} {ls : Array Slot} (hi : i + 6 ≤ L) (hL : L ≤ 3072) (hR : RG T M I mi) (hcs : cells + 47 ≤ room_1.cells ∧ slots + 4608 ≤ room_1.slots) (C0 : lw_At p s m meth c b L xs) (hbx : s.heap.size ≤ bx) (hbm : bx + 93 ≤ bm) (hK : zK E s) (hO : zO s ∧ zZ G (fun q => s.heap.size ≤ q) s s.heap) (hG : GG E bx bm mi ko T M I H) (hS : va_S (fun q => s.heap.size ≤ q) s.heap H locs) (hl : lv_has ls 4 [(0, .ref b), (1, .ref bx), (2, .ref bm), (3, .int (nI i))])
    (kk : ∀ (mi : Nat → Option Nat) (ko : Option Nat) (T : TT) (M : Nat → Nat → Int32) (I : Nat → TT) (H : Heap) (locs : List Loc) (cells' slots' : Nat), cells' ≤ cells + 47 → slots' ≤ slots + 4608 → RG T M I mi → GG E bx bm mi ko T M I H → va_S (fun q => s.heap.size ≤ q) s.heap H locs → W p l e room_1 s m #[Value.ref b] below meth c H locs cells' slots' (lw_Z below #[Value.ref b] s) (F0 m 1647 ls [])) : W p l e room_1 s m #[Value.ref b] below meth c H locs cells slots (lw_Z below #[Value.ref b] s) (F0 m 919 ls []) := by
  obtain ⟨hx, hb, hr, hml, hown, hts, hX0, hbl, hlocks, hgv⟩ := id C0
  have zc : zC p s m #[Value.ref b] meth c cL_law 4 RL ret := ⟨hx, hb, hml, hown, fun w hw => hts w (zb_in hw), hr, hlocks⟩
  have hbA : ¬ (fun q : Nat => s.heap.size ≤ q) b := Nat.not_le.mpr hbl
  refine lv_aload_n hx hb dL_law_919 rfl (lv_at hl 1 rfl) ?_
  refine lv_aload_n hx hb dL_law_920 rfl (lv_at hl 0 rfl) ?_
  refine lv_iload_n hx hb dL_law_921 rfl (lv_at hl 3 rfl) ?_
  refine lv_iconst (v := (1 : Int32)) hx hb dL_law_922 (by decide) ?_
  refine lv_iadd hx hb dL_law_923 ?_
  refine va_sld hx hb hX0 hbl hbA hS (zidx (k := 1) hi hL rfl (by decide)) dL_law_924 ?_
  refine lv_aload_n hx hb dL_law_925 rfl (lv_at hl 0 rfl) ?_
  refine lv_iload_n hx hb dL_law_926 rfl (lv_at hl 3 rfl) ?_
  refine lv_iconst (v := (2 : Int32)) hx hb dL_law_927 (by decide) ?_
  refine lv_iadd hx hb dL_law_928 ?_
  refine va_sld hx hb hX0 hbl hbA hS (zidx (k := 2) hi hL rfl (by decide)) dL_law_929 ?_
  have hB0 := tB_of hG.2.2.2.1
  have hI0 := tBI_of hG.2.2.1
  refine gx_choir [] hcs C0 hbx hbm hK hO hG hS hl.1 (Nat.le_of_ble_eq_true rfl) kmL_88 dL_law_930 (fun r1 mi' ko' T' I' H locs cells' slots' hx1 e1 e2 hG1 hS1 => ?_)
  obtain ⟨rfl, rfl, rfl⟩ := hx1
  have hG := hG1
  have hS := hS1
  refine lv_pop hx hb dL_law_933 rfl ?_
  refine lv_aload_n hx hb dL_law_934 rfl (lv_at hl 2 rfl) ?_
  refine lv_aload_n hx hb dL_law_935 rfl (lv_at hl 0 rfl) ?_
  refine lv_iload_n hx hb dL_law_936 rfl (lv_at hl 3 rfl) ?_
  refine lv_iconst (v := (1 : Int32)) hx hb dL_law_937 (by decide) ?_
  refine lv_iadd hx hb dL_law_938 ?_
  refine va_sld hx hb hX0 hbl hbA hS (zidx (k := 1) hi hL rfl (by decide)) dL_law_939 ?_
  refine lv_aload_n hx hb dL_law_940 rfl (lv_at hl 0 rfl) ?_
  refine lv_iload_n hx hb dL_law_941 rfl (lv_at hl 3 rfl) ?_
  refine lv_iconst (v := (2 : Int32)) hx hb dL_law_942 (by decide) ?_
  refine lv_iadd hx hb dL_law_943 ?_
  refine va_sld hx hb hX0 hbl hbA hS (zidx (k := 2) hi hL rfl (by decide)) dL_law_944 ?_
  refine gm_choir [] ⟨Nat.le_trans e1 hcs.1, Nat.le_trans e2 hcs.2⟩ C0 hbx hbm hK hO hG hS hl.1 (Nat.le_of_ble_eq_true rfl) kmL_91 dL_law_945 (fun r2 M' H locs hm1 hG2 hS2 => ?_)
  obtain rfl := hm1
  have hG := hG2
  have hS := hS2
  refine lv_pop hx hb dL_law_948 rfl ?_
  refine lv_goto (tgt := 1647) hx hb dL_law_949 (by decide) ?_
  exact kk _ _ _ _ _ _ _ _ _ e1 e2 hR hG hS

set_option maxRecDepth 40000 in
set_option maxHeartbeats 4000000 in
theorem g_18 {p : Program} {l : Launch} {e : Env} {s : State} {m : MethodId} {below : List Frame} {meth : Method} {c : Code} {E : zE} {G : zG} {b L i bx bm cells slots : Nat} {xs : Nat → Int32} {mi : Nat → Option Nat} {ko : Option Nat} {T : TT} {M : Nat → Nat → Int32} {I : Nat → TT} {H : Heap} {locs : List Loc} {ls : Array Slot} (hi : i + 6 ≤ L) (hL : L ≤ 3072) (hR : RG T M I mi) (hcs : cells + 47 ≤ room_1.cells ∧ slots + 4608 ≤ room_1.slots) (C0 : lw_At p s m meth c b L xs) (hbx : s.heap.size ≤ bx) (hbm : bx + 93 ≤ bm) (hK : zK E s) (hO : zO s ∧ zZ G (fun q => s.heap.size ≤ q) s s.heap) (hG : GG E bx bm mi ko T M I H) (hS : va_S (fun q => s.heap.size ≤ q) s.heap H locs) (hl : lv_has ls 4 [(0, .ref b), (1, .ref bx), (2, .ref bm), (3, .int (nI i))])
    (kk : ∀ (mi : Nat → Option Nat) (ko : Option Nat) (T : TT) (M : Nat → Nat → Int32) (I : Nat → TT) (H : Heap) (locs : List Loc) (cells' slots' : Nat), cells' ≤ cells + 47 → slots' ≤ slots + 4608 → RG T M I mi → GG E bx bm mi ko T M I H → va_S (fun q => s.heap.size ≤ q) s.heap H locs → W p l e room_1 s m #[Value.ref b] below meth c H locs cells' slots' (lw_Z below #[Value.ref b] s) (F0 m 1647 ls [])) : W p l e room_1 s m #[Value.ref b] below meth c H locs cells slots (lw_Z below #[Value.ref b] s) (F0 m 952 ls []) := by
  obtain ⟨hx, hb, hr, hml, hown, hts, hX0, hbl, hlocks, hgv⟩ := id C0
  have zc : zC p s m #[Value.ref b] meth c cL_law 4 RL ret := ⟨hx, hb, hml, hown, fun w hw => hts w (zb_in hw), hr, hlocks⟩
  have hbA : ¬ (fun q : Nat => s.heap.size ≤ q) b := Nat.not_le.mpr hbl
  refine lv_aload_n hx hb dL_law_952 rfl (lv_at hl 1 rfl) ?_
  refine lv_aload_n hx hb dL_law_953 rfl (lv_at hl 0 rfl) ?_
  refine lv_iload_n hx hb dL_law_954 rfl (lv_at hl 3 rfl) ?_
  refine lv_iconst (v := (1 : Int32)) hx hb dL_law_955 (by decide) ?_
  refine lv_iadd hx hb dL_law_956 ?_
  refine va_sld hx hb hX0 hbl hbA hS (zidx (k := 1) hi hL rfl (by decide)) dL_law_957 ?_
  have hB0 := tB_of hG.2.2.2.1
  have hI0 := tBI_of hG.2.2.1
  refine gx_orders [] hcs C0 hbx hbm hK hO hG hS hl.1 (Nat.le_of_ble_eq_true rfl) kmL_92 dL_law_958 (fun r1 mi' ko' T' I' H locs cells' slots' hx1 e1 e2 hG1 hS1 => ?_)
  obtain ⟨rfl, rfl, rfl⟩ := hx1
  have hG := hG1
  have hS := hS1
  refine lv_pop2_2 hx hb dL_law_961 rfl ?_
  refine lv_aload_n hx hb dL_law_962 rfl (lv_at hl 2 rfl) ?_
  refine lv_aload_n hx hb dL_law_963 rfl (lv_at hl 0 rfl) ?_
  refine lv_iload_n hx hb dL_law_964 rfl (lv_at hl 3 rfl) ?_
  refine lv_iconst (v := (1 : Int32)) hx hb dL_law_965 (by decide) ?_
  refine lv_iadd hx hb dL_law_966 ?_
  refine va_sld hx hb hX0 hbl hbA hS (zidx (k := 1) hi hL rfl (by decide)) dL_law_967 ?_
  refine gm_orders [] ⟨Nat.le_trans e1 hcs.1, Nat.le_trans e2 hcs.2⟩ C0 hbx hbm hK hO hG hS hl.1 (Nat.le_of_ble_eq_true rfl) kmL_96 dL_law_968 (fun r2 M' H locs hm1 hG2 hS2 => ?_)
  obtain rfl := hm1
  have hG := hG2
  have hS := hS2
  refine lv_pop2_2 hx hb dL_law_971 rfl ?_
  refine lv_goto (tgt := 1647) hx hb dL_law_972 (by decide) ?_
  exact kk _ _ _ _ _ _ _ _ _ e1 e2 hR hG hS

set_option maxRecDepth 40000 in
set_option maxHeartbeats 4000000 in
theorem g_19 {p : Program} {l : Launch} {e : Env} {s : State} {m : MethodId} {below : List Frame} {meth : Method} {c : Code} {E : zE} {G : zG} {b L i bx bm cells slots : Nat} {xs : Nat → Int32} {mi : Nat → Option Nat} {ko : Option Nat} {T : TT} {M : Nat → Nat → Int32} {I : Nat → TT} {H : Heap} {locs : List Loc} {ls : Array Slot} (hi : i + 6 ≤ L) (hL : L ≤ 3072) (hR : RG T M I mi) (hcs : cells + 47 ≤ room_1.cells ∧ slots + 4608 ≤ room_1.slots) (C0 : lw_At p s m meth c b L xs) (hbx : s.heap.size ≤ bx) (hbm : bx + 93 ≤ bm) (hK : zK E s) (hO : zO s ∧ zZ G (fun q => s.heap.size ≤ q) s s.heap) (hG : GG E bx bm mi ko T M I H) (hS : va_S (fun q => s.heap.size ≤ q) s.heap H locs) (hl : lv_has ls 4 [(0, .ref b), (1, .ref bx), (2, .ref bm), (3, .int (nI i))])
    (kk : ∀ (mi : Nat → Option Nat) (ko : Option Nat) (T : TT) (M : Nat → Nat → Int32) (I : Nat → TT) (H : Heap) (locs : List Loc) (cells' slots' : Nat), cells' ≤ cells + 47 → slots' ≤ slots + 4608 → RG T M I mi → GG E bx bm mi ko T M I H → va_S (fun q => s.heap.size ≤ q) s.heap H locs → W p l e room_1 s m #[Value.ref b] below meth c H locs cells' slots' (lw_Z below #[Value.ref b] s) (F0 m 1647 ls [])) : W p l e room_1 s m #[Value.ref b] below meth c H locs cells slots (lw_Z below #[Value.ref b] s) (F0 m 975 ls []) := by
  obtain ⟨hx, hb, hr, hml, hown, hts, hX0, hbl, hlocks, hgv⟩ := id C0
  have zc : zC p s m #[Value.ref b] meth c cL_law 4 RL ret := ⟨hx, hb, hml, hown, fun w hw => hts w (zb_in hw), hr, hlocks⟩
  have hbA : ¬ (fun q : Nat => s.heap.size ≤ q) b := Nat.not_le.mpr hbl
  refine lv_aload_n hx hb dL_law_975 rfl (lv_at hl 1 rfl) ?_
  refine lv_aload_n hx hb dL_law_976 rfl (lv_at hl 0 rfl) ?_
  refine lv_iload_n hx hb dL_law_977 rfl (lv_at hl 3 rfl) ?_
  refine lv_iconst (v := (1 : Int32)) hx hb dL_law_978 (by decide) ?_
  refine lv_iadd hx hb dL_law_979 ?_
  refine va_sld hx hb hX0 hbl hbA hS (zidx (k := 1) hi hL rfl (by decide)) dL_law_980 ?_
  refine lv_aload_n hx hb dL_law_981 rfl (lv_at hl 0 rfl) ?_
  refine lv_iload_n hx hb dL_law_982 rfl (lv_at hl 3 rfl) ?_
  refine lv_iconst (v := (2 : Int32)) hx hb dL_law_983 (by decide) ?_
  refine lv_iadd hx hb dL_law_984 ?_
  refine va_sld hx hb hX0 hbl hbA hS (zidx (k := 2) hi hL rfl (by decide)) dL_law_985 ?_
  have hB0 := tB_of hG.2.2.2.1
  have hI0 := tBI_of hG.2.2.1
  refine gx_order [] hcs C0 hbx hbm hK hO hG hS hl.1 (Nat.le_of_ble_eq_true rfl) kmL_97 dL_law_986 (fun r1 mi' ko' T' I' H locs cells' slots' hx1 e1 e2 hG1 hS1 => ?_)
  obtain ⟨rfl, rfl, rfl⟩ := hx1
  have hG := hG1
  have hS := hS1
  refine lv_pop hx hb dL_law_989 rfl ?_
  refine lv_aload_n hx hb dL_law_990 rfl (lv_at hl 2 rfl) ?_
  refine lv_aload_n hx hb dL_law_991 rfl (lv_at hl 0 rfl) ?_
  refine lv_iload_n hx hb dL_law_992 rfl (lv_at hl 3 rfl) ?_
  refine lv_iconst (v := (1 : Int32)) hx hb dL_law_993 (by decide) ?_
  refine lv_iadd hx hb dL_law_994 ?_
  refine va_sld hx hb hX0 hbl hbA hS (zidx (k := 1) hi hL rfl (by decide)) dL_law_995 ?_
  refine lv_aload_n hx hb dL_law_996 rfl (lv_at hl 0 rfl) ?_
  refine lv_iload_n hx hb dL_law_997 rfl (lv_at hl 3 rfl) ?_
  refine lv_iconst (v := (2 : Int32)) hx hb dL_law_998 (by decide) ?_
  refine lv_iadd hx hb dL_law_999 ?_
  refine va_sld hx hb hX0 hbl hbA hS (zidx (k := 2) hi hL rfl (by decide)) dL_law_1000 ?_
  refine gm_order [] ⟨Nat.le_trans e1 hcs.1, Nat.le_trans e2 hcs.2⟩ C0 hbx hbm hK hO hG hS hl.1 (Nat.le_of_ble_eq_true rfl) kmL_100 dL_law_1001 (fun r2 M' H locs hm1 hG2 hS2 => ?_)
  obtain rfl := hm1
  have hG := hG2
  have hS := hS2
  refine lv_pop hx hb dL_law_1004 rfl ?_
  refine lv_goto (tgt := 1647) hx hb dL_law_1005 (by decide) ?_
  exact kk _ _ _ _ _ _ _ _ _ e1 e2 hR hG hS

set_option maxRecDepth 40000 in
set_option maxHeartbeats 4000000 in
theorem g_20 {p : Program} {l : Launch} {e : Env} {s : State} {m : MethodId} {below : List Frame} {meth : Method} {c : Code} {E : zE} {G : zG} {b L i bx bm cells slots : Nat} {xs : Nat → Int32} {mi : Nat → Option Nat} {ko : Option Nat} {T : TT} {M : Nat → Nat → Int32} {I : Nat → TT} {H : Heap} {locs : List Loc} {ls : Array Slot} (hi : i + 6 ≤ L) (hL : L ≤ 3072) (hR : RG T M I mi) (hcs : cells + 47 ≤ room_1.cells ∧ slots + 4608 ≤ room_1.slots) (C0 : lw_At p s m meth c b L xs) (hbx : s.heap.size ≤ bx) (hbm : bx + 93 ≤ bm) (hK : zK E s) (hO : zO s ∧ zZ G (fun q => s.heap.size ≤ q) s s.heap) (hG : GG E bx bm mi ko T M I H) (hS : va_S (fun q => s.heap.size ≤ q) s.heap H locs) (hl : lv_has ls 4 [(0, .ref b), (1, .ref bx), (2, .ref bm), (3, .int (nI i))])
    (kk : ∀ (mi : Nat → Option Nat) (ko : Option Nat) (T : TT) (M : Nat → Nat → Int32) (I : Nat → TT) (H : Heap) (locs : List Loc) (cells' slots' : Nat), cells' ≤ cells + 47 → slots' ≤ slots + 4608 → RG T M I mi → GG E bx bm mi ko T M I H → va_S (fun q => s.heap.size ≤ q) s.heap H locs → W p l e room_1 s m #[Value.ref b] below meth c H locs cells' slots' (lw_Z below #[Value.ref b] s) (F0 m 1647 ls [])) : W p l e room_1 s m #[Value.ref b] below meth c H locs cells slots (lw_Z below #[Value.ref b] s) (F0 m 1008 ls []) := by
  obtain ⟨hx, hb, hr, hml, hown, hts, hX0, hbl, hlocks, hgv⟩ := id C0
  have zc : zC p s m #[Value.ref b] meth c cL_law 4 RL ret := ⟨hx, hb, hml, hown, fun w hw => hts w (zb_in hw), hr, hlocks⟩
  have hbA : ¬ (fun q : Nat => s.heap.size ≤ q) b := Nat.not_le.mpr hbl
  refine lv_aload_n hx hb dL_law_1008 rfl (lv_at hl 1 rfl) ?_
  refine lv_aload_n hx hb dL_law_1009 rfl (lv_at hl 0 rfl) ?_
  refine lv_iload_n hx hb dL_law_1010 rfl (lv_at hl 3 rfl) ?_
  refine lv_iconst (v := (1 : Int32)) hx hb dL_law_1011 (by decide) ?_
  refine lv_iadd hx hb dL_law_1012 ?_
  refine va_sld hx hb hX0 hbl hbA hS (zidx (k := 1) hi hL rfl (by decide)) dL_law_1013 ?_
  refine lv_aload_n hx hb dL_law_1014 rfl (lv_at hl 0 rfl) ?_
  refine lv_iload_n hx hb dL_law_1015 rfl (lv_at hl 3 rfl) ?_
  refine lv_iconst (v := (2 : Int32)) hx hb dL_law_1016 (by decide) ?_
  refine lv_iadd hx hb dL_law_1017 ?_
  refine va_sld hx hb hX0 hbl hbA hS (zidx (k := 2) hi hL rfl (by decide)) dL_law_1018 ?_
  refine lv_aload_n hx hb dL_law_1019 rfl (lv_at hl 0 rfl) ?_
  refine lv_iload_n hx hb dL_law_1020 rfl (lv_at hl 3 rfl) ?_
  refine lv_iconst (v := (3 : Int32)) hx hb dL_law_1021 (by decide) ?_
  refine lv_iadd hx hb dL_law_1022 ?_
  refine va_sld hx hb hX0 hbl hbA hS (zidx (k := 3) hi hL rfl (by decide)) dL_law_1023 ?_
  refine lv_aload_n hx hb dL_law_1024 rfl (lv_at hl 0 rfl) ?_
  refine lv_iload_n hx hb dL_law_1025 rfl (lv_at hl 3 rfl) ?_
  refine lv_iconst (v := (4 : Int32)) hx hb dL_law_1026 (by decide) ?_
  refine lv_iadd hx hb dL_law_1027 ?_
  refine va_sld hx hb hX0 hbl hbA hS (zidx (k := 4) hi hL rfl (by decide)) dL_law_1028 ?_
  refine lv_if_eq (tgt := 1036) hx hb dL_law_1029 (by decide) (fun hc0 => ?_) (fun hc0 => ?_)
  ·
    refine lv_iconst (v := (0 : Int32)) hx hb dL_law_1036 (by decide) ?_
    have hB0 := tB_of hG.2.2.2.1
    have hI0 := tBI_of hG.2.2.1
    refine gx_trade [] hcs C0 hbx hbm hK hO hG hS hl.1 (Nat.le_of_ble_eq_true rfl) kmL_101 dL_law_1037 (fun r1 mi' ko' T' I' H locs cells' slots' hx1 e1 e2 hG1 hS1 => ?_)
    obtain ⟨rfl, rfl, rfl⟩ := hx1
    have hG := hG1
    have hS := hS1
    refine lv_pop hx hb dL_law_1040 rfl ?_
    refine lv_aload_n hx hb dL_law_1041 rfl (lv_at hl 2 rfl) ?_
    refine lv_aload_n hx hb dL_law_1042 rfl (lv_at hl 0 rfl) ?_
    refine lv_iload_n hx hb dL_law_1043 rfl (lv_at hl 3 rfl) ?_
    refine lv_iconst (v := (1 : Int32)) hx hb dL_law_1044 (by decide) ?_
    refine lv_iadd hx hb dL_law_1045 ?_
    refine va_sld hx hb hX0 hbl hbA hS (zidx (k := 1) hi hL rfl (by decide)) dL_law_1046 ?_
    refine lv_aload_n hx hb dL_law_1047 rfl (lv_at hl 0 rfl) ?_
    refine lv_iload_n hx hb dL_law_1048 rfl (lv_at hl 3 rfl) ?_
    refine lv_iconst (v := (2 : Int32)) hx hb dL_law_1049 (by decide) ?_
    refine lv_iadd hx hb dL_law_1050 ?_
    refine va_sld hx hb hX0 hbl hbA hS (zidx (k := 2) hi hL rfl (by decide)) dL_law_1051 ?_
    refine lv_aload_n hx hb dL_law_1052 rfl (lv_at hl 0 rfl) ?_
    refine lv_iload_n hx hb dL_law_1053 rfl (lv_at hl 3 rfl) ?_
    refine lv_iconst (v := (3 : Int32)) hx hb dL_law_1054 (by decide) ?_
    refine lv_iadd hx hb dL_law_1055 ?_
    refine va_sld hx hb hX0 hbl hbA hS (zidx (k := 3) hi hL rfl (by decide)) dL_law_1056 ?_
    refine lv_aload_n hx hb dL_law_1057 rfl (lv_at hl 0 rfl) ?_
    refine lv_iload_n hx hb dL_law_1058 rfl (lv_at hl 3 rfl) ?_
    refine lv_iconst (v := (4 : Int32)) hx hb dL_law_1059 (by decide) ?_
    refine lv_iadd hx hb dL_law_1060 ?_
    refine va_sld hx hb hX0 hbl hbA hS (zidx (k := 4) hi hL rfl (by decide)) dL_law_1061 ?_
    refine lv_if_eq (tgt := 1069) hx hb dL_law_1062 (by decide) (fun hc11 => ?_) (fun hc11 => ?_)
    ·
      refine lv_iconst (v := (0 : Int32)) hx hb dL_law_1069 (by decide) ?_
      refine gm_trade [] ⟨Nat.le_trans e1 hcs.1, Nat.le_trans e2 hcs.2⟩ C0 hbx hbm hK hO hG hS hl.1 (Nat.le_of_ble_eq_true rfl) kmL_105 dL_law_1070 (fun r2 M' H locs hm1 hG2 hS2 => ?_)
      obtain rfl := hm1
      have hG := hG2
      have hS := hS2
      refine lv_pop hx hb dL_law_1073 rfl ?_
      refine lv_goto (tgt := 1647) hx hb dL_law_1074 (by decide) ?_
      exact kk _ _ _ _ _ _ _ _ _ e1 e2 hR hG hS
    ·
      refine lv_iconst (v := (1 : Int32)) hx hb dL_law_1065 (by decide) ?_
      refine lv_goto (tgt := 1070) hx hb dL_law_1066 (by decide) ?_
      refine gm_trade [] ⟨Nat.le_trans e1 hcs.1, Nat.le_trans e2 hcs.2⟩ C0 hbx hbm hK hO hG hS hl.1 (Nat.le_of_ble_eq_true rfl) kmL_105 dL_law_1070 (fun r2 M' H locs hm1 hG2 hS2 => ?_)
      obtain rfl := hm1
      have hG := hG2
      have hS := hS2
      refine lv_pop hx hb dL_law_1073 rfl ?_
      refine lv_goto (tgt := 1647) hx hb dL_law_1074 (by decide) ?_
      exact kk _ _ _ _ _ _ _ _ _ e1 e2 hR hG hS
  ·
    refine lv_iconst (v := (1 : Int32)) hx hb dL_law_1032 (by decide) ?_
    refine lv_goto (tgt := 1037) hx hb dL_law_1033 (by decide) ?_
    have hB0 := tB_of hG.2.2.2.1
    have hI0 := tBI_of hG.2.2.1
    refine gx_trade [] hcs C0 hbx hbm hK hO hG hS hl.1 (Nat.le_of_ble_eq_true rfl) kmL_101 dL_law_1037 (fun r1 mi' ko' T' I' H locs cells' slots' hx1 e1 e2 hG1 hS1 => ?_)
    obtain ⟨rfl, rfl, rfl⟩ := hx1
    have hG := hG1
    have hS := hS1
    refine lv_pop hx hb dL_law_1040 rfl ?_
    refine lv_aload_n hx hb dL_law_1041 rfl (lv_at hl 2 rfl) ?_
    refine lv_aload_n hx hb dL_law_1042 rfl (lv_at hl 0 rfl) ?_
    refine lv_iload_n hx hb dL_law_1043 rfl (lv_at hl 3 rfl) ?_
    refine lv_iconst (v := (1 : Int32)) hx hb dL_law_1044 (by decide) ?_
    refine lv_iadd hx hb dL_law_1045 ?_
    refine va_sld hx hb hX0 hbl hbA hS (zidx (k := 1) hi hL rfl (by decide)) dL_law_1046 ?_
    refine lv_aload_n hx hb dL_law_1047 rfl (lv_at hl 0 rfl) ?_
    refine lv_iload_n hx hb dL_law_1048 rfl (lv_at hl 3 rfl) ?_
    refine lv_iconst (v := (2 : Int32)) hx hb dL_law_1049 (by decide) ?_
    refine lv_iadd hx hb dL_law_1050 ?_
    refine va_sld hx hb hX0 hbl hbA hS (zidx (k := 2) hi hL rfl (by decide)) dL_law_1051 ?_
    refine lv_aload_n hx hb dL_law_1052 rfl (lv_at hl 0 rfl) ?_
    refine lv_iload_n hx hb dL_law_1053 rfl (lv_at hl 3 rfl) ?_
    refine lv_iconst (v := (3 : Int32)) hx hb dL_law_1054 (by decide) ?_
    refine lv_iadd hx hb dL_law_1055 ?_
    refine va_sld hx hb hX0 hbl hbA hS (zidx (k := 3) hi hL rfl (by decide)) dL_law_1056 ?_
    refine lv_aload_n hx hb dL_law_1057 rfl (lv_at hl 0 rfl) ?_
    refine lv_iload_n hx hb dL_law_1058 rfl (lv_at hl 3 rfl) ?_
    refine lv_iconst (v := (4 : Int32)) hx hb dL_law_1059 (by decide) ?_
    refine lv_iadd hx hb dL_law_1060 ?_
    refine va_sld hx hb hX0 hbl hbA hS (zidx (k := 4) hi hL rfl (by decide)) dL_law_1061 ?_
    refine lv_if_eq (tgt := 1069) hx hb dL_law_1062 (by decide) (fun hc11 => ?_) (fun hc11 => ?_)
    ·
      refine lv_iconst (v := (0 : Int32)) hx hb dL_law_1069 (by decide) ?_
      refine gm_trade [] ⟨Nat.le_trans e1 hcs.1, Nat.le_trans e2 hcs.2⟩ C0 hbx hbm hK hO hG hS hl.1 (Nat.le_of_ble_eq_true rfl) kmL_105 dL_law_1070 (fun r2 M' H locs hm1 hG2 hS2 => ?_)
      obtain rfl := hm1
      have hG := hG2
      have hS := hS2
      refine lv_pop hx hb dL_law_1073 rfl ?_
      refine lv_goto (tgt := 1647) hx hb dL_law_1074 (by decide) ?_
      exact kk _ _ _ _ _ _ _ _ _ e1 e2 hR hG hS
    ·
      refine lv_iconst (v := (1 : Int32)) hx hb dL_law_1065 (by decide) ?_
      refine lv_goto (tgt := 1070) hx hb dL_law_1066 (by decide) ?_
      refine gm_trade [] ⟨Nat.le_trans e1 hcs.1, Nat.le_trans e2 hcs.2⟩ C0 hbx hbm hK hO hG hS hl.1 (Nat.le_of_ble_eq_true rfl) kmL_105 dL_law_1070 (fun r2 M' H locs hm1 hG2 hS2 => ?_)
      obtain rfl := hm1
      have hG := hG2
      have hS := hS2
      refine lv_pop hx hb dL_law_1073 rfl ?_
      refine lv_goto (tgt := 1647) hx hb dL_law_1074 (by decide) ?_
      exact kk _ _ _ _ _ _ _ _ _ e1 e2 hR hG hS

set_option maxRecDepth 40000 in
set_option maxHeartbeats 4000000 in
theorem g_21 {p : Program} {l : Launch} {e : Env} {s : State} {m : MethodId} {below : List Frame} {meth : Method} {c : Code} {E : zE} {G : zG} {b L i bx bm cells slots : Nat} {xs : Nat → Int32} {mi : Nat → Option Nat} {ko : Option Nat} {T : TT} {M : Nat → Nat → Int32} {I : Nat → TT} {H : Heap} {locs : List Loc} {ls : Array Slot} (hi : i + 6 ≤ L) (hL : L ≤ 3072) (hR : RG T M I mi) (hcs : cells + 47 ≤ room_1.cells ∧ slots + 4608 ≤ room_1.slots) (C0 : lw_At p s m meth c b L xs) (hbx : s.heap.size ≤ bx) (hbm : bx + 93 ≤ bm) (hK : zK E s) (hO : zO s ∧ zZ G (fun q => s.heap.size ≤ q) s s.heap) (hG : GG E bx bm mi ko T M I H) (hS : va_S (fun q => s.heap.size ≤ q) s.heap H locs) (hl : lv_has ls 4 [(0, .ref b), (1, .ref bx), (2, .ref bm), (3, .int (nI i))])
    (kk : ∀ (mi : Nat → Option Nat) (ko : Option Nat) (T : TT) (M : Nat → Nat → Int32) (I : Nat → TT) (H : Heap) (locs : List Loc) (cells' slots' : Nat), cells' ≤ cells + 47 → slots' ≤ slots + 4608 → RG T M I mi → GG E bx bm mi ko T M I H → va_S (fun q => s.heap.size ≤ q) s.heap H locs → W p l e room_1 s m #[Value.ref b] below meth c H locs cells' slots' (lw_Z below #[Value.ref b] s) (F0 m 1647 ls [])) : W p l e room_1 s m #[Value.ref b] below meth c H locs cells slots (lw_Z below #[Value.ref b] s) (F0 m 1077 ls []) := by
  obtain ⟨hx, hb, hr, hml, hown, hts, hX0, hbl, hlocks, hgv⟩ := id C0
  have zc : zC p s m #[Value.ref b] meth c cL_law 4 RL ret := ⟨hx, hb, hml, hown, fun w hw => hts w (zb_in hw), hr, hlocks⟩
  have hbA : ¬ (fun q : Nat => s.heap.size ≤ q) b := Nat.not_le.mpr hbl
  refine lv_aload_n hx hb dL_law_1077 rfl (lv_at hl 1 rfl) ?_
  refine lv_aload_n hx hb dL_law_1078 rfl (lv_at hl 0 rfl) ?_
  refine lv_iload_n hx hb dL_law_1079 rfl (lv_at hl 3 rfl) ?_
  refine lv_iconst (v := (1 : Int32)) hx hb dL_law_1080 (by decide) ?_
  refine lv_iadd hx hb dL_law_1081 ?_
  refine va_sld hx hb hX0 hbl hbA hS (zidx (k := 1) hi hL rfl (by decide)) dL_law_1082 ?_
  refine lv_aload_n hx hb dL_law_1083 rfl (lv_at hl 0 rfl) ?_
  refine lv_iload_n hx hb dL_law_1084 rfl (lv_at hl 3 rfl) ?_
  refine lv_iconst (v := (2 : Int32)) hx hb dL_law_1085 (by decide) ?_
  refine lv_iadd hx hb dL_law_1086 ?_
  refine va_sld hx hb hX0 hbl hbA hS (zidx (k := 2) hi hL rfl (by decide)) dL_law_1087 ?_
  refine lv_aload_n hx hb dL_law_1088 rfl (lv_at hl 0 rfl) ?_
  refine lv_iload_n hx hb dL_law_1089 rfl (lv_at hl 3 rfl) ?_
  refine lv_iconst (v := (3 : Int32)) hx hb dL_law_1090 (by decide) ?_
  refine lv_iadd hx hb dL_law_1091 ?_
  refine va_sld hx hb hX0 hbl hbA hS (zidx (k := 3) hi hL rfl (by decide)) dL_law_1092 ?_
  have hB0 := tB_of hG.2.2.2.1
  have hI0 := tBI_of hG.2.2.1
  refine gx_odds [] hcs C0 hbx hbm hK hO hG hS hl.1 (Nat.le_of_ble_eq_true rfl) kmL_106 dL_law_1093 (fun r1 mi' ko' T' I' H locs cells' slots' hx1 e1 e2 hG1 hS1 => ?_)
  obtain ⟨rfl, rfl, rfl⟩ := hx1
  have hG := hG1
  have hS := hS1
  refine lv_pop2_2 hx hb dL_law_1096 rfl ?_
  refine lv_aload_n hx hb dL_law_1097 rfl (lv_at hl 2 rfl) ?_
  refine lv_aload_n hx hb dL_law_1098 rfl (lv_at hl 0 rfl) ?_
  refine lv_iload_n hx hb dL_law_1099 rfl (lv_at hl 3 rfl) ?_
  refine lv_iconst (v := (1 : Int32)) hx hb dL_law_1100 (by decide) ?_
  refine lv_iadd hx hb dL_law_1101 ?_
  refine va_sld hx hb hX0 hbl hbA hS (zidx (k := 1) hi hL rfl (by decide)) dL_law_1102 ?_
  refine lv_aload_n hx hb dL_law_1103 rfl (lv_at hl 0 rfl) ?_
  refine lv_iload_n hx hb dL_law_1104 rfl (lv_at hl 3 rfl) ?_
  refine lv_iconst (v := (2 : Int32)) hx hb dL_law_1105 (by decide) ?_
  refine lv_iadd hx hb dL_law_1106 ?_
  refine va_sld hx hb hX0 hbl hbA hS (zidx (k := 2) hi hL rfl (by decide)) dL_law_1107 ?_
  refine lv_aload_n hx hb dL_law_1108 rfl (lv_at hl 0 rfl) ?_
  refine lv_iload_n hx hb dL_law_1109 rfl (lv_at hl 3 rfl) ?_
  refine lv_iconst (v := (3 : Int32)) hx hb dL_law_1110 (by decide) ?_
  refine lv_iadd hx hb dL_law_1111 ?_
  refine va_sld hx hb hX0 hbl hbA hS (zidx (k := 3) hi hL rfl (by decide)) dL_law_1112 ?_
  refine gm_odds [] ⟨Nat.le_trans e1 hcs.1, Nat.le_trans e2 hcs.2⟩ C0 hbx hbm hK hO hG hS hl.1 (Nat.le_of_ble_eq_true rfl) kmL_110 dL_law_1113 (fun r2 M' H locs hm1 hG2 hS2 => ?_)
  obtain rfl := hm1
  have hG := hG2
  have hS := hS2
  refine lv_pop2_2 hx hb dL_law_1116 rfl ?_
  refine lv_goto (tgt := 1647) hx hb dL_law_1117 (by decide) ?_
  exact kk _ _ _ _ _ _ _ _ _ e1 e2 hR hG hS
end
section
set_option maxRecDepth 40000 in
set_option maxHeartbeats 4000000 in
theorem g_22 {p : Program} {l : Launch} {e : Env} {s : State} {m : MethodId} {below : List Frame} {meth : Method} {c : Code} {E : zE} {G : zG} {b L i bx bm cells slots : Nat} {xs : Nat → Int32} {mi : Nat → Option Nat} {ko : Option Nat} {T : TT} {M : Nat → Nat → Int32} {I : Nat → TT} {H : Heap} {locs : List Loc} {ls : Array Slot} (hi : i + 6 ≤ L) (hL : L ≤ 3072) (hR : RG T M I mi) (hcs : cells + 47 ≤ room_1.cells ∧ slots + 4608 ≤ room_1.slots) (C0 : lw_At p s m meth c b L xs) (hbx : s.heap.size ≤ bx) (hbm : bx + 93 ≤ bm) (hK : zK E s) (hO : zO s ∧ zZ G (fun q => s.heap.size ≤ q) s s.heap) (hG : GG E bx bm mi ko T M I H) (hS : va_S (fun q => s.heap.size ≤ q) s.heap H locs) (hl : lv_has ls 4 [(0, .ref b), (1, .ref bx), (2, .ref bm), (3, .int (nI i))])
    (kk : ∀ (mi : Nat → Option Nat) (ko : Option Nat) (T : TT) (M : Nat → Nat → Int32) (I : Nat → TT) (H : Heap) (locs : List Loc) (cells' slots' : Nat), cells' ≤ cells + 47 → slots' ≤ slots + 4608 → RG T M I mi → GG E bx bm mi ko T M I H → va_S (fun q => s.heap.size ≤ q) s.heap H locs → W p l e room_1 s m #[Value.ref b] below meth c H locs cells' slots' (lw_Z below #[Value.ref b] s) (F0 m 1647 ls [])) : W p l e room_1 s m #[Value.ref b] below meth c H locs cells slots (lw_Z below #[Value.ref b] s) (F0 m 1120 ls []) := by
  obtain ⟨hx, hb, hr, hml, hown, hts, hX0, hbl, hlocks, hgv⟩ := id C0
  have zc : zC p s m #[Value.ref b] meth c cL_law 4 RL ret := ⟨hx, hb, hml, hown, fun w hw => hts w (zb_in hw), hr, hlocks⟩
  have hbA : ¬ (fun q : Nat => s.heap.size ≤ q) b := Nat.not_le.mpr hbl
  refine lv_aload_n hx hb dL_law_1120 rfl (lv_at hl 1 rfl) ?_
  refine lv_aload_n hx hb dL_law_1121 rfl (lv_at hl 0 rfl) ?_
  refine lv_iload_n hx hb dL_law_1122 rfl (lv_at hl 3 rfl) ?_
  refine lv_iconst (v := (1 : Int32)) hx hb dL_law_1123 (by decide) ?_
  refine lv_iadd hx hb dL_law_1124 ?_
  refine va_sld hx hb hX0 hbl hbA hS (zidx (k := 1) hi hL rfl (by decide)) dL_law_1125 ?_
  refine lv_aload_n hx hb dL_law_1126 rfl (lv_at hl 0 rfl) ?_
  refine lv_iload_n hx hb dL_law_1127 rfl (lv_at hl 3 rfl) ?_
  refine lv_iconst (v := (2 : Int32)) hx hb dL_law_1128 (by decide) ?_
  refine lv_iadd hx hb dL_law_1129 ?_
  refine va_sld hx hb hX0 hbl hbA hS (zidx (k := 2) hi hL rfl (by decide)) dL_law_1130 ?_
  refine lv_aload_n hx hb dL_law_1131 rfl (lv_at hl 0 rfl) ?_
  refine lv_iload_n hx hb dL_law_1132 rfl (lv_at hl 3 rfl) ?_
  refine lv_iconst (v := (3 : Int32)) hx hb dL_law_1133 (by decide) ?_
  refine lv_iadd hx hb dL_law_1134 ?_
  refine va_sld hx hb hX0 hbl hbA hS (zidx (k := 3) hi hL rfl (by decide)) dL_law_1135 ?_
  refine lv_aload_n hx hb dL_law_1136 rfl (lv_at hl 0 rfl) ?_
  refine lv_iload_n hx hb dL_law_1137 rfl (lv_at hl 3 rfl) ?_
  refine lv_iconst (v := (4 : Int32)) hx hb dL_law_1138 (by decide) ?_
  refine lv_iadd hx hb dL_law_1139 ?_
  refine va_sld hx hb hX0 hbl hbA hS (zidx (k := 4) hi hL rfl (by decide)) dL_law_1140 ?_
  have hB0 := tB_of hG.2.2.2.1
  have hI0 := tBI_of hG.2.2.1
  refine gx_drawn [] hcs C0 hbx hbm hK hO hG hS hl.1 (Nat.le_of_ble_eq_true rfl) kmL_111 dL_law_1141 (fun r1 mi' ko' T' I' H locs cells' slots' hx1 e1 e2 hG1 hS1 => ?_)
  obtain ⟨rfl, rfl, rfl⟩ := hx1
  have hG := hG1
  have hS := hS1
  refine lv_pop hx hb dL_law_1144 rfl ?_
  refine lv_aload_n hx hb dL_law_1145 rfl (lv_at hl 2 rfl) ?_
  refine lv_aload_n hx hb dL_law_1146 rfl (lv_at hl 0 rfl) ?_
  refine lv_iload_n hx hb dL_law_1147 rfl (lv_at hl 3 rfl) ?_
  refine lv_iconst (v := (1 : Int32)) hx hb dL_law_1148 (by decide) ?_
  refine lv_iadd hx hb dL_law_1149 ?_
  refine va_sld hx hb hX0 hbl hbA hS (zidx (k := 1) hi hL rfl (by decide)) dL_law_1150 ?_
  refine lv_aload_n hx hb dL_law_1151 rfl (lv_at hl 0 rfl) ?_
  refine lv_iload_n hx hb dL_law_1152 rfl (lv_at hl 3 rfl) ?_
  refine lv_iconst (v := (2 : Int32)) hx hb dL_law_1153 (by decide) ?_
  refine lv_iadd hx hb dL_law_1154 ?_
  refine va_sld hx hb hX0 hbl hbA hS (zidx (k := 2) hi hL rfl (by decide)) dL_law_1155 ?_
  refine lv_aload_n hx hb dL_law_1156 rfl (lv_at hl 0 rfl) ?_
  refine lv_iload_n hx hb dL_law_1157 rfl (lv_at hl 3 rfl) ?_
  refine lv_iconst (v := (3 : Int32)) hx hb dL_law_1158 (by decide) ?_
  refine lv_iadd hx hb dL_law_1159 ?_
  refine va_sld hx hb hX0 hbl hbA hS (zidx (k := 3) hi hL rfl (by decide)) dL_law_1160 ?_
  refine lv_aload_n hx hb dL_law_1161 rfl (lv_at hl 0 rfl) ?_
  refine lv_iload_n hx hb dL_law_1162 rfl (lv_at hl 3 rfl) ?_
  refine lv_iconst (v := (4 : Int32)) hx hb dL_law_1163 (by decide) ?_
  refine lv_iadd hx hb dL_law_1164 ?_
  refine va_sld hx hb hX0 hbl hbA hS (zidx (k := 4) hi hL rfl (by decide)) dL_law_1165 ?_
  refine gm_drawn [] ⟨Nat.le_trans e1 hcs.1, Nat.le_trans e2 hcs.2⟩ C0 hbx hbm hK hO hG hS hl.1 (Nat.le_of_ble_eq_true rfl) kmL_114 dL_law_1166 (fun r2 M' H locs hm1 hG2 hS2 => ?_)
  obtain rfl := hm1
  have hG := hG2
  have hS := hS2
  refine lv_pop hx hb dL_law_1169 rfl ?_
  refine lv_goto (tgt := 1647) hx hb dL_law_1170 (by decide) ?_
  exact kk _ _ _ _ _ _ _ _ _ e1 e2 hR hG hS

set_option maxRecDepth 40000 in
set_option maxHeartbeats 4000000 in
theorem g_23 {p : Program} {l : Launch} {e : Env} {s : State} {m : MethodId} {below : List Frame} {meth : Method} {c : Code} {E : zE} {G : zG} {b L i bx bm cells slots : Nat} {xs : Nat → Int32} {mi : Nat → Option Nat} {ko : Option Nat} {T : TT} {M : Nat → Nat → Int32} {I : Nat → TT} {H : Heap} {locs : List Loc} {ls : Array Slot} (hi : i + 6 ≤ L) (hL : L ≤ 3072) (hR : RG T M I mi) (hcs : cells + 47 ≤ room_1.cells ∧ slots + 4608 ≤ room_1.slots) (C0 : lw_At p s m meth c b L xs) (hbx : s.heap.size ≤ bx) (hbm : bx + 93 ≤ bm) (hK : zK E s) (hO : zO s ∧ zZ G (fun q => s.heap.size ≤ q) s s.heap) (hG : GG E bx bm mi ko T M I H) (hS : va_S (fun q => s.heap.size ≤ q) s.heap H locs) (hl : lv_has ls 4 [(0, .ref b), (1, .ref bx), (2, .ref bm), (3, .int (nI i))])
    (kk : ∀ (mi : Nat → Option Nat) (ko : Option Nat) (T : TT) (M : Nat → Nat → Int32) (I : Nat → TT) (H : Heap) (locs : List Loc) (cells' slots' : Nat), cells' ≤ cells + 47 → slots' ≤ slots + 4608 → RG T M I mi → GG E bx bm mi ko T M I H → va_S (fun q => s.heap.size ≤ q) s.heap H locs → W p l e room_1 s m #[Value.ref b] below meth c H locs cells' slots' (lw_Z below #[Value.ref b] s) (F0 m 1647 ls [])) : W p l e room_1 s m #[Value.ref b] below meth c H locs cells slots (lw_Z below #[Value.ref b] s) (F0 m 1173 ls []) := by
  obtain ⟨hx, hb, hr, hml, hown, hts, hX0, hbl, hlocks, hgv⟩ := id C0
  have zc : zC p s m #[Value.ref b] meth c cL_law 4 RL ret := ⟨hx, hb, hml, hown, fun w hw => hts w (zb_in hw), hr, hlocks⟩
  have hbA : ¬ (fun q : Nat => s.heap.size ≤ q) b := Nat.not_le.mpr hbl
  refine lv_aload_n hx hb dL_law_1173 rfl (lv_at hl 1 rfl) ?_
  refine lv_aload_n hx hb dL_law_1174 rfl (lv_at hl 0 rfl) ?_
  refine lv_iload_n hx hb dL_law_1175 rfl (lv_at hl 3 rfl) ?_
  refine lv_iconst (v := (1 : Int32)) hx hb dL_law_1176 (by decide) ?_
  refine lv_iadd hx hb dL_law_1177 ?_
  refine va_sld hx hb hX0 hbl hbA hS (zidx (k := 1) hi hL rfl (by decide)) dL_law_1178 ?_
  refine lv_aload_n hx hb dL_law_1179 rfl (lv_at hl 0 rfl) ?_
  refine lv_iload_n hx hb dL_law_1180 rfl (lv_at hl 3 rfl) ?_
  refine lv_iconst (v := (2 : Int32)) hx hb dL_law_1181 (by decide) ?_
  refine lv_iadd hx hb dL_law_1182 ?_
  refine va_sld hx hb hX0 hbl hbA hS (zidx (k := 2) hi hL rfl (by decide)) dL_law_1183 ?_
  refine lv_aload_n hx hb dL_law_1184 rfl (lv_at hl 0 rfl) ?_
  refine lv_iload_n hx hb dL_law_1185 rfl (lv_at hl 3 rfl) ?_
  refine lv_iconst (v := (3 : Int32)) hx hb dL_law_1186 (by decide) ?_
  refine lv_iadd hx hb dL_law_1187 ?_
  refine va_sld hx hb hX0 hbl hbA hS (zidx (k := 3) hi hL rfl (by decide)) dL_law_1188 ?_
  refine lv_aload_n hx hb dL_law_1189 rfl (lv_at hl 0 rfl) ?_
  refine lv_iload_n hx hb dL_law_1190 rfl (lv_at hl 3 rfl) ?_
  refine lv_iconst (v := (4 : Int32)) hx hb dL_law_1191 (by decide) ?_
  refine lv_iadd hx hb dL_law_1192 ?_
  refine va_sld hx hb hX0 hbl hbA hS (zidx (k := 4) hi hL rfl (by decide)) dL_law_1193 ?_
  have hB0 := tB_of hG.2.2.2.1
  have hI0 := tBI_of hG.2.2.1
  refine gx_psalm [] hcs C0 hbx hbm hK hO hG hS hl.1 (Nat.le_of_ble_eq_true rfl) kmL_115 dL_law_1194 (fun r1 mi' ko' T' I' H locs cells' slots' hx1 e1 e2 hG1 hS1 => ?_)
  obtain ⟨rfl, rfl, rfl⟩ := hx1
  have hG := hG1
  have hS := hS1
  refine lv_pop hx hb dL_law_1197 rfl ?_
  refine lv_aload_n hx hb dL_law_1198 rfl (lv_at hl 2 rfl) ?_
  refine lv_aload_n hx hb dL_law_1199 rfl (lv_at hl 0 rfl) ?_
  refine lv_iload_n hx hb dL_law_1200 rfl (lv_at hl 3 rfl) ?_
  refine lv_iconst (v := (1 : Int32)) hx hb dL_law_1201 (by decide) ?_
  refine lv_iadd hx hb dL_law_1202 ?_
  refine va_sld hx hb hX0 hbl hbA hS (zidx (k := 1) hi hL rfl (by decide)) dL_law_1203 ?_
  refine lv_aload_n hx hb dL_law_1204 rfl (lv_at hl 0 rfl) ?_
  refine lv_iload_n hx hb dL_law_1205 rfl (lv_at hl 3 rfl) ?_
  refine lv_iconst (v := (2 : Int32)) hx hb dL_law_1206 (by decide) ?_
  refine lv_iadd hx hb dL_law_1207 ?_
  refine va_sld hx hb hX0 hbl hbA hS (zidx (k := 2) hi hL rfl (by decide)) dL_law_1208 ?_
  refine lv_aload_n hx hb dL_law_1209 rfl (lv_at hl 0 rfl) ?_
  refine lv_iload_n hx hb dL_law_1210 rfl (lv_at hl 3 rfl) ?_
  refine lv_iconst (v := (3 : Int32)) hx hb dL_law_1211 (by decide) ?_
  refine lv_iadd hx hb dL_law_1212 ?_
  refine va_sld hx hb hX0 hbl hbA hS (zidx (k := 3) hi hL rfl (by decide)) dL_law_1213 ?_
  refine lv_aload_n hx hb dL_law_1214 rfl (lv_at hl 0 rfl) ?_
  refine lv_iload_n hx hb dL_law_1215 rfl (lv_at hl 3 rfl) ?_
  refine lv_iconst (v := (4 : Int32)) hx hb dL_law_1216 (by decide) ?_
  refine lv_iadd hx hb dL_law_1217 ?_
  refine va_sld hx hb hX0 hbl hbA hS (zidx (k := 4) hi hL rfl (by decide)) dL_law_1218 ?_
  refine gm_psalm [] ⟨Nat.le_trans e1 hcs.1, Nat.le_trans e2 hcs.2⟩ C0 hbx hbm hK hO hG hS hl.1 (Nat.le_of_ble_eq_true rfl) kmL_118 dL_law_1219 (fun r2 M' H locs hm1 hG2 hS2 => ?_)
  obtain rfl := hm1
  have hG := hG2
  have hS := hS2
  refine lv_pop hx hb dL_law_1222 rfl ?_
  refine lv_goto (tgt := 1647) hx hb dL_law_1223 (by decide) ?_
  exact kk _ _ _ _ _ _ _ _ _ e1 e2 hR hG hS

set_option maxRecDepth 40000 in
set_option maxHeartbeats 4000000 in
theorem g_24 {p : Program} {l : Launch} {e : Env} {s : State} {m : MethodId} {below : List Frame} {meth : Method} {c : Code} {E : zE} {G : zG} {b L i bx bm cells slots : Nat} {xs : Nat → Int32} {mi : Nat → Option Nat} {ko : Option Nat} {T : TT} {M : Nat → Nat → Int32} {I : Nat → TT} {H : Heap} {locs : List Loc} {ls : Array Slot} (hi : i + 6 ≤ L) (hL : L ≤ 3072) (hR : RG T M I mi) (hcs : cells + 47 ≤ room_1.cells ∧ slots + 4608 ≤ room_1.slots) (C0 : lw_At p s m meth c b L xs) (hbx : s.heap.size ≤ bx) (hbm : bx + 93 ≤ bm) (hK : zK E s) (hO : zO s ∧ zZ G (fun q => s.heap.size ≤ q) s s.heap) (hG : GG E bx bm mi ko T M I H) (hS : va_S (fun q => s.heap.size ≤ q) s.heap H locs) (hl : lv_has ls 4 [(0, .ref b), (1, .ref bx), (2, .ref bm), (3, .int (nI i))])
    (kk : ∀ (mi : Nat → Option Nat) (ko : Option Nat) (T : TT) (M : Nat → Nat → Int32) (I : Nat → TT) (H : Heap) (locs : List Loc) (cells' slots' : Nat), cells' ≤ cells + 47 → slots' ≤ slots + 4608 → RG T M I mi → GG E bx bm mi ko T M I H → va_S (fun q => s.heap.size ≤ q) s.heap H locs → W p l e room_1 s m #[Value.ref b] below meth c H locs cells' slots' (lw_Z below #[Value.ref b] s) (F0 m 1647 ls [])) : W p l e room_1 s m #[Value.ref b] below meth c H locs cells slots (lw_Z below #[Value.ref b] s) (F0 m 1226 ls []) := by
  obtain ⟨hx, hb, hr, hml, hown, hts, hX0, hbl, hlocks, hgv⟩ := id C0
  have zc : zC p s m #[Value.ref b] meth c cL_law 4 RL ret := ⟨hx, hb, hml, hown, fun w hw => hts w (zb_in hw), hr, hlocks⟩
  have hbA : ¬ (fun q : Nat => s.heap.size ≤ q) b := Nat.not_le.mpr hbl
  refine lv_aload_n hx hb dL_law_1226 rfl (lv_at hl 1 rfl) ?_
  refine lv_aload_n hx hb dL_law_1227 rfl (lv_at hl 0 rfl) ?_
  refine lv_iload_n hx hb dL_law_1228 rfl (lv_at hl 3 rfl) ?_
  refine lv_iconst (v := (1 : Int32)) hx hb dL_law_1229 (by decide) ?_
  refine lv_iadd hx hb dL_law_1230 ?_
  refine va_sld hx hb hX0 hbl hbA hS (zidx (k := 1) hi hL rfl (by decide)) dL_law_1231 ?_
  refine lv_aload_n hx hb dL_law_1232 rfl (lv_at hl 0 rfl) ?_
  refine lv_iload_n hx hb dL_law_1233 rfl (lv_at hl 3 rfl) ?_
  refine lv_iconst (v := (2 : Int32)) hx hb dL_law_1234 (by decide) ?_
  refine lv_iadd hx hb dL_law_1235 ?_
  refine va_sld hx hb hX0 hbl hbA hS (zidx (k := 2) hi hL rfl (by decide)) dL_law_1236 ?_
  refine lv_aload_n hx hb dL_law_1237 rfl (lv_at hl 0 rfl) ?_
  refine lv_iload_n hx hb dL_law_1238 rfl (lv_at hl 3 rfl) ?_
  refine lv_iconst (v := (3 : Int32)) hx hb dL_law_1239 (by decide) ?_
  refine lv_iadd hx hb dL_law_1240 ?_
  refine va_sld hx hb hX0 hbl hbA hS (zidx (k := 3) hi hL rfl (by decide)) dL_law_1241 ?_
  refine lv_aload_n hx hb dL_law_1242 rfl (lv_at hl 0 rfl) ?_
  refine lv_iload_n hx hb dL_law_1243 rfl (lv_at hl 3 rfl) ?_
  refine lv_iconst (v := (4 : Int32)) hx hb dL_law_1244 (by decide) ?_
  refine lv_iadd hx hb dL_law_1245 ?_
  refine va_sld hx hb hX0 hbl hbA hS (zidx (k := 4) hi hL rfl (by decide)) dL_law_1246 ?_
  refine lv_if_eq (tgt := 1254) hx hb dL_law_1247 (by decide) (fun hc0 => ?_) (fun hc0 => ?_)
  ·
    refine lv_iconst (v := (0 : Int32)) hx hb dL_law_1254 (by decide) ?_
    have hB0 := tB_of hG.2.2.2.1
    have hI0 := tBI_of hG.2.2.1
    refine gx_meet [] hcs C0 hbx hbm hK hO hG hS hl.1 (Nat.le_of_ble_eq_true rfl) kmL_119 dL_law_1255 (fun r1 mi' ko' T' I' H locs cells' slots' hx1 e1 e2 hG1 hS1 => ?_)
    obtain ⟨rfl, rfl, rfl⟩ := hx1
    have hG := hG1
    have hS := hS1
    refine lv_pop hx hb dL_law_1258 rfl ?_
    refine lv_aload_n hx hb dL_law_1259 rfl (lv_at hl 2 rfl) ?_
    refine lv_aload_n hx hb dL_law_1260 rfl (lv_at hl 0 rfl) ?_
    refine lv_iload_n hx hb dL_law_1261 rfl (lv_at hl 3 rfl) ?_
    refine lv_iconst (v := (1 : Int32)) hx hb dL_law_1262 (by decide) ?_
    refine lv_iadd hx hb dL_law_1263 ?_
    refine va_sld hx hb hX0 hbl hbA hS (zidx (k := 1) hi hL rfl (by decide)) dL_law_1264 ?_
    refine lv_aload_n hx hb dL_law_1265 rfl (lv_at hl 0 rfl) ?_
    refine lv_iload_n hx hb dL_law_1266 rfl (lv_at hl 3 rfl) ?_
    refine lv_iconst (v := (2 : Int32)) hx hb dL_law_1267 (by decide) ?_
    refine lv_iadd hx hb dL_law_1268 ?_
    refine va_sld hx hb hX0 hbl hbA hS (zidx (k := 2) hi hL rfl (by decide)) dL_law_1269 ?_
    refine lv_aload_n hx hb dL_law_1270 rfl (lv_at hl 0 rfl) ?_
    refine lv_iload_n hx hb dL_law_1271 rfl (lv_at hl 3 rfl) ?_
    refine lv_iconst (v := (3 : Int32)) hx hb dL_law_1272 (by decide) ?_
    refine lv_iadd hx hb dL_law_1273 ?_
    refine va_sld hx hb hX0 hbl hbA hS (zidx (k := 3) hi hL rfl (by decide)) dL_law_1274 ?_
    refine lv_aload_n hx hb dL_law_1275 rfl (lv_at hl 0 rfl) ?_
    refine lv_iload_n hx hb dL_law_1276 rfl (lv_at hl 3 rfl) ?_
    refine lv_iconst (v := (4 : Int32)) hx hb dL_law_1277 (by decide) ?_
    refine lv_iadd hx hb dL_law_1278 ?_
    refine va_sld hx hb hX0 hbl hbA hS (zidx (k := 4) hi hL rfl (by decide)) dL_law_1279 ?_
    refine lv_if_eq (tgt := 1287) hx hb dL_law_1280 (by decide) (fun hc11 => ?_) (fun hc11 => ?_)
    ·
      refine lv_iconst (v := (0 : Int32)) hx hb dL_law_1287 (by decide) ?_
      refine gm_meet [] ⟨Nat.le_trans e1 hcs.1, Nat.le_trans e2 hcs.2⟩ C0 hbx hbm hK hO hG hS hl.1 (Nat.le_of_ble_eq_true rfl) kmL_122 dL_law_1288 (fun r2 M' H locs hm1 hG2 hS2 => ?_)
      obtain rfl := hm1
      have hG := hG2
      have hS := hS2
      refine lv_pop hx hb dL_law_1291 rfl ?_
      refine lv_goto (tgt := 1647) hx hb dL_law_1292 (by decide) ?_
      exact kk _ _ _ _ _ _ _ _ _ e1 e2 hR hG hS
    ·
      refine lv_iconst (v := (1 : Int32)) hx hb dL_law_1283 (by decide) ?_
      refine lv_goto (tgt := 1288) hx hb dL_law_1284 (by decide) ?_
      refine gm_meet [] ⟨Nat.le_trans e1 hcs.1, Nat.le_trans e2 hcs.2⟩ C0 hbx hbm hK hO hG hS hl.1 (Nat.le_of_ble_eq_true rfl) kmL_122 dL_law_1288 (fun r2 M' H locs hm1 hG2 hS2 => ?_)
      obtain rfl := hm1
      have hG := hG2
      have hS := hS2
      refine lv_pop hx hb dL_law_1291 rfl ?_
      refine lv_goto (tgt := 1647) hx hb dL_law_1292 (by decide) ?_
      exact kk _ _ _ _ _ _ _ _ _ e1 e2 hR hG hS
  ·
    refine lv_iconst (v := (1 : Int32)) hx hb dL_law_1250 (by decide) ?_
    refine lv_goto (tgt := 1255) hx hb dL_law_1251 (by decide) ?_
    have hB0 := tB_of hG.2.2.2.1
    have hI0 := tBI_of hG.2.2.1
    refine gx_meet [] hcs C0 hbx hbm hK hO hG hS hl.1 (Nat.le_of_ble_eq_true rfl) kmL_119 dL_law_1255 (fun r1 mi' ko' T' I' H locs cells' slots' hx1 e1 e2 hG1 hS1 => ?_)
    obtain ⟨rfl, rfl, rfl⟩ := hx1
    have hG := hG1
    have hS := hS1
    refine lv_pop hx hb dL_law_1258 rfl ?_
    refine lv_aload_n hx hb dL_law_1259 rfl (lv_at hl 2 rfl) ?_
    refine lv_aload_n hx hb dL_law_1260 rfl (lv_at hl 0 rfl) ?_
    refine lv_iload_n hx hb dL_law_1261 rfl (lv_at hl 3 rfl) ?_
    refine lv_iconst (v := (1 : Int32)) hx hb dL_law_1262 (by decide) ?_
    refine lv_iadd hx hb dL_law_1263 ?_
    refine va_sld hx hb hX0 hbl hbA hS (zidx (k := 1) hi hL rfl (by decide)) dL_law_1264 ?_
    refine lv_aload_n hx hb dL_law_1265 rfl (lv_at hl 0 rfl) ?_
    refine lv_iload_n hx hb dL_law_1266 rfl (lv_at hl 3 rfl) ?_
    refine lv_iconst (v := (2 : Int32)) hx hb dL_law_1267 (by decide) ?_
    refine lv_iadd hx hb dL_law_1268 ?_
    refine va_sld hx hb hX0 hbl hbA hS (zidx (k := 2) hi hL rfl (by decide)) dL_law_1269 ?_
    refine lv_aload_n hx hb dL_law_1270 rfl (lv_at hl 0 rfl) ?_
    refine lv_iload_n hx hb dL_law_1271 rfl (lv_at hl 3 rfl) ?_
    refine lv_iconst (v := (3 : Int32)) hx hb dL_law_1272 (by decide) ?_
    refine lv_iadd hx hb dL_law_1273 ?_
    refine va_sld hx hb hX0 hbl hbA hS (zidx (k := 3) hi hL rfl (by decide)) dL_law_1274 ?_
    refine lv_aload_n hx hb dL_law_1275 rfl (lv_at hl 0 rfl) ?_
    refine lv_iload_n hx hb dL_law_1276 rfl (lv_at hl 3 rfl) ?_
    refine lv_iconst (v := (4 : Int32)) hx hb dL_law_1277 (by decide) ?_
    refine lv_iadd hx hb dL_law_1278 ?_
    refine va_sld hx hb hX0 hbl hbA hS (zidx (k := 4) hi hL rfl (by decide)) dL_law_1279 ?_
    refine lv_if_eq (tgt := 1287) hx hb dL_law_1280 (by decide) (fun hc11 => ?_) (fun hc11 => ?_)
    ·
      refine lv_iconst (v := (0 : Int32)) hx hb dL_law_1287 (by decide) ?_
      refine gm_meet [] ⟨Nat.le_trans e1 hcs.1, Nat.le_trans e2 hcs.2⟩ C0 hbx hbm hK hO hG hS hl.1 (Nat.le_of_ble_eq_true rfl) kmL_122 dL_law_1288 (fun r2 M' H locs hm1 hG2 hS2 => ?_)
      obtain rfl := hm1
      have hG := hG2
      have hS := hS2
      refine lv_pop hx hb dL_law_1291 rfl ?_
      refine lv_goto (tgt := 1647) hx hb dL_law_1292 (by decide) ?_
      exact kk _ _ _ _ _ _ _ _ _ e1 e2 hR hG hS
    ·
      refine lv_iconst (v := (1 : Int32)) hx hb dL_law_1283 (by decide) ?_
      refine lv_goto (tgt := 1288) hx hb dL_law_1284 (by decide) ?_
      refine gm_meet [] ⟨Nat.le_trans e1 hcs.1, Nat.le_trans e2 hcs.2⟩ C0 hbx hbm hK hO hG hS hl.1 (Nat.le_of_ble_eq_true rfl) kmL_122 dL_law_1288 (fun r2 M' H locs hm1 hG2 hS2 => ?_)
      obtain rfl := hm1
      have hG := hG2
      have hS := hS2
      refine lv_pop hx hb dL_law_1291 rfl ?_
      refine lv_goto (tgt := 1647) hx hb dL_law_1292 (by decide) ?_
      exact kk _ _ _ _ _ _ _ _ _ e1 e2 hR hG hS

set_option maxRecDepth 40000 in
set_option maxHeartbeats 4000000 in
theorem g_25 {p : Program} {l : Launch} {e : Env} {s : State} {m : MethodId} {below : List Frame} {meth : Method} {c : Code} {E : zE} {G : zG} {b L i bx bm cells slots : Nat} {xs : Nat → Int32} {mi : Nat → Option Nat} {ko : Option Nat} {T : TT} {M : Nat → Nat → Int32} {I : Nat → TT} {H : Heap} {locs : List Loc} {ls : Array Slot} (hi : i + 6 ≤ L) (hL : L ≤ 3072) (hR : RG T M I mi) (hcs : cells + 47 ≤ room_1.cells ∧ slots + 4608 ≤ room_1.slots) (C0 : lw_At p s m meth c b L xs) (hbx : s.heap.size ≤ bx) (hbm : bx + 93 ≤ bm) (hK : zK E s) (hO : zO s ∧ zZ G (fun q => s.heap.size ≤ q) s s.heap) (hG : GG E bx bm mi ko T M I H) (hS : va_S (fun q => s.heap.size ≤ q) s.heap H locs) (hl : lv_has ls 4 [(0, .ref b), (1, .ref bx), (2, .ref bm), (3, .int (nI i))])
    (kk : ∀ (mi : Nat → Option Nat) (ko : Option Nat) (T : TT) (M : Nat → Nat → Int32) (I : Nat → TT) (H : Heap) (locs : List Loc) (cells' slots' : Nat), cells' ≤ cells + 47 → slots' ≤ slots + 4608 → RG T M I mi → GG E bx bm mi ko T M I H → va_S (fun q => s.heap.size ≤ q) s.heap H locs → W p l e room_1 s m #[Value.ref b] below meth c H locs cells' slots' (lw_Z below #[Value.ref b] s) (F0 m 1647 ls [])) : W p l e room_1 s m #[Value.ref b] below meth c H locs cells slots (lw_Z below #[Value.ref b] s) (F0 m 1295 ls []) := by
  obtain ⟨hx, hb, hr, hml, hown, hts, hX0, hbl, hlocks, hgv⟩ := id C0
  have zc : zC p s m #[Value.ref b] meth c cL_law 4 RL ret := ⟨hx, hb, hml, hown, fun w hw => hts w (zb_in hw), hr, hlocks⟩
  have hbA : ¬ (fun q : Nat => s.heap.size ≤ q) b := Nat.not_le.mpr hbl
  refine lv_aload_n hx hb dL_law_1295 rfl (lv_at hl 1 rfl) ?_
  refine lv_aload_n hx hb dL_law_1296 rfl (lv_at hl 0 rfl) ?_
  refine lv_iload_n hx hb dL_law_1297 rfl (lv_at hl 3 rfl) ?_
  refine lv_iconst (v := (1 : Int32)) hx hb dL_law_1298 (by decide) ?_
  refine lv_iadd hx hb dL_law_1299 ?_
  refine va_sld hx hb hX0 hbl hbA hS (zidx (k := 1) hi hL rfl (by decide)) dL_law_1300 ?_
  refine lv_aload_n hx hb dL_law_1301 rfl (lv_at hl 0 rfl) ?_
  refine lv_iload_n hx hb dL_law_1302 rfl (lv_at hl 3 rfl) ?_
  refine lv_iconst (v := (2 : Int32)) hx hb dL_law_1303 (by decide) ?_
  refine lv_iadd hx hb dL_law_1304 ?_
  refine va_sld hx hb hX0 hbl hbA hS (zidx (k := 2) hi hL rfl (by decide)) dL_law_1305 ?_
  refine lv_aload_n hx hb dL_law_1306 rfl (lv_at hl 0 rfl) ?_
  refine lv_iload_n hx hb dL_law_1307 rfl (lv_at hl 3 rfl) ?_
  refine lv_iconst (v := (3 : Int32)) hx hb dL_law_1308 (by decide) ?_
  refine lv_iadd hx hb dL_law_1309 ?_
  refine va_sld hx hb hX0 hbl hbA hS (zidx (k := 3) hi hL rfl (by decide)) dL_law_1310 ?_
  refine lv_if_eq (tgt := 1318) hx hb dL_law_1311 (by decide) (fun hc0 => ?_) (fun hc0 => ?_)
  ·
    refine lv_iconst (v := (0 : Int32)) hx hb dL_law_1318 (by decide) ?_
    have hB0 := tB_of hG.2.2.2.1
    have hI0 := tBI_of hG.2.2.1
    refine gx_carry [] hcs C0 hbx hbm hK hO hG hS hl.1 (Nat.le_of_ble_eq_true rfl) kmL_123 dL_law_1319 (fun r1 mi' ko' T' I' H locs cells' slots' hx1 e1 e2 hG1 hS1 => ?_)
    obtain ⟨rfl, rfl, rfl⟩ := hx1
    have hG := hG1
    have hS := hS1
    refine lv_pop hx hb dL_law_1322 rfl ?_
    refine lv_aload_n hx hb dL_law_1323 rfl (lv_at hl 2 rfl) ?_
    refine lv_aload_n hx hb dL_law_1324 rfl (lv_at hl 0 rfl) ?_
    refine lv_iload_n hx hb dL_law_1325 rfl (lv_at hl 3 rfl) ?_
    refine lv_iconst (v := (1 : Int32)) hx hb dL_law_1326 (by decide) ?_
    refine lv_iadd hx hb dL_law_1327 ?_
    refine va_sld hx hb hX0 hbl hbA hS (zidx (k := 1) hi hL rfl (by decide)) dL_law_1328 ?_
    refine lv_aload_n hx hb dL_law_1329 rfl (lv_at hl 0 rfl) ?_
    refine lv_iload_n hx hb dL_law_1330 rfl (lv_at hl 3 rfl) ?_
    refine lv_iconst (v := (2 : Int32)) hx hb dL_law_1331 (by decide) ?_
    refine lv_iadd hx hb dL_law_1332 ?_
    refine va_sld hx hb hX0 hbl hbA hS (zidx (k := 2) hi hL rfl (by decide)) dL_law_1333 ?_
    refine lv_aload_n hx hb dL_law_1334 rfl (lv_at hl 0 rfl) ?_
    refine lv_iload_n hx hb dL_law_1335 rfl (lv_at hl 3 rfl) ?_
    refine lv_iconst (v := (3 : Int32)) hx hb dL_law_1336 (by decide) ?_
    refine lv_iadd hx hb dL_law_1337 ?_
    refine va_sld hx hb hX0 hbl hbA hS (zidx (k := 3) hi hL rfl (by decide)) dL_law_1338 ?_
    refine lv_if_eq (tgt := 1346) hx hb dL_law_1339 (by decide) (fun hc11 => ?_) (fun hc11 => ?_)
    ·
      refine lv_iconst (v := (0 : Int32)) hx hb dL_law_1346 (by decide) ?_
      refine gm_carry [] ⟨Nat.le_trans e1 hcs.1, Nat.le_trans e2 hcs.2⟩ C0 hbx hbm hK hO hG hS hl.1 (Nat.le_of_ble_eq_true rfl) kmL_126 dL_law_1347 (fun r2 M' H locs hm1 hG2 hS2 => ?_)
      obtain rfl := hm1
      have hG := hG2
      have hS := hS2
      refine lv_pop hx hb dL_law_1350 rfl ?_
      refine lv_goto (tgt := 1647) hx hb dL_law_1351 (by decide) ?_
      exact kk _ _ _ _ _ _ _ _ _ e1 e2 hR hG hS
    ·
      refine lv_iconst (v := (1 : Int32)) hx hb dL_law_1342 (by decide) ?_
      refine lv_goto (tgt := 1347) hx hb dL_law_1343 (by decide) ?_
      refine gm_carry [] ⟨Nat.le_trans e1 hcs.1, Nat.le_trans e2 hcs.2⟩ C0 hbx hbm hK hO hG hS hl.1 (Nat.le_of_ble_eq_true rfl) kmL_126 dL_law_1347 (fun r2 M' H locs hm1 hG2 hS2 => ?_)
      obtain rfl := hm1
      have hG := hG2
      have hS := hS2
      refine lv_pop hx hb dL_law_1350 rfl ?_
      refine lv_goto (tgt := 1647) hx hb dL_law_1351 (by decide) ?_
      exact kk _ _ _ _ _ _ _ _ _ e1 e2 hR hG hS
  ·
    refine lv_iconst (v := (1 : Int32)) hx hb dL_law_1314 (by decide) ?_
    refine lv_goto (tgt := 1319) hx hb dL_law_1315 (by decide) ?_
    have hB0 := tB_of hG.2.2.2.1
    have hI0 := tBI_of hG.2.2.1
    refine gx_carry [] hcs C0 hbx hbm hK hO hG hS hl.1 (Nat.le_of_ble_eq_true rfl) kmL_123 dL_law_1319 (fun r1 mi' ko' T' I' H locs cells' slots' hx1 e1 e2 hG1 hS1 => ?_)
    obtain ⟨rfl, rfl, rfl⟩ := hx1
    have hG := hG1
    have hS := hS1
    refine lv_pop hx hb dL_law_1322 rfl ?_
    refine lv_aload_n hx hb dL_law_1323 rfl (lv_at hl 2 rfl) ?_
    refine lv_aload_n hx hb dL_law_1324 rfl (lv_at hl 0 rfl) ?_
    refine lv_iload_n hx hb dL_law_1325 rfl (lv_at hl 3 rfl) ?_
    refine lv_iconst (v := (1 : Int32)) hx hb dL_law_1326 (by decide) ?_
    refine lv_iadd hx hb dL_law_1327 ?_
    refine va_sld hx hb hX0 hbl hbA hS (zidx (k := 1) hi hL rfl (by decide)) dL_law_1328 ?_
    refine lv_aload_n hx hb dL_law_1329 rfl (lv_at hl 0 rfl) ?_
    refine lv_iload_n hx hb dL_law_1330 rfl (lv_at hl 3 rfl) ?_
    refine lv_iconst (v := (2 : Int32)) hx hb dL_law_1331 (by decide) ?_
    refine lv_iadd hx hb dL_law_1332 ?_
    refine va_sld hx hb hX0 hbl hbA hS (zidx (k := 2) hi hL rfl (by decide)) dL_law_1333 ?_
    refine lv_aload_n hx hb dL_law_1334 rfl (lv_at hl 0 rfl) ?_
    refine lv_iload_n hx hb dL_law_1335 rfl (lv_at hl 3 rfl) ?_
    refine lv_iconst (v := (3 : Int32)) hx hb dL_law_1336 (by decide) ?_
    refine lv_iadd hx hb dL_law_1337 ?_
    refine va_sld hx hb hX0 hbl hbA hS (zidx (k := 3) hi hL rfl (by decide)) dL_law_1338 ?_
    refine lv_if_eq (tgt := 1346) hx hb dL_law_1339 (by decide) (fun hc11 => ?_) (fun hc11 => ?_)
    ·
      refine lv_iconst (v := (0 : Int32)) hx hb dL_law_1346 (by decide) ?_
      refine gm_carry [] ⟨Nat.le_trans e1 hcs.1, Nat.le_trans e2 hcs.2⟩ C0 hbx hbm hK hO hG hS hl.1 (Nat.le_of_ble_eq_true rfl) kmL_126 dL_law_1347 (fun r2 M' H locs hm1 hG2 hS2 => ?_)
      obtain rfl := hm1
      have hG := hG2
      have hS := hS2
      refine lv_pop hx hb dL_law_1350 rfl ?_
      refine lv_goto (tgt := 1647) hx hb dL_law_1351 (by decide) ?_
      exact kk _ _ _ _ _ _ _ _ _ e1 e2 hR hG hS
    ·
      refine lv_iconst (v := (1 : Int32)) hx hb dL_law_1342 (by decide) ?_
      refine lv_goto (tgt := 1347) hx hb dL_law_1343 (by decide) ?_
      refine gm_carry [] ⟨Nat.le_trans e1 hcs.1, Nat.le_trans e2 hcs.2⟩ C0 hbx hbm hK hO hG hS hl.1 (Nat.le_of_ble_eq_true rfl) kmL_126 dL_law_1347 (fun r2 M' H locs hm1 hG2 hS2 => ?_)
      obtain rfl := hm1
      have hG := hG2
      have hS := hS2
      refine lv_pop hx hb dL_law_1350 rfl ?_
      refine lv_goto (tgt := 1647) hx hb dL_law_1351 (by decide) ?_
      exact kk _ _ _ _ _ _ _ _ _ e1 e2 hR hG hS

set_option maxRecDepth 40000 in
set_option maxHeartbeats 4000000 in
theorem g_26 {p : Program} {l : Launch} {e : Env} {s : State} {m : MethodId} {below : List Frame} {meth : Method} {c : Code} {E : zE} {G : zG} {b L i bx bm cells slots : Nat} {xs : Nat → Int32} {mi : Nat → Option Nat} {ko : Option Nat} {T : TT} {M : Nat → Nat → Int32} {I : Nat → TT} {H : Heap} {locs : List Loc} {ls : Array Slot} (hi : i + 6 ≤ L) (hL : L ≤ 3072) (hR : RG T M I mi) (hcs : cells + 47 ≤ room_1.cells ∧ slots + 4608 ≤ room_1.slots) (C0 : lw_At p s m meth c b L xs) (hbx : s.heap.size ≤ bx) (hbm : bx + 93 ≤ bm) (hK : zK E s) (hO : zO s ∧ zZ G (fun q => s.heap.size ≤ q) s s.heap) (hG : GG E bx bm mi ko T M I H) (hS : va_S (fun q => s.heap.size ≤ q) s.heap H locs) (hl : lv_has ls 4 [(0, .ref b), (1, .ref bx), (2, .ref bm), (3, .int (nI i))])
    (kk : ∀ (mi : Nat → Option Nat) (ko : Option Nat) (T : TT) (M : Nat → Nat → Int32) (I : Nat → TT) (H : Heap) (locs : List Loc) (cells' slots' : Nat), cells' ≤ cells + 47 → slots' ≤ slots + 4608 → RG T M I mi → GG E bx bm mi ko T M I H → va_S (fun q => s.heap.size ≤ q) s.heap H locs → W p l e room_1 s m #[Value.ref b] below meth c H locs cells' slots' (lw_Z below #[Value.ref b] s) (F0 m 1647 ls [])) : W p l e room_1 s m #[Value.ref b] below meth c H locs cells slots (lw_Z below #[Value.ref b] s) (F0 m 1354 ls []) := by
  obtain ⟨hx, hb, hr, hml, hown, hts, hX0, hbl, hlocks, hgv⟩ := id C0
  have zc : zC p s m #[Value.ref b] meth c cL_law 4 RL ret := ⟨hx, hb, hml, hown, fun w hw => hts w (zb_in hw), hr, hlocks⟩
  have hbA : ¬ (fun q : Nat => s.heap.size ≤ q) b := Nat.not_le.mpr hbl
  refine lv_aload_n hx hb dL_law_1354 rfl (lv_at hl 1 rfl) ?_
  refine lv_aload_n hx hb dL_law_1355 rfl (lv_at hl 0 rfl) ?_
  refine lv_iload_n hx hb dL_law_1356 rfl (lv_at hl 3 rfl) ?_
  refine lv_iconst (v := (1 : Int32)) hx hb dL_law_1357 (by decide) ?_
  refine lv_iadd hx hb dL_law_1358 ?_
  refine va_sld hx hb hX0 hbl hbA hS (zidx (k := 1) hi hL rfl (by decide)) dL_law_1359 ?_
  refine lv_aload_n hx hb dL_law_1360 rfl (lv_at hl 0 rfl) ?_
  refine lv_iload_n hx hb dL_law_1361 rfl (lv_at hl 3 rfl) ?_
  refine lv_iconst (v := (2 : Int32)) hx hb dL_law_1362 (by decide) ?_
  refine lv_iadd hx hb dL_law_1363 ?_
  refine va_sld hx hb hX0 hbl hbA hS (zidx (k := 2) hi hL rfl (by decide)) dL_law_1364 ?_
  refine lv_aload_n hx hb dL_law_1365 rfl (lv_at hl 0 rfl) ?_
  refine lv_iload_n hx hb dL_law_1366 rfl (lv_at hl 3 rfl) ?_
  refine lv_iconst (v := (3 : Int32)) hx hb dL_law_1367 (by decide) ?_
  refine lv_iadd hx hb dL_law_1368 ?_
  refine va_sld hx hb hX0 hbl hbA hS (zidx (k := 3) hi hL rfl (by decide)) dL_law_1369 ?_
  refine lv_aload_n hx hb dL_law_1370 rfl (lv_at hl 0 rfl) ?_
  refine lv_iload_n hx hb dL_law_1371 rfl (lv_at hl 3 rfl) ?_
  refine lv_iconst (v := (4 : Int32)) hx hb dL_law_1372 (by decide) ?_
  refine lv_iadd hx hb dL_law_1373 ?_
  refine va_sld hx hb hX0 hbl hbA hS (zidx (k := 4) hi hL rfl (by decide)) dL_law_1374 ?_
  refine lv_if_eq (tgt := 1382) hx hb dL_law_1375 (by decide) (fun hc0 => ?_) (fun hc0 => ?_)
  ·
    refine lv_iconst (v := (0 : Int32)) hx hb dL_law_1382 (by decide) ?_
    have hB0 := tB_of hG.2.2.2.1
    have hI0 := tBI_of hG.2.2.1
    refine gx_join [] hcs C0 hbx hbm hK hO hG hS hl.1 (Nat.le_of_ble_eq_true rfl) kmL_127 dL_law_1383 (fun r1 mi' ko' T' I' H locs cells' slots' hx1 e1 e2 hG1 hS1 => ?_)
    obtain ⟨rfl, rfl, rfl⟩ := hx1
    have hG := hG1
    have hS := hS1
    refine lv_pop hx hb dL_law_1386 rfl ?_
    refine lv_aload_n hx hb dL_law_1387 rfl (lv_at hl 2 rfl) ?_
    refine lv_aload_n hx hb dL_law_1388 rfl (lv_at hl 0 rfl) ?_
    refine lv_iload_n hx hb dL_law_1389 rfl (lv_at hl 3 rfl) ?_
    refine lv_iconst (v := (1 : Int32)) hx hb dL_law_1390 (by decide) ?_
    refine lv_iadd hx hb dL_law_1391 ?_
    refine va_sld hx hb hX0 hbl hbA hS (zidx (k := 1) hi hL rfl (by decide)) dL_law_1392 ?_
    refine lv_aload_n hx hb dL_law_1393 rfl (lv_at hl 0 rfl) ?_
    refine lv_iload_n hx hb dL_law_1394 rfl (lv_at hl 3 rfl) ?_
    refine lv_iconst (v := (2 : Int32)) hx hb dL_law_1395 (by decide) ?_
    refine lv_iadd hx hb dL_law_1396 ?_
    refine va_sld hx hb hX0 hbl hbA hS (zidx (k := 2) hi hL rfl (by decide)) dL_law_1397 ?_
    refine lv_aload_n hx hb dL_law_1398 rfl (lv_at hl 0 rfl) ?_
    refine lv_iload_n hx hb dL_law_1399 rfl (lv_at hl 3 rfl) ?_
    refine lv_iconst (v := (3 : Int32)) hx hb dL_law_1400 (by decide) ?_
    refine lv_iadd hx hb dL_law_1401 ?_
    refine va_sld hx hb hX0 hbl hbA hS (zidx (k := 3) hi hL rfl (by decide)) dL_law_1402 ?_
    refine lv_aload_n hx hb dL_law_1403 rfl (lv_at hl 0 rfl) ?_
    refine lv_iload_n hx hb dL_law_1404 rfl (lv_at hl 3 rfl) ?_
    refine lv_iconst (v := (4 : Int32)) hx hb dL_law_1405 (by decide) ?_
    refine lv_iadd hx hb dL_law_1406 ?_
    refine va_sld hx hb hX0 hbl hbA hS (zidx (k := 4) hi hL rfl (by decide)) dL_law_1407 ?_
    refine lv_if_eq (tgt := 1415) hx hb dL_law_1408 (by decide) (fun hc11 => ?_) (fun hc11 => ?_)
    ·
      refine lv_iconst (v := (0 : Int32)) hx hb dL_law_1415 (by decide) ?_
      refine gm_join [] ⟨Nat.le_trans e1 hcs.1, Nat.le_trans e2 hcs.2⟩ C0 hbx hbm hK hO hG hS hl.1 (Nat.le_of_ble_eq_true rfl) kmL_130 dL_law_1416 (fun r2 M' H locs hm1 hG2 hS2 => ?_)
      obtain rfl := hm1
      have hG := hG2
      have hS := hS2
      refine lv_pop hx hb dL_law_1419 rfl ?_
      refine lv_goto (tgt := 1647) hx hb dL_law_1420 (by decide) ?_
      exact kk _ _ _ _ _ _ _ _ _ e1 e2 hR hG hS
    ·
      refine lv_iconst (v := (1 : Int32)) hx hb dL_law_1411 (by decide) ?_
      refine lv_goto (tgt := 1416) hx hb dL_law_1412 (by decide) ?_
      refine gm_join [] ⟨Nat.le_trans e1 hcs.1, Nat.le_trans e2 hcs.2⟩ C0 hbx hbm hK hO hG hS hl.1 (Nat.le_of_ble_eq_true rfl) kmL_130 dL_law_1416 (fun r2 M' H locs hm1 hG2 hS2 => ?_)
      obtain rfl := hm1
      have hG := hG2
      have hS := hS2
      refine lv_pop hx hb dL_law_1419 rfl ?_
      refine lv_goto (tgt := 1647) hx hb dL_law_1420 (by decide) ?_
      exact kk _ _ _ _ _ _ _ _ _ e1 e2 hR hG hS
  ·
    refine lv_iconst (v := (1 : Int32)) hx hb dL_law_1378 (by decide) ?_
    refine lv_goto (tgt := 1383) hx hb dL_law_1379 (by decide) ?_
    have hB0 := tB_of hG.2.2.2.1
    have hI0 := tBI_of hG.2.2.1
    refine gx_join [] hcs C0 hbx hbm hK hO hG hS hl.1 (Nat.le_of_ble_eq_true rfl) kmL_127 dL_law_1383 (fun r1 mi' ko' T' I' H locs cells' slots' hx1 e1 e2 hG1 hS1 => ?_)
    obtain ⟨rfl, rfl, rfl⟩ := hx1
    have hG := hG1
    have hS := hS1
    refine lv_pop hx hb dL_law_1386 rfl ?_
    refine lv_aload_n hx hb dL_law_1387 rfl (lv_at hl 2 rfl) ?_
    refine lv_aload_n hx hb dL_law_1388 rfl (lv_at hl 0 rfl) ?_
    refine lv_iload_n hx hb dL_law_1389 rfl (lv_at hl 3 rfl) ?_
    refine lv_iconst (v := (1 : Int32)) hx hb dL_law_1390 (by decide) ?_
    refine lv_iadd hx hb dL_law_1391 ?_
    refine va_sld hx hb hX0 hbl hbA hS (zidx (k := 1) hi hL rfl (by decide)) dL_law_1392 ?_
    refine lv_aload_n hx hb dL_law_1393 rfl (lv_at hl 0 rfl) ?_
    refine lv_iload_n hx hb dL_law_1394 rfl (lv_at hl 3 rfl) ?_
    refine lv_iconst (v := (2 : Int32)) hx hb dL_law_1395 (by decide) ?_
    refine lv_iadd hx hb dL_law_1396 ?_
    refine va_sld hx hb hX0 hbl hbA hS (zidx (k := 2) hi hL rfl (by decide)) dL_law_1397 ?_
    refine lv_aload_n hx hb dL_law_1398 rfl (lv_at hl 0 rfl) ?_
    refine lv_iload_n hx hb dL_law_1399 rfl (lv_at hl 3 rfl) ?_
    refine lv_iconst (v := (3 : Int32)) hx hb dL_law_1400 (by decide) ?_
    refine lv_iadd hx hb dL_law_1401 ?_
    refine va_sld hx hb hX0 hbl hbA hS (zidx (k := 3) hi hL rfl (by decide)) dL_law_1402 ?_
    refine lv_aload_n hx hb dL_law_1403 rfl (lv_at hl 0 rfl) ?_
    refine lv_iload_n hx hb dL_law_1404 rfl (lv_at hl 3 rfl) ?_
    refine lv_iconst (v := (4 : Int32)) hx hb dL_law_1405 (by decide) ?_
    refine lv_iadd hx hb dL_law_1406 ?_
    refine va_sld hx hb hX0 hbl hbA hS (zidx (k := 4) hi hL rfl (by decide)) dL_law_1407 ?_
    refine lv_if_eq (tgt := 1415) hx hb dL_law_1408 (by decide) (fun hc11 => ?_) (fun hc11 => ?_)
    ·
      refine lv_iconst (v := (0 : Int32)) hx hb dL_law_1415 (by decide) ?_
      refine gm_join [] ⟨Nat.le_trans e1 hcs.1, Nat.le_trans e2 hcs.2⟩ C0 hbx hbm hK hO hG hS hl.1 (Nat.le_of_ble_eq_true rfl) kmL_130 dL_law_1416 (fun r2 M' H locs hm1 hG2 hS2 => ?_)
      obtain rfl := hm1
      have hG := hG2
      have hS := hS2
      refine lv_pop hx hb dL_law_1419 rfl ?_
      refine lv_goto (tgt := 1647) hx hb dL_law_1420 (by decide) ?_
      exact kk _ _ _ _ _ _ _ _ _ e1 e2 hR hG hS
    ·
      refine lv_iconst (v := (1 : Int32)) hx hb dL_law_1411 (by decide) ?_
      refine lv_goto (tgt := 1416) hx hb dL_law_1412 (by decide) ?_
      refine gm_join [] ⟨Nat.le_trans e1 hcs.1, Nat.le_trans e2 hcs.2⟩ C0 hbx hbm hK hO hG hS hl.1 (Nat.le_of_ble_eq_true rfl) kmL_130 dL_law_1416 (fun r2 M' H locs hm1 hG2 hS2 => ?_)
      obtain rfl := hm1
      have hG := hG2
      have hS := hS2
      refine lv_pop hx hb dL_law_1419 rfl ?_
      refine lv_goto (tgt := 1647) hx hb dL_law_1420 (by decide) ?_
      exact kk _ _ _ _ _ _ _ _ _ e1 e2 hR hG hS

set_option maxRecDepth 40000 in
set_option maxHeartbeats 4000000 in
theorem g_27 {p : Program} {l : Launch} {e : Env} {s : State} {m : MethodId} {below : List Frame} {meth : Method} {c : Code} {E : zE} {G : zG} {b L i bx bm cells slots : Nat} {xs : Nat → Int32} {mi : Nat → Option Nat} {ko : Option Nat} {T : TT} {M : Nat → Nat → Int32} {I : Nat → TT} {H : Heap} {locs : List Loc} {ls : Array Slot} (hi : i + 6 ≤ L) (hL : L ≤ 3072) (hR : RG T M I mi) (hcs : cells + 47 ≤ room_1.cells ∧ slots + 4608 ≤ room_1.slots) (C0 : lw_At p s m meth c b L xs) (hbx : s.heap.size ≤ bx) (hbm : bx + 93 ≤ bm) (hK : zK E s) (hO : zO s ∧ zZ G (fun q => s.heap.size ≤ q) s s.heap) (hG : GG E bx bm mi ko T M I H) (hS : va_S (fun q => s.heap.size ≤ q) s.heap H locs) (hl : lv_has ls 4 [(0, .ref b), (1, .ref bx), (2, .ref bm), (3, .int (nI i))])
    (kk : ∀ (mi : Nat → Option Nat) (ko : Option Nat) (T : TT) (M : Nat → Nat → Int32) (I : Nat → TT) (H : Heap) (locs : List Loc) (cells' slots' : Nat), cells' ≤ cells + 47 → slots' ≤ slots + 4608 → RG T M I mi → GG E bx bm mi ko T M I H → va_S (fun q => s.heap.size ≤ q) s.heap H locs → W p l e room_1 s m #[Value.ref b] below meth c H locs cells' slots' (lw_Z below #[Value.ref b] s) (F0 m 1647 ls [])) : W p l e room_1 s m #[Value.ref b] below meth c H locs cells slots (lw_Z below #[Value.ref b] s) (F0 m 1423 ls []) := by
  obtain ⟨hx, hb, hr, hml, hown, hts, hX0, hbl, hlocks, hgv⟩ := id C0
  have zc : zC p s m #[Value.ref b] meth c cL_law 4 RL ret := ⟨hx, hb, hml, hown, fun w hw => hts w (zb_in hw), hr, hlocks⟩
  have hbA : ¬ (fun q : Nat => s.heap.size ≤ q) b := Nat.not_le.mpr hbl
  refine lv_aload_n hx hb dL_law_1423 rfl (lv_at hl 1 rfl) ?_
  refine lv_aload_n hx hb dL_law_1424 rfl (lv_at hl 0 rfl) ?_
  refine lv_iload_n hx hb dL_law_1425 rfl (lv_at hl 3 rfl) ?_
  refine lv_iconst (v := (1 : Int32)) hx hb dL_law_1426 (by decide) ?_
  refine lv_iadd hx hb dL_law_1427 ?_
  refine va_sld hx hb hX0 hbl hbA hS (zidx (k := 1) hi hL rfl (by decide)) dL_law_1428 ?_
  refine lv_aload_n hx hb dL_law_1429 rfl (lv_at hl 0 rfl) ?_
  refine lv_iload_n hx hb dL_law_1430 rfl (lv_at hl 3 rfl) ?_
  refine lv_iconst (v := (2 : Int32)) hx hb dL_law_1431 (by decide) ?_
  refine lv_iadd hx hb dL_law_1432 ?_
  refine va_sld hx hb hX0 hbl hbA hS (zidx (k := 2) hi hL rfl (by decide)) dL_law_1433 ?_
  have hB0 := tB_of hG.2.2.2.1
  have hI0 := tBI_of hG.2.2.1
  refine gx_slopes [] hcs C0 hbx hbm hK hO hG hS hl.1 (Nat.le_of_ble_eq_true rfl) kmL_131 dL_law_1434 (fun r1 mi' ko' T' I' H locs cells' slots' hx1 e1 e2 hG1 hS1 => ?_)
  obtain ⟨rfl, rfl, rfl⟩ := hx1
  have hG := hG1
  have hS := hS1
  refine lv_pop hx hb dL_law_1437 rfl ?_
  refine lv_aload_n hx hb dL_law_1438 rfl (lv_at hl 2 rfl) ?_
  refine lv_aload_n hx hb dL_law_1439 rfl (lv_at hl 0 rfl) ?_
  refine lv_iload_n hx hb dL_law_1440 rfl (lv_at hl 3 rfl) ?_
  refine lv_iconst (v := (1 : Int32)) hx hb dL_law_1441 (by decide) ?_
  refine lv_iadd hx hb dL_law_1442 ?_
  refine va_sld hx hb hX0 hbl hbA hS (zidx (k := 1) hi hL rfl (by decide)) dL_law_1443 ?_
  refine lv_aload_n hx hb dL_law_1444 rfl (lv_at hl 0 rfl) ?_
  refine lv_iload_n hx hb dL_law_1445 rfl (lv_at hl 3 rfl) ?_
  refine lv_iconst (v := (2 : Int32)) hx hb dL_law_1446 (by decide) ?_
  refine lv_iadd hx hb dL_law_1447 ?_
  refine va_sld hx hb hX0 hbl hbA hS (zidx (k := 2) hi hL rfl (by decide)) dL_law_1448 ?_
  refine gm_slopes [] ⟨Nat.le_trans e1 hcs.1, Nat.le_trans e2 hcs.2⟩ C0 hbx hbm hK hO hG hS hl.1 (Nat.le_of_ble_eq_true rfl) kmL_134 dL_law_1449 (fun r2 M' H locs hm1 hG2 hS2 => ?_)
  obtain rfl := hm1
  have hG := hG2
  have hS := hS2
  refine lv_pop hx hb dL_law_1452 rfl ?_
  refine lv_goto (tgt := 1647) hx hb dL_law_1453 (by decide) ?_
  exact kk _ _ _ _ _ _ _ _ _ e1 e2 hR hG hS

set_option maxRecDepth 40000 in
set_option maxHeartbeats 4000000 in
theorem g_28 {p : Program} {l : Launch} {e : Env} {s : State} {m : MethodId} {below : List Frame} {meth : Method} {c : Code} {E : zE} {G : zG} {b L i bx bm cells slots : Nat} {xs : Nat → Int32} {mi : Nat → Option Nat} {ko : Option Nat} {T : TT} {M : Nat → Nat → Int32} {I : Nat → TT} {H : Heap} {locs : List Loc} {ls : Array Slot} (hi : i + 6 ≤ L) (hL : L ≤ 3072) (hR : RG T M I mi) (hcs : cells + 47 ≤ room_1.cells ∧ slots + 4608 ≤ room_1.slots) (C0 : lw_At p s m meth c b L xs) (hbx : s.heap.size ≤ bx) (hbm : bx + 93 ≤ bm) (hK : zK E s) (hO : zO s ∧ zZ G (fun q => s.heap.size ≤ q) s s.heap) (hG : GG E bx bm mi ko T M I H) (hS : va_S (fun q => s.heap.size ≤ q) s.heap H locs) (hl : lv_has ls 4 [(0, .ref b), (1, .ref bx), (2, .ref bm), (3, .int (nI i))])
    (kk : ∀ (mi : Nat → Option Nat) (ko : Option Nat) (T : TT) (M : Nat → Nat → Int32) (I : Nat → TT) (H : Heap) (locs : List Loc) (cells' slots' : Nat), cells' ≤ cells + 47 → slots' ≤ slots + 4608 → RG T M I mi → GG E bx bm mi ko T M I H → va_S (fun q => s.heap.size ≤ q) s.heap H locs → W p l e room_1 s m #[Value.ref b] below meth c H locs cells' slots' (lw_Z below #[Value.ref b] s) (F0 m 1647 ls [])) : W p l e room_1 s m #[Value.ref b] below meth c H locs cells slots (lw_Z below #[Value.ref b] s) (F0 m 1456 ls []) := by
  obtain ⟨hx, hb, hr, hml, hown, hts, hX0, hbl, hlocks, hgv⟩ := id C0
  have zc : zC p s m #[Value.ref b] meth c cL_law 4 RL ret := ⟨hx, hb, hml, hown, fun w hw => hts w (zb_in hw), hr, hlocks⟩
  have hbA : ¬ (fun q : Nat => s.heap.size ≤ q) b := Nat.not_le.mpr hbl
  refine lv_aload_n hx hb dL_law_1456 rfl (lv_at hl 1 rfl) ?_
  refine lv_aload_n hx hb dL_law_1457 rfl (lv_at hl 0 rfl) ?_
  refine lv_iload_n hx hb dL_law_1458 rfl (lv_at hl 3 rfl) ?_
  refine lv_iconst (v := (1 : Int32)) hx hb dL_law_1459 (by decide) ?_
  refine lv_iadd hx hb dL_law_1460 ?_
  refine va_sld hx hb hX0 hbl hbA hS (zidx (k := 1) hi hL rfl (by decide)) dL_law_1461 ?_
  refine lv_aload_n hx hb dL_law_1462 rfl (lv_at hl 0 rfl) ?_
  refine lv_iload_n hx hb dL_law_1463 rfl (lv_at hl 3 rfl) ?_
  refine lv_iconst (v := (2 : Int32)) hx hb dL_law_1464 (by decide) ?_
  refine lv_iadd hx hb dL_law_1465 ?_
  refine va_sld hx hb hX0 hbl hbA hS (zidx (k := 2) hi hL rfl (by decide)) dL_law_1466 ?_
  refine lv_aload_n hx hb dL_law_1467 rfl (lv_at hl 0 rfl) ?_
  refine lv_iload_n hx hb dL_law_1468 rfl (lv_at hl 3 rfl) ?_
  refine lv_iconst (v := (3 : Int32)) hx hb dL_law_1469 (by decide) ?_
  refine lv_iadd hx hb dL_law_1470 ?_
  refine va_sld hx hb hX0 hbl hbA hS (zidx (k := 3) hi hL rfl (by decide)) dL_law_1471 ?_
  refine lv_aload_n hx hb dL_law_1472 rfl (lv_at hl 0 rfl) ?_
  refine lv_iload_n hx hb dL_law_1473 rfl (lv_at hl 3 rfl) ?_
  refine lv_iconst (v := (4 : Int32)) hx hb dL_law_1474 (by decide) ?_
  refine lv_iadd hx hb dL_law_1475 ?_
  refine va_sld hx hb hX0 hbl hbA hS (zidx (k := 4) hi hL rfl (by decide)) dL_law_1476 ?_
  refine lv_if_eq (tgt := 1484) hx hb dL_law_1477 (by decide) (fun hc0 => ?_) (fun hc0 => ?_)
  ·
    refine lv_iconst (v := (0 : Int32)) hx hb dL_law_1484 (by decide) ?_
    have hB0 := tB_of hG.2.2.2.1
    have hI0 := tBI_of hG.2.2.1
    refine gx_flood [] hcs C0 hbx hbm hK hO hG hS hR hl.1 (Nat.le_of_ble_eq_true rfl) kmL_135 dL_law_1485 (fun r1 mi' ko' T' I' H locs cells' slots' hx1 e1 e2 hG1 hS1 => ?_)
    obtain ⟨⟨rfl, rfl, rfl⟩, hx2⟩ := hx1
    have hG := hG1
    have hS := hS1
    refine lv_aload_n hx hb dL_law_1488 rfl (lv_at hl 2 rfl) ?_
    refine lv_aload_n hx hb dL_law_1489 rfl (lv_at hl 0 rfl) ?_
    refine lv_iload_n hx hb dL_law_1490 rfl (lv_at hl 3 rfl) ?_
    refine lv_iconst (v := (1 : Int32)) hx hb dL_law_1491 (by decide) ?_
    refine lv_iadd hx hb dL_law_1492 ?_
    refine va_sld hx hb hX0 hbl hbA hS (zidx (k := 1) hi hL rfl (by decide)) dL_law_1493 ?_
    refine lv_aload_n hx hb dL_law_1494 rfl (lv_at hl 0 rfl) ?_
    refine lv_iload_n hx hb dL_law_1495 rfl (lv_at hl 3 rfl) ?_
    refine lv_iconst (v := (2 : Int32)) hx hb dL_law_1496 (by decide) ?_
    refine lv_iadd hx hb dL_law_1497 ?_
    refine va_sld hx hb hX0 hbl hbA hS (zidx (k := 2) hi hL rfl (by decide)) dL_law_1498 ?_
    refine lv_aload_n hx hb dL_law_1499 rfl (lv_at hl 0 rfl) ?_
    refine lv_iload_n hx hb dL_law_1500 rfl (lv_at hl 3 rfl) ?_
    refine lv_iconst (v := (3 : Int32)) hx hb dL_law_1501 (by decide) ?_
    refine lv_iadd hx hb dL_law_1502 ?_
    refine va_sld hx hb hX0 hbl hbA hS (zidx (k := 3) hi hL rfl (by decide)) dL_law_1503 ?_
    refine lv_aload_n hx hb dL_law_1504 rfl (lv_at hl 0 rfl) ?_
    refine lv_iload_n hx hb dL_law_1505 rfl (lv_at hl 3 rfl) ?_
    refine lv_iconst (v := (4 : Int32)) hx hb dL_law_1506 (by decide) ?_
    refine lv_iadd hx hb dL_law_1507 ?_
    refine va_sld hx hb hX0 hbl hbA hS (zidx (k := 4) hi hL rfl (by decide)) dL_law_1508 ?_
    refine lv_if_eq (tgt := 1516) hx hb dL_law_1509 (by decide) (fun hd => ?_) (fun hd => absurd hc0 hd)
    refine lv_iconst (v := (0 : Int32)) hx hb dL_law_1516 (by decide) ?_
    refine gm_flood [.int r1] ⟨Nat.le_trans e1 hcs.1, Nat.le_trans e2 hcs.2⟩ C0 hbx hbm hK hO hG hS hR.2 hl.1 (Nat.le_of_ble_eq_true rfl) kmL_138 dL_law_1517 (fun r2 M' H locs hm1 hG2 hS2 => ?_)
    obtain ⟨rfl, hm2⟩ := hm1
    have hrr := hx2.trans hm2.symm
    have hG := hG2
    have hS := hS2
    refine lv_icmp_eq (tgt := 1647) hx hb dL_law_1520 (by decide) (fun hd => ?_) (fun hd => absurd hrr hd)
    exact kk _ _ _ _ _ _ _ _ _ e1 e2 hR hG hS
  ·
    refine lv_iconst (v := (1 : Int32)) hx hb dL_law_1480 (by decide) ?_
    refine lv_goto (tgt := 1485) hx hb dL_law_1481 (by decide) ?_
    have hB0 := tB_of hG.2.2.2.1
    have hI0 := tBI_of hG.2.2.1
    refine gx_flood [] hcs C0 hbx hbm hK hO hG hS hR hl.1 (Nat.le_of_ble_eq_true rfl) kmL_135 dL_law_1485 (fun r1 mi' ko' T' I' H locs cells' slots' hx1 e1 e2 hG1 hS1 => ?_)
    obtain ⟨⟨rfl, rfl, rfl⟩, hx2⟩ := hx1
    have hG := hG1
    have hS := hS1
    refine lv_aload_n hx hb dL_law_1488 rfl (lv_at hl 2 rfl) ?_
    refine lv_aload_n hx hb dL_law_1489 rfl (lv_at hl 0 rfl) ?_
    refine lv_iload_n hx hb dL_law_1490 rfl (lv_at hl 3 rfl) ?_
    refine lv_iconst (v := (1 : Int32)) hx hb dL_law_1491 (by decide) ?_
    refine lv_iadd hx hb dL_law_1492 ?_
    refine va_sld hx hb hX0 hbl hbA hS (zidx (k := 1) hi hL rfl (by decide)) dL_law_1493 ?_
    refine lv_aload_n hx hb dL_law_1494 rfl (lv_at hl 0 rfl) ?_
    refine lv_iload_n hx hb dL_law_1495 rfl (lv_at hl 3 rfl) ?_
    refine lv_iconst (v := (2 : Int32)) hx hb dL_law_1496 (by decide) ?_
    refine lv_iadd hx hb dL_law_1497 ?_
    refine va_sld hx hb hX0 hbl hbA hS (zidx (k := 2) hi hL rfl (by decide)) dL_law_1498 ?_
    refine lv_aload_n hx hb dL_law_1499 rfl (lv_at hl 0 rfl) ?_
    refine lv_iload_n hx hb dL_law_1500 rfl (lv_at hl 3 rfl) ?_
    refine lv_iconst (v := (3 : Int32)) hx hb dL_law_1501 (by decide) ?_
    refine lv_iadd hx hb dL_law_1502 ?_
    refine va_sld hx hb hX0 hbl hbA hS (zidx (k := 3) hi hL rfl (by decide)) dL_law_1503 ?_
    refine lv_aload_n hx hb dL_law_1504 rfl (lv_at hl 0 rfl) ?_
    refine lv_iload_n hx hb dL_law_1505 rfl (lv_at hl 3 rfl) ?_
    refine lv_iconst (v := (4 : Int32)) hx hb dL_law_1506 (by decide) ?_
    refine lv_iadd hx hb dL_law_1507 ?_
    refine va_sld hx hb hX0 hbl hbA hS (zidx (k := 4) hi hL rfl (by decide)) dL_law_1508 ?_
    refine lv_if_eq (tgt := 1516) hx hb dL_law_1509 (by decide) (fun hd => absurd hd hc0) (fun hd => ?_)
    refine lv_iconst (v := (1 : Int32)) hx hb dL_law_1512 (by decide) ?_
    refine lv_goto (tgt := 1517) hx hb dL_law_1513 (by decide) ?_
    refine gm_flood [.int r1] ⟨Nat.le_trans e1 hcs.1, Nat.le_trans e2 hcs.2⟩ C0 hbx hbm hK hO hG hS hR.2 hl.1 (Nat.le_of_ble_eq_true rfl) kmL_138 dL_law_1517 (fun r2 M' H locs hm1 hG2 hS2 => ?_)
    obtain ⟨rfl, hm2⟩ := hm1
    have hrr := hx2.trans hm2.symm
    have hG := hG2
    have hS := hS2
    refine lv_icmp_eq (tgt := 1647) hx hb dL_law_1520 (by decide) (fun hd => ?_) (fun hd => absurd hrr hd)
    exact kk _ _ _ _ _ _ _ _ _ e1 e2 hR hG hS

set_option maxRecDepth 40000 in
set_option maxHeartbeats 4000000 in
theorem g_29 {p : Program} {l : Launch} {e : Env} {s : State} {m : MethodId} {below : List Frame} {meth : Method} {c : Code} {E : zE} {G : zG} {b L i bx bm cells slots : Nat} {xs : Nat → Int32} {mi : Nat → Option Nat} {ko : Option Nat} {T : TT} {M : Nat → Nat → Int32} {I : Nat → TT} {H : Heap} {locs : List Loc} {ls : Array Slot} (hi : i + 6 ≤ L) (hL : L ≤ 3072) (hR : RG T M I mi) (hcs : cells + 47 ≤ room_1.cells ∧ slots + 4608 ≤ room_1.slots) (C0 : lw_At p s m meth c b L xs) (hbx : s.heap.size ≤ bx) (hbm : bx + 93 ≤ bm) (hK : zK E s) (hO : zO s ∧ zZ G (fun q => s.heap.size ≤ q) s s.heap) (hG : GG E bx bm mi ko T M I H) (hS : va_S (fun q => s.heap.size ≤ q) s.heap H locs) (hl : lv_has ls 4 [(0, .ref b), (1, .ref bx), (2, .ref bm), (3, .int (nI i))])
    (kk : ∀ (mi : Nat → Option Nat) (ko : Option Nat) (T : TT) (M : Nat → Nat → Int32) (I : Nat → TT) (H : Heap) (locs : List Loc) (cells' slots' : Nat), cells' ≤ cells + 47 → slots' ≤ slots + 4608 → RG T M I mi → GG E bx bm mi ko T M I H → va_S (fun q => s.heap.size ≤ q) s.heap H locs → W p l e room_1 s m #[Value.ref b] below meth c H locs cells' slots' (lw_Z below #[Value.ref b] s) (F0 m 1647 ls [])) : W p l e room_1 s m #[Value.ref b] below meth c H locs cells slots (lw_Z below #[Value.ref b] s) (F0 m 1525 ls []) := by
  obtain ⟨hx, hb, hr, hml, hown, hts, hX0, hbl, hlocks, hgv⟩ := id C0
  have zc : zC p s m #[Value.ref b] meth c cL_law 4 RL ret := ⟨hx, hb, hml, hown, fun w hw => hts w (zb_in hw), hr, hlocks⟩
  have hbA : ¬ (fun q : Nat => s.heap.size ≤ q) b := Nat.not_le.mpr hbl
  refine lv_aload_n hx hb dL_law_1525 rfl (lv_at hl 1 rfl) ?_
  refine lv_aload_n hx hb dL_law_1526 rfl (lv_at hl 0 rfl) ?_
  refine lv_iload_n hx hb dL_law_1527 rfl (lv_at hl 3 rfl) ?_
  refine lv_iconst (v := (1 : Int32)) hx hb dL_law_1528 (by decide) ?_
  refine lv_iadd hx hb dL_law_1529 ?_
  refine va_sld hx hb hX0 hbl hbA hS (zidx (k := 1) hi hL rfl (by decide)) dL_law_1530 ?_
  refine lv_aload_n hx hb dL_law_1531 rfl (lv_at hl 0 rfl) ?_
  refine lv_iload_n hx hb dL_law_1532 rfl (lv_at hl 3 rfl) ?_
  refine lv_iconst (v := (2 : Int32)) hx hb dL_law_1533 (by decide) ?_
  refine lv_iadd hx hb dL_law_1534 ?_
  refine va_sld hx hb hX0 hbl hbA hS (zidx (k := 2) hi hL rfl (by decide)) dL_law_1535 ?_
  refine lv_aload_n hx hb dL_law_1536 rfl (lv_at hl 0 rfl) ?_
  refine lv_iload_n hx hb dL_law_1537 rfl (lv_at hl 3 rfl) ?_
  refine lv_iconst (v := (3 : Int32)) hx hb dL_law_1538 (by decide) ?_
  refine lv_iadd hx hb dL_law_1539 ?_
  refine va_sld hx hb hX0 hbl hbA hS (zidx (k := 3) hi hL rfl (by decide)) dL_law_1540 ?_
  refine lv_aload_n hx hb dL_law_1541 rfl (lv_at hl 0 rfl) ?_
  refine lv_iload_n hx hb dL_law_1542 rfl (lv_at hl 3 rfl) ?_
  refine lv_iconst (v := (4 : Int32)) hx hb dL_law_1543 (by decide) ?_
  refine lv_iadd hx hb dL_law_1544 ?_
  refine va_sld hx hb hX0 hbl hbA hS (zidx (k := 4) hi hL rfl (by decide)) dL_law_1545 ?_
  have hB0 := tB_of hG.2.2.2.1
  have hI0 := tBI_of hG.2.2.1
  refine gx_teach [] hcs C0 hbx hbm hK hO hG hS hl.1 (Nat.le_of_ble_eq_true rfl) kmL_139 dL_law_1546 (fun r1 mi' ko' T' I' H locs cells' slots' hx1 e1 e2 hG1 hS1 => ?_)
  obtain ⟨rfl, rfl, rfl⟩ := hx1
  have hG := hG1
  have hS := hS1
  refine lv_pop hx hb dL_law_1549 rfl ?_
  refine lv_aload_n hx hb dL_law_1550 rfl (lv_at hl 2 rfl) ?_
  refine lv_aload_n hx hb dL_law_1551 rfl (lv_at hl 0 rfl) ?_
  refine lv_iload_n hx hb dL_law_1552 rfl (lv_at hl 3 rfl) ?_
  refine lv_iconst (v := (1 : Int32)) hx hb dL_law_1553 (by decide) ?_
  refine lv_iadd hx hb dL_law_1554 ?_
  refine va_sld hx hb hX0 hbl hbA hS (zidx (k := 1) hi hL rfl (by decide)) dL_law_1555 ?_
  refine lv_aload_n hx hb dL_law_1556 rfl (lv_at hl 0 rfl) ?_
  refine lv_iload_n hx hb dL_law_1557 rfl (lv_at hl 3 rfl) ?_
  refine lv_iconst (v := (2 : Int32)) hx hb dL_law_1558 (by decide) ?_
  refine lv_iadd hx hb dL_law_1559 ?_
  refine va_sld hx hb hX0 hbl hbA hS (zidx (k := 2) hi hL rfl (by decide)) dL_law_1560 ?_
  refine lv_aload_n hx hb dL_law_1561 rfl (lv_at hl 0 rfl) ?_
  refine lv_iload_n hx hb dL_law_1562 rfl (lv_at hl 3 rfl) ?_
  refine lv_iconst (v := (3 : Int32)) hx hb dL_law_1563 (by decide) ?_
  refine lv_iadd hx hb dL_law_1564 ?_
  refine va_sld hx hb hX0 hbl hbA hS (zidx (k := 3) hi hL rfl (by decide)) dL_law_1565 ?_
  refine lv_aload_n hx hb dL_law_1566 rfl (lv_at hl 0 rfl) ?_
  refine lv_iload_n hx hb dL_law_1567 rfl (lv_at hl 3 rfl) ?_
  refine lv_iconst (v := (4 : Int32)) hx hb dL_law_1568 (by decide) ?_
  refine lv_iadd hx hb dL_law_1569 ?_
  refine va_sld hx hb hX0 hbl hbA hS (zidx (k := 4) hi hL rfl (by decide)) dL_law_1570 ?_
  refine gm_teach [] ⟨Nat.le_trans e1 hcs.1, Nat.le_trans e2 hcs.2⟩ C0 hbx hbm hK hO hG hS hl.1 (Nat.le_of_ble_eq_true rfl) kmL_142 dL_law_1571 (fun r2 M' H locs hm1 hG2 hS2 => ?_)
  obtain rfl := hm1
  have hG := hG2
  have hS := hS2
  refine lv_pop hx hb dL_law_1574 rfl ?_
  refine lv_goto (tgt := 1647) hx hb dL_law_1575 (by decide) ?_
  exact kk _ _ _ _ _ _ _ _ _ e1 e2 hR hG hS

set_option maxRecDepth 40000 in
set_option maxHeartbeats 4000000 in
theorem g_30 {p : Program} {l : Launch} {e : Env} {s : State} {m : MethodId} {below : List Frame} {meth : Method} {c : Code} {E : zE} {G : zG} {b L i bx bm cells slots : Nat} {xs : Nat → Int32} {mi : Nat → Option Nat} {ko : Option Nat} {T : TT} {M : Nat → Nat → Int32} {I : Nat → TT} {H : Heap} {locs : List Loc} {ls : Array Slot} (hi : i + 6 ≤ L) (hL : L ≤ 3072) (hR : RG T M I mi) (hcs : cells + 47 ≤ room_1.cells ∧ slots + 4608 ≤ room_1.slots) (C0 : lw_At p s m meth c b L xs) (hbx : s.heap.size ≤ bx) (hbm : bx + 93 ≤ bm) (hK : zK E s) (hO : zO s ∧ zZ G (fun q => s.heap.size ≤ q) s s.heap) (hG : GG E bx bm mi ko T M I H) (hS : va_S (fun q => s.heap.size ≤ q) s.heap H locs) (hl : lv_has ls 4 [(0, .ref b), (1, .ref bx), (2, .ref bm), (3, .int (nI i))])
    (kk : ∀ (mi : Nat → Option Nat) (ko : Option Nat) (T : TT) (M : Nat → Nat → Int32) (I : Nat → TT) (H : Heap) (locs : List Loc) (cells' slots' : Nat), cells' ≤ cells + 47 → slots' ≤ slots + 4608 → RG T M I mi → GG E bx bm mi ko T M I H → va_S (fun q => s.heap.size ≤ q) s.heap H locs → W p l e room_1 s m #[Value.ref b] below meth c H locs cells' slots' (lw_Z below #[Value.ref b] s) (F0 m 1647 ls [])) : W p l e room_1 s m #[Value.ref b] below meth c H locs cells slots (lw_Z below #[Value.ref b] s) (F0 m 1578 ls []) := by
  obtain ⟨hx, hb, hr, hml, hown, hts, hX0, hbl, hlocks, hgv⟩ := id C0
  have zc : zC p s m #[Value.ref b] meth c cL_law 4 RL ret := ⟨hx, hb, hml, hown, fun w hw => hts w (zb_in hw), hr, hlocks⟩
  have hbA : ¬ (fun q : Nat => s.heap.size ≤ q) b := Nat.not_le.mpr hbl
  refine lv_aload_n hx hb dL_law_1578 rfl (lv_at hl 1 rfl) ?_
  refine lv_aload_n hx hb dL_law_1579 rfl (lv_at hl 0 rfl) ?_
  refine lv_iload_n hx hb dL_law_1580 rfl (lv_at hl 3 rfl) ?_
  refine lv_iconst (v := (1 : Int32)) hx hb dL_law_1581 (by decide) ?_
  refine lv_iadd hx hb dL_law_1582 ?_
  refine va_sld hx hb hX0 hbl hbA hS (zidx (k := 1) hi hL rfl (by decide)) dL_law_1583 ?_
  have hB0 := tB_of hG.2.2.2.1
  have hI0 := tBI_of hG.2.2.1
  refine gx_count [] hcs C0 hbx hbm hK hO hG hS hl.1 (Nat.le_of_ble_eq_true rfl) kmL_143 dL_law_1584 (fun r1 mi' ko' T' I' H locs cells' slots' hx1 e1 e2 hG1 hS1 => ?_)
  obtain ⟨rfl, rfl, rfl⟩ := hx1
  have hG := hG1
  have hS := hS1
  refine lv_pop hx hb dL_law_1587 rfl ?_
  refine lv_aload_n hx hb dL_law_1588 rfl (lv_at hl 2 rfl) ?_
  refine lv_aload_n hx hb dL_law_1589 rfl (lv_at hl 0 rfl) ?_
  refine lv_iload_n hx hb dL_law_1590 rfl (lv_at hl 3 rfl) ?_
  refine lv_iconst (v := (1 : Int32)) hx hb dL_law_1591 (by decide) ?_
  refine lv_iadd hx hb dL_law_1592 ?_
  refine va_sld hx hb hX0 hbl hbA hS (zidx (k := 1) hi hL rfl (by decide)) dL_law_1593 ?_
  refine gm_count [] ⟨Nat.le_trans e1 hcs.1, Nat.le_trans e2 hcs.2⟩ C0 hbx hbm hK hO hG hS hl.1 (Nat.le_of_ble_eq_true rfl) kmL_146 dL_law_1594 (fun r2 M' H locs hm1 hG2 hS2 => ?_)
  obtain rfl := hm1
  have hG := hG2
  have hS := hS2
  refine lv_pop hx hb dL_law_1597 rfl ?_
  refine lv_goto (tgt := 1647) hx hb dL_law_1598 (by decide) ?_
  exact kk _ _ _ _ _ _ _ _ _ e1 e2 hR hG hS

set_option maxRecDepth 40000 in
set_option maxHeartbeats 4000000 in
theorem g_31 {p : Program} {l : Launch} {e : Env} {s : State} {m : MethodId} {below : List Frame} {meth : Method} {c : Code} {E : zE} {G : zG} {b L i bx bm cells slots : Nat} {xs : Nat → Int32} {mi : Nat → Option Nat} {ko : Option Nat} {T : TT} {M : Nat → Nat → Int32} {I : Nat → TT} {H : Heap} {locs : List Loc} {ls : Array Slot} (hi : i + 6 ≤ L) (hL : L ≤ 3072) (hR : RG T M I mi) (hcs : cells + 47 ≤ room_1.cells ∧ slots + 4608 ≤ room_1.slots) (C0 : lw_At p s m meth c b L xs) (hbx : s.heap.size ≤ bx) (hbm : bx + 93 ≤ bm) (hK : zK E s) (hO : zO s ∧ zZ G (fun q => s.heap.size ≤ q) s s.heap) (hG : GG E bx bm mi ko T M I H) (hS : va_S (fun q => s.heap.size ≤ q) s.heap H locs) (hl : lv_has ls 4 [(0, .ref b), (1, .ref bx), (2, .ref bm), (3, .int (nI i))])
    (kk : ∀ (mi : Nat → Option Nat) (ko : Option Nat) (T : TT) (M : Nat → Nat → Int32) (I : Nat → TT) (H : Heap) (locs : List Loc) (cells' slots' : Nat), cells' ≤ cells + 47 → slots' ≤ slots + 4608 → RG T M I mi → GG E bx bm mi ko T M I H → va_S (fun q => s.heap.size ≤ q) s.heap H locs → W p l e room_1 s m #[Value.ref b] below meth c H locs cells' slots' (lw_Z below #[Value.ref b] s) (F0 m 1647 ls [])) : W p l e room_1 s m #[Value.ref b] below meth c H locs cells slots (lw_Z below #[Value.ref b] s) (F0 m 1601 ls []) := by
  obtain ⟨hx, hb, hr, hml, hown, hts, hX0, hbl, hlocks, hgv⟩ := id C0
  have zc : zC p s m #[Value.ref b] meth c cL_law 4 RL ret := ⟨hx, hb, hml, hown, fun w hw => hts w (zb_in hw), hr, hlocks⟩
  have hbA : ¬ (fun q : Nat => s.heap.size ≤ q) b := Nat.not_le.mpr hbl
  refine lv_aload_n hx hb dL_law_1601 rfl (lv_at hl 1 rfl) ?_
  refine lv_aload_n hx hb dL_law_1602 rfl (lv_at hl 0 rfl) ?_
  refine lv_iload_n hx hb dL_law_1603 rfl (lv_at hl 3 rfl) ?_
  refine lv_iconst (v := (1 : Int32)) hx hb dL_law_1604 (by decide) ?_
  refine lv_iadd hx hb dL_law_1605 ?_
  refine va_sld hx hb hX0 hbl hbA hS (zidx (k := 1) hi hL rfl (by decide)) dL_law_1606 ?_
  have hB0 := tB_of hG.2.2.2.1
  have hI0 := tBI_of hG.2.2.1
  refine gx_image [] hcs C0 hbx hbm hK hO hG hS hl.1 (Nat.le_of_ble_eq_true rfl) kmL_147 dL_law_1607 (fun r1 mi' ko' T' I' H locs cells' slots' hx1 e1 e2 hG1 hS1 => ?_)
  obtain ⟨rfl, hx2⟩ := hx1
  have hG := hG1
  have hS := hS1
  refine lv_pop hx hb dL_law_1610 rfl ?_
  refine lv_aload_n hx hb dL_law_1611 rfl (lv_at hl 2 rfl) ?_
  refine lv_aload_n hx hb dL_law_1612 rfl (lv_at hl 0 rfl) ?_
  refine lv_iload_n hx hb dL_law_1613 rfl (lv_at hl 3 rfl) ?_
  refine lv_iconst (v := (1 : Int32)) hx hb dL_law_1614 (by decide) ?_
  refine lv_iadd hx hb dL_law_1615 ?_
  refine va_sld hx hb hX0 hbl hbA hS (zidx (k := 1) hi hL rfl (by decide)) dL_law_1616 ?_
  refine gm_image [] ⟨Nat.le_trans e1 hcs.1, Nat.le_trans e2 hcs.2⟩ C0 hbx hbm hK hO hG hS hl.1 (Nat.le_of_ble_eq_true rfl) kmL_151 dL_law_1617 (fun r2 M' H locs hm1 hG2 hS2 => ?_)
  obtain ⟨hrr, hR⟩ := RG_im hR hB0 hI0 hx2 hm1
  have hG := hG2
  have hS := hS2
  refine lv_pop hx hb dL_law_1620 rfl ?_
  refine lv_goto (tgt := 1647) hx hb dL_law_1621 (by decide) ?_
  exact kk _ _ _ _ _ _ _ _ _ e1 e2 hR hG hS

set_option maxRecDepth 40000 in
set_option maxHeartbeats 4000000 in
theorem g_32 {p : Program} {l : Launch} {e : Env} {s : State} {m : MethodId} {below : List Frame} {meth : Method} {c : Code} {E : zE} {G : zG} {b L i bx bm cells slots : Nat} {xs : Nat → Int32} {mi : Nat → Option Nat} {ko : Option Nat} {T : TT} {M : Nat → Nat → Int32} {I : Nat → TT} {H : Heap} {locs : List Loc} {ls : Array Slot} (hi : i + 6 ≤ L) (hL : L ≤ 3072) (hR : RG T M I mi) (hcs : cells + 47 ≤ room_1.cells ∧ slots + 4608 ≤ room_1.slots) (C0 : lw_At p s m meth c b L xs) (hbx : s.heap.size ≤ bx) (hbm : bx + 93 ≤ bm) (hK : zK E s) (hO : zO s ∧ zZ G (fun q => s.heap.size ≤ q) s s.heap) (hG : GG E bx bm mi ko T M I H) (hS : va_S (fun q => s.heap.size ≤ q) s.heap H locs) (hl : lv_has ls 4 [(0, .ref b), (1, .ref bx), (2, .ref bm), (3, .int (nI i))])
    (kk : ∀ (mi : Nat → Option Nat) (ko : Option Nat) (T : TT) (M : Nat → Nat → Int32) (I : Nat → TT) (H : Heap) (locs : List Loc) (cells' slots' : Nat), cells' ≤ cells + 47 → slots' ≤ slots + 4608 → RG T M I mi → GG E bx bm mi ko T M I H → va_S (fun q => s.heap.size ≤ q) s.heap H locs → W p l e room_1 s m #[Value.ref b] below meth c H locs cells' slots' (lw_Z below #[Value.ref b] s) (F0 m 1647 ls [])) : W p l e room_1 s m #[Value.ref b] below meth c H locs cells slots (lw_Z below #[Value.ref b] s) (F0 m 1624 ls []) := by
  obtain ⟨hx, hb, hr, hml, hown, hts, hX0, hbl, hlocks, hgv⟩ := id C0
  have zc : zC p s m #[Value.ref b] meth c cL_law 4 RL ret := ⟨hx, hb, hml, hown, fun w hw => hts w (zb_in hw), hr, hlocks⟩
  have hbA : ¬ (fun q : Nat => s.heap.size ≤ q) b := Nat.not_le.mpr hbl
  refine lv_aload_n hx hb dL_law_1624 rfl (lv_at hl 1 rfl) ?_
  refine lv_aload_n hx hb dL_law_1625 rfl (lv_at hl 0 rfl) ?_
  refine lv_iload_n hx hb dL_law_1626 rfl (lv_at hl 3 rfl) ?_
  refine lv_iconst (v := (1 : Int32)) hx hb dL_law_1627 (by decide) ?_
  refine lv_iadd hx hb dL_law_1628 ?_
  refine va_sld hx hb hX0 hbl hbA hS (zidx (k := 1) hi hL rfl (by decide)) dL_law_1629 ?_
  have hB0 := tB_of hG.2.2.2.1
  have hI0 := tBI_of hG.2.2.1
  refine gx_again [] hcs C0 hbx hbm hK hO hG hS hl.1 (Nat.le_of_ble_eq_true rfl) kmL_152 dL_law_1630 (fun r1 mi' ko' T' I' H locs cells' slots' hx1 e1 e2 hG1 hS1 => ?_)
  obtain ⟨rfl, rfl, hx2⟩ := hx1
  have hG := hG1
  have hS := hS1
  refine lv_pop hx hb dL_law_1633 rfl ?_
  refine lv_aload_n hx hb dL_law_1634 rfl (lv_at hl 2 rfl) ?_
  refine lv_aload_n hx hb dL_law_1635 rfl (lv_at hl 0 rfl) ?_
  refine lv_iload_n hx hb dL_law_1636 rfl (lv_at hl 3 rfl) ?_
  refine lv_iconst (v := (1 : Int32)) hx hb dL_law_1637 (by decide) ?_
  refine lv_iadd hx hb dL_law_1638 ?_
  refine va_sld hx hb hX0 hbl hbA hS (zidx (k := 1) hi hL rfl (by decide)) dL_law_1639 ?_
  refine gm_again [] ⟨Nat.le_trans e1 hcs.1, Nat.le_trans e2 hcs.2⟩ C0 hbx hbm hK hO hG hS hl.1 (Nat.le_of_ble_eq_true rfl) kmL_155 dL_law_1640 (fun r2 M' H locs hm1 hG2 hS2 => ?_)
  obtain ⟨hrr, hR⟩ := RG_ag hR hB0 hI0 hx2 hm1
  have hG := hG2
  have hS := hS2
  refine lv_pop hx hb dL_law_1643 rfl ?_
  refine lv_goto (tgt := 1647) hx hb dL_law_1644 (by decide) ?_
  exact kk _ _ _ _ _ _ _ _ _ e1 e2 hR hG hS
end
section
theorem lp_end {p : Program} {l : Launch} {e : Env} {s : State} {m : MethodId} {below : List Frame} {meth : Method} {c : Code} {b L cells slots : Nat} {xs : Nat → Int32} {H : Heap} {locs : List Loc} {ls : Array Slot} (C0 : lw_At p s m meth c b L xs) (hcs : cells ≤ room_1.cells ∧ slots ≤ room_1.slots) (hS : va_S (fun q => s.heap.size ≤ q) s.heap H locs) : W p l e room_1 s m #[Value.ref b] below meth c H locs cells slots (lw_Z below #[Value.ref b] s) (F0 m 1653 ls []) := by
  obtain ⟨hx, hb, hr, hml, hown, hts, hX0, hbl, hlocks, hgv⟩ := id C0
  have zc : zC p s m #[Value.ref b] meth c cL_law 4 RL ret := ⟨hx, hb, hml, hown, fun w hw => hts w (zb_in hw), hr, hlocks⟩
  have hbA : ¬ (fun q : Nat => s.heap.size ≤ q) b := Nat.not_le.mpr hbl
  refine va_forget (fun q hq => hS.2.2 q hq) ?_
  refine W.widen (k := 600000) (n := 7302250) hcs.1 hcs.2 ?_
  refine lv_iconst (v := (1 : Int32)) hx hb dL_law_1653 (by decide) ?_
  exact lw_ret hx hb hr hlocks dL_law_1654
set_option maxRecDepth 40000 in
set_option maxHeartbeats 4000000 in
theorem lp_sw {p : Program} {l : Launch} {e : Env} {s : State} {m : MethodId} {below : List Frame} {meth : Method} {c : Code} {E : zE} {G : zG} {b L i bx bm cells slots : Nat} {xs : Nat → Int32} {mi : Nat → Option Nat} {ko : Option Nat} {T : TT} {M : Nat → Nat → Int32} {I : Nat → TT} {H : Heap} {locs : List Loc} {ls : Array Slot} (hi : i + 6 ≤ L) (hL : L ≤ 3072) (hR : RG T M I mi) (hcs : cells + 47 ≤ room_1.cells ∧ slots + 4608 ≤ room_1.slots) (C0 : lw_At p s m meth c b L xs) (hbx : s.heap.size ≤ bx) (hbm : bx + 93 ≤ bm) (hK : zK E s) (hO : zO s ∧ zZ G (fun q => s.heap.size ≤ q) s s.heap) (hG : GG E bx bm mi ko T M I H) (hS : va_S (fun q => s.heap.size ≤ q) s.heap H locs) (hl : lv_has ls 4 [(0, .ref b), (1, .ref bx), (2, .ref bm), (3, .int (nI i))])
    (kk : ∀ (mi : Nat → Option Nat) (ko : Option Nat) (T : TT) (M : Nat → Nat → Int32) (I : Nat → TT) (H : Heap) (locs : List Loc) (cells' slots' : Nat), cells' ≤ cells + 47 → slots' ≤ slots + 4608 → RG T M I mi → GG E bx bm mi ko T M I H → va_S (fun q => s.heap.size ≤ q) s.heap H locs → W p l e room_1 s m #[Value.ref b] below meth c H locs cells' slots' (lw_Z below #[Value.ref b] s) (F0 m 1647 ls [])) : W p l e room_1 s m #[Value.ref b] below meth c H locs cells slots (lw_Z below #[Value.ref b] s) (F0 m 27 ls []) := by
  obtain ⟨hx, hb, hr, hml, hown, hts, hX0, hbl, hlocks, hgv⟩ := id C0
  have zc : zC p s m #[Value.ref b] meth c cL_law 4 RL ret := ⟨hx, hb, hml, hown, fun w hw => hts w (zb_in hw), hr, hlocks⟩
  have hbA : ¬ (fun q : Nat => s.heap.size ≤ q) b := Nat.not_le.mpr hbl
  refine lv_aload_n hx hb dL_law_27 rfl (lv_at hl 0 rfl) ?_
  refine lv_iload_n hx hb dL_law_28 rfl (lv_at hl 3 rfl) ?_
  refine va_sld hx hb hX0 hbl hbA hS (vp_in_nI (by omega) (by omega)) dL_law_29 ?_
  refine lv_bipush (v := (63 : Int32)) hx hb dL_law_30 (by decide) ?_
  refine lv_iand hx hb dL_law_32 ?_
  by_cases hc : (xs (nI i).toNatClampNeg &&& (63 : Int32)).toInt < 0 ∨ 32 < (xs (nI i).toNatClampNeg &&& (63 : Int32)).toInt
  · refine lv_tableOut (tgt := 1647) hx hb dL_law_33 hc (by decide) ?_
    exact kk _ _ _ _ _ _ _ _ _ (Nat.le_add_right _ _) (Nat.le_add_right _ _) hR hG hS
  have hin := zsw hc
  by_cases hc0 : (xs (nI i).toNatClampNeg &&& (63 : Int32)) = (0 : Int32)
  · refine lv_tableIn (tgt := 180) hx hb dL_law_33 (by rw [hc0]; decide) (by rw [hc0]; decide) (by rw [hc0]; rfl) (by decide) ?_
    exact g_0 hi hL hR hcs C0 hbx hbm hK hO hG hS hl kk
  by_cases hc1 : (xs (nI i).toNatClampNeg &&& (63 : Int32)) = (1 : Int32)
  · refine lv_tableIn (tgt := 243) hx hb dL_law_33 (by rw [hc1]; decide) (by rw [hc1]; decide) (by rw [hc1]; rfl) (by decide) ?_
    exact g_1 hi hL hR hcs C0 hbx hbm hK hO hG hS hl kk
  by_cases hc2 : (xs (nI i).toNatClampNeg &&& (63 : Int32)) = (2 : Int32)
  · refine lv_tableIn (tgt := 266) hx hb dL_law_33 (by rw [hc2]; decide) (by rw [hc2]; decide) (by rw [hc2]; rfl) (by decide) ?_
    exact g_2 hi hL hR hcs C0 hbx hbm hK hO hG hS hl kk
  by_cases hc3 : (xs (nI i).toNatClampNeg &&& (63 : Int32)) = (3 : Int32)
  · refine lv_tableIn (tgt := 299) hx hb dL_law_33 (by rw [hc3]; decide) (by rw [hc3]; decide) (by rw [hc3]; rfl) (by decide) ?_
    exact g_3 hi hL hR hcs C0 hbx hbm hK hO hG hS hl kk
  by_cases hc4 : (xs (nI i).toNatClampNeg &&& (63 : Int32)) = (4 : Int32)
  · refine lv_tableIn (tgt := 322) hx hb dL_law_33 (by rw [hc4]; decide) (by rw [hc4]; decide) (by rw [hc4]; rfl) (by decide) ?_
    exact g_4 hi hL hR hcs C0 hbx hbm hK hO hG hS hl kk
  by_cases hc5 : (xs (nI i).toNatClampNeg &&& (63 : Int32)) = (5 : Int32)
  · refine lv_tableIn (tgt := 355) hx hb dL_law_33 (by rw [hc5]; decide) (by rw [hc5]; decide) (by rw [hc5]; rfl) (by decide) ?_
    exact g_5 hi hL hR hcs C0 hbx hbm hK hO hG hS hl kk
  by_cases hc6 : (xs (nI i).toNatClampNeg &&& (63 : Int32)) = (6 : Int32)
  · refine lv_tableIn (tgt := 398) hx hb dL_law_33 (by rw [hc6]; decide) (by rw [hc6]; decide) (by rw [hc6]; rfl) (by decide) ?_
    exact g_6 hi hL hR hcs C0 hbx hbm hK hO hG hS hl kk
  by_cases hc7 : (xs (nI i).toNatClampNeg &&& (63 : Int32)) = (7 : Int32)
  · refine lv_tableIn (tgt := 441) hx hb dL_law_33 (by rw [hc7]; decide) (by rw [hc7]; decide) (by rw [hc7]; rfl) (by decide) ?_
    exact g_7 hi hL hR hcs C0 hbx hbm hK hO hG hS hl kk
  by_cases hc8 : (xs (nI i).toNatClampNeg &&& (63 : Int32)) = (8 : Int32)
  · refine lv_tableIn (tgt := 474) hx hb dL_law_33 (by rw [hc8]; decide) (by rw [hc8]; decide) (by rw [hc8]; rfl) (by decide) ?_
    exact g_8 hi hL hR hcs C0 hbx hbm hK hO hG hS hl kk
  by_cases hc9 : (xs (nI i).toNatClampNeg &&& (63 : Int32)) = (9 : Int32)
  · refine lv_tableIn (tgt := 527) hx hb dL_law_33 (by rw [hc9]; decide) (by rw [hc9]; decide) (by rw [hc9]; rfl) (by decide) ?_
    exact g_9 hi hL hR hcs C0 hbx hbm hK hO hG hS hl kk
  by_cases hc10 : (xs (nI i).toNatClampNeg &&& (63 : Int32)) = (10 : Int32)
  · refine lv_tableIn (tgt := 570) hx hb dL_law_33 (by rw [hc10]; decide) (by rw [hc10]; decide) (by rw [hc10]; rfl) (by decide) ?_
    exact g_10 hi hL hR hcs C0 hbx hbm hK hO hG hS hl kk
  by_cases hc11 : (xs (nI i).toNatClampNeg &&& (63 : Int32)) = (11 : Int32)
  · refine lv_tableIn (tgt := 613) hx hb dL_law_33 (by rw [hc11]; decide) (by rw [hc11]; decide) (by rw [hc11]; rfl) (by decide) ?_
    exact g_11 hi hL hR hcs C0 hbx hbm hK hO hG hS hl kk
  by_cases hc12 : (xs (nI i).toNatClampNeg &&& (63 : Int32)) = (12 : Int32)
  · refine lv_tableIn (tgt := 662) hx hb dL_law_33 (by rw [hc12]; decide) (by rw [hc12]; decide) (by rw [hc12]; rfl) (by decide) ?_
    exact g_12 hi hL hR hcs C0 hbx hbm hK hO hG hS hl kk
  by_cases hc13 : (xs (nI i).toNatClampNeg &&& (63 : Int32)) = (13 : Int32)
  · refine lv_tableIn (tgt := 715) hx hb dL_law_33 (by rw [hc13]; decide) (by rw [hc13]; decide) (by rw [hc13]; rfl) (by decide) ?_
    exact g_13 hi hL hR hcs C0 hbx hbm hK hO hG hS hl kk
  by_cases hc14 : (xs (nI i).toNatClampNeg &&& (63 : Int32)) = (14 : Int32)
  · refine lv_tableIn (tgt := 758) hx hb dL_law_33 (by rw [hc14]; decide) (by rw [hc14]; decide) (by rw [hc14]; rfl) (by decide) ?_
    exact g_14 hi hL hR hcs C0 hbx hbm hK hO hG hS hl kk
  by_cases hc15 : (xs (nI i).toNatClampNeg &&& (63 : Int32)) = (15 : Int32)
  · refine lv_tableIn (tgt := 817) hx hb dL_law_33 (by rw [hc15]; decide) (by rw [hc15]; decide) (by rw [hc15]; rfl) (by decide) ?_
    exact g_15 hi hL hR hcs C0 hbx hbm hK hO hG hS hl kk
  by_cases hc16 : (xs (nI i).toNatClampNeg &&& (63 : Int32)) = (16 : Int32)
  · refine lv_tableIn (tgt := 860) hx hb dL_law_33 (by rw [hc16]; decide) (by rw [hc16]; decide) (by rw [hc16]; rfl) (by decide) ?_
    exact g_16 hi hL hR hcs C0 hbx hbm hK hO hG hS hl kk
  by_cases hc17 : (xs (nI i).toNatClampNeg &&& (63 : Int32)) = (17 : Int32)
  · refine lv_tableIn (tgt := 919) hx hb dL_law_33 (by rw [hc17]; decide) (by rw [hc17]; decide) (by rw [hc17]; rfl) (by decide) ?_
    exact g_17 hi hL hR hcs C0 hbx hbm hK hO hG hS hl kk
  by_cases hc18 : (xs (nI i).toNatClampNeg &&& (63 : Int32)) = (18 : Int32)
  · refine lv_tableIn (tgt := 952) hx hb dL_law_33 (by rw [hc18]; decide) (by rw [hc18]; decide) (by rw [hc18]; rfl) (by decide) ?_
    exact g_18 hi hL hR hcs C0 hbx hbm hK hO hG hS hl kk
  by_cases hc19 : (xs (nI i).toNatClampNeg &&& (63 : Int32)) = (19 : Int32)
  · refine lv_tableIn (tgt := 975) hx hb dL_law_33 (by rw [hc19]; decide) (by rw [hc19]; decide) (by rw [hc19]; rfl) (by decide) ?_
    exact g_19 hi hL hR hcs C0 hbx hbm hK hO hG hS hl kk
  by_cases hc20 : (xs (nI i).toNatClampNeg &&& (63 : Int32)) = (20 : Int32)
  · refine lv_tableIn (tgt := 1008) hx hb dL_law_33 (by rw [hc20]; decide) (by rw [hc20]; decide) (by rw [hc20]; rfl) (by decide) ?_
    exact g_20 hi hL hR hcs C0 hbx hbm hK hO hG hS hl kk
  by_cases hc21 : (xs (nI i).toNatClampNeg &&& (63 : Int32)) = (21 : Int32)
  · refine lv_tableIn (tgt := 1077) hx hb dL_law_33 (by rw [hc21]; decide) (by rw [hc21]; decide) (by rw [hc21]; rfl) (by decide) ?_
    exact g_21 hi hL hR hcs C0 hbx hbm hK hO hG hS hl kk
  by_cases hc22 : (xs (nI i).toNatClampNeg &&& (63 : Int32)) = (22 : Int32)
  · refine lv_tableIn (tgt := 1120) hx hb dL_law_33 (by rw [hc22]; decide) (by rw [hc22]; decide) (by rw [hc22]; rfl) (by decide) ?_
    exact g_22 hi hL hR hcs C0 hbx hbm hK hO hG hS hl kk
  by_cases hc23 : (xs (nI i).toNatClampNeg &&& (63 : Int32)) = (23 : Int32)
  · refine lv_tableIn (tgt := 1173) hx hb dL_law_33 (by rw [hc23]; decide) (by rw [hc23]; decide) (by rw [hc23]; rfl) (by decide) ?_
    exact g_23 hi hL hR hcs C0 hbx hbm hK hO hG hS hl kk
  by_cases hc24 : (xs (nI i).toNatClampNeg &&& (63 : Int32)) = (24 : Int32)
  · refine lv_tableIn (tgt := 1226) hx hb dL_law_33 (by rw [hc24]; decide) (by rw [hc24]; decide) (by rw [hc24]; rfl) (by decide) ?_
    exact g_24 hi hL hR hcs C0 hbx hbm hK hO hG hS hl kk
  by_cases hc25 : (xs (nI i).toNatClampNeg &&& (63 : Int32)) = (25 : Int32)
  · refine lv_tableIn (tgt := 1295) hx hb dL_law_33 (by rw [hc25]; decide) (by rw [hc25]; decide) (by rw [hc25]; rfl) (by decide) ?_
    exact g_25 hi hL hR hcs C0 hbx hbm hK hO hG hS hl kk
  by_cases hc26 : (xs (nI i).toNatClampNeg &&& (63 : Int32)) = (26 : Int32)
  · refine lv_tableIn (tgt := 1354) hx hb dL_law_33 (by rw [hc26]; decide) (by rw [hc26]; decide) (by rw [hc26]; rfl) (by decide) ?_
    exact g_26 hi hL hR hcs C0 hbx hbm hK hO hG hS hl kk
  by_cases hc27 : (xs (nI i).toNatClampNeg &&& (63 : Int32)) = (27 : Int32)
  · refine lv_tableIn (tgt := 1423) hx hb dL_law_33 (by rw [hc27]; decide) (by rw [hc27]; decide) (by rw [hc27]; rfl) (by decide) ?_
    exact g_27 hi hL hR hcs C0 hbx hbm hK hO hG hS hl kk
  by_cases hc28 : (xs (nI i).toNatClampNeg &&& (63 : Int32)) = (28 : Int32)
  · refine lv_tableIn (tgt := 1456) hx hb dL_law_33 (by rw [hc28]; decide) (by rw [hc28]; decide) (by rw [hc28]; rfl) (by decide) ?_
    exact g_28 hi hL hR hcs C0 hbx hbm hK hO hG hS hl kk
  by_cases hc29 : (xs (nI i).toNatClampNeg &&& (63 : Int32)) = (29 : Int32)
  · refine lv_tableIn (tgt := 1525) hx hb dL_law_33 (by rw [hc29]; decide) (by rw [hc29]; decide) (by rw [hc29]; rfl) (by decide) ?_
    exact g_29 hi hL hR hcs C0 hbx hbm hK hO hG hS hl kk
  by_cases hc30 : (xs (nI i).toNatClampNeg &&& (63 : Int32)) = (30 : Int32)
  · refine lv_tableIn (tgt := 1578) hx hb dL_law_33 (by rw [hc30]; decide) (by rw [hc30]; decide) (by rw [hc30]; rfl) (by decide) ?_
    exact g_30 hi hL hR hcs C0 hbx hbm hK hO hG hS hl kk
  by_cases hc31 : (xs (nI i).toNatClampNeg &&& (63 : Int32)) = (31 : Int32)
  · refine lv_tableIn (tgt := 1601) hx hb dL_law_33 (by rw [hc31]; decide) (by rw [hc31]; decide) (by rw [hc31]; rfl) (by decide) ?_
    exact g_31 hi hL hR hcs C0 hbx hbm hK hO hG hS hl kk
  by_cases hc32 : (xs (nI i).toNatClampNeg &&& (63 : Int32)) = (32 : Int32)
  · refine lv_tableIn (tgt := 1624) hx hb dL_law_33 (by rw [hc32]; decide) (by rw [hc32]; decide) (by rw [hc32]; rfl) (by decide) ?_
    exact g_32 hi hL hR hcs C0 hbx hbm hK hO hG hS hl kk
  exact absurd hin (by have h0 := zne hc0; have h1 := zne hc1; have h2 := zne hc2; have h3 := zne hc3; have h4 := zne hc4; have h5 := zne hc5; have h6 := zne hc6; have h7 := zne hc7; have h8 := zne hc8; have h9 := zne hc9; have h10 := zne hc10; have h11 := zne hc11; have h12 := zne hc12; have h13 := zne hc13; have h14 := zne hc14; have h15 := zne hc15; have h16 := zne hc16; have h17 := zne hc17; have h18 := zne hc18; have h19 := zne hc19; have h20 := zne hc20; have h21 := zne hc21; have h22 := zne hc22; have h23 := zne hc23; have h24 := zne hc24; have h25 := zne hc25; have h26 := zne hc26; have h27 := zne hc27; have h28 := zne hc28; have h29 := zne hc29; have h30 := zne hc30; have h31 := zne hc31; have h32 := zne hc32; simp at *; omega)
set_option maxRecDepth 40000 in
set_option maxHeartbeats 4000000 in
theorem lp_head {p : Program} {l : Launch} {e : Env} {s : State} {m : MethodId} {below : List Frame} {meth : Method} {c : Code} {E : zE} {G : zG} {b L bx bm : Nat} {xs : Nat → Int32} (C0 : lw_At p s m meth c b L xs) (hL : L ≤ 3072) (hbx : s.heap.size ≤ bx) (hbm : bx + 93 ≤ bm) (hK : zK E s) (hO : zO s ∧ zZ G (fun q => s.heap.size ≤ q) s s.heap) (n : Nat) : ∀ (i cells slots : Nat) (mi : Nat → Option Nat) (ko : Option Nat) (T : TT) (M : Nat → Nat → Int32) (I : Nat → TT) (H : Heap) (locs : List Loc) (ls : Array Slot), L < i + 6 + 6 * n → i ≤ 3072 → cells ≤ 200 + 8 * i → slots ≤ 20000 + 768 * i → RG T M I mi → GG E bx bm mi ko T M I H → va_S (fun q => s.heap.size ≤ q) s.heap H locs → lv_has ls 4 [(0, .ref b), (1, .ref bx), (2, .ref bm), (3, .int (nI i))] → W p l e room_1 s m #[Value.ref b] below meth c H locs cells slots (lw_Z below #[Value.ref b] s) (F0 m 18 ls []) := by
  obtain ⟨hx, hb, hr, hml, hown, hts, hX0, hbl, hlocks, hgv⟩ := id C0
  have zc : zC p s m #[Value.ref b] meth c cL_law 4 RL ret := ⟨hx, hb, hml, hown, fun w hw => hts w (zb_in hw), hr, hlocks⟩
  have hbA : ¬ (fun q : Nat => s.heap.size ≤ q) b := Nat.not_le.mpr hbl
  have hf : ∀ (i cells slots : Nat) (mi : Nat → Option Nat) (ko : Option Nat) (T : TT) (M : Nat → Nat → Int32) (I : Nat → TT) (H : Heap) (locs : List Loc) (ls : Array Slot), i ≤ 3072 → cells ≤ 200 + 8 * i → slots ≤ 20000 + 768 * i → RG T M I mi → GG E bx bm mi ko T M I H → va_S (fun q => s.heap.size ≤ q) s.heap H locs → lv_has ls 4 [(0, .ref b), (1, .ref bx), (2, .ref bm), (3, .int (nI i))] → (¬ L < i + 6 → W p l e room_1 s m #[Value.ref b] below meth c H locs cells slots (lw_Z below #[Value.ref b] s) (F0 m 27 ls [])) → W p l e room_1 s m #[Value.ref b] below meth c H locs cells slots (lw_Z below #[Value.ref b] s) (F0 m 18 ls []) := by
    intro i cells slots mi ko T M I H locs ls hi hc hs hR hG hS hl kk
    refine lv_iload_n hx hb dL_law_18 rfl (lv_at hl 3 rfl) ?_
    refine lv_aload_n hx hb dL_law_19 rfl (lv_at hl 0 rfl) ?_
    refine va_slen hx hb hX0 hbl hbA hS dL_law_20 ?_
    refine lv_bipush (v := (6 : Int32)) hx hb dL_law_21 (by decide) ?_
    refine lv_isub hx hb dL_law_23 ?_
    refine lv_icmp_gt (tgt := 1653) hx hb dL_law_24 (by decide) (fun hd => ?_) (fun hd => kk (fun h => hd ((hd_lt hL (by omega)).mpr h)))
    exact lp_end C0 ⟨by show cells ≤ 600000; omega, by show slots ≤ 7302250; omega⟩ hS
  induction n with
  | zero =>
    intro i cells slots mi ko T M I H locs ls h hi hc hs hR hG hS hl
    exact hf i cells slots mi ko T M I H locs ls hi hc hs hR hG hS hl (fun h2 => absurd (by omega) h2)
  | succ n ih =>
    intro i cells slots mi ko T M I H locs ls h hi hc hs hR hG hS hl
    refine hf i cells slots mi ko T M I H locs ls hi hc hs hR hG hS hl (fun h2 => ?_)
    have hi6 : i + 6 ≤ L := by omega
    refine lp_sw hi6 hL hR ⟨by show cells + 47 ≤ 600000; omega, by show slots + 4608 ≤ 7302250; omega⟩ C0 hbx hbm hK hO hG hS hl (fun mi ko T M I H locs cells' slots' e1 e2 hR hG hS => ?_)
    refine lv_iinc (v := nI (i + 6)) (k := 3) (lv' := [(3, .int (nI (i + 6))), (0, .ref b), (1, .ref bx), (2, .ref bm)]) hx hb dL_law_1647 hl rfl (by rw [← nI_add]; rfl) (by decide) rfl (fun ls hl => ?_)
    refine lv_goto (tgt := 18) hx hb dL_law_1650 (by decide) ?_
    exact ih (i + 6) cells' slots' mi ko T M I H locs ls (by omega) (by omega) (by omega) (by omega) hR hG hS (lv_sub hl [1, 2, 3, 0] rfl)
theorem iv_z {l h : Int} (h1 : l ≤ 0) (h2 : 0 ≤ h) : iv l h 0 := ⟨h1, h2⟩
theorem mRh0 : ∀ j, j < 132 → 0 ≤ mRh j := by decide +kernel
theorem mLand0 : mLand (fun _ => 0) := ⟨fun r j hr hj => iv_z (Int.le_refl 0) (mRh0 j hj), fun r hr h => absurd rfl h⟩
theorem mEve0 : mEve (fun _ => 0) := fun r hr => ⟨iv_z (by decide) (by decide), fun k hk => ⟨iv_z (by decide) (by decide), iv_z (by decide) (by decide), iv_z (by decide) (by decide)⟩⟩
theorem mSig0 : mSig (fun _ => 0) := fun r hr => ⟨iv_z (by decide) (by decide), fun k hk => ⟨iv_z (by decide) (by decide), iv_z (by decide) (by decide), iv_z (by decide) (by decide)⟩⟩
theorem mCho0 : mCho (fun _ => 0) := fun r hr => ⟨iv_z (by decide) (by decide), iv_z (by decide) (by decide), fun k hk => ⟨iv_z (by decide) (by decide), iv_z (by decide) (by decide)⟩⟩
theorem mT0 : mT (mmk (fun _ => 0) (fun _ => 0) (fun _ => 0) (upd (fun _ => 0) (Int32.toNatClampNeg 0) (-1)) (fun _ => 0) (fun _ => 0) (fun _ => 0) (fun _ => 0) (fun _ => 0) (fun _ => 0)) := ⟨fun _ => iv_lit (x := 0) (by decide), fun _ => iv_lit (x := 0) (by decide), fun _ => iv_lit (x := 0) (by decide), mLand0, mEve0, mSig0, mCho0, fun _ => iv_lit (x := 0) (by decide)⟩
set_option maxRecDepth 40000 in
theorem fx_start {E : zE} {a : Nat} {H : Heap} (h : va_P E.1 zcl (zb_X10_init E a) H) : wxW E a (fun _ => 0) 0 0 (-1) (fun _ => 0) 0 0 0 0 0 2 5 (fun _ => 0) (fun _ => 0) (fun _ => 0) (fun _ => 0) (fun _ => 0) (fun _ => 0) (fun _ => 0) (fun _ => 0) 0 0 0 0 0 2 5 (fun _ => 0) (fun _ => 0) (fun _ => 0) (fun _ => 0) (fun _ => 0) (fun _ => 0) (fun _ => 0) (fun _ => 0) 0 (fun _ => 0) (fun _ => 0) (fun _ => 0) 0 (fun _ => 0) (fun _ => 0) (fun _ => 0) 0 (fun _ => 0) (fun _ => 0) (fun _ => 0) 0 (fun _ => 0) (fun _ => 0) (fun _ => 0) 0 0 (fun _ => 0) (fun _ => 0) 0 0 (fun _ => 0) (fun _ => 0) (fun _ => none) 0 0 0 0 0 2 5 (fun _ => 0) (fun _ => 0) (fun _ => 0) (fun _ => 0) (fun _ => 0) (fun _ => 0) (fun _ => 0) (fun _ => 0) 0 (fun _ => 0) (fun _ => 0) (fun _ => 0) 0 (fun _ => 0) (fun _ => 0) (fun _ => 0) 0 0 (fun _ => 0) (fun _ => 0) 0 (-1) (fun _ => 0) (fun _ => 0) 0 0 0 0 0 0 0 0 0 0 0 0 (fun _ => 0) (fun _ => 0) (fun _ => 0) (fun _ => 0) (fun _ => 0) (fun _ => 0) (fun _ => 0) (fun _ => 0) (fun _ => 0) (fun _ => 0) (fun _ => 0) (fun _ => 0) (fun _ => 0) none (fun _ => 0) (fun _ => 0) (fun _ => 0) (fun _ => 0) H := h
set_option maxRecDepth 40000 in
theorem fm_start {E : zE} {a : Nat} {H : Heap} (h : va_P E.1 zcl (zb_X11_init E a) H) : mW E a 0 (fun _ => 0) (fun _ => 0) (fun _ => 0) (upd (fun _ => 0) (Int32.toNatClampNeg 0) (-1)) (fun _ => 0) (fun _ => 0) (fun _ => 0) (fun _ => 0) (fun _ => 0) 0 0 0 0 0 0 0 0 0 (fun _ => 0) (fun _ => 0) 0 0 0 0 0 0 0 (fun _ => 0) (fun _ => 0) (fun _ => 0) (fun _ => 0) (fun _ => 0) 0 0 0 (fun _ => 0) (fun _ => 0) (fun _ => 0) (fun _ => 0) (fun _ => 0) (fun _ => 0) (fun _ => 0) 0 (fun _ => 0) 0 0 (fun _ => 0) (fun _ => 0) 0 (fun _ => 0) (fun _ => 0) H := h
set_option maxRecDepth 40000 in
set_option maxHeartbeats 4000000 in
theorem GG0 {E : zE} {bx bm : Nat} {H : Heap} (hX : va_P E.1 zcl (zb_X10_init E bx) H) (hM : va_P E.1 zcl (zb_X11_init E bm) H) : GG E bx bm (fun _ => none) none (tmk (fun _ => 0) 0 0 (-1) (fun _ => 0) 0 0 0 0 0 2 5 (fun _ => 0) (fun _ => 0) (fun _ => 0) (fun _ => 0) (fun _ => 0) (fun _ => 0) (fun _ => 0) (fun _ => 0) 0 0 0 0 0 2 5 (fun _ => 0) (fun _ => 0) (fun _ => 0) (fun _ => 0) (fun _ => 0) (fun _ => 0) (fun _ => 0) (fun _ => 0) 0 (fun _ => 0) (fun _ => 0) (fun _ => 0) 0 (fun _ => 0) (fun _ => 0) (fun _ => 0) 0 (fun _ => 0) (fun _ => 0) (fun _ => 0) 0 (fun _ => 0) (fun _ => 0) (fun _ => 0) 0 0 (fun _ => 0) (fun _ => 0) 0 0 (fun _ => 0) (fun _ => 0)) (mmk (fun _ => 0) (fun _ => 0) (fun _ => 0) (upd (fun _ => 0) (Int32.toNatClampNeg 0) (-1)) (fun _ => 0) (fun _ => 0) (fun _ => 0) (fun _ => 0) (fun _ => 0) (fun _ => 0)) (fun _ => (tmk (fun _ => 0) 0 0 (-1) (fun _ => 0) 0 0 0 0 0 2 5 (fun _ => 0) (fun _ => 0) (fun _ => 0) (fun _ => 0) (fun _ => 0) (fun _ => 0) (fun _ => 0) (fun _ => 0) 0 0 0 0 0 2 5 (fun _ => 0) (fun _ => 0) (fun _ => 0) (fun _ => 0) (fun _ => 0) (fun _ => 0) (fun _ => 0) (fun _ => 0) 0 (fun _ => 0) (fun _ => 0) (fun _ => 0) 0 (fun _ => 0) (fun _ => 0) (fun _ => 0) 0 (fun _ => 0) (fun _ => 0) (fun _ => 0) 0 (fun _ => 0) (fun _ => 0) (fun _ => 0) 0 0 (fun _ => 0) (fun _ => 0) 0 0 (fun _ => 0) (fun _ => 0))) H :=
  ⟨XS_of2 (fx_start hX) ⟨by decide, by decide⟩ ⟨by decide, by decide⟩ ⟨by decide, by decide⟩ ⟨by decide, by decide⟩ ⟨by decide, by decide⟩ ⟨by decide, by decide⟩ ⟨by decide, by decide⟩ (fun _ => iv_lit (x := 0) (by decide)) (fun _ => iv_lit (x := 0) (by decide)) (fun _ => iv_lit (x := 0) (by decide)) (fun _ => iv_lit (x := 0) (by decide)) (fun _ => iv_lit (x := 0) (by decide)) (fun _ => iv_lit (x := 0) (by decide)) (fun _ => iv_lit (x := 0) (by decide)) (fun _ => iv_lit (x := 0) (by decide)) ⟨by decide, by decide⟩ (fun _ => iv_lit (x := 0) (by decide)) (fun _ => iv_lit (x := 0) (by decide)) (fun _ => iv_lit (x := 0) (by decide)) ⟨by decide, by decide⟩ (fun _ => iv_lit (x := 0) (by decide)) (fun _ => iv_lit (x := 0) (by decide)) (fun _ => iv_lit (x := 0) (by decide)) ⟨by decide, by decide⟩ ⟨by decide, by decide⟩ (fun _ => iv_lit (x := 0) (by decide)) (fun _ => iv_lit (x := 0) (by decide)) ⟨by decide, by decide⟩ ⟨by decide, by decide⟩ (fun _ => iv_lit (x := 0) (by decide)) ⟨by decide, by decide⟩ ⟨by decide, by decide⟩ ⟨by decide, by decide⟩ ⟨by decide, by decide⟩ ⟨by decide, by decide⟩ ⟨by decide, by decide⟩ (fun _ => iv_lit (x := 0) (by decide)) (fun _ => iv_lit (x := 0) (by decide)) (fun _ => iv_lit (x := 0) (by decide)) (fun _ => iv_lit (x := 0) (by decide)) (fun _ => iv_lit (x := 0) (by decide)) (fun _ => iv_lit (x := 0) (by decide)) (fun _ => iv_lit (x := 0) (by decide)) (fun _ => iv_lit (x := 0) (by decide)) (fun _ => iv_lit (x := 0) (by decide)) (fun _ => iv_lit (x := 0) (by decide)), MS_of (fm_start hM) ⟨by decide, by decide⟩ ⟨by decide, by decide⟩ ⟨by decide, by decide⟩ ⟨by decide, by decide⟩ (fun _ => iv_lit (x := 0) (by decide)) (fun _ => iv_lit (x := 0) (by decide)) (fun _ => iv_lit (x := 0) (by decide)) (fun _ => iv_lit (x := 0) (by decide)) ⟨by decide, by decide⟩ (fun _ => iv_lit (x := 0) (by decide)) (fun _ => iv_lit (x := 0) (by decide)) (fun _ => iv_lit (x := 0) (by decide)) (fun _ => iv_lit (x := 0) (by decide)) (fun _ => iv_lit (x := 0) (by decide)) ⟨by decide, by decide⟩ (fun _ => iv_lit (x := 0) (by decide)), ⟨fun j hj q e => absurd e (by simp), fun j k _ _ _ q r e _ => absurd e (by simp), fun t e => absurd e (by simp), fun j hj q t e _ => absurd e (by simp)⟩, tJ_of (fun _ => iv_lit (x := 0) (by decide)) ⟨by decide, by decide⟩ ⟨by decide, by decide⟩ ⟨by decide, by decide⟩ (fun _ => iv_lit (x := 0) (by decide)) ⟨by decide, by decide⟩ ⟨by decide, by decide⟩ ⟨by decide, by decide⟩ ⟨by decide, by decide⟩ ⟨by decide, by decide⟩ ⟨by decide, by decide⟩ ⟨by decide, by decide⟩ (fun _ => iv_lit (x := 0) (by decide)) (fun _ => iv_lit (x := 0) (by decide)) (fun _ => iv_lit (x := 0) (by decide)) (fun _ => iv_lit (x := 0) (by decide)) (fun _ => iv_lit (x := 0) (by decide)) (fun _ => iv_lit (x := 0) (by decide)) (fun _ => iv_lit (x := 0) (by decide)) (fun _ => iv_lit (x := 0) (by decide)) ⟨by decide, by decide⟩ ⟨by decide, by decide⟩ ⟨by decide, by decide⟩ ⟨by decide, by decide⟩ ⟨by decide, by decide⟩ ⟨by decide, by decide⟩ ⟨by decide, by decide⟩ (fun _ => iv_lit (x := 0) (by decide)) (fun _ => iv_lit (x := 0) (by decide)) (fun _ => iv_lit (x := 0) (by decide)) (fun _ => iv_lit (x := 0) (by decide)) (fun _ => iv_lit (x := 0) (by decide)) (fun _ => iv_lit (x := 0) (by decide)) (fun _ => iv_lit (x := 0) (by decide)) (fun _ => iv_lit (x := 0) (by decide)) ⟨by decide, by decide⟩ (fun _ => iv_lit (x := 0) (by decide)) (fun _ => iv_lit (x := 0) (by decide)) (fun _ => iv_lit (x := 0) (by decide)) ⟨by decide, by decide⟩ (fun _ => iv_lit (x := 0) (by decide)) (fun _ => iv_lit (x := 0) (by decide)) (fun _ => iv_lit (x := 0) (by decide)) ⟨by decide, by decide⟩ (fun _ => iv_lit (x := 0) (by decide)) (fun _ => iv_lit (x := 0) (by decide)) (fun _ => iv_lit (x := 0) (by decide)) ⟨by decide, by decide⟩ (fun _ => iv_lit (x := 0) (by decide)) (fun _ => iv_lit (x := 0) (by decide)) (fun _ => iv_lit (x := 0) (by decide)) ⟨by decide, by decide⟩ ⟨by decide, by decide⟩ (fun _ => iv_lit (x := 0) (by decide)) (fun _ => iv_lit (x := 0) (by decide)) ⟨by decide, by decide⟩ ⟨by decide, by decide⟩ (fun _ => iv_lit (x := 0) (by decide)) (fun _ => iv_lit (x := 0) (by decide)), mT0⟩
theorem RF0 : RF (tmk (fun _ => 0) 0 0 (-1) (fun _ => 0) 0 0 0 0 0 2 5 (fun _ => 0) (fun _ => 0) (fun _ => 0) (fun _ => 0) (fun _ => 0) (fun _ => 0) (fun _ => 0) (fun _ => 0) 0 0 0 0 0 2 5 (fun _ => 0) (fun _ => 0) (fun _ => 0) (fun _ => 0) (fun _ => 0) (fun _ => 0) (fun _ => 0) (fun _ => 0) 0 (fun _ => 0) (fun _ => 0) (fun _ => 0) 0 (fun _ => 0) (fun _ => 0) (fun _ => 0) 0 (fun _ => 0) (fun _ => 0) (fun _ => 0) 0 (fun _ => 0) (fun _ => 0) (fun _ => 0) 0 0 (fun _ => 0) (fun _ => 0) 0 0 (fun _ => 0) (fun _ => 0)) (mmk (fun _ => 0) (fun _ => 0) (fun _ => 0) (upd (fun _ => 0) (Int32.toNatClampNeg 0) (-1)) (fun _ => 0) (fun _ => 0) (fun _ => 0) (fun _ => 0) (fun _ => 0) (fun _ => 0)) (fun _ => (tmk (fun _ => 0) 0 0 (-1) (fun _ => 0) 0 0 0 0 0 2 5 (fun _ => 0) (fun _ => 0) (fun _ => 0) (fun _ => 0) (fun _ => 0) (fun _ => 0) (fun _ => 0) (fun _ => 0) 0 0 0 0 0 2 5 (fun _ => 0) (fun _ => 0) (fun _ => 0) (fun _ => 0) (fun _ => 0) (fun _ => 0) (fun _ => 0) (fun _ => 0) 0 (fun _ => 0) (fun _ => 0) (fun _ => 0) 0 (fun _ => 0) (fun _ => 0) (fun _ => 0) 0 (fun _ => 0) (fun _ => 0) (fun _ => 0) 0 (fun _ => 0) (fun _ => 0) (fun _ => 0) 0 0 (fun _ => 0) (fun _ => 0) 0 0 (fun _ => 0) (fun _ => 0))) (fun _ => none) := by
  refine ⟨⟨rfl, fun j hj => absurd hj (Nat.not_lt_zero j), rfl, rfl, fun o ho => ?_, fun o k ho hk h => ?_⟩, fun j hj => ⟨⟨fun _ => rfl, fun _ => rfl⟩, fun h => absurd rfl h⟩⟩
  · rfl
  · exact absurd h (nI_pos (by omega))
theorem RG0 : RG (tmk (fun _ => 0) 0 0 (-1) (fun _ => 0) 0 0 0 0 0 2 5 (fun _ => 0) (fun _ => 0) (fun _ => 0) (fun _ => 0) (fun _ => 0) (fun _ => 0) (fun _ => 0) (fun _ => 0) 0 0 0 0 0 2 5 (fun _ => 0) (fun _ => 0) (fun _ => 0) (fun _ => 0) (fun _ => 0) (fun _ => 0) (fun _ => 0) (fun _ => 0) 0 (fun _ => 0) (fun _ => 0) (fun _ => 0) 0 (fun _ => 0) (fun _ => 0) (fun _ => 0) 0 (fun _ => 0) (fun _ => 0) (fun _ => 0) 0 (fun _ => 0) (fun _ => 0) (fun _ => 0) 0 0 (fun _ => 0) (fun _ => 0) 0 0 (fun _ => 0) (fun _ => 0)) (mmk (fun _ => 0) (fun _ => 0) (fun _ => 0) (upd (fun _ => 0) (Int32.toNatClampNeg 0) (-1)) (fun _ => 0) (fun _ => 0) (fun _ => 0) (fun _ => 0) (fun _ => 0) (fun _ => 0)) (fun _ => (tmk (fun _ => 0) 0 0 (-1) (fun _ => 0) 0 0 0 0 0 2 5 (fun _ => 0) (fun _ => 0) (fun _ => 0) (fun _ => 0) (fun _ => 0) (fun _ => 0) (fun _ => 0) (fun _ => 0) 0 0 0 0 0 2 5 (fun _ => 0) (fun _ => 0) (fun _ => 0) (fun _ => 0) (fun _ => 0) (fun _ => 0) (fun _ => 0) (fun _ => 0) 0 (fun _ => 0) (fun _ => 0) (fun _ => 0) 0 (fun _ => 0) (fun _ => 0) (fun _ => 0) 0 (fun _ => 0) (fun _ => 0) (fun _ => 0) 0 (fun _ => 0) (fun _ => 0) (fun _ => 0) 0 0 (fun _ => 0) (fun _ => 0) 0 0 (fun _ => 0) (fun _ => 0))) (fun _ => none) := ⟨RF0, fun k hk hl => absurd hl (nI_pos (by omega)), fun j hj hn => absurd rfl hn⟩
end
