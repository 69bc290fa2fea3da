set_option maxRecDepth 40000 in
set_option maxHeartbeats 4000000 in
theorem g_0 {p : Program} {l : Launch} {e : Env} {s : State} {m : MethodId} {below : List Frame} {meth : Method} {c : Code} {E : zE} {G : zG} {b L i bx bm cells slots : Nat} {xs : Nat → Int32} {mi : Nat → Option Nat} {ko : Option Nat} {T : TT} {M : Nat → Nat → Int32} {I : Nat → TT} {H : Heap} {locs : List Loc} {ls : Array Slot} (hi : i + 6 ≤ L) (hL : L ≤ 3072) (hR : RG T M I mi) (hcs : cells + 47 ≤ room_1.cells ∧ slots + 4608 ≤ room_1.slots) (C0 : lw_At p s m meth c b L xs) (hbx : s.heap.size ≤ bx) (hbm : bx + 93 ≤ bm) (hK : zK E s) (hO : zO s ∧ zZ G (fun q => s.heap.size ≤ q) s s.heap) (hG : GG E bx bm mi ko T M I H) (hS : va_S (fun q => s.heap.size ≤ q) s.heap H locs) (hl : lv_has ls 4 [(0, .ref b), (1, .ref bx), (2, .ref bm), (3, .int (nI i))])
    (kk : ∀ (mi : Nat → Option Nat) (ko : Option Nat) (T : TT) (M : Nat → Nat → Int32) (I : Nat → TT) (H : Heap) (locs : List Loc) (cells' slots' : Nat), cells' ≤ cells + 47 → slots' ≤ slots + 4608 → RG T M I mi → GG E bx bm mi ko T M I H → va_S (fun q => s.heap.size ≤ q) s.heap H locs → W p l e room_1 s m #[Value.ref b] below meth c H locs cells' slots' (lw_Z below #[Value.ref b] s) (F0 m 1647 ls [])) : W p l e room_1 s m #[Value.ref b] below meth c H locs cells slots (lw_Z below #[Value.ref b] s) (F0 m 180 ls []) := by
  obtain ⟨hx, hb, hr, hml, hown, hts, hX0, hbl, hlocks, hgv⟩ := id C0
  have zc : zC p s m #[Value.ref b] meth c cL_law 4 RL ret := ⟨hx, hb, hml, hown, fun w hw => hts w (zb_in hw), hr, hlocks⟩
  have hbA : ¬ (fun q : Nat => s.heap.size ≤ q) b := Nat.not_le.mpr hbl
  refine lv_aload_n hx hb dL_law_180 rfl (lv_at hl 1 rfl) ?_
  refine lv_aload_n hx hb dL_law_181 rfl (lv_at hl 0 rfl) ?_
  refine lv_iload_n hx hb dL_law_182 rfl (lv_at hl 3 rfl) ?_
  refine lv_iconst (v := (1 : Int32)) hx hb dL_law_183 (by decide) ?_
  refine lv_iadd hx hb dL_law_184 ?_
  refine va_sld hx hb hX0 hbl hbA hS (zidx (k := 1) hi hL rfl (by decide)) dL_law_185 ?_
  refine lv_aload_n hx hb dL_law_186 rfl (lv_at hl 0 rfl) ?_
  refine lv_iload_n hx hb dL_law_187 rfl (lv_at hl 3 rfl) ?_
  refine lv_iconst (v := (2 : Int32)) hx hb dL_law_188 (by decide) ?_
  refine lv_iadd hx hb dL_law_189 ?_
  refine va_sld hx hb hX0 hbl hbA hS (zidx (k := 2) hi hL rfl (by decide)) dL_law_190 ?_
  refine lv_aload_n hx hb dL_law_191 rfl (lv_at hl 0 rfl) ?_
  refine lv_iload_n hx hb dL_law_192 rfl (lv_at hl 3 rfl) ?_
  refine lv_iconst (v := (3 : Int32)) hx hb dL_law_193 (by decide) ?_
  refine lv_iadd hx hb dL_law_194 ?_
  refine va_sld hx hb hX0 hbl hbA hS (zidx (k := 3) hi hL rfl (by decide)) dL_law_195 ?_
  refine lv_aload_n hx hb dL_law_196 rfl (lv_at hl 0 rfl) ?_
  refine lv_iload_n hx hb dL_law_197 rfl (lv_at hl 3 rfl) ?_
  refine lv_iconst (v := (4 : Int32)) hx hb dL_law_198 (by decide) ?_
  refine lv_iadd hx hb dL_law_199 ?_
  refine va_sld hx hb hX0 hbl hbA hS (zidx (k := 4) hi hL rfl (by decide)) dL_law_200 ?_
  refine lv_aload_n hx hb dL_law_201 rfl (lv_at hl 0 rfl) ?_
  refine lv_iload_n hx hb dL_law_202 rfl (lv_at hl 3 rfl) ?_
  refine lv_iconst (v := (5 : Int32)) hx hb dL_law_203 (by decide) ?_
  refine lv_iadd hx hb dL_law_204 ?_
  refine va_sld hx hb hX0 hbl hbA hS (zidx (k := 5) hi hL rfl (by decide)) dL_law_205 ?_
  have hB0 := tB_of hG.2.2.2.1
  have hI0 := tBI_of hG.2.2.1
  refine gx_feed [] hcs C0 hbx hbm hK hO hG hS hl.1 (Nat.le_of_ble_eq_true rfl) kmL_13 dL_law_206 (fun r1 mi' ko' T' I' H locs cells' slots' hx1 e1 e2 hG1 hS1 => ?_)
  obtain ⟨rfl, rfl, hx2⟩ := hx1
  have hG := hG1
  have hS := hS1
  refine lv_pop hx hb dL_law_209 rfl ?_
  refine lv_aload_n hx hb dL_law_210 rfl (lv_at hl 2 rfl) ?_
  refine lv_aload_n hx hb dL_law_211 rfl (lv_at hl 0 rfl) ?_
  refine lv_iload_n hx hb dL_law_212 rfl (lv_at hl 3 rfl) ?_
  refine lv_iconst (v := (1 : Int32)) hx hb dL_law_213 (by decide) ?_
  refine lv_iadd hx hb dL_law_214 ?_
  refine va_sld hx hb hX0 hbl hbA hS (zidx (k := 1) hi hL rfl (by decide)) dL_law_215 ?_
  refine lv_aload_n hx hb dL_law_216 rfl (lv_at hl 0 rfl) ?_
  refine lv_iload_n hx hb dL_law_217 rfl (lv_at hl 3 rfl) ?_
  refine lv_iconst (v := (2 : Int32)) hx hb dL_law_218 (by decide) ?_
  refine lv_iadd hx hb dL_law_219 ?_
  refine va_sld hx hb hX0 hbl hbA hS (zidx (k := 2) hi hL rfl (by decide)) dL_law_220 ?_
  refine lv_aload_n hx hb dL_law_221 rfl (lv_at hl 0 rfl) ?_
  refine lv_iload_n hx hb dL_law_222 rfl (lv_at hl 3 rfl) ?_
  refine lv_iconst (v := (3 : Int32)) hx hb dL_law_223 (by decide) ?_
  refine lv_iadd hx hb dL_law_224 ?_
  refine va_sld hx hb hX0 hbl hbA hS (zidx (k := 3) hi hL rfl (by decide)) dL_law_225 ?_
  refine lv_aload_n hx hb dL_law_226 rfl (lv_at hl 0 rfl) ?_
  refine lv_iload_n hx hb dL_law_227 rfl (lv_at hl 3 rfl) ?_
  refine lv_iconst (v := (4 : Int32)) hx hb dL_law_228 (by decide) ?_
  refine lv_iadd hx hb dL_law_229 ?_
  refine va_sld hx hb hX0 hbl hbA hS (zidx (k := 4) hi hL rfl (by decide)) dL_law_230 ?_
  refine lv_aload_n hx hb dL_law_231 rfl (lv_at hl 0 rfl) ?_
  refine lv_iload_n hx hb dL_law_232 rfl (lv_at hl 3 rfl) ?_
  refine lv_iconst (v := (5 : Int32)) hx hb dL_law_233 (by decide) ?_
  refine lv_iadd hx hb dL_law_234 ?_
  refine va_sld hx hb hX0 hbl hbA hS (zidx (k := 5) hi hL rfl (by decide)) dL_law_235 ?_
  refine gm_feed [] ⟨Nat.le_trans e1 hcs.1, Nat.le_trans e2 hcs.2⟩ C0 hbx hbm hK hO hG hS hl.1 (Nat.le_of_ble_eq_true rfl) kmL_17 dL_law_236 (fun r2 M' H locs hm1 hG2 hS2 => ?_)
  obtain ⟨hrr, hR⟩ := RG_fd hR hB0 hI0 hx2 hm1
  have hG := hG2
  have hS := hS2
  refine lv_pop hx hb dL_law_239 rfl ?_
  refine lv_goto (tgt := 1647) hx hb dL_law_240 (by decide) ?_
  exact kk _ _ _ _ _ _ _ _ _ e1 e2 hR hG hS

set_option maxRecDepth 40000 in
set_option maxHeartbeats 4000000 in
theorem g_1 {p : Program} {l : Launch} {e : Env} {s : State} {m : MethodId} {below : List Frame} {meth : Method} {c : Code} {E : zE} {G : zG} {b L i bx bm cells slots : Nat} {xs : Nat → Int32} {mi : Nat → Option Nat} {ko : Option Nat} {T : TT} {M : Nat → Nat → Int32} {I : Nat → TT} {H : Heap} {locs : List Loc} {ls : Array Slot} (hi : i + 6 ≤ L) (hL : L ≤ 3072) (hR : RG T M I mi) (hcs : cells + 47 ≤ room_1.cells ∧ slots + 4608 ≤ room_1.slots) (C0 : lw_At p s m meth c b L xs) (hbx : s.heap.size ≤ bx) (hbm : bx + 93 ≤ bm) (hK : zK E s) (hO : zO s ∧ zZ G (fun q => s.heap.size ≤ q) s s.heap) (hG : GG E bx bm mi ko T M I H) (hS : va_S (fun q => s.heap.size ≤ q) s.heap H locs) (hl : lv_has ls 4 [(0, .ref b), (1, .ref bx), (2, .ref bm), (3, .int (nI i))])
    (kk : ∀ (mi : Nat → Option Nat) (ko : Option Nat) (T : TT) (M : Nat → Nat → Int32) (I : Nat → TT) (H : Heap) (locs : List Loc) (cells' slots' : Nat), cells' ≤ cells + 47 → slots' ≤ slots + 4608 → RG T M I mi → GG E bx bm mi ko T M I H → va_S (fun q => s.heap.size ≤ q) s.heap H locs → W p l e room_1 s m #[Value.ref b] below meth c H locs cells' slots' (lw_Z below #[Value.ref b] s) (F0 m 1647 ls [])) : W p l e room_1 s m #[Value.ref b] below meth c H locs cells slots (lw_Z below #[Value.ref b] s) (F0 m 243 ls []) := by
  obtain ⟨hx, hb, hr, hml, hown, hts, hX0, hbl, hlocks, hgv⟩ := id C0
  have zc : zC p s m #[Value.ref b] meth c cL_law 4 RL ret := ⟨hx, hb, hml, hown, fun w hw => hts w (zb_in hw), hr, hlocks⟩
  have hbA : ¬ (fun q : Nat => s.heap.size ≤ q) b := Nat.not_le.mpr hbl
  refine lv_aload_n hx hb dL_law_243 rfl (lv_at hl 1 rfl) ?_
  refine lv_aload_n hx hb dL_law_244 rfl (lv_at hl 0 rfl) ?_
  refine lv_iload_n hx hb dL_law_245 rfl (lv_at hl 3 rfl) ?_
  refine lv_iconst (v := (1 : Int32)) hx hb dL_law_246 (by decide) ?_
  refine lv_iadd hx hb dL_law_247 ?_
  refine va_sld hx hb hX0 hbl hbA hS (zidx (k := 1) hi hL rfl (by decide)) dL_law_248 ?_
  have hB0 := tB_of hG.2.2.2.1
  have hI0 := tBI_of hG.2.2.1
  refine gx_end [] hcs C0 hbx hbm hK hO hG hS hl.1 (Nat.le_of_ble_eq_true rfl) kmL_18 dL_law_249 (fun r1 mi' ko' T' I' H locs cells' slots' hx1 e1 e2 hG1 hS1 => ?_)
  obtain ⟨rfl, rfl, hx2⟩ := hx1
  have hG := hG1
  have hS := hS1
  refine lv_pop hx hb dL_law_252 rfl ?_
  refine lv_aload_n hx hb dL_law_253 rfl (lv_at hl 2 rfl) ?_
  refine lv_aload_n hx hb dL_law_254 rfl (lv_at hl 0 rfl) ?_
  refine lv_iload_n hx hb dL_law_255 rfl (lv_at hl 3 rfl) ?_
  refine lv_iconst (v := (1 : Int32)) hx hb dL_law_256 (by decide) ?_
  refine lv_iadd hx hb dL_law_257 ?_
  refine va_sld hx hb hX0 hbl hbA hS (zidx (k := 1) hi hL rfl (by decide)) dL_law_258 ?_
  refine gm_end [] ⟨Nat.le_trans e1 hcs.1, Nat.le_trans e2 hcs.2⟩ C0 hbx hbm hK hO hG hS hl.1 (Nat.le_of_ble_eq_true rfl) kmL_22 dL_law_259 (fun r2 M' H locs hm1 hG2 hS2 => ?_)
  obtain ⟨hrr, hR⟩ := RG_en hR hB0 hI0 hx2 hm1
  have hG := hG2
  have hS := hS2
  refine lv_pop hx hb dL_law_262 rfl ?_
  refine lv_goto (tgt := 1647) hx hb dL_law_263 (by decide) ?_
  exact kk _ _ _ _ _ _ _ _ _ e1 e2 hR hG hS

set_option maxRecDepth 40000 in
set_option maxHeartbeats 4000000 in
theorem g_2 {p : Program} {l : Launch} {e : Env} {s : State} {m : MethodId} {below : List Frame} {meth : Method} {c : Code} {E : zE} {G : zG} {b L i bx bm cells slots : Nat} {xs : Nat → Int32} {mi : Nat → Option Nat} {ko : Option Nat} {T : TT} {M : Nat → Nat → Int32} {I : Nat → TT} {H : Heap} {locs : List Loc} {ls : Array Slot} (hi : i + 6 ≤ L) (hL : L ≤ 3072) (hR : RG T M I mi) (hcs : cells + 47 ≤ room_1.cells ∧ slots + 4608 ≤ room_1.slots) (C0 : lw_At p s m meth c b L xs) (hbx : s.heap.size ≤ bx) (hbm : bx + 93 ≤ bm) (hK : zK E s) (hO : zO s ∧ zZ G (fun q => s.heap.size ≤ q) s s.heap) (hG : GG E bx bm mi ko T M I H) (hS : va_S (fun q => s.heap.size ≤ q) s.heap H locs) (hl : lv_has ls 4 [(0, .ref b), (1, .ref bx), (2, .ref bm), (3, .int (nI i))])
    (kk : ∀ (mi : Nat → Option Nat) (ko : Option Nat) (T : TT) (M : Nat → Nat → Int32) (I : Nat → TT) (H : Heap) (locs : List Loc) (cells' slots' : Nat), cells' ≤ cells + 47 → slots' ≤ slots + 4608 → RG T M I mi → GG E bx bm mi ko T M I H → va_S (fun q => s.heap.size ≤ q) s.heap H locs → W p l e room_1 s m #[Value.ref b] below meth c H locs cells' slots' (lw_Z below #[Value.ref b] s) (F0 m 1647 ls [])) : W p l e room_1 s m #[Value.ref b] below meth c H locs cells slots (lw_Z below #[Value.ref b] s) (F0 m 266 ls []) := by
  obtain ⟨hx, hb, hr, hml, hown, hts, hX0, hbl, hlocks, hgv⟩ := id C0
  have zc : zC p s m #[Value.ref b] meth c cL_law 4 RL ret := ⟨hx, hb, hml, hown, fun w hw => hts w (zb_in hw), hr, hlocks⟩
  have hbA : ¬ (fun q : Nat => s.heap.size ≤ q) b := Nat.not_le.mpr hbl
  refine lv_aload_n hx hb dL_law_266 rfl (lv_at hl 1 rfl) ?_
  refine lv_aload_n hx hb dL_law_267 rfl (lv_at hl 0 rfl) ?_
  refine lv_iload_n hx hb dL_law_268 rfl (lv_at hl 3 rfl) ?_
  refine lv_iconst (v := (1 : Int32)) hx hb dL_law_269 (by decide) ?_
  refine lv_iadd hx hb dL_law_270 ?_
  refine va_sld hx hb hX0 hbl hbA hS (zidx (k := 1) hi hL rfl (by decide)) dL_law_271 ?_
  refine lv_aload_n hx hb dL_law_272 rfl (lv_at hl 0 rfl) ?_
  refine lv_iload_n hx hb dL_law_273 rfl (lv_at hl 3 rfl) ?_
  refine lv_iconst (v := (2 : Int32)) hx hb dL_law_274 (by decide) ?_
  refine lv_iadd hx hb dL_law_275 ?_
  refine va_sld hx hb hX0 hbl hbA hS (zidx (k := 2) hi hL rfl (by decide)) dL_law_276 ?_
  have hB0 := tB_of hG.2.2.2.1
  have hI0 := tBI_of hG.2.2.1
  refine gx_text [] hcs C0 hbx hbm hK hO hG hS hl.1 (Nat.le_of_ble_eq_true rfl) kmL_23 dL_law_277 (fun r1 mi' ko' T' I' H locs cells' slots' hx1 e1 e2 hG1 hS1 => ?_)
  obtain ⟨rfl, rfl, hx2⟩ := hx1
  have hB1 := tB_of hG1.2.2.2.1
  have hG := hG1
  have hS := hS1
  refine lv_pop hx hb dL_law_280 rfl ?_
  refine lv_aload_n hx hb dL_law_281 rfl (lv_at hl 2 rfl) ?_
  refine lv_aload_n hx hb dL_law_282 rfl (lv_at hl 0 rfl) ?_
  refine lv_iload_n hx hb dL_law_283 rfl (lv_at hl 3 rfl) ?_
  refine lv_iconst (v := (1 : Int32)) hx hb dL_law_284 (by decide) ?_
  refine lv_iadd hx hb dL_law_285 ?_
  refine va_sld hx hb hX0 hbl hbA hS (zidx (k := 1) hi hL rfl (by decide)) dL_law_286 ?_
  refine lv_aload_n hx hb dL_law_287 rfl (lv_at hl 0 rfl) ?_
  refine lv_iload_n hx hb dL_law_288 rfl (lv_at hl 3 rfl) ?_
  refine lv_iconst (v := (2 : Int32)) hx hb dL_law_289 (by decide) ?_
  refine lv_iadd hx hb dL_law_290 ?_
  refine va_sld hx hb hX0 hbl hbA hS (zidx (k := 2) hi hL rfl (by decide)) dL_law_291 ?_
  refine gm_text [] ⟨Nat.le_trans e1 hcs.1, Nat.le_trans e2 hcs.2⟩ C0 hbx hbm hK hO hG hS hl.1 (Nat.le_of_ble_eq_true rfl) kmL_27 dL_law_292 (fun r2 M' H locs hm1 hG2 hS2 => ?_)
  obtain ⟨hrr, hR⟩ := RG_tx hR hB0 hB1 hI0 hx2 hm1
  have hG := hG2
  have hS := hS2
  refine lv_pop hx hb dL_law_295 rfl ?_
  refine lv_goto (tgt := 1647) hx hb dL_law_296 (by decide) ?_
  exact kk _ _ _ _ _ _ _ _ _ e1 e2 hR hG hS

set_option maxRecDepth 40000 in
set_option maxHeartbeats 4000000 in
theorem g_3 {p : Program} {l : Launch} {e : Env} {s : State} {m : MethodId} {below : List Frame} {meth : Method} {c : Code} {E : zE} {G : zG} {b L i bx bm cells slots : Nat} {xs : Nat → Int32} {mi : Nat → Option Nat} {ko : Option Nat} {T : TT} {M : Nat → Nat → Int32} {I : Nat → TT} {H : Heap} {locs : List Loc} {ls : Array Slot} (hi : i + 6 ≤ L) (hL : L ≤ 3072) (hR : RG T M I mi) (hcs : cells + 47 ≤ room_1.cells ∧ slots + 4608 ≤ room_1.slots) (C0 : lw_At p s m meth c b L xs) (hbx : s.heap.size ≤ bx) (hbm : bx + 93 ≤ bm) (hK : zK E s) (hO : zO s ∧ zZ G (fun q => s.heap.size ≤ q) s s.heap) (hG : GG E bx bm mi ko T M I H) (hS : va_S (fun q => s.heap.size ≤ q) s.heap H locs) (hl : lv_has ls 4 [(0, .ref b), (1, .ref bx), (2, .ref bm), (3, .int (nI i))])
    (kk : ∀ (mi : Nat → Option Nat) (ko : Option Nat) (T : TT) (M : Nat → Nat → Int32) (I : Nat → TT) (H : Heap) (locs : List Loc) (cells' slots' : Nat), cells' ≤ cells + 47 → slots' ≤ slots + 4608 → RG T M I mi → GG E bx bm mi ko T M I H → va_S (fun q => s.heap.size ≤ q) s.heap H locs → W p l e room_1 s m #[Value.ref b] below meth c H locs cells' slots' (lw_Z below #[Value.ref b] s) (F0 m 1647 ls [])) : W p l e room_1 s m #[Value.ref b] below meth c H locs cells slots (lw_Z below #[Value.ref b] s) (F0 m 299 ls []) := by
  obtain ⟨hx, hb, hr, hml, hown, hts, hX0, hbl, hlocks, hgv⟩ := id C0
  have zc : zC p s m #[Value.ref b] meth c cL_law 4 RL ret := ⟨hx, hb, hml, hown, fun w hw => hts w (zb_in hw), hr, hlocks⟩
  have hbA : ¬ (fun q : Nat => s.heap.size ≤ q) b := Nat.not_le.mpr hbl
  refine lv_aload_n hx hb dL_law_299 rfl (lv_at hl 1 rfl) ?_
  refine lv_aload_n hx hb dL_law_300 rfl (lv_at hl 0 rfl) ?_
  refine lv_iload_n hx hb dL_law_301 rfl (lv_at hl 3 rfl) ?_
  refine lv_iconst (v := (1 : Int32)) hx hb dL_law_302 (by decide) ?_
  refine lv_iadd hx hb dL_law_303 ?_
  refine va_sld hx hb hX0 hbl hbA hS (zidx (k := 1) hi hL rfl (by decide)) dL_law_304 ?_
  have hB0 := tB_of hG.2.2.2.1
  have hI0 := tBI_of hG.2.2.1
  refine gx_fault [] hcs C0 hbx hbm hK hO hG hS hl.1 (Nat.le_of_ble_eq_true rfl) kmL_28 dL_law_305 (fun r1 mi' ko' T' I' H locs cells' slots' hx1 e1 e2 hG1 hS1 => ?_)
  obtain ⟨rfl, rfl, rfl⟩ := hx1
  have hG := hG1
  have hS := hS1
  refine lv_pop hx hb dL_law_308 rfl ?_
  refine lv_aload_n hx hb dL_law_309 rfl (lv_at hl 2 rfl) ?_
  refine lv_aload_n hx hb dL_law_310 rfl (lv_at hl 0 rfl) ?_
  refine lv_iload_n hx hb dL_law_311 rfl (lv_at hl 3 rfl) ?_
  refine lv_iconst (v := (1 : Int32)) hx hb dL_law_312 (by decide) ?_
  refine lv_iadd hx hb dL_law_313 ?_
  refine va_sld hx hb hX0 hbl hbA hS (zidx (k := 1) hi hL rfl (by decide)) dL_law_314 ?_
  refine gm_fault [] ⟨Nat.le_trans e1 hcs.1, Nat.le_trans e2 hcs.2⟩ C0 hbx hbm hK hO hG hS hl.1 (Nat.le_of_ble_eq_true rfl) kmL_31 dL_law_315 (fun r2 M' H locs hm1 hG2 hS2 => ?_)
  obtain rfl := hm1
  have hG := hG2
  have hS := hS2
  refine lv_pop hx hb dL_law_318 rfl ?_
  refine lv_goto (tgt := 1647) hx hb dL_law_319 (by decide) ?_
  exact kk _ _ _ _ _ _ _ _ _ e1 e2 hR hG hS

set_option maxRecDepth 40000 in
set_option maxHeartbeats 4000000 in
theorem g_4 {p : Program} {l : Launch} {e : Env} {s : State} {m : MethodId} {below : List Frame} {meth : Method} {c : Code} {E : zE} {G : zG} {b L i bx bm cells slots : Nat} {xs : Nat → Int32} {mi : Nat → Option Nat} {ko : Option Nat} {T : TT} {M : Nat → Nat → Int32} {I : Nat → TT} {H : Heap} {locs : List Loc} {ls : Array Slot} (hi : i + 6 ≤ L) (hL : L ≤ 3072) (hR : RG T M I mi) (hcs : cells + 47 ≤ room_1.cells ∧ slots + 4608 ≤ room_1.slots) (C0 : lw_At p s m meth c b L xs) (hbx : s.heap.size ≤ bx) (hbm : bx + 93 ≤ bm) (hK : zK E s) (hO : zO s ∧ zZ G (fun q => s.heap.size ≤ q) s s.heap) (hG : GG E bx bm mi ko T M I H) (hS : va_S (fun q => s.heap.size ≤ q) s.heap H locs) (hl : lv_has ls 4 [(0, .ref b), (1, .ref bx), (2, .ref bm), (3, .int (nI i))])
    (kk : ∀ (mi : Nat → Option Nat) (ko : Option Nat) (T : TT) (M : Nat → Nat → Int32) (I : Nat → TT) (H : Heap) (locs : List Loc) (cells' slots' : Nat), cells' ≤ cells + 47 → slots' ≤ slots + 4608 → RG T M I mi → GG E bx bm mi ko T M I H → va_S (fun q => s.heap.size ≤ q) s.heap H locs → W p l e room_1 s m #[Value.ref b] below meth c H locs cells' slots' (lw_Z below #[Value.ref b] s) (F0 m 1647 ls [])) : W p l e room_1 s m #[Value.ref b] below meth c H locs cells slots (lw_Z below #[Value.ref b] s) (F0 m 322 ls []) := by
  obtain ⟨hx, hb, hr, hml, hown, hts, hX0, hbl, hlocks, hgv⟩ := id C0
  have zc : zC p s m #[Value.ref b] meth c cL_law 4 RL ret := ⟨hx, hb, hml, hown, fun w hw => hts w (zb_in hw), hr, hlocks⟩
  have hbA : ¬ (fun q : Nat => s.heap.size ≤ q) b := Nat.not_le.mpr hbl
  refine lv_aload_n hx hb dL_law_322 rfl (lv_at hl 1 rfl) ?_
  refine lv_aload_n hx hb dL_law_323 rfl (lv_at hl 0 rfl) ?_
  refine lv_iload_n hx hb dL_law_324 rfl (lv_at hl 3 rfl) ?_
  refine lv_iconst (v := (1 : Int32)) hx hb dL_law_325 (by decide) ?_
  refine lv_iadd hx hb dL_law_326 ?_
  refine va_sld hx hb hX0 hbl hbA hS (zidx (k := 1) hi hL rfl (by decide)) dL_law_327 ?_
  refine lv_aload_n hx hb dL_law_328 rfl (lv_at hl 0 rfl) ?_
  refine lv_iload_n hx hb dL_law_329 rfl (lv_at hl 3 rfl) ?_
  refine lv_iconst (v := (2 : Int32)) hx hb dL_law_330 (by decide) ?_
  refine lv_iadd hx hb dL_law_331 ?_
  refine va_sld hx hb hX0 hbl hbA hS (zidx (k := 2) hi hL rfl (by decide)) dL_law_332 ?_
  have hB0 := tB_of hG.2.2.2.1
  have hI0 := tBI_of hG.2.2.1
  refine gx_land [] hcs C0 hbx hbm hK hO hG hS hl.1 (Nat.le_of_ble_eq_true rfl) kmL_32 dL_law_333 (fun r1 mi' ko' T' I' H locs cells' slots' hx1 e1 e2 hG1 hS1 => ?_)
  obtain ⟨rfl, rfl, rfl⟩ := hx1
  have hG := hG1
  have hS := hS1
  refine lv_pop hx hb dL_law_336 rfl ?_
  refine lv_aload_n hx hb dL_law_337 rfl (lv_at hl 2 rfl) ?_
  refine lv_aload_n hx hb dL_law_338 rfl (lv_at hl 0 rfl) ?_
  refine lv_iload_n hx hb dL_law_339 rfl (lv_at hl 3 rfl) ?_
  refine lv_iconst (v := (1 : Int32)) hx hb dL_law_340 (by decide) ?_
  refine lv_iadd hx hb dL_law_341 ?_
  refine va_sld hx hb hX0 hbl hbA hS (zidx (k := 1) hi hL rfl (by decide)) dL_law_342 ?_
  refine lv_aload_n hx hb dL_law_343 rfl (lv_at hl 0 rfl) ?_
  refine lv_iload_n hx hb dL_law_344 rfl (lv_at hl 3 rfl) ?_
  refine lv_iconst (v := (2 : Int32)) hx hb dL_law_345 (by decide) ?_
  refine lv_iadd hx hb dL_law_346 ?_
  refine va_sld hx hb hX0 hbl hbA hS (zidx (k := 2) hi hL rfl (by decide)) dL_law_347 ?_
  refine gm_land [] ⟨Nat.le_trans e1 hcs.1, Nat.le_trans e2 hcs.2⟩ C0 hbx hbm hK hO hG hS hl.1 (Nat.le_of_ble_eq_true rfl) kmL_35 dL_law_348 (fun r2 M' H locs hm1 hG2 hS2 => ?_)
  obtain rfl := hm1
  have hG := hG2
  have hS := hS2
  refine lv_pop hx hb dL_law_351 rfl ?_
  refine lv_goto (tgt := 1647) hx hb dL_law_352 (by decide) ?_
  exact kk _ _ _ _ _ _ _ _ _ e1 e2 hR hG hS

set_option maxRecDepth 40000 in
set_option maxHeartbeats 4000000 in
theorem g_5 {p : Program} {l : Launch} {e : Env} {s : State} {m : MethodId} {below : List Frame} {meth : Method} {c : Code} {E : zE} {G : zG} {b L i bx bm cells slots : Nat} {xs : Nat → Int32} {mi : Nat → Option Nat} {ko : Option Nat} {T : TT} {M : Nat → Nat → Int32} {I : Nat → TT} {H : Heap} {locs : List Loc} {ls : Array Slot} (hi : i + 6 ≤ L) (hL : L ≤ 3072) (hR : RG T M I mi) (hcs : cells + 47 ≤ room_1.cells ∧ slots + 4608 ≤ room_1.slots) (C0 : lw_At p s m meth c b L xs) (hbx : s.heap.size ≤ bx) (hbm : bx + 93 ≤ bm) (hK : zK E s) (hO : zO s ∧ zZ G (fun q => s.heap.size ≤ q) s s.heap) (hG : GG E bx bm mi ko T M I H) (hS : va_S (fun q => s.heap.size ≤ q) s.heap H locs) (hl : lv_has ls 4 [(0, .ref b), (1, .ref bx), (2, .ref bm), (3, .int (nI i))])
    (kk : ∀ (mi : Nat → Option Nat) (ko : Option Nat) (T : TT) (M : Nat → Nat → Int32) (I : Nat → TT) (H : Heap) (locs : List Loc) (cells' slots' : Nat), cells' ≤ cells + 47 → slots' ≤ slots + 4608 → RG T M I mi → GG E bx bm mi ko T M I H → va_S (fun q => s.heap.size ≤ q) s.heap H locs → W p l e room_1 s m #[Value.ref b] below meth c H locs cells' slots' (lw_Z below #[Value.ref b] s) (F0 m 1647 ls [])) : W p l e room_1 s m #[Value.ref b] below meth c H locs cells slots (lw_Z below #[Value.ref b] s) (F0 m 355 ls []) := by
  obtain ⟨hx, hb, hr, hml, hown, hts, hX0, hbl, hlocks, hgv⟩ := id C0
  have zc : zC p s m #[Value.ref b] meth c cL_law 4 RL ret := ⟨hx, hb, hml, hown, fun w hw => hts w (zb_in hw), hr, hlocks⟩
  have hbA : ¬ (fun q : Nat => s.heap.size ≤ q) b := Nat.not_le.mpr hbl
  refine lv_aload_n hx hb dL_law_355 rfl (lv_at hl 1 rfl) ?_
  refine lv_aload_n hx hb dL_law_356 rfl (lv_at hl 0 rfl) ?_
  refine lv_iload_n hx hb dL_law_357 rfl (lv_at hl 3 rfl) ?_
  refine lv_iconst (v := (1 : Int32)) hx hb dL_law_358 (by decide) ?_
  refine lv_iadd hx hb dL_law_359 ?_
  refine va_sld hx hb hX0 hbl hbA hS (zidx (k := 1) hi hL rfl (by decide)) dL_law_360 ?_
  refine lv_aload_n hx hb dL_law_361 rfl (lv_at hl 0 rfl) ?_
  refine lv_iload_n hx hb dL_law_362 rfl (lv_at hl 3 rfl) ?_
  refine lv_iconst (v := (2 : Int32)) hx hb dL_law_363 (by decide) ?_
  refine lv_iadd hx hb dL_law_364 ?_
  refine va_sld hx hb hX0 hbl hbA hS (zidx (k := 2) hi hL rfl (by decide)) dL_law_365 ?_
  refine lv_aload_n hx hb dL_law_366 rfl (lv_at hl 0 rfl) ?_
  refine lv_iload_n hx hb dL_law_367 rfl (lv_at hl 3 rfl) ?_
  refine lv_iconst (v := (3 : Int32)) hx hb dL_law_368 (by decide) ?_
  refine lv_iadd hx hb dL_law_369 ?_
  refine va_sld hx hb hX0 hbl hbA hS (zidx (k := 3) hi hL rfl (by decide)) dL_law_370 ?_
  have hB0 := tB_of hG.2.2.2.1
  have hI0 := tBI_of hG.2.2.1
  refine gx_echo [] hcs C0 hbx hbm hK hO hG hS hl.1 (Nat.le_of_ble_eq_true rfl) kmL_36 dL_law_371 (fun r1 mi' ko' T' I' H locs cells' slots' hx1 e1 e2 hG1 hS1 => ?_)
  obtain ⟨rfl, rfl, rfl⟩ := hx1
  have hG := hG1
  have hS := hS1
  refine lv_pop hx hb dL_law_374 rfl ?_
  refine lv_aload_n hx hb dL_law_375 rfl (lv_at hl 2 rfl) ?_
  refine lv_aload_n hx hb dL_law_376 rfl (lv_at hl 0 rfl) ?_
  refine lv_iload_n hx hb dL_law_377 rfl (lv_at hl 3 rfl) ?_
  refine lv_iconst (v := (1 : Int32)) hx hb dL_law_378 (by decide) ?_
  refine lv_iadd hx hb dL_law_379 ?_
  refine va_sld hx hb hX0 hbl hbA hS (zidx (k := 1) hi hL rfl (by decide)) dL_law_380 ?_
  refine lv_aload_n hx hb dL_law_381 rfl (lv_at hl 0 rfl) ?_
  refine lv_iload_n hx hb dL_law_382 rfl (lv_at hl 3 rfl) ?_
  refine lv_iconst (v := (2 : Int32)) hx hb dL_law_383 (by decide) ?_
  refine lv_iadd hx hb dL_law_384 ?_
  refine va_sld hx hb hX0 hbl hbA hS (zidx (k := 2) hi hL rfl (by decide)) dL_law_385 ?_
  refine lv_aload_n hx hb dL_law_386 rfl (lv_at hl 0 rfl) ?_
  refine lv_iload_n hx hb dL_law_387 rfl (lv_at hl 3 rfl) ?_
  refine lv_iconst (v := (3 : Int32)) hx hb dL_law_388 (by decide) ?_
  refine lv_iadd hx hb dL_law_389 ?_
  refine va_sld hx hb hX0 hbl hbA hS (zidx (k := 3) hi hL rfl (by decide)) dL_law_390 ?_
  refine gm_echo [] ⟨Nat.le_trans e1 hcs.1, Nat.le_trans e2 hcs.2⟩ C0 hbx hbm hK hO hG hS hl.1 (Nat.le_of_ble_eq_true rfl) kmL_40 dL_law_391 (fun r2 M' H locs hm1 hG2 hS2 => ?_)
  obtain rfl := hm1
  have hG := hG2
  have hS := hS2
  refine lv_pop hx hb dL_law_394 rfl ?_
  refine lv_goto (tgt := 1647) hx hb dL_law_395 (by decide) ?_
  exact kk _ _ _ _ _ _ _ _ _ e1 e2 hR hG hS

set_option maxRecDepth 40000 in
set_option maxHeartbeats 4000000 in
theorem g_6 {p : Program} {l : Launch} {e : Env} {s : State} {m : MethodId} {below : List Frame} {meth : Method} {c : Code} {E : zE} {G : zG} {b L i bx bm cells slots : Nat} {xs : Nat → Int32} {mi : Nat → Option Nat} {ko : Option Nat} {T : TT} {M : Nat → Nat → Int32} {I : Nat → TT} {H : Heap} {locs : List Loc} {ls : Array Slot} (hi : i + 6 ≤ L) (hL : L ≤ 3072) (hR : RG T M I mi) (hcs : cells + 47 ≤ room_1.cells ∧ slots + 4608 ≤ room_1.slots) (C0 : lw_At p s m meth c b L xs) (hbx : s.heap.size ≤ bx) (hbm : bx + 93 ≤ bm) (hK : zK E s) (hO : zO s ∧ zZ G (fun q => s.heap.size ≤ q) s s.heap) (hG : GG E bx bm mi ko T M I H) (hS : va_S (fun q => s.heap.size ≤ q) s.heap H locs) (hl : lv_has ls 4 [(0, .ref b), (1, .ref bx), (2, .ref bm), (3, .int (nI i))])
    (kk : ∀ (mi : Nat → Option Nat) (ko : Option Nat) (T : TT) (M : Nat → Nat → Int32) (I : Nat → TT) (H : Heap) (locs : List Loc) (cells' slots' : Nat), cells' ≤ cells + 47 → slots' ≤ slots + 4608 → RG T M I mi → GG E bx bm mi ko T M I H → va_S (fun q => s.heap.size ≤ q) s.heap H locs → W p l e room_1 s m #[Value.ref b] below meth c H locs cells' slots' (lw_Z below #[Value.ref b] s) (F0 m 1647 ls [])) : W p l e room_1 s m #[Value.ref b] below meth c H locs cells slots (lw_Z below #[Value.ref b] s) (F0 m 398 ls []) := by
  obtain ⟨hx, hb, hr, hml, hown, hts, hX0, hbl, hlocks, hgv⟩ := id C0
  have zc : zC p s m #[Value.ref b] meth c cL_law 4 RL ret := ⟨hx, hb, hml, hown, fun w hw => hts w (zb_in hw), hr, hlocks⟩
  have hbA : ¬ (fun q : Nat => s.heap.size ≤ q) b := Nat.not_le.mpr hbl
  refine lv_aload_n hx hb dL_law_398 rfl (lv_at hl 1 rfl) ?_
  refine lv_aload_n hx hb dL_law_399 rfl (lv_at hl 0 rfl) ?_
  refine lv_iload_n hx hb dL_law_400 rfl (lv_at hl 3 rfl) ?_
  refine lv_iconst (v := (1 : Int32)) hx hb dL_law_401 (by decide) ?_
  refine lv_iadd hx hb dL_law_402 ?_
  refine va_sld hx hb hX0 hbl hbA hS (zidx (k := 1) hi hL rfl (by decide)) dL_law_403 ?_
  refine lv_aload_n hx hb dL_law_404 rfl (lv_at hl 0 rfl) ?_
  refine lv_iload_n hx hb dL_law_405 rfl (lv_at hl 3 rfl) ?_
  refine lv_iconst (v := (2 : Int32)) hx hb dL_law_406 (by decide) ?_
  refine lv_iadd hx hb dL_law_407 ?_
  refine va_sld hx hb hX0 hbl hbA hS (zidx (k := 2) hi hL rfl (by decide)) dL_law_408 ?_
  refine lv_aload_n hx hb dL_law_409 rfl (lv_at hl 0 rfl) ?_
  refine lv_iload_n hx hb dL_law_410 rfl (lv_at hl 3 rfl) ?_
  refine lv_iconst (v := (3 : Int32)) hx hb dL_law_411 (by decide) ?_
  refine lv_iadd hx hb dL_law_412 ?_
  refine va_sld hx hb hX0 hbl hbA hS (zidx (k := 3) hi hL rfl (by decide)) dL_law_413 ?_
  have hB0 := tB_of hG.2.2.2.1
  have hI0 := tBI_of hG.2.2.1
  refine gx_deed [] hcs C0 hbx hbm hK hO hG hS hl.1 (Nat.le_of_ble_eq_true rfl) kmL_41 dL_law_414 (fun r1 mi' ko' T' I' H locs cells' slots' hx1 e1 e2 hG1 hS1 => ?_)
  obtain ⟨rfl, rfl, rfl⟩ := hx1
  have hG := hG1
  have hS := hS1
  refine lv_pop hx hb dL_law_417 rfl ?_
  refine lv_aload_n hx hb dL_law_418 rfl (lv_at hl 2 rfl) ?_
  refine lv_aload_n hx hb dL_law_419 rfl (lv_at hl 0 rfl) ?_
  refine lv_iload_n hx hb dL_law_420 rfl (lv_at hl 3 rfl) ?_
  refine lv_iconst (v := (1 : Int32)) hx hb dL_law_421 (by decide) ?_
  refine lv_iadd hx hb dL_law_422 ?_
  refine va_sld hx hb hX0 hbl hbA hS (zidx (k := 1) hi hL rfl (by decide)) dL_law_423 ?_
  refine lv_aload_n hx hb dL_law_424 rfl (lv_at hl 0 rfl) ?_
  refine lv_iload_n hx hb dL_law_425 rfl (lv_at hl 3 rfl) ?_
  refine lv_iconst (v := (2 : Int32)) hx hb dL_law_426 (by decide) ?_
  refine lv_iadd hx hb dL_law_427 ?_
  refine va_sld hx hb hX0 hbl hbA hS (zidx (k := 2) hi hL rfl (by decide)) dL_law_428 ?_
  refine lv_aload_n hx hb dL_law_429 rfl (lv_at hl 0 rfl) ?_
  refine lv_iload_n hx hb dL_law_430 rfl (lv_at hl 3 rfl) ?_
  refine lv_iconst (v := (3 : Int32)) hx hb dL_law_431 (by decide) ?_
  refine lv_iadd hx hb dL_law_432 ?_
  refine va_sld hx hb hX0 hbl hbA hS (zidx (k := 3) hi hL rfl (by decide)) dL_law_433 ?_
  refine gm_deed [] ⟨Nat.le_trans e1 hcs.1, Nat.le_trans e2 hcs.2⟩ C0 hbx hbm hK hO hG hS hl.1 (Nat.le_of_ble_eq_true rfl) kmL_44 dL_law_434 (fun r2 M' H locs hm1 hG2 hS2 => ?_)
  obtain rfl := hm1
  have hG := hG2
  have hS := hS2
  refine lv_pop hx hb dL_law_437 rfl ?_
  refine lv_goto (tgt := 1647) hx hb dL_law_438 (by decide) ?_
  exact kk _ _ _ _ _ _ _ _ _ e1 e2 hR hG hS

set_option maxRecDepth 40000 in
set_option maxHeartbeats 4000000 in
theorem g_7 {p : Program} {l : Launch} {e : Env} {s : State} {m : MethodId} {below : List Frame} {meth : Method} {c : Code} {E : zE} {G : zG} {b L i bx bm cells slots : Nat} {xs : Nat → Int32} {mi : Nat → Option Nat} {ko : Option Nat} {T : TT} {M : Nat → Nat → Int32} {I : Nat → TT} {H : Heap} {locs : List Loc} {ls : Array Slot} (hi : i + 6 ≤ L) (hL : L ≤ 3072) (hR : RG T M I mi) (hcs : cells + 47 ≤ room_1.cells ∧ slots + 4608 ≤ room_1.slots) (C0 : lw_At p s m meth c b L xs) (hbx : s.heap.size ≤ bx) (hbm : bx + 93 ≤ bm) (hK : zK E s) (hO : zO s ∧ zZ G (fun q => s.heap.size ≤ q) s s.heap) (hG : GG E bx bm mi ko T M I H) (hS : va_S (fun q => s.heap.size ≤ q) s.heap H locs) (hl : lv_has ls 4 [(0, .ref b), (1, .ref bx), (2, .ref bm), (3, .int (nI i))])
    (kk : ∀ (mi : Nat → Option Nat) (ko : Option Nat) (T : TT) (M : Nat → Nat → Int32) (I : Nat → TT) (H : Heap) (locs : List Loc) (cells' slots' : Nat), cells' ≤ cells + 47 → slots' ≤ slots + 4608 → RG T M I mi → GG E bx bm mi ko T M I H → va_S (fun q => s.heap.size ≤ q) s.heap H locs → W p l e room_1 s m #[Value.ref b] below meth c H locs cells' slots' (lw_Z below #[Value.ref b] s) (F0 m 1647 ls [])) : W p l e room_1 s m #[Value.ref b] below meth c H locs cells slots (lw_Z below #[Value.ref b] s) (F0 m 441 ls []) := by
  obtain ⟨hx, hb, hr, hml, hown, hts, hX0, hbl, hlocks, hgv⟩ := id C0
  have zc : zC p s m #[Value.ref b] meth c cL_law 4 RL ret := ⟨hx, hb, hml, hown, fun w hw => hts w (zb_in hw), hr, hlocks⟩
  have hbA : ¬ (fun q : Nat => s.heap.size ≤ q) b := Nat.not_le.mpr hbl
  refine lv_aload_n hx hb dL_law_441 rfl (lv_at hl 1 rfl) ?_
  refine lv_aload_n hx hb dL_law_442 rfl (lv_at hl 0 rfl) ?_
  refine lv_iload_n hx hb dL_law_443 rfl (lv_at hl 3 rfl) ?_
  refine lv_iconst (v := (1 : Int32)) hx hb dL_law_444 (by decide) ?_
  refine lv_iadd hx hb dL_law_445 ?_
  refine va_sld hx hb hX0 hbl hbA hS (zidx (k := 1) hi hL rfl (by decide)) dL_law_446 ?_
  refine lv_aload_n hx hb dL_law_447 rfl (lv_at hl 0 rfl) ?_
  refine lv_iload_n hx hb dL_law_448 rfl (lv_at hl 3 rfl) ?_
  refine lv_iconst (v := (2 : Int32)) hx hb dL_law_449 (by decide) ?_
  refine lv_iadd hx hb dL_law_450 ?_
  refine va_sld hx hb hX0 hbl hbA hS (zidx (k := 2) hi hL rfl (by decide)) dL_law_451 ?_
  have hB0 := tB_of hG.2.2.2.1
  have hI0 := tBI_of hG.2.2.1
  refine gx_stop [] hcs C0 hbx hbm hK hO hG hS hl.1 (Nat.le_of_ble_eq_true rfl) kmL_45 dL_law_452 (fun r1 mi' ko' T' I' H locs cells' slots' hx1 e1 e2 hG1 hS1 => ?_)
  obtain ⟨rfl, rfl, rfl⟩ := hx1
  have hG := hG1
  have hS := hS1
  refine lv_pop hx hb dL_law_455 rfl ?_
  refine lv_aload_n hx hb dL_law_456 rfl (lv_at hl 2 rfl) ?_
  refine lv_aload_n hx hb dL_law_457 rfl (lv_at hl 0 rfl) ?_
  refine lv_iload_n hx hb dL_law_458 rfl (lv_at hl 3 rfl) ?_
  refine lv_iconst (v := (1 : Int32)) hx hb dL_law_459 (by decide) ?_
  refine lv_iadd hx hb dL_law_460 ?_
  refine va_sld hx hb hX0 hbl hbA hS (zidx (k := 1) hi hL rfl (by decide)) dL_law_461 ?_
  refine lv_aload_n hx hb dL_law_462 rfl (lv_at hl 0 rfl) ?_
  refine lv_iload_n hx hb dL_law_463 rfl (lv_at hl 3 rfl) ?_
  refine lv_iconst (v := (2 : Int32)) hx hb dL_law_464 (by decide) ?_
  refine lv_iadd hx hb dL_law_465 ?_
  refine va_sld hx hb hX0 hbl hbA hS (zidx (k := 2) hi hL rfl (by decide)) dL_law_466 ?_
  refine gm_stop [] ⟨Nat.le_trans e1 hcs.1, Nat.le_trans e2 hcs.2⟩ C0 hbx hbm hK hO hG hS hl.1 (Nat.le_of_ble_eq_true rfl) kmL_48 dL_law_467 (fun r2 M' H locs hm1 hG2 hS2 => ?_)
  obtain rfl := hm1
  have hG := hG2
  have hS := hS2
  refine lv_pop hx hb dL_law_470 rfl ?_
  refine lv_goto (tgt := 1647) hx hb dL_law_471 (by decide) ?_
  exact kk _ _ _ _ _ _ _ _ _ e1 e2 hR hG hS

set_option maxRecDepth 40000 in
set_option maxHeartbeats 4000000 in
theorem g_8 {p : Program} {l : Launch} {e : Env} {s : State} {m : MethodId} {below : List Frame} {meth : Method} {c : Code} {E : zE} {G : zG} {b L i bx bm cells slots : Nat} {xs : Nat → Int32} {mi : Nat → Option Nat} {ko : Option Nat} {T : TT} {M : Nat → Nat → Int32} {I : Nat → TT} {H : Heap} {locs : List Loc} {ls : Array Slot} (hi : i + 6 ≤ L) (hL : L ≤ 3072) (hR : RG T M I mi) (hcs : cells + 47 ≤ room_1.cells ∧ slots + 4608 ≤ room_1.slots) (C0 : lw_At p s m meth c b L xs) (hbx : s.heap.size ≤ bx) (hbm : bx + 93 ≤ bm) (hK : zK E s) (hO : zO s ∧ zZ G (fun q => s.heap.size ≤ q) s s.heap) (hG : GG E bx bm mi ko T M I H) (hS : va_S (fun q => s.heap.size ≤ q) s.heap H locs) (hl : lv_has ls 4 [(0, .ref b), (1, .ref bx), (2, .ref bm), (3, .int (nI i))])
    (kk : ∀ (mi : Nat → Option Nat) (ko : Option Nat) (T : TT) (M : Nat → Nat → Int32) (I : Nat → TT) (H : Heap) (locs : List Loc) (cells' slots' : Nat), cells' ≤ cells + 47 → slots' ≤ slots + 4608 → RG T M I mi → GG E bx bm mi ko T M I H → va_S (fun q => s.heap.size ≤ q) s.heap H locs → W p l e room_1 s m #[Value.ref b] below meth c H locs cells' slots' (lw_Z below #[Value.ref b] s) (F0 m 1647 ls [])) : W p l e room_1 s m #[Value.ref b] below meth c H locs cells slots (lw_Z below #[Value.ref b] s) (F0 m 474 ls []) := by
  obtain ⟨hx, hb, hr, hml, hown, hts, hX0, hbl, hlocks, hgv⟩ := id C0
  have zc : zC p s m #[Value.ref b] meth c cL_law 4 RL ret := ⟨hx, hb, hml, hown, fun w hw => hts w (zb_in hw), hr, hlocks⟩
  have hbA : ¬ (fun q : Nat => s.heap.size ≤ q) b := Nat.not_le.mpr hbl
  refine lv_aload_n hx hb dL_law_474 rfl (lv_at hl 1 rfl) ?_
  refine lv_aload_n hx hb dL_law_475 rfl (lv_at hl 0 rfl) ?_
  refine lv_iload_n hx hb dL_law_476 rfl (lv_at hl 3 rfl) ?_
  refine lv_iconst (v := (1 : Int32)) hx hb dL_law_477 (by decide) ?_
  refine lv_iadd hx hb dL_law_478 ?_
  refine va_sld hx hb hX0 hbl hbA hS (zidx (k := 1) hi hL rfl (by decide)) dL_law_479 ?_
  refine lv_aload_n hx hb dL_law_480 rfl (lv_at hl 0 rfl) ?_
  refine lv_iload_n hx hb dL_law_481 rfl (lv_at hl 3 rfl) ?_
  refine lv_iconst (v := (2 : Int32)) hx hb dL_law_482 (by decide) ?_
  refine lv_iadd hx hb dL_law_483 ?_
  refine va_sld hx hb hX0 hbl hbA hS (zidx (k := 2) hi hL rfl (by decide)) dL_law_484 ?_
  refine lv_aload_n hx hb dL_law_485 rfl (lv_at hl 0 rfl) ?_
  refine lv_iload_n hx hb dL_law_486 rfl (lv_at hl 3 rfl) ?_
  refine lv_iconst (v := (3 : Int32)) hx hb dL_law_487 (by decide) ?_
  refine lv_iadd hx hb dL_law_488 ?_
  refine va_sld hx hb hX0 hbl hbA hS (zidx (k := 3) hi hL rfl (by decide)) dL_law_489 ?_
  refine lv_aload_n hx hb dL_law_490 rfl (lv_at hl 0 rfl) ?_
  refine lv_iload_n hx hb dL_law_491 rfl (lv_at hl 3 rfl) ?_
  refine lv_iconst (v := (4 : Int32)) hx hb dL_law_492 (by decide) ?_
  refine lv_iadd hx hb dL_law_493 ?_
  refine va_sld hx hb hX0 hbl hbA hS (zidx (k := 4) hi hL rfl (by decide)) dL_law_494 ?_
  have hB0 := tB_of hG.2.2.2.1
  have hI0 := tBI_of hG.2.2.1
  refine gx_state [] hcs C0 hbx hbm hK hO hG hS hR hl.1 (Nat.le_of_ble_eq_true rfl) kmL_49 dL_law_495 (fun r1 mi' ko' T' I' H locs cells' slots' hx1 e1 e2 hG1 hS1 => ?_)
  obtain ⟨⟨rfl, rfl, rfl⟩, hx2⟩ := hx1
  have hG := hG1
  have hS := hS1
  refine lv_aload_n hx hb dL_law_498 rfl (lv_at hl 2 rfl) ?_
  refine lv_aload_n hx hb dL_law_499 rfl (lv_at hl 0 rfl) ?_
  refine lv_iload_n hx hb dL_law_500 rfl (lv_at hl 3 rfl) ?_
  refine lv_iconst (v := (1 : Int32)) hx hb dL_law_501 (by decide) ?_
  refine lv_iadd hx hb dL_law_502 ?_
  refine va_sld hx hb hX0 hbl hbA hS (zidx (k := 1) hi hL rfl (by decide)) dL_law_503 ?_
  refine lv_aload_n hx hb dL_law_504 rfl (lv_at hl 0 rfl) ?_
  refine lv_iload_n hx hb dL_law_505 rfl (lv_at hl 3 rfl) ?_
  refine lv_iconst (v := (2 : Int32)) hx hb dL_law_506 (by decide) ?_
  refine lv_iadd hx hb dL_law_507 ?_
  refine va_sld hx hb hX0 hbl hbA hS (zidx (k := 2) hi hL rfl (by decide)) dL_law_508 ?_
  refine lv_aload_n hx hb dL_law_509 rfl (lv_at hl 0 rfl) ?_
  refine lv_iload_n hx hb dL_law_510 rfl (lv_at hl 3 rfl) ?_
  refine lv_iconst (v := (3 : Int32)) hx hb dL_law_511 (by decide) ?_
  refine lv_iadd hx hb dL_law_512 ?_
  refine va_sld hx hb hX0 hbl hbA hS (zidx (k := 3) hi hL rfl (by decide)) dL_law_513 ?_
  refine lv_aload_n hx hb dL_law_514 rfl (lv_at hl 0 rfl) ?_
  refine lv_iload_n hx hb dL_law_515 rfl (lv_at hl 3 rfl) ?_
  refine lv_iconst (v := (4 : Int32)) hx hb dL_law_516 (by decide) ?_
  refine lv_iadd hx hb dL_law_517 ?_
  refine va_sld hx hb hX0 hbl hbA hS (zidx (k := 4) hi hL rfl (by decide)) dL_law_518 ?_
  refine gm_state [.int r1] ⟨Nat.le_trans e1 hcs.1, Nat.le_trans e2 hcs.2⟩ C0 hbx hbm hK hO hG hS hR.2 hl.1 (Nat.le_of_ble_eq_true rfl) kmL_53 dL_law_519 (fun r2 M' H locs hm1 hG2 hS2 => ?_)
  obtain ⟨rfl, hm2⟩ := hm1
  have hrr := hx2.trans hm2.symm
  have hG := hG2
  have hS := hS2
  refine lv_icmp_eq (tgt := 1647) hx hb dL_law_522 (by decide) (fun hd => ?_) (fun hd => absurd hrr hd)
  exact kk _ _ _ _ _ _ _ _ _ e1 e2 hR hG hS

set_option maxRecDepth 40000 in
set_option maxHeartbeats 4000000 in
theorem g_9 {p : Program} {l : Launch} {e : Env} {s : State} {m : MethodId} {below : List Frame} {meth : Method} {c : Code} {E : zE} {G : zG} {b L i bx bm cells slots : Nat} {xs : Nat → Int32} {mi : Nat → Option Nat} {ko : Option Nat} {T : TT} {M : Nat → Nat → Int32} {I : Nat → TT} {H : Heap} {locs : List Loc} {ls : Array Slot} (hi : i + 6 ≤ L) (hL : L ≤ 3072) (hR : RG T M I mi) (hcs : cells + 47 ≤ room_1.cells ∧ slots + 4608 ≤ room_1.slots) (C0 : lw_At p s m meth c b L xs) (hbx : s.heap.size ≤ bx) (hbm : bx + 93 ≤ bm) (hK : zK E s) (hO : zO s ∧ zZ G (fun q => s.heap.size ≤ q) s s.heap) (hG : GG E bx bm mi ko T M I H) (hS : va_S (fun q => s.heap.size ≤ q) s.heap H locs) (hl : lv_has ls 4 [(0, .ref b), (1, .ref bx), (2, .ref bm), (3, .int (nI i))])
    (kk : ∀ (mi : Nat → Option Nat) (ko : Option Nat) (T : TT) (M : Nat → Nat → Int32) (I : Nat → TT) (H : Heap) (locs : List Loc) (cells' slots' : Nat), cells' ≤ cells + 47 → slots' ≤ slots + 4608 → RG T M I mi → GG E bx bm mi ko T M I H → va_S (fun q => s.heap.size ≤ q) s.heap H locs → W p l e room_1 s m #[Value.ref b] below meth c H locs cells' slots' (lw_Z below #[Value.ref b] s) (F0 m 1647 ls [])) : W p l e room_1 s m #[Value.ref b] below meth c H locs cells slots (lw_Z below #[Value.ref b] s) (F0 m 527 ls []) := by
  obtain ⟨hx, hb, hr, hml, hown, hts, hX0, hbl, hlocks, hgv⟩ := id C0
  have zc : zC p s m #[Value.ref b] meth c cL_law 4 RL ret := ⟨hx, hb, hml, hown, fun w hw => hts w (zb_in hw), hr, hlocks⟩
  have hbA : ¬ (fun q : Nat => s.heap.size ≤ q) b := Nat.not_le.mpr hbl
  refine lv_aload_n hx hb dL_law_527 rfl (lv_at hl 1 rfl) ?_
  refine lv_aload_n hx hb dL_law_528 rfl (lv_at hl 0 rfl) ?_
  refine lv_iload_n hx hb dL_law_529 rfl (lv_at hl 3 rfl) ?_
  refine lv_iconst (v := (1 : Int32)) hx hb dL_law_530 (by decide) ?_
  refine lv_iadd hx hb dL_law_531 ?_
  refine va_sld hx hb hX0 hbl hbA hS (zidx (k := 1) hi hL rfl (by decide)) dL_law_532 ?_
  refine lv_aload_n hx hb dL_law_533 rfl (lv_at hl 0 rfl) ?_
  refine lv_iload_n hx hb dL_law_534 rfl (lv_at hl 3 rfl) ?_
  refine lv_iconst (v := (2 : Int32)) hx hb dL_law_535 (by decide) ?_
  refine lv_iadd hx hb dL_law_536 ?_
  refine va_sld hx hb hX0 hbl hbA hS (zidx (k := 2) hi hL rfl (by decide)) dL_law_537 ?_
  refine lv_aload_n hx hb dL_law_538 rfl (lv_at hl 0 rfl) ?_
  refine lv_iload_n hx hb dL_law_539 rfl (lv_at hl 3 rfl) ?_
  refine lv_iconst (v := (3 : Int32)) hx hb dL_law_540 (by decide) ?_
  refine lv_iadd hx hb dL_law_541 ?_
  refine va_sld hx hb hX0 hbl hbA hS (zidx (k := 3) hi hL rfl (by decide)) dL_law_542 ?_
  have hB0 := tB_of hG.2.2.2.1
  have hI0 := tBI_of hG.2.2.1
  refine gx_comes [] hcs C0 hbx hbm hK hO hG hS hl.1 (Nat.le_of_ble_eq_true rfl) kmL_54 dL_law_543 (fun r1 mi' ko' T' I' H locs cells' slots' hx1 e1 e2 hG1 hS1 => ?_)
  obtain ⟨rfl, rfl, rfl⟩ := hx1
  have hG := hG1
  have hS := hS1
  refine lv_pop hx hb dL_law_546 rfl ?_
  refine lv_aload_n hx hb dL_law_547 rfl (lv_at hl 2 rfl) ?_
  refine lv_aload_n hx hb dL_law_548 rfl (lv_at hl 0 rfl) ?_
  refine lv_iload_n hx hb dL_law_549 rfl (lv_at hl 3 rfl) ?_
  refine lv_iconst (v := (1 : Int32)) hx hb dL_law_550 (by decide) ?_
  refine lv_iadd hx hb dL_law_551 ?_
  refine va_sld hx hb hX0 hbl hbA hS (zidx (k := 1) hi hL rfl (by decide)) dL_law_552 ?_
  refine lv_aload_n hx hb dL_law_553 rfl (lv_at hl 0 rfl) ?_
  refine lv_iload_n hx hb dL_law_554 rfl (lv_at hl 3 rfl) ?_
  refine lv_iconst (v := (2 : Int32)) hx hb dL_law_555 (by decide) ?_
  refine lv_iadd hx hb dL_law_556 ?_
  refine va_sld hx hb hX0 hbl hbA hS (zidx (k := 2) hi hL rfl (by decide)) dL_law_557 ?_
  refine lv_aload_n hx hb dL_law_558 rfl (lv_at hl 0 rfl) ?_
  refine lv_iload_n hx hb dL_law_559 rfl (lv_at hl 3 rfl) ?_
  refine lv_iconst (v := (3 : Int32)) hx hb dL_law_560 (by decide) ?_
  refine lv_iadd hx hb dL_law_561 ?_
  refine va_sld hx hb hX0 hbl hbA hS (zidx (k := 3) hi hL rfl (by decide)) dL_law_562 ?_
  refine gm_comes [] ⟨Nat.le_trans e1 hcs.1, Nat.le_trans e2 hcs.2⟩ C0 hbx hbm hK hO hG hS hl.1 (Nat.le_of_ble_eq_true rfl) kmL_57 dL_law_563 (fun r2 M' H locs hm1 hG2 hS2 => ?_)
  obtain rfl := hm1
  have hG := hG2
  have hS := hS2
  refine lv_pop hx hb dL_law_566 rfl ?_
  refine lv_goto (tgt := 1647) hx hb dL_law_567 (by decide) ?_
  exact kk _ _ _ _ _ _ _ _ _ e1 e2 hR hG hS

set_option maxRecDepth 40000 in
set_option maxHeartbeats 4000000 in
theorem g_10 {p : Program} {l : Launch} {e : Env} {s : State} {m : MethodId} {below : List Frame} {meth : Method} {c : Code} {E : zE} {G : zG} {b L i bx bm cells slots : Nat} {xs : Nat → Int32} {mi : Nat → Option Nat} {ko : Option Nat} {T : TT} {M : Nat → Nat → Int32} {I : Nat → TT} {H : Heap} {locs : List Loc} {ls : Array Slot} (hi : i + 6 ≤ L) (hL : L ≤ 3072) (hR : RG T M I mi) (hcs : cells + 47 ≤ room_1.cells ∧ slots + 4608 ≤ room_1.slots) (C0 : lw_At p s m meth c b L xs) (hbx : s.heap.size ≤ bx) (hbm : bx + 93 ≤ bm) (hK : zK E s) (hO : zO s ∧ zZ G (fun q => s.heap.size ≤ q) s s.heap) (hG : GG E bx bm mi ko T M I H) (hS : va_S (fun q => s.heap.size ≤ q) s.heap H locs) (hl : lv_has ls 4 [(0, .ref b), (1, .ref bx), (2, .ref bm), (3, .int (nI i))])
    (kk : ∀ (mi : Nat → Option Nat) (ko : Option Nat) (T : TT) (M : Nat → Nat → Int32) (I : Nat → TT) (H : Heap) (locs : List Loc) (cells' slots' : Nat), cells' ≤ cells + 47 → slots' ≤ slots + 4608 → RG T M I mi → GG E bx bm mi ko T M I H → va_S (fun q => s.heap.size ≤ q) s.heap H locs → W p l e room_1 s m #[Value.ref b] below meth c H locs cells' slots' (lw_Z below #[Value.ref b] s) (F0 m 1647 ls [])) : W p l e room_1 s m #[Value.ref b] below meth c H locs cells slots (lw_Z below #[Value.ref b] s) (F0 m 570 ls []) := by
  obtain ⟨hx, hb, hr, hml, hown, hts, hX0, hbl, hlocks, hgv⟩ := id C0
  have zc : zC p s m #[Value.ref b] meth c cL_law 4 RL ret := ⟨hx, hb, hml, hown, fun w hw => hts w (zb_in hw), hr, hlocks⟩
  have hbA : ¬ (fun q : Nat => s.heap.size ≤ q) b := Nat.not_le.mpr hbl
  refine lv_aload_n hx hb dL_law_570 rfl (lv_at hl 1 rfl) ?_
  refine lv_aload_n hx hb dL_law_571 rfl (lv_at hl 0 rfl) ?_
  refine lv_iload_n hx hb dL_law_572 rfl (lv_at hl 3 rfl) ?_
  refine lv_iconst (v := (1 : Int32)) hx hb dL_law_573 (by decide) ?_
  refine lv_iadd hx hb dL_law_574 ?_
  refine va_sld hx hb hX0 hbl hbA hS (zidx (k := 1) hi hL rfl (by decide)) dL_law_575 ?_
  refine lv_aload_n hx hb dL_law_576 rfl (lv_at hl 0 rfl) ?_
  refine lv_iload_n hx hb dL_law_577 rfl (lv_at hl 3 rfl) ?_
  refine lv_iconst (v := (2 : Int32)) hx hb dL_law_578 (by decide) ?_
  refine lv_iadd hx hb dL_law_579 ?_
  refine va_sld hx hb hX0 hbl hbA hS (zidx (k := 2) hi hL rfl (by decide)) dL_law_580 ?_
  refine lv_aload_n hx hb dL_law_581 rfl (lv_at hl 0 rfl) ?_
  refine lv_iload_n hx hb dL_law_582 rfl (lv_at hl 3 rfl) ?_
  refine lv_iconst (v := (3 : Int32)) hx hb dL_law_583 (by decide) ?_
  refine lv_iadd hx hb dL_law_584 ?_
  refine va_sld hx hb hX0 hbl hbA hS (zidx (k := 3) hi hL rfl (by decide)) dL_law_585 ?_
  have hB0 := tB_of hG.2.2.2.1
  have hI0 := tBI_of hG.2.2.1
  refine gx_villages [] hcs C0 hbx hbm hK hO hG hS hl.1 (Nat.le_of_ble_eq_true rfl) kmL_58 dL_law_586 (fun r1 mi' ko' T' I' H locs cells' slots' hx1 e1 e2 hG1 hS1 => ?_)
  obtain ⟨rfl, rfl, rfl⟩ := hx1
  have hG := hG1
  have hS := hS1
  refine lv_pop hx hb dL_law_589 rfl ?_
  refine lv_aload_n hx hb dL_law_590 rfl (lv_at hl 2 rfl) ?_
  refine lv_aload_n hx hb dL_law_591 rfl (lv_at hl 0 rfl) ?_
  refine lv_iload_n hx hb dL_law_592 rfl (lv_at hl 3 rfl) ?_
  refine lv_iconst (v := (1 : Int32)) hx hb dL_law_593 (by decide) ?_
  refine lv_iadd hx hb dL_law_594 ?_
  refine va_sld hx hb hX0 hbl hbA hS (zidx (k := 1) hi hL rfl (by decide)) dL_law_595 ?_
  refine lv_aload_n hx hb dL_law_596 rfl (lv_at hl 0 rfl) ?_
  refine lv_iload_n hx hb dL_law_597 rfl (lv_at hl 3 rfl) ?_
  refine lv_iconst (v := (2 : Int32)) hx hb dL_law_598 (by decide) ?_
  refine lv_iadd hx hb dL_law_599 ?_
  refine va_sld hx hb hX0 hbl hbA hS (zidx (k := 2) hi hL rfl (by decide)) dL_law_600 ?_
  refine lv_aload_n hx hb dL_law_601 rfl (lv_at hl 0 rfl) ?_
  refine lv_iload_n hx hb dL_law_602 rfl (lv_at hl 3 rfl) ?_
  refine lv_iconst (v := (3 : Int32)) hx hb dL_law_603 (by decide) ?_
  refine lv_iadd hx hb dL_law_604 ?_
  refine va_sld hx hb hX0 hbl hbA hS (zidx (k := 3) hi hL rfl (by decide)) dL_law_605 ?_
  refine gm_villages [] ⟨Nat.le_trans e1 hcs.1, Nat.le_trans e2 hcs.2⟩ C0 hbx hbm hK hO hG hS hl.1 (Nat.le_of_ble_eq_true rfl) kmL_61 dL_law_606 (fun r2 M' H locs hm1 hG2 hS2 => ?_)
  obtain rfl := hm1
  have hG := hG2
  have hS := hS2
  refine lv_pop hx hb dL_law_609 rfl ?_
  refine lv_goto (tgt := 1647) hx hb dL_law_610 (by decide) ?_
  exact kk _ _ _ _ _ _ _ _ _ e1 e2 hR hG hS

