set_option maxRecDepth 40000 in
set_option maxHeartbeats 4000000 in
theorem g_22 {p : Program} {l : Launch} {e : Env} {s : State} {m : MethodId} {below : List Frame} {meth : Method} {c : Code} {E : zE} {G : zG} {b L i bx bm cells slots : Nat} {xs : Nat → Int32} {mi : Nat → Option Nat} {ko : Option Nat} {T : TT} {M : Nat → Nat → Int32} {I : Nat → TT} {H : Heap} {locs : List Loc} {ls : Array Slot} (hi : i + 6 ≤ L) (hL : L ≤ 3072) (hR : RG T M I mi) (hcs : cells + 47 ≤ room_1.cells ∧ slots + 4608 ≤ room_1.slots) (C0 : lw_At p s m meth c b L xs) (hbx : s.heap.size ≤ bx) (hbm : bx + 93 ≤ bm) (hK : zK E s) (hO : zO s ∧ zZ G (fun q => s.heap.size ≤ q) s s.heap) (hG : GG E bx bm mi ko T M I H) (hS : va_S (fun q => s.heap.size ≤ q) s.heap H locs) (hl : lv_has ls 4 [(0, .ref b), (1, .ref bx), (2, .ref bm), (3, .int (nI i))])
    (kk : ∀ (mi : Nat → Option Nat) (ko : Option Nat) (T : TT) (M : Nat → Nat → Int32) (I : Nat → TT) (H : Heap) (locs : List Loc) (cells' slots' : Nat), cells' ≤ cells + 47 → slots' ≤ slots + 4608 → RG T M I mi → GG E bx bm mi ko T M I H → va_S (fun q => s.heap.size ≤ q) s.heap H locs → W p l e room_1 s m #[Value.ref b] below meth c H locs cells' slots' (lw_Z below #[Value.ref b] s) (F0 m 1648 ls [])) : W p l e room_1 s m #[Value.ref b] below meth c H locs cells slots (lw_Z below #[Value.ref b] s) (F0 m 1121 ls []) := by
  obtain ⟨hx, hb, hr, hml, hown, hts, hX0, hbl, hlocks, hgv⟩ := id C0
  have zc : zC p s m #[Value.ref b] meth c cL_law 4 RL ret := ⟨hx, hb, hml, hown, fun w hw => hts w (zb_in hw), hr, hlocks⟩
  have hbA : ¬ (fun q : Nat => s.heap.size ≤ q) b := Nat.not_le.mpr hbl
  refine lv_aload_n hx hb dL_law_1121 rfl (lv_at hl 1 rfl) ?_
  refine lv_aload_n hx hb dL_law_1122 rfl (lv_at hl 0 rfl) ?_
  refine lv_iload_n hx hb dL_law_1123 rfl (lv_at hl 3 rfl) ?_
  refine lv_iconst (v := (1 : Int32)) hx hb dL_law_1124 (by decide) ?_
  refine lv_iadd hx hb dL_law_1125 ?_
  refine va_sld hx hb hX0 hbl hbA hS (zidx (k := 1) hi hL rfl (by decide)) dL_law_1126 ?_
  refine lv_aload_n hx hb dL_law_1127 rfl (lv_at hl 0 rfl) ?_
  refine lv_iload_n hx hb dL_law_1128 rfl (lv_at hl 3 rfl) ?_
  refine lv_iconst (v := (2 : Int32)) hx hb dL_law_1129 (by decide) ?_
  refine lv_iadd hx hb dL_law_1130 ?_
  refine va_sld hx hb hX0 hbl hbA hS (zidx (k := 2) hi hL rfl (by decide)) dL_law_1131 ?_
  refine lv_aload_n hx hb dL_law_1132 rfl (lv_at hl 0 rfl) ?_
  refine lv_iload_n hx hb dL_law_1133 rfl (lv_at hl 3 rfl) ?_
  refine lv_iconst (v := (3 : Int32)) hx hb dL_law_1134 (by decide) ?_
  refine lv_iadd hx hb dL_law_1135 ?_
  refine va_sld hx hb hX0 hbl hbA hS (zidx (k := 3) hi hL rfl (by decide)) dL_law_1136 ?_
  refine lv_aload_n hx hb dL_law_1137 rfl (lv_at hl 0 rfl) ?_
  refine lv_iload_n hx hb dL_law_1138 rfl (lv_at hl 3 rfl) ?_
  refine lv_iconst (v := (4 : Int32)) hx hb dL_law_1139 (by decide) ?_
  refine lv_iadd hx hb dL_law_1140 ?_
  refine va_sld hx hb hX0 hbl hbA hS (zidx (k := 4) hi hL rfl (by decide)) dL_law_1141 ?_
  have hB0 := tB_of hG.2.2.2.1
  have hI0 := tBI_of hG.2.2.1
  refine gx_drawn [] hcs C0 hbx hbm hK hO hG hS hl.1 (Nat.le_of_ble_eq_true rfl) kmL_111 dL_law_1142 (fun r1 mi' ko' T' I' H locs cells' slots' hx1 e1 e2 hG1 hS1 => ?_)
  obtain ⟨rfl, rfl, rfl⟩ := hx1
  have hG := hG1
  have hS := hS1
  refine lv_pop hx hb dL_law_1145 rfl ?_
  refine lv_aload_n hx hb dL_law_1146 rfl (lv_at hl 2 rfl) ?_
  refine lv_aload_n hx hb dL_law_1147 rfl (lv_at hl 0 rfl) ?_
  refine lv_iload_n hx hb dL_law_1148 rfl (lv_at hl 3 rfl) ?_
  refine lv_iconst (v := (1 : Int32)) hx hb dL_law_1149 (by decide) ?_
  refine lv_iadd hx hb dL_law_1150 ?_
  refine va_sld hx hb hX0 hbl hbA hS (zidx (k := 1) hi hL rfl (by decide)) dL_law_1151 ?_
  refine lv_aload_n hx hb dL_law_1152 rfl (lv_at hl 0 rfl) ?_
  refine lv_iload_n hx hb dL_law_1153 rfl (lv_at hl 3 rfl) ?_
  refine lv_iconst (v := (2 : Int32)) hx hb dL_law_1154 (by decide) ?_
  refine lv_iadd hx hb dL_law_1155 ?_
  refine va_sld hx hb hX0 hbl hbA hS (zidx (k := 2) hi hL rfl (by decide)) dL_law_1156 ?_
  refine lv_aload_n hx hb dL_law_1157 rfl (lv_at hl 0 rfl) ?_
  refine lv_iload_n hx hb dL_law_1158 rfl (lv_at hl 3 rfl) ?_
  refine lv_iconst (v := (3 : Int32)) hx hb dL_law_1159 (by decide) ?_
  refine lv_iadd hx hb dL_law_1160 ?_
  refine va_sld hx hb hX0 hbl hbA hS (zidx (k := 3) hi hL rfl (by decide)) dL_law_1161 ?_
  refine lv_aload_n hx hb dL_law_1162 rfl (lv_at hl 0 rfl) ?_
  refine lv_iload_n hx hb dL_law_1163 rfl (lv_at hl 3 rfl) ?_
  refine lv_iconst (v := (4 : Int32)) hx hb dL_law_1164 (by decide) ?_
  refine lv_iadd hx hb dL_law_1165 ?_
  refine va_sld hx hb hX0 hbl hbA hS (zidx (k := 4) hi hL rfl (by decide)) dL_law_1166 ?_
  refine gm_drawn [] ⟨Nat.le_trans e1 hcs.1, Nat.le_trans e2 hcs.2⟩ C0 hbx hbm hK hO hG hS hl.1 (Nat.le_of_ble_eq_true rfl) kmL_114 dL_law_1167 (fun r2 M' H locs hm1 hG2 hS2 => ?_)
  obtain rfl := hm1
  have hG := hG2
  have hS := hS2
  refine lv_pop hx hb dL_law_1170 rfl ?_
  refine lv_goto (tgt := 1648) hx hb dL_law_1171 (by decide) ?_
  exact kk _ _ _ _ _ _ _ _ _ e1 e2 hR hG hS

set_option maxRecDepth 40000 in
set_option maxHeartbeats 4000000 in
theorem g_23 {p : Program} {l : Launch} {e : Env} {s : State} {m : MethodId} {below : List Frame} {meth : Method} {c : Code} {E : zE} {G : zG} {b L i bx bm cells slots : Nat} {xs : Nat → Int32} {mi : Nat → Option Nat} {ko : Option Nat} {T : TT} {M : Nat → Nat → Int32} {I : Nat → TT} {H : Heap} {locs : List Loc} {ls : Array Slot} (hi : i + 6 ≤ L) (hL : L ≤ 3072) (hR : RG T M I mi) (hcs : cells + 47 ≤ room_1.cells ∧ slots + 4608 ≤ room_1.slots) (C0 : lw_At p s m meth c b L xs) (hbx : s.heap.size ≤ bx) (hbm : bx + 93 ≤ bm) (hK : zK E s) (hO : zO s ∧ zZ G (fun q => s.heap.size ≤ q) s s.heap) (hG : GG E bx bm mi ko T M I H) (hS : va_S (fun q => s.heap.size ≤ q) s.heap H locs) (hl : lv_has ls 4 [(0, .ref b), (1, .ref bx), (2, .ref bm), (3, .int (nI i))])
    (kk : ∀ (mi : Nat → Option Nat) (ko : Option Nat) (T : TT) (M : Nat → Nat → Int32) (I : Nat → TT) (H : Heap) (locs : List Loc) (cells' slots' : Nat), cells' ≤ cells + 47 → slots' ≤ slots + 4608 → RG T M I mi → GG E bx bm mi ko T M I H → va_S (fun q => s.heap.size ≤ q) s.heap H locs → W p l e room_1 s m #[Value.ref b] below meth c H locs cells' slots' (lw_Z below #[Value.ref b] s) (F0 m 1648 ls [])) : W p l e room_1 s m #[Value.ref b] below meth c H locs cells slots (lw_Z below #[Value.ref b] s) (F0 m 1174 ls []) := by
  obtain ⟨hx, hb, hr, hml, hown, hts, hX0, hbl, hlocks, hgv⟩ := id C0
  have zc : zC p s m #[Value.ref b] meth c cL_law 4 RL ret := ⟨hx, hb, hml, hown, fun w hw => hts w (zb_in hw), hr, hlocks⟩
  have hbA : ¬ (fun q : Nat => s.heap.size ≤ q) b := Nat.not_le.mpr hbl
  refine lv_aload_n hx hb dL_law_1174 rfl (lv_at hl 1 rfl) ?_
  refine lv_aload_n hx hb dL_law_1175 rfl (lv_at hl 0 rfl) ?_
  refine lv_iload_n hx hb dL_law_1176 rfl (lv_at hl 3 rfl) ?_
  refine lv_iconst (v := (1 : Int32)) hx hb dL_law_1177 (by decide) ?_
  refine lv_iadd hx hb dL_law_1178 ?_
  refine va_sld hx hb hX0 hbl hbA hS (zidx (k := 1) hi hL rfl (by decide)) dL_law_1179 ?_
  refine lv_aload_n hx hb dL_law_1180 rfl (lv_at hl 0 rfl) ?_
  refine lv_iload_n hx hb dL_law_1181 rfl (lv_at hl 3 rfl) ?_
  refine lv_iconst (v := (2 : Int32)) hx hb dL_law_1182 (by decide) ?_
  refine lv_iadd hx hb dL_law_1183 ?_
  refine va_sld hx hb hX0 hbl hbA hS (zidx (k := 2) hi hL rfl (by decide)) dL_law_1184 ?_
  refine lv_aload_n hx hb dL_law_1185 rfl (lv_at hl 0 rfl) ?_
  refine lv_iload_n hx hb dL_law_1186 rfl (lv_at hl 3 rfl) ?_
  refine lv_iconst (v := (3 : Int32)) hx hb dL_law_1187 (by decide) ?_
  refine lv_iadd hx hb dL_law_1188 ?_
  refine va_sld hx hb hX0 hbl hbA hS (zidx (k := 3) hi hL rfl (by decide)) dL_law_1189 ?_
  refine lv_aload_n hx hb dL_law_1190 rfl (lv_at hl 0 rfl) ?_
  refine lv_iload_n hx hb dL_law_1191 rfl (lv_at hl 3 rfl) ?_
  refine lv_iconst (v := (4 : Int32)) hx hb dL_law_1192 (by decide) ?_
  refine lv_iadd hx hb dL_law_1193 ?_
  refine va_sld hx hb hX0 hbl hbA hS (zidx (k := 4) hi hL rfl (by decide)) dL_law_1194 ?_
  have hB0 := tB_of hG.2.2.2.1
  have hI0 := tBI_of hG.2.2.1
  refine gx_psalm [] hcs C0 hbx hbm hK hO hG hS hl.1 (Nat.le_of_ble_eq_true rfl) kmL_115 dL_law_1195 (fun r1 mi' ko' T' I' H locs cells' slots' hx1 e1 e2 hG1 hS1 => ?_)
  obtain ⟨rfl, rfl, rfl⟩ := hx1
  have hG := hG1
  have hS := hS1
  refine lv_pop hx hb dL_law_1198 rfl ?_
  refine lv_aload_n hx hb dL_law_1199 rfl (lv_at hl 2 rfl) ?_
  refine lv_aload_n hx hb dL_law_1200 rfl (lv_at hl 0 rfl) ?_
  refine lv_iload_n hx hb dL_law_1201 rfl (lv_at hl 3 rfl) ?_
  refine lv_iconst (v := (1 : Int32)) hx hb dL_law_1202 (by decide) ?_
  refine lv_iadd hx hb dL_law_1203 ?_
  refine va_sld hx hb hX0 hbl hbA hS (zidx (k := 1) hi hL rfl (by decide)) dL_law_1204 ?_
  refine lv_aload_n hx hb dL_law_1205 rfl (lv_at hl 0 rfl) ?_
  refine lv_iload_n hx hb dL_law_1206 rfl (lv_at hl 3 rfl) ?_
  refine lv_iconst (v := (2 : Int32)) hx hb dL_law_1207 (by decide) ?_
  refine lv_iadd hx hb dL_law_1208 ?_
  refine va_sld hx hb hX0 hbl hbA hS (zidx (k := 2) hi hL rfl (by decide)) dL_law_1209 ?_
  refine lv_aload_n hx hb dL_law_1210 rfl (lv_at hl 0 rfl) ?_
  refine lv_iload_n hx hb dL_law_1211 rfl (lv_at hl 3 rfl) ?_
  refine lv_iconst (v := (3 : Int32)) hx hb dL_law_1212 (by decide) ?_
  refine lv_iadd hx hb dL_law_1213 ?_
  refine va_sld hx hb hX0 hbl hbA hS (zidx (k := 3) hi hL rfl (by decide)) dL_law_1214 ?_
  refine lv_aload_n hx hb dL_law_1215 rfl (lv_at hl 0 rfl) ?_
  refine lv_iload_n hx hb dL_law_1216 rfl (lv_at hl 3 rfl) ?_
  refine lv_iconst (v := (4 : Int32)) hx hb dL_law_1217 (by decide) ?_
  refine lv_iadd hx hb dL_law_1218 ?_
  refine va_sld hx hb hX0 hbl hbA hS (zidx (k := 4) hi hL rfl (by decide)) dL_law_1219 ?_
  refine gm_psalm [] ⟨Nat.le_trans e1 hcs.1, Nat.le_trans e2 hcs.2⟩ C0 hbx hbm hK hO hG hS hl.1 (Nat.le_of_ble_eq_true rfl) kmL_118 dL_law_1220 (fun r2 M' H locs hm1 hG2 hS2 => ?_)
  obtain rfl := hm1
  have hG := hG2
  have hS := hS2
  refine lv_pop hx hb dL_law_1223 rfl ?_
  refine lv_goto (tgt := 1648) hx hb dL_law_1224 (by decide) ?_
  exact kk _ _ _ _ _ _ _ _ _ e1 e2 hR hG hS

set_option maxRecDepth 40000 in
set_option maxHeartbeats 4000000 in
theorem g_24 {p : Program} {l : Launch} {e : Env} {s : State} {m : MethodId} {below : List Frame} {meth : Method} {c : Code} {E : zE} {G : zG} {b L i bx bm cells slots : Nat} {xs : Nat → Int32} {mi : Nat → Option Nat} {ko : Option Nat} {T : TT} {M : Nat → Nat → Int32} {I : Nat → TT} {H : Heap} {locs : List Loc} {ls : Array Slot} (hi : i + 6 ≤ L) (hL : L ≤ 3072) (hR : RG T M I mi) (hcs : cells + 47 ≤ room_1.cells ∧ slots + 4608 ≤ room_1.slots) (C0 : lw_At p s m meth c b L xs) (hbx : s.heap.size ≤ bx) (hbm : bx + 93 ≤ bm) (hK : zK E s) (hO : zO s ∧ zZ G (fun q => s.heap.size ≤ q) s s.heap) (hG : GG E bx bm mi ko T M I H) (hS : va_S (fun q => s.heap.size ≤ q) s.heap H locs) (hl : lv_has ls 4 [(0, .ref b), (1, .ref bx), (2, .ref bm), (3, .int (nI i))])
    (kk : ∀ (mi : Nat → Option Nat) (ko : Option Nat) (T : TT) (M : Nat → Nat → Int32) (I : Nat → TT) (H : Heap) (locs : List Loc) (cells' slots' : Nat), cells' ≤ cells + 47 → slots' ≤ slots + 4608 → RG T M I mi → GG E bx bm mi ko T M I H → va_S (fun q => s.heap.size ≤ q) s.heap H locs → W p l e room_1 s m #[Value.ref b] below meth c H locs cells' slots' (lw_Z below #[Value.ref b] s) (F0 m 1648 ls [])) : W p l e room_1 s m #[Value.ref b] below meth c H locs cells slots (lw_Z below #[Value.ref b] s) (F0 m 1227 ls []) := by
  obtain ⟨hx, hb, hr, hml, hown, hts, hX0, hbl, hlocks, hgv⟩ := id C0
  have zc : zC p s m #[Value.ref b] meth c cL_law 4 RL ret := ⟨hx, hb, hml, hown, fun w hw => hts w (zb_in hw), hr, hlocks⟩
  have hbA : ¬ (fun q : Nat => s.heap.size ≤ q) b := Nat.not_le.mpr hbl
  refine lv_aload_n hx hb dL_law_1227 rfl (lv_at hl 1 rfl) ?_
  refine lv_aload_n hx hb dL_law_1228 rfl (lv_at hl 0 rfl) ?_
  refine lv_iload_n hx hb dL_law_1229 rfl (lv_at hl 3 rfl) ?_
  refine lv_iconst (v := (1 : Int32)) hx hb dL_law_1230 (by decide) ?_
  refine lv_iadd hx hb dL_law_1231 ?_
  refine va_sld hx hb hX0 hbl hbA hS (zidx (k := 1) hi hL rfl (by decide)) dL_law_1232 ?_
  refine lv_aload_n hx hb dL_law_1233 rfl (lv_at hl 0 rfl) ?_
  refine lv_iload_n hx hb dL_law_1234 rfl (lv_at hl 3 rfl) ?_
  refine lv_iconst (v := (2 : Int32)) hx hb dL_law_1235 (by decide) ?_
  refine lv_iadd hx hb dL_law_1236 ?_
  refine va_sld hx hb hX0 hbl hbA hS (zidx (k := 2) hi hL rfl (by decide)) dL_law_1237 ?_
  refine lv_aload_n hx hb dL_law_1238 rfl (lv_at hl 0 rfl) ?_
  refine lv_iload_n hx hb dL_law_1239 rfl (lv_at hl 3 rfl) ?_
  refine lv_iconst (v := (3 : Int32)) hx hb dL_law_1240 (by decide) ?_
  refine lv_iadd hx hb dL_law_1241 ?_
  refine va_sld hx hb hX0 hbl hbA hS (zidx (k := 3) hi hL rfl (by decide)) dL_law_1242 ?_
  refine lv_aload_n hx hb dL_law_1243 rfl (lv_at hl 0 rfl) ?_
  refine lv_iload_n hx hb dL_law_1244 rfl (lv_at hl 3 rfl) ?_
  refine lv_iconst (v := (4 : Int32)) hx hb dL_law_1245 (by decide) ?_
  refine lv_iadd hx hb dL_law_1246 ?_
  refine va_sld hx hb hX0 hbl hbA hS (zidx (k := 4) hi hL rfl (by decide)) dL_law_1247 ?_
  refine lv_if_eq (tgt := 1255) hx hb dL_law_1248 (by decide) (fun hc0 => ?_) (fun hc0 => ?_)
  ·
    refine lv_iconst (v := (0 : Int32)) hx hb dL_law_1255 (by decide) ?_
    have hB0 := tB_of hG.2.2.2.1
    have hI0 := tBI_of hG.2.2.1
    refine gx_meet [] hcs C0 hbx hbm hK hO hG hS hl.1 (Nat.le_of_ble_eq_true rfl) kmL_119 dL_law_1256 (fun r1 mi' ko' T' I' H locs cells' slots' hx1 e1 e2 hG1 hS1 => ?_)
    obtain ⟨rfl, rfl, rfl⟩ := hx1
    have hG := hG1
    have hS := hS1
    refine lv_pop hx hb dL_law_1259 rfl ?_
    refine lv_aload_n hx hb dL_law_1260 rfl (lv_at hl 2 rfl) ?_
    refine lv_aload_n hx hb dL_law_1261 rfl (lv_at hl 0 rfl) ?_
    refine lv_iload_n hx hb dL_law_1262 rfl (lv_at hl 3 rfl) ?_
    refine lv_iconst (v := (1 : Int32)) hx hb dL_law_1263 (by decide) ?_
    refine lv_iadd hx hb dL_law_1264 ?_
    refine va_sld hx hb hX0 hbl hbA hS (zidx (k := 1) hi hL rfl (by decide)) dL_law_1265 ?_
    refine lv_aload_n hx hb dL_law_1266 rfl (lv_at hl 0 rfl) ?_
    refine lv_iload_n hx hb dL_law_1267 rfl (lv_at hl 3 rfl) ?_
    refine lv_iconst (v := (2 : Int32)) hx hb dL_law_1268 (by decide) ?_
    refine lv_iadd hx hb dL_law_1269 ?_
    refine va_sld hx hb hX0 hbl hbA hS (zidx (k := 2) hi hL rfl (by decide)) dL_law_1270 ?_
    refine lv_aload_n hx hb dL_law_1271 rfl (lv_at hl 0 rfl) ?_
    refine lv_iload_n hx hb dL_law_1272 rfl (lv_at hl 3 rfl) ?_
    refine lv_iconst (v := (3 : Int32)) hx hb dL_law_1273 (by decide) ?_
    refine lv_iadd hx hb dL_law_1274 ?_
    refine va_sld hx hb hX0 hbl hbA hS (zidx (k := 3) hi hL rfl (by decide)) dL_law_1275 ?_
    refine lv_aload_n hx hb dL_law_1276 rfl (lv_at hl 0 rfl) ?_
    refine lv_iload_n hx hb dL_law_1277 rfl (lv_at hl 3 rfl) ?_
    refine lv_iconst (v := (4 : Int32)) hx hb dL_law_1278 (by decide) ?_
    refine lv_iadd hx hb dL_law_1279 ?_
    refine va_sld hx hb hX0 hbl hbA hS (zidx (k := 4) hi hL rfl (by decide)) dL_law_1280 ?_
    refine lv_if_eq (tgt := 1288) hx hb dL_law_1281 (by decide) (fun hc11 => ?_) (fun hc11 => ?_)
    ·
      refine lv_iconst (v := (0 : Int32)) hx hb dL_law_1288 (by decide) ?_
      refine gm_meet [] ⟨Nat.le_trans e1 hcs.1, Nat.le_trans e2 hcs.2⟩ C0 hbx hbm hK hO hG hS hl.1 (Nat.le_of_ble_eq_true rfl) kmL_122 dL_law_1289 (fun r2 M' H locs hm1 hG2 hS2 => ?_)
      obtain rfl := hm1
      have hG := hG2
      have hS := hS2
      refine lv_pop hx hb dL_law_1292 rfl ?_
      refine lv_goto (tgt := 1648) hx hb dL_law_1293 (by decide) ?_
      exact kk _ _ _ _ _ _ _ _ _ e1 e2 hR hG hS
    ·
      refine lv_iconst (v := (1 : Int32)) hx hb dL_law_1284 (by decide) ?_
      refine lv_goto (tgt := 1289) hx hb dL_law_1285 (by decide) ?_
      refine gm_meet [] ⟨Nat.le_trans e1 hcs.1, Nat.le_trans e2 hcs.2⟩ C0 hbx hbm hK hO hG hS hl.1 (Nat.le_of_ble_eq_true rfl) kmL_122 dL_law_1289 (fun r2 M' H locs hm1 hG2 hS2 => ?_)
      obtain rfl := hm1
      have hG := hG2
      have hS := hS2
      refine lv_pop hx hb dL_law_1292 rfl ?_
      refine lv_goto (tgt := 1648) hx hb dL_law_1293 (by decide) ?_
      exact kk _ _ _ _ _ _ _ _ _ e1 e2 hR hG hS
  ·
    refine lv_iconst (v := (1 : Int32)) hx hb dL_law_1251 (by decide) ?_
    refine lv_goto (tgt := 1256) hx hb dL_law_1252 (by decide) ?_
    have hB0 := tB_of hG.2.2.2.1
    have hI0 := tBI_of hG.2.2.1
    refine gx_meet [] hcs C0 hbx hbm hK hO hG hS hl.1 (Nat.le_of_ble_eq_true rfl) kmL_119 dL_law_1256 (fun r1 mi' ko' T' I' H locs cells' slots' hx1 e1 e2 hG1 hS1 => ?_)
    obtain ⟨rfl, rfl, rfl⟩ := hx1
    have hG := hG1
    have hS := hS1
    refine lv_pop hx hb dL_law_1259 rfl ?_
    refine lv_aload_n hx hb dL_law_1260 rfl (lv_at hl 2 rfl) ?_
    refine lv_aload_n hx hb dL_law_1261 rfl (lv_at hl 0 rfl) ?_
    refine lv_iload_n hx hb dL_law_1262 rfl (lv_at hl 3 rfl) ?_
    refine lv_iconst (v := (1 : Int32)) hx hb dL_law_1263 (by decide) ?_
    refine lv_iadd hx hb dL_law_1264 ?_
    refine va_sld hx hb hX0 hbl hbA hS (zidx (k := 1) hi hL rfl (by decide)) dL_law_1265 ?_
    refine lv_aload_n hx hb dL_law_1266 rfl (lv_at hl 0 rfl) ?_
    refine lv_iload_n hx hb dL_law_1267 rfl (lv_at hl 3 rfl) ?_
    refine lv_iconst (v := (2 : Int32)) hx hb dL_law_1268 (by decide) ?_
    refine lv_iadd hx hb dL_law_1269 ?_
    refine va_sld hx hb hX0 hbl hbA hS (zidx (k := 2) hi hL rfl (by decide)) dL_law_1270 ?_
    refine lv_aload_n hx hb dL_law_1271 rfl (lv_at hl 0 rfl) ?_
    refine lv_iload_n hx hb dL_law_1272 rfl (lv_at hl 3 rfl) ?_
    refine lv_iconst (v := (3 : Int32)) hx hb dL_law_1273 (by decide) ?_
    refine lv_iadd hx hb dL_law_1274 ?_
    refine va_sld hx hb hX0 hbl hbA hS (zidx (k := 3) hi hL rfl (by decide)) dL_law_1275 ?_
    refine lv_aload_n hx hb dL_law_1276 rfl (lv_at hl 0 rfl) ?_
    refine lv_iload_n hx hb dL_law_1277 rfl (lv_at hl 3 rfl) ?_
    refine lv_iconst (v := (4 : Int32)) hx hb dL_law_1278 (by decide) ?_
    refine lv_iadd hx hb dL_law_1279 ?_
    refine va_sld hx hb hX0 hbl hbA hS (zidx (k := 4) hi hL rfl (by decide)) dL_law_1280 ?_
    refine lv_if_eq (tgt := 1288) hx hb dL_law_1281 (by decide) (fun hc11 => ?_) (fun hc11 => ?_)
    ·
      refine lv_iconst (v := (0 : Int32)) hx hb dL_law_1288 (by decide) ?_
      refine gm_meet [] ⟨Nat.le_trans e1 hcs.1, Nat.le_trans e2 hcs.2⟩ C0 hbx hbm hK hO hG hS hl.1 (Nat.le_of_ble_eq_true rfl) kmL_122 dL_law_1289 (fun r2 M' H locs hm1 hG2 hS2 => ?_)
      obtain rfl := hm1
      have hG := hG2
      have hS := hS2
      refine lv_pop hx hb dL_law_1292 rfl ?_
      refine lv_goto (tgt := 1648) hx hb dL_law_1293 (by decide) ?_
      exact kk _ _ _ _ _ _ _ _ _ e1 e2 hR hG hS
    ·
      refine lv_iconst (v := (1 : Int32)) hx hb dL_law_1284 (by decide) ?_
      refine lv_goto (tgt := 1289) hx hb dL_law_1285 (by decide) ?_
      refine gm_meet [] ⟨Nat.le_trans e1 hcs.1, Nat.le_trans e2 hcs.2⟩ C0 hbx hbm hK hO hG hS hl.1 (Nat.le_of_ble_eq_true rfl) kmL_122 dL_law_1289 (fun r2 M' H locs hm1 hG2 hS2 => ?_)
      obtain rfl := hm1
      have hG := hG2
      have hS := hS2
      refine lv_pop hx hb dL_law_1292 rfl ?_
      refine lv_goto (tgt := 1648) hx hb dL_law_1293 (by decide) ?_
      exact kk _ _ _ _ _ _ _ _ _ e1 e2 hR hG hS

set_option maxRecDepth 40000 in
set_option maxHeartbeats 4000000 in
theorem g_25 {p : Program} {l : Launch} {e : Env} {s : State} {m : MethodId} {below : List Frame} {meth : Method} {c : Code} {E : zE} {G : zG} {b L i bx bm cells slots : Nat} {xs : Nat → Int32} {mi : Nat → Option Nat} {ko : Option Nat} {T : TT} {M : Nat → Nat → Int32} {I : Nat → TT} {H : Heap} {locs : List Loc} {ls : Array Slot} (hi : i + 6 ≤ L) (hL : L ≤ 3072) (hR : RG T M I mi) (hcs : cells + 47 ≤ room_1.cells ∧ slots + 4608 ≤ room_1.slots) (C0 : lw_At p s m meth c b L xs) (hbx : s.heap.size ≤ bx) (hbm : bx + 93 ≤ bm) (hK : zK E s) (hO : zO s ∧ zZ G (fun q => s.heap.size ≤ q) s s.heap) (hG : GG E bx bm mi ko T M I H) (hS : va_S (fun q => s.heap.size ≤ q) s.heap H locs) (hl : lv_has ls 4 [(0, .ref b), (1, .ref bx), (2, .ref bm), (3, .int (nI i))])
    (kk : ∀ (mi : Nat → Option Nat) (ko : Option Nat) (T : TT) (M : Nat → Nat → Int32) (I : Nat → TT) (H : Heap) (locs : List Loc) (cells' slots' : Nat), cells' ≤ cells + 47 → slots' ≤ slots + 4608 → RG T M I mi → GG E bx bm mi ko T M I H → va_S (fun q => s.heap.size ≤ q) s.heap H locs → W p l e room_1 s m #[Value.ref b] below meth c H locs cells' slots' (lw_Z below #[Value.ref b] s) (F0 m 1648 ls [])) : W p l e room_1 s m #[Value.ref b] below meth c H locs cells slots (lw_Z below #[Value.ref b] s) (F0 m 1296 ls []) := by
  obtain ⟨hx, hb, hr, hml, hown, hts, hX0, hbl, hlocks, hgv⟩ := id C0
  have zc : zC p s m #[Value.ref b] meth c cL_law 4 RL ret := ⟨hx, hb, hml, hown, fun w hw => hts w (zb_in hw), hr, hlocks⟩
  have hbA : ¬ (fun q : Nat => s.heap.size ≤ q) b := Nat.not_le.mpr hbl
  refine lv_aload_n hx hb dL_law_1296 rfl (lv_at hl 1 rfl) ?_
  refine lv_aload_n hx hb dL_law_1297 rfl (lv_at hl 0 rfl) ?_
  refine lv_iload_n hx hb dL_law_1298 rfl (lv_at hl 3 rfl) ?_
  refine lv_iconst (v := (1 : Int32)) hx hb dL_law_1299 (by decide) ?_
  refine lv_iadd hx hb dL_law_1300 ?_
  refine va_sld hx hb hX0 hbl hbA hS (zidx (k := 1) hi hL rfl (by decide)) dL_law_1301 ?_
  refine lv_aload_n hx hb dL_law_1302 rfl (lv_at hl 0 rfl) ?_
  refine lv_iload_n hx hb dL_law_1303 rfl (lv_at hl 3 rfl) ?_
  refine lv_iconst (v := (2 : Int32)) hx hb dL_law_1304 (by decide) ?_
  refine lv_iadd hx hb dL_law_1305 ?_
  refine va_sld hx hb hX0 hbl hbA hS (zidx (k := 2) hi hL rfl (by decide)) dL_law_1306 ?_
  refine lv_aload_n hx hb dL_law_1307 rfl (lv_at hl 0 rfl) ?_
  refine lv_iload_n hx hb dL_law_1308 rfl (lv_at hl 3 rfl) ?_
  refine lv_iconst (v := (3 : Int32)) hx hb dL_law_1309 (by decide) ?_
  refine lv_iadd hx hb dL_law_1310 ?_
  refine va_sld hx hb hX0 hbl hbA hS (zidx (k := 3) hi hL rfl (by decide)) dL_law_1311 ?_
  refine lv_if_eq (tgt := 1319) hx hb dL_law_1312 (by decide) (fun hc0 => ?_) (fun hc0 => ?_)
  ·
    refine lv_iconst (v := (0 : Int32)) hx hb dL_law_1319 (by decide) ?_
    have hB0 := tB_of hG.2.2.2.1
    have hI0 := tBI_of hG.2.2.1
    refine gx_carry [] hcs C0 hbx hbm hK hO hG hS hl.1 (Nat.le_of_ble_eq_true rfl) kmL_123 dL_law_1320 (fun r1 mi' ko' T' I' H locs cells' slots' hx1 e1 e2 hG1 hS1 => ?_)
    obtain ⟨rfl, rfl, rfl⟩ := hx1
    have hG := hG1
    have hS := hS1
    refine lv_pop hx hb dL_law_1323 rfl ?_
    refine lv_aload_n hx hb dL_law_1324 rfl (lv_at hl 2 rfl) ?_
    refine lv_aload_n hx hb dL_law_1325 rfl (lv_at hl 0 rfl) ?_
    refine lv_iload_n hx hb dL_law_1326 rfl (lv_at hl 3 rfl) ?_
    refine lv_iconst (v := (1 : Int32)) hx hb dL_law_1327 (by decide) ?_
    refine lv_iadd hx hb dL_law_1328 ?_
    refine va_sld hx hb hX0 hbl hbA hS (zidx (k := 1) hi hL rfl (by decide)) dL_law_1329 ?_
    refine lv_aload_n hx hb dL_law_1330 rfl (lv_at hl 0 rfl) ?_
    refine lv_iload_n hx hb dL_law_1331 rfl (lv_at hl 3 rfl) ?_
    refine lv_iconst (v := (2 : Int32)) hx hb dL_law_1332 (by decide) ?_
    refine lv_iadd hx hb dL_law_1333 ?_
    refine va_sld hx hb hX0 hbl hbA hS (zidx (k := 2) hi hL rfl (by decide)) dL_law_1334 ?_
    refine lv_aload_n hx hb dL_law_1335 rfl (lv_at hl 0 rfl) ?_
    refine lv_iload_n hx hb dL_law_1336 rfl (lv_at hl 3 rfl) ?_
    refine lv_iconst (v := (3 : Int32)) hx hb dL_law_1337 (by decide) ?_
    refine lv_iadd hx hb dL_law_1338 ?_
    refine va_sld hx hb hX0 hbl hbA hS (zidx (k := 3) hi hL rfl (by decide)) dL_law_1339 ?_
    refine lv_if_eq (tgt := 1347) hx hb dL_law_1340 (by decide) (fun hc11 => ?_) (fun hc11 => ?_)
    ·
      refine lv_iconst (v := (0 : Int32)) hx hb dL_law_1347 (by decide) ?_
      refine gm_carry [] ⟨Nat.le_trans e1 hcs.1, Nat.le_trans e2 hcs.2⟩ C0 hbx hbm hK hO hG hS hl.1 (Nat.le_of_ble_eq_true rfl) kmL_126 dL_law_1348 (fun r2 M' H locs hm1 hG2 hS2 => ?_)
      obtain rfl := hm1
      have hG := hG2
      have hS := hS2
      refine lv_pop hx hb dL_law_1351 rfl ?_
      refine lv_goto (tgt := 1648) hx hb dL_law_1352 (by decide) ?_
      exact kk _ _ _ _ _ _ _ _ _ e1 e2 hR hG hS
    ·
      refine lv_iconst (v := (1 : Int32)) hx hb dL_law_1343 (by decide) ?_
      refine lv_goto (tgt := 1348) hx hb dL_law_1344 (by decide) ?_
      refine gm_carry [] ⟨Nat.le_trans e1 hcs.1, Nat.le_trans e2 hcs.2⟩ C0 hbx hbm hK hO hG hS hl.1 (Nat.le_of_ble_eq_true rfl) kmL_126 dL_law_1348 (fun r2 M' H locs hm1 hG2 hS2 => ?_)
      obtain rfl := hm1
      have hG := hG2
      have hS := hS2
      refine lv_pop hx hb dL_law_1351 rfl ?_
      refine lv_goto (tgt := 1648) hx hb dL_law_1352 (by decide) ?_
      exact kk _ _ _ _ _ _ _ _ _ e1 e2 hR hG hS
  ·
    refine lv_iconst (v := (1 : Int32)) hx hb dL_law_1315 (by decide) ?_
    refine lv_goto (tgt := 1320) hx hb dL_law_1316 (by decide) ?_
    have hB0 := tB_of hG.2.2.2.1
    have hI0 := tBI_of hG.2.2.1
    refine gx_carry [] hcs C0 hbx hbm hK hO hG hS hl.1 (Nat.le_of_ble_eq_true rfl) kmL_123 dL_law_1320 (fun r1 mi' ko' T' I' H locs cells' slots' hx1 e1 e2 hG1 hS1 => ?_)
    obtain ⟨rfl, rfl, rfl⟩ := hx1
    have hG := hG1
    have hS := hS1
    refine lv_pop hx hb dL_law_1323 rfl ?_
    refine lv_aload_n hx hb dL_law_1324 rfl (lv_at hl 2 rfl) ?_
    refine lv_aload_n hx hb dL_law_1325 rfl (lv_at hl 0 rfl) ?_
    refine lv_iload_n hx hb dL_law_1326 rfl (lv_at hl 3 rfl) ?_
    refine lv_iconst (v := (1 : Int32)) hx hb dL_law_1327 (by decide) ?_
    refine lv_iadd hx hb dL_law_1328 ?_
    refine va_sld hx hb hX0 hbl hbA hS (zidx (k := 1) hi hL rfl (by decide)) dL_law_1329 ?_
    refine lv_aload_n hx hb dL_law_1330 rfl (lv_at hl 0 rfl) ?_
    refine lv_iload_n hx hb dL_law_1331 rfl (lv_at hl 3 rfl) ?_
    refine lv_iconst (v := (2 : Int32)) hx hb dL_law_1332 (by decide) ?_
    refine lv_iadd hx hb dL_law_1333 ?_
    refine va_sld hx hb hX0 hbl hbA hS (zidx (k := 2) hi hL rfl (by decide)) dL_law_1334 ?_
    refine lv_aload_n hx hb dL_law_1335 rfl (lv_at hl 0 rfl) ?_
    refine lv_iload_n hx hb dL_law_1336 rfl (lv_at hl 3 rfl) ?_
    refine lv_iconst (v := (3 : Int32)) hx hb dL_law_1337 (by decide) ?_
    refine lv_iadd hx hb dL_law_1338 ?_
    refine va_sld hx hb hX0 hbl hbA hS (zidx (k := 3) hi hL rfl (by decide)) dL_law_1339 ?_
    refine lv_if_eq (tgt := 1347) hx hb dL_law_1340 (by decide) (fun hc11 => ?_) (fun hc11 => ?_)
    ·
      refine lv_iconst (v := (0 : Int32)) hx hb dL_law_1347 (by decide) ?_
      refine gm_carry [] ⟨Nat.le_trans e1 hcs.1, Nat.le_trans e2 hcs.2⟩ C0 hbx hbm hK hO hG hS hl.1 (Nat.le_of_ble_eq_true rfl) kmL_126 dL_law_1348 (fun r2 M' H locs hm1 hG2 hS2 => ?_)
      obtain rfl := hm1
      have hG := hG2
      have hS := hS2
      refine lv_pop hx hb dL_law_1351 rfl ?_
      refine lv_goto (tgt := 1648) hx hb dL_law_1352 (by decide) ?_
      exact kk _ _ _ _ _ _ _ _ _ e1 e2 hR hG hS
    ·
      refine lv_iconst (v := (1 : Int32)) hx hb dL_law_1343 (by decide) ?_
      refine lv_goto (tgt := 1348) hx hb dL_law_1344 (by decide) ?_
      refine gm_carry [] ⟨Nat.le_trans e1 hcs.1, Nat.le_trans e2 hcs.2⟩ C0 hbx hbm hK hO hG hS hl.1 (Nat.le_of_ble_eq_true rfl) kmL_126 dL_law_1348 (fun r2 M' H locs hm1 hG2 hS2 => ?_)
      obtain rfl := hm1
      have hG := hG2
      have hS := hS2
      refine lv_pop hx hb dL_law_1351 rfl ?_
      refine lv_goto (tgt := 1648) hx hb dL_law_1352 (by decide) ?_
      exact kk _ _ _ _ _ _ _ _ _ e1 e2 hR hG hS

set_option maxRecDepth 40000 in
set_option maxHeartbeats 4000000 in
theorem g_26 {p : Program} {l : Launch} {e : Env} {s : State} {m : MethodId} {below : List Frame} {meth : Method} {c : Code} {E : zE} {G : zG} {b L i bx bm cells slots : Nat} {xs : Nat → Int32} {mi : Nat → Option Nat} {ko : Option Nat} {T : TT} {M : Nat → Nat → Int32} {I : Nat → TT} {H : Heap} {locs : List Loc} {ls : Array Slot} (hi : i + 6 ≤ L) (hL : L ≤ 3072) (hR : RG T M I mi) (hcs : cells + 47 ≤ room_1.cells ∧ slots + 4608 ≤ room_1.slots) (C0 : lw_At p s m meth c b L xs) (hbx : s.heap.size ≤ bx) (hbm : bx + 93 ≤ bm) (hK : zK E s) (hO : zO s ∧ zZ G (fun q => s.heap.size ≤ q) s s.heap) (hG : GG E bx bm mi ko T M I H) (hS : va_S (fun q => s.heap.size ≤ q) s.heap H locs) (hl : lv_has ls 4 [(0, .ref b), (1, .ref bx), (2, .ref bm), (3, .int (nI i))])
    (kk : ∀ (mi : Nat → Option Nat) (ko : Option Nat) (T : TT) (M : Nat → Nat → Int32) (I : Nat → TT) (H : Heap) (locs : List Loc) (cells' slots' : Nat), cells' ≤ cells + 47 → slots' ≤ slots + 4608 → RG T M I mi → GG E bx bm mi ko T M I H → va_S (fun q => s.heap.size ≤ q) s.heap H locs → W p l e room_1 s m #[Value.ref b] below meth c H locs cells' slots' (lw_Z below #[Value.ref b] s) (F0 m 1648 ls [])) : W p l e room_1 s m #[Value.ref b] below meth c H locs cells slots (lw_Z below #[Value.ref b] s) (F0 m 1355 ls []) := by
  obtain ⟨hx, hb, hr, hml, hown, hts, hX0, hbl, hlocks, hgv⟩ := id C0
  have zc : zC p s m #[Value.ref b] meth c cL_law 4 RL ret := ⟨hx, hb, hml, hown, fun w hw => hts w (zb_in hw), hr, hlocks⟩
  have hbA : ¬ (fun q : Nat => s.heap.size ≤ q) b := Nat.not_le.mpr hbl
  refine lv_aload_n hx hb dL_law_1355 rfl (lv_at hl 1 rfl) ?_
  refine lv_aload_n hx hb dL_law_1356 rfl (lv_at hl 0 rfl) ?_
  refine lv_iload_n hx hb dL_law_1357 rfl (lv_at hl 3 rfl) ?_
  refine lv_iconst (v := (1 : Int32)) hx hb dL_law_1358 (by decide) ?_
  refine lv_iadd hx hb dL_law_1359 ?_
  refine va_sld hx hb hX0 hbl hbA hS (zidx (k := 1) hi hL rfl (by decide)) dL_law_1360 ?_
  refine lv_aload_n hx hb dL_law_1361 rfl (lv_at hl 0 rfl) ?_
  refine lv_iload_n hx hb dL_law_1362 rfl (lv_at hl 3 rfl) ?_
  refine lv_iconst (v := (2 : Int32)) hx hb dL_law_1363 (by decide) ?_
  refine lv_iadd hx hb dL_law_1364 ?_
  refine va_sld hx hb hX0 hbl hbA hS (zidx (k := 2) hi hL rfl (by decide)) dL_law_1365 ?_
  refine lv_aload_n hx hb dL_law_1366 rfl (lv_at hl 0 rfl) ?_
  refine lv_iload_n hx hb dL_law_1367 rfl (lv_at hl 3 rfl) ?_
  refine lv_iconst (v := (3 : Int32)) hx hb dL_law_1368 (by decide) ?_
  refine lv_iadd hx hb dL_law_1369 ?_
  refine va_sld hx hb hX0 hbl hbA hS (zidx (k := 3) hi hL rfl (by decide)) dL_law_1370 ?_
  refine lv_aload_n hx hb dL_law_1371 rfl (lv_at hl 0 rfl) ?_
  refine lv_iload_n hx hb dL_law_1372 rfl (lv_at hl 3 rfl) ?_
  refine lv_iconst (v := (4 : Int32)) hx hb dL_law_1373 (by decide) ?_
  refine lv_iadd hx hb dL_law_1374 ?_
  refine va_sld hx hb hX0 hbl hbA hS (zidx (k := 4) hi hL rfl (by decide)) dL_law_1375 ?_
  refine lv_if_eq (tgt := 1383) hx hb dL_law_1376 (by decide) (fun hc0 => ?_) (fun hc0 => ?_)
  ·
    refine lv_iconst (v := (0 : Int32)) hx hb dL_law_1383 (by decide) ?_
    have hB0 := tB_of hG.2.2.2.1
    have hI0 := tBI_of hG.2.2.1
    refine gx_join [] hcs C0 hbx hbm hK hO hG hS hl.1 (Nat.le_of_ble_eq_true rfl) kmL_127 dL_law_1384 (fun r1 mi' ko' T' I' H locs cells' slots' hx1 e1 e2 hG1 hS1 => ?_)
    obtain ⟨rfl, rfl, rfl⟩ := hx1
    have hG := hG1
    have hS := hS1
    refine lv_pop hx hb dL_law_1387 rfl ?_
    refine lv_aload_n hx hb dL_law_1388 rfl (lv_at hl 2 rfl) ?_
    refine lv_aload_n hx hb dL_law_1389 rfl (lv_at hl 0 rfl) ?_
    refine lv_iload_n hx hb dL_law_1390 rfl (lv_at hl 3 rfl) ?_
    refine lv_iconst (v := (1 : Int32)) hx hb dL_law_1391 (by decide) ?_
    refine lv_iadd hx hb dL_law_1392 ?_
    refine va_sld hx hb hX0 hbl hbA hS (zidx (k := 1) hi hL rfl (by decide)) dL_law_1393 ?_
    refine lv_aload_n hx hb dL_law_1394 rfl (lv_at hl 0 rfl) ?_
    refine lv_iload_n hx hb dL_law_1395 rfl (lv_at hl 3 rfl) ?_
    refine lv_iconst (v := (2 : Int32)) hx hb dL_law_1396 (by decide) ?_
    refine lv_iadd hx hb dL_law_1397 ?_
    refine va_sld hx hb hX0 hbl hbA hS (zidx (k := 2) hi hL rfl (by decide)) dL_law_1398 ?_
    refine lv_aload_n hx hb dL_law_1399 rfl (lv_at hl 0 rfl) ?_
    refine lv_iload_n hx hb dL_law_1400 rfl (lv_at hl 3 rfl) ?_
    refine lv_iconst (v := (3 : Int32)) hx hb dL_law_1401 (by decide) ?_
    refine lv_iadd hx hb dL_law_1402 ?_
    refine va_sld hx hb hX0 hbl hbA hS (zidx (k := 3) hi hL rfl (by decide)) dL_law_1403 ?_
    refine lv_aload_n hx hb dL_law_1404 rfl (lv_at hl 0 rfl) ?_
    refine lv_iload_n hx hb dL_law_1405 rfl (lv_at hl 3 rfl) ?_
    refine lv_iconst (v := (4 : Int32)) hx hb dL_law_1406 (by decide) ?_
    refine lv_iadd hx hb dL_law_1407 ?_
    refine va_sld hx hb hX0 hbl hbA hS (zidx (k := 4) hi hL rfl (by decide)) dL_law_1408 ?_
    refine lv_if_eq (tgt := 1416) hx hb dL_law_1409 (by decide) (fun hc11 => ?_) (fun hc11 => ?_)
    ·
      refine lv_iconst (v := (0 : Int32)) hx hb dL_law_1416 (by decide) ?_
      refine gm_join [] ⟨Nat.le_trans e1 hcs.1, Nat.le_trans e2 hcs.2⟩ C0 hbx hbm hK hO hG hS hl.1 (Nat.le_of_ble_eq_true rfl) kmL_130 dL_law_1417 (fun r2 M' H locs hm1 hG2 hS2 => ?_)
      obtain rfl := hm1
      have hG := hG2
      have hS := hS2
      refine lv_pop hx hb dL_law_1420 rfl ?_
      refine lv_goto (tgt := 1648) hx hb dL_law_1421 (by decide) ?_
      exact kk _ _ _ _ _ _ _ _ _ e1 e2 hR hG hS
    ·
      refine lv_iconst (v := (1 : Int32)) hx hb dL_law_1412 (by decide) ?_
      refine lv_goto (tgt := 1417) hx hb dL_law_1413 (by decide) ?_
      refine gm_join [] ⟨Nat.le_trans e1 hcs.1, Nat.le_trans e2 hcs.2⟩ C0 hbx hbm hK hO hG hS hl.1 (Nat.le_of_ble_eq_true rfl) kmL_130 dL_law_1417 (fun r2 M' H locs hm1 hG2 hS2 => ?_)
      obtain rfl := hm1
      have hG := hG2
      have hS := hS2
      refine lv_pop hx hb dL_law_1420 rfl ?_
      refine lv_goto (tgt := 1648) hx hb dL_law_1421 (by decide) ?_
      exact kk _ _ _ _ _ _ _ _ _ e1 e2 hR hG hS
  ·
    refine lv_iconst (v := (1 : Int32)) hx hb dL_law_1379 (by decide) ?_
    refine lv_goto (tgt := 1384) hx hb dL_law_1380 (by decide) ?_
    have hB0 := tB_of hG.2.2.2.1
    have hI0 := tBI_of hG.2.2.1
    refine gx_join [] hcs C0 hbx hbm hK hO hG hS hl.1 (Nat.le_of_ble_eq_true rfl) kmL_127 dL_law_1384 (fun r1 mi' ko' T' I' H locs cells' slots' hx1 e1 e2 hG1 hS1 => ?_)
    obtain ⟨rfl, rfl, rfl⟩ := hx1
    have hG := hG1
    have hS := hS1
    refine lv_pop hx hb dL_law_1387 rfl ?_
    refine lv_aload_n hx hb dL_law_1388 rfl (lv_at hl 2 rfl) ?_
    refine lv_aload_n hx hb dL_law_1389 rfl (lv_at hl 0 rfl) ?_
    refine lv_iload_n hx hb dL_law_1390 rfl (lv_at hl 3 rfl) ?_
    refine lv_iconst (v := (1 : Int32)) hx hb dL_law_1391 (by decide) ?_
    refine lv_iadd hx hb dL_law_1392 ?_
    refine va_sld hx hb hX0 hbl hbA hS (zidx (k := 1) hi hL rfl (by decide)) dL_law_1393 ?_
    refine lv_aload_n hx hb dL_law_1394 rfl (lv_at hl 0 rfl) ?_
    refine lv_iload_n hx hb dL_law_1395 rfl (lv_at hl 3 rfl) ?_
    refine lv_iconst (v := (2 : Int32)) hx hb dL_law_1396 (by decide) ?_
    refine lv_iadd hx hb dL_law_1397 ?_
    refine va_sld hx hb hX0 hbl hbA hS (zidx (k := 2) hi hL rfl (by decide)) dL_law_1398 ?_
    refine lv_aload_n hx hb dL_law_1399 rfl (lv_at hl 0 rfl) ?_
    refine lv_iload_n hx hb dL_law_1400 rfl (lv_at hl 3 rfl) ?_
    refine lv_iconst (v := (3 : Int32)) hx hb dL_law_1401 (by decide) ?_
    refine lv_iadd hx hb dL_law_1402 ?_
    refine va_sld hx hb hX0 hbl hbA hS (zidx (k := 3) hi hL rfl (by decide)) dL_law_1403 ?_
    refine lv_aload_n hx hb dL_law_1404 rfl (lv_at hl 0 rfl) ?_
    refine lv_iload_n hx hb dL_law_1405 rfl (lv_at hl 3 rfl) ?_
    refine lv_iconst (v := (4 : Int32)) hx hb dL_law_1406 (by decide) ?_
    refine lv_iadd hx hb dL_law_1407 ?_
    refine va_sld hx hb hX0 hbl hbA hS (zidx (k := 4) hi hL rfl (by decide)) dL_law_1408 ?_
    refine lv_if_eq (tgt := 1416) hx hb dL_law_1409 (by decide) (fun hc11 => ?_) (fun hc11 => ?_)
    ·
      refine lv_iconst (v := (0 : Int32)) hx hb dL_law_1416 (by decide) ?_
      refine gm_join [] ⟨Nat.le_trans e1 hcs.1, Nat.le_trans e2 hcs.2⟩ C0 hbx hbm hK hO hG hS hl.1 (Nat.le_of_ble_eq_true rfl) kmL_130 dL_law_1417 (fun r2 M' H locs hm1 hG2 hS2 => ?_)
      obtain rfl := hm1
      have hG := hG2
      have hS := hS2
      refine lv_pop hx hb dL_law_1420 rfl ?_
      refine lv_goto (tgt := 1648) hx hb dL_law_1421 (by decide) ?_
      exact kk _ _ _ _ _ _ _ _ _ e1 e2 hR hG hS
    ·
      refine lv_iconst (v := (1 : Int32)) hx hb dL_law_1412 (by decide) ?_
      refine lv_goto (tgt := 1417) hx hb dL_law_1413 (by decide) ?_
      refine gm_join [] ⟨Nat.le_trans e1 hcs.1, Nat.le_trans e2 hcs.2⟩ C0 hbx hbm hK hO hG hS hl.1 (Nat.le_of_ble_eq_true rfl) kmL_130 dL_law_1417 (fun r2 M' H locs hm1 hG2 hS2 => ?_)
      obtain rfl := hm1
      have hG := hG2
      have hS := hS2
      refine lv_pop hx hb dL_law_1420 rfl ?_
      refine lv_goto (tgt := 1648) hx hb dL_law_1421 (by decide) ?_
      exact kk _ _ _ _ _ _ _ _ _ e1 e2 hR hG hS

set_option maxRecDepth 40000 in
set_option maxHeartbeats 4000000 in
theorem g_27 {p : Program} {l : Launch} {e : Env} {s : State} {m : MethodId} {below : List Frame} {meth : Method} {c : Code} {E : zE} {G : zG} {b L i bx bm cells slots : Nat} {xs : Nat → Int32} {mi : Nat → Option Nat} {ko : Option Nat} {T : TT} {M : Nat → Nat → Int32} {I : Nat → TT} {H : Heap} {locs : List Loc} {ls : Array Slot} (hi : i + 6 ≤ L) (hL : L ≤ 3072) (hR : RG T M I mi) (hcs : cells + 47 ≤ room_1.cells ∧ slots + 4608 ≤ room_1.slots) (C0 : lw_At p s m meth c b L xs) (hbx : s.heap.size ≤ bx) (hbm : bx + 93 ≤ bm) (hK : zK E s) (hO : zO s ∧ zZ G (fun q => s.heap.size ≤ q) s s.heap) (hG : GG E bx bm mi ko T M I H) (hS : va_S (fun q => s.heap.size ≤ q) s.heap H locs) (hl : lv_has ls 4 [(0, .ref b), (1, .ref bx), (2, .ref bm), (3, .int (nI i))])
    (kk : ∀ (mi : Nat → Option Nat) (ko : Option Nat) (T : TT) (M : Nat → Nat → Int32) (I : Nat → TT) (H : Heap) (locs : List Loc) (cells' slots' : Nat), cells' ≤ cells + 47 → slots' ≤ slots + 4608 → RG T M I mi → GG E bx bm mi ko T M I H → va_S (fun q => s.heap.size ≤ q) s.heap H locs → W p l e room_1 s m #[Value.ref b] below meth c H locs cells' slots' (lw_Z below #[Value.ref b] s) (F0 m 1648 ls [])) : W p l e room_1 s m #[Value.ref b] below meth c H locs cells slots (lw_Z below #[Value.ref b] s) (F0 m 1424 ls []) := by
  obtain ⟨hx, hb, hr, hml, hown, hts, hX0, hbl, hlocks, hgv⟩ := id C0
  have zc : zC p s m #[Value.ref b] meth c cL_law 4 RL ret := ⟨hx, hb, hml, hown, fun w hw => hts w (zb_in hw), hr, hlocks⟩
  have hbA : ¬ (fun q : Nat => s.heap.size ≤ q) b := Nat.not_le.mpr hbl
  refine lv_aload_n hx hb dL_law_1424 rfl (lv_at hl 1 rfl) ?_
  refine lv_aload_n hx hb dL_law_1425 rfl (lv_at hl 0 rfl) ?_
  refine lv_iload_n hx hb dL_law_1426 rfl (lv_at hl 3 rfl) ?_
  refine lv_iconst (v := (1 : Int32)) hx hb dL_law_1427 (by decide) ?_
  refine lv_iadd hx hb dL_law_1428 ?_
  refine va_sld hx hb hX0 hbl hbA hS (zidx (k := 1) hi hL rfl (by decide)) dL_law_1429 ?_
  refine lv_aload_n hx hb dL_law_1430 rfl (lv_at hl 0 rfl) ?_
  refine lv_iload_n hx hb dL_law_1431 rfl (lv_at hl 3 rfl) ?_
  refine lv_iconst (v := (2 : Int32)) hx hb dL_law_1432 (by decide) ?_
  refine lv_iadd hx hb dL_law_1433 ?_
  refine va_sld hx hb hX0 hbl hbA hS (zidx (k := 2) hi hL rfl (by decide)) dL_law_1434 ?_
  have hB0 := tB_of hG.2.2.2.1
  have hI0 := tBI_of hG.2.2.1
  refine gx_slopes [] hcs C0 hbx hbm hK hO hG hS hl.1 (Nat.le_of_ble_eq_true rfl) kmL_131 dL_law_1435 (fun r1 mi' ko' T' I' H locs cells' slots' hx1 e1 e2 hG1 hS1 => ?_)
  obtain ⟨rfl, rfl, rfl⟩ := hx1
  have hG := hG1
  have hS := hS1
  refine lv_pop hx hb dL_law_1438 rfl ?_
  refine lv_aload_n hx hb dL_law_1439 rfl (lv_at hl 2 rfl) ?_
  refine lv_aload_n hx hb dL_law_1440 rfl (lv_at hl 0 rfl) ?_
  refine lv_iload_n hx hb dL_law_1441 rfl (lv_at hl 3 rfl) ?_
  refine lv_iconst (v := (1 : Int32)) hx hb dL_law_1442 (by decide) ?_
  refine lv_iadd hx hb dL_law_1443 ?_
  refine va_sld hx hb hX0 hbl hbA hS (zidx (k := 1) hi hL rfl (by decide)) dL_law_1444 ?_
  refine lv_aload_n hx hb dL_law_1445 rfl (lv_at hl 0 rfl) ?_
  refine lv_iload_n hx hb dL_law_1446 rfl (lv_at hl 3 rfl) ?_
  refine lv_iconst (v := (2 : Int32)) hx hb dL_law_1447 (by decide) ?_
  refine lv_iadd hx hb dL_law_1448 ?_
  refine va_sld hx hb hX0 hbl hbA hS (zidx (k := 2) hi hL rfl (by decide)) dL_law_1449 ?_
  refine gm_slopes [] ⟨Nat.le_trans e1 hcs.1, Nat.le_trans e2 hcs.2⟩ C0 hbx hbm hK hO hG hS hl.1 (Nat.le_of_ble_eq_true rfl) kmL_134 dL_law_1450 (fun r2 M' H locs hm1 hG2 hS2 => ?_)
  obtain rfl := hm1
  have hG := hG2
  have hS := hS2
  refine lv_pop hx hb dL_law_1453 rfl ?_
  refine lv_goto (tgt := 1648) hx hb dL_law_1454 (by decide) ?_
  exact kk _ _ _ _ _ _ _ _ _ e1 e2 hR hG hS

set_option maxRecDepth 40000 in
set_option maxHeartbeats 4000000 in
theorem g_28 {p : Program} {l : Launch} {e : Env} {s : State} {m : MethodId} {below : List Frame} {meth : Method} {c : Code} {E : zE} {G : zG} {b L i bx bm cells slots : Nat} {xs : Nat → Int32} {mi : Nat → Option Nat} {ko : Option Nat} {T : TT} {M : Nat → Nat → Int32} {I : Nat → TT} {H : Heap} {locs : List Loc} {ls : Array Slot} (hi : i + 6 ≤ L) (hL : L ≤ 3072) (hR : RG T M I mi) (hcs : cells + 47 ≤ room_1.cells ∧ slots + 4608 ≤ room_1.slots) (C0 : lw_At p s m meth c b L xs) (hbx : s.heap.size ≤ bx) (hbm : bx + 93 ≤ bm) (hK : zK E s) (hO : zO s ∧ zZ G (fun q => s.heap.size ≤ q) s s.heap) (hG : GG E bx bm mi ko T M I H) (hS : va_S (fun q => s.heap.size ≤ q) s.heap H locs) (hl : lv_has ls 4 [(0, .ref b), (1, .ref bx), (2, .ref bm), (3, .int (nI i))])
    (kk : ∀ (mi : Nat → Option Nat) (ko : Option Nat) (T : TT) (M : Nat → Nat → Int32) (I : Nat → TT) (H : Heap) (locs : List Loc) (cells' slots' : Nat), cells' ≤ cells + 47 → slots' ≤ slots + 4608 → RG T M I mi → GG E bx bm mi ko T M I H → va_S (fun q => s.heap.size ≤ q) s.heap H locs → W p l e room_1 s m #[Value.ref b] below meth c H locs cells' slots' (lw_Z below #[Value.ref b] s) (F0 m 1648 ls [])) : W p l e room_1 s m #[Value.ref b] below meth c H locs cells slots (lw_Z below #[Value.ref b] s) (F0 m 1457 ls []) := by
  obtain ⟨hx, hb, hr, hml, hown, hts, hX0, hbl, hlocks, hgv⟩ := id C0
  have zc : zC p s m #[Value.ref b] meth c cL_law 4 RL ret := ⟨hx, hb, hml, hown, fun w hw => hts w (zb_in hw), hr, hlocks⟩
  have hbA : ¬ (fun q : Nat => s.heap.size ≤ q) b := Nat.not_le.mpr hbl
  refine lv_aload_n hx hb dL_law_1457 rfl (lv_at hl 1 rfl) ?_
  refine lv_aload_n hx hb dL_law_1458 rfl (lv_at hl 0 rfl) ?_
  refine lv_iload_n hx hb dL_law_1459 rfl (lv_at hl 3 rfl) ?_
  refine lv_iconst (v := (1 : Int32)) hx hb dL_law_1460 (by decide) ?_
  refine lv_iadd hx hb dL_law_1461 ?_
  refine va_sld hx hb hX0 hbl hbA hS (zidx (k := 1) hi hL rfl (by decide)) dL_law_1462 ?_
  refine lv_aload_n hx hb dL_law_1463 rfl (lv_at hl 0 rfl) ?_
  refine lv_iload_n hx hb dL_law_1464 rfl (lv_at hl 3 rfl) ?_
  refine lv_iconst (v := (2 : Int32)) hx hb dL_law_1465 (by decide) ?_
  refine lv_iadd hx hb dL_law_1466 ?_
  refine va_sld hx hb hX0 hbl hbA hS (zidx (k := 2) hi hL rfl (by decide)) dL_law_1467 ?_
  refine lv_aload_n hx hb dL_law_1468 rfl (lv_at hl 0 rfl) ?_
  refine lv_iload_n hx hb dL_law_1469 rfl (lv_at hl 3 rfl) ?_
  refine lv_iconst (v := (3 : Int32)) hx hb dL_law_1470 (by decide) ?_
  refine lv_iadd hx hb dL_law_1471 ?_
  refine va_sld hx hb hX0 hbl hbA hS (zidx (k := 3) hi hL rfl (by decide)) dL_law_1472 ?_
  refine lv_aload_n hx hb dL_law_1473 rfl (lv_at hl 0 rfl) ?_
  refine lv_iload_n hx hb dL_law_1474 rfl (lv_at hl 3 rfl) ?_
  refine lv_iconst (v := (4 : Int32)) hx hb dL_law_1475 (by decide) ?_
  refine lv_iadd hx hb dL_law_1476 ?_
  refine va_sld hx hb hX0 hbl hbA hS (zidx (k := 4) hi hL rfl (by decide)) dL_law_1477 ?_
  refine lv_if_eq (tgt := 1485) hx hb dL_law_1478 (by decide) (fun hc0 => ?_) (fun hc0 => ?_)
  ·
    refine lv_iconst (v := (0 : Int32)) hx hb dL_law_1485 (by decide) ?_
    have hB0 := tB_of hG.2.2.2.1
    have hI0 := tBI_of hG.2.2.1
    refine gx_flood [] hcs C0 hbx hbm hK hO hG hS hl.1 (Nat.le_of_ble_eq_true rfl) kmL_135 dL_law_1486 (fun r1 mi' ko' T' I' H locs cells' slots' hx1 e1 e2 hG1 hS1 => ?_)
    obtain ⟨rfl, rfl, rfl⟩ := hx1
    have hG := hG1
    have hS := hS1
    refine lv_pop hx hb dL_law_1489 rfl ?_
    refine lv_aload_n hx hb dL_law_1490 rfl (lv_at hl 2 rfl) ?_
    refine lv_aload_n hx hb dL_law_1491 rfl (lv_at hl 0 rfl) ?_
    refine lv_iload_n hx hb dL_law_1492 rfl (lv_at hl 3 rfl) ?_
    refine lv_iconst (v := (1 : Int32)) hx hb dL_law_1493 (by decide) ?_
    refine lv_iadd hx hb dL_law_1494 ?_
    refine va_sld hx hb hX0 hbl hbA hS (zidx (k := 1) hi hL rfl (by decide)) dL_law_1495 ?_
    refine lv_aload_n hx hb dL_law_1496 rfl (lv_at hl 0 rfl) ?_
    refine lv_iload_n hx hb dL_law_1497 rfl (lv_at hl 3 rfl) ?_
    refine lv_iconst (v := (2 : Int32)) hx hb dL_law_1498 (by decide) ?_
    refine lv_iadd hx hb dL_law_1499 ?_
    refine va_sld hx hb hX0 hbl hbA hS (zidx (k := 2) hi hL rfl (by decide)) dL_law_1500 ?_
    refine lv_aload_n hx hb dL_law_1501 rfl (lv_at hl 0 rfl) ?_
    refine lv_iload_n hx hb dL_law_1502 rfl (lv_at hl 3 rfl) ?_
    refine lv_iconst (v := (3 : Int32)) hx hb dL_law_1503 (by decide) ?_
    refine lv_iadd hx hb dL_law_1504 ?_
    refine va_sld hx hb hX0 hbl hbA hS (zidx (k := 3) hi hL rfl (by decide)) dL_law_1505 ?_
    refine lv_aload_n hx hb dL_law_1506 rfl (lv_at hl 0 rfl) ?_
    refine lv_iload_n hx hb dL_law_1507 rfl (lv_at hl 3 rfl) ?_
    refine lv_iconst (v := (4 : Int32)) hx hb dL_law_1508 (by decide) ?_
    refine lv_iadd hx hb dL_law_1509 ?_
    refine va_sld hx hb hX0 hbl hbA hS (zidx (k := 4) hi hL rfl (by decide)) dL_law_1510 ?_
    refine lv_if_eq (tgt := 1518) hx hb dL_law_1511 (by decide) (fun hc11 => ?_) (fun hc11 => ?_)
    ·
      refine lv_iconst (v := (0 : Int32)) hx hb dL_law_1518 (by decide) ?_
      refine gm_flood [] ⟨Nat.le_trans e1 hcs.1, Nat.le_trans e2 hcs.2⟩ C0 hbx hbm hK hO hG hS hl.1 (Nat.le_of_ble_eq_true rfl) kmL_138 dL_law_1519 (fun r2 M' H locs hm1 hG2 hS2 => ?_)
      obtain rfl := hm1
      have hG := hG2
      have hS := hS2
      refine lv_pop hx hb dL_law_1522 rfl ?_
      refine lv_goto (tgt := 1648) hx hb dL_law_1523 (by decide) ?_
      exact kk _ _ _ _ _ _ _ _ _ e1 e2 hR hG hS
    ·
      refine lv_iconst (v := (1 : Int32)) hx hb dL_law_1514 (by decide) ?_
      refine lv_goto (tgt := 1519) hx hb dL_law_1515 (by decide) ?_
      refine gm_flood [] ⟨Nat.le_trans e1 hcs.1, Nat.le_trans e2 hcs.2⟩ C0 hbx hbm hK hO hG hS hl.1 (Nat.le_of_ble_eq_true rfl) kmL_138 dL_law_1519 (fun r2 M' H locs hm1 hG2 hS2 => ?_)
      obtain rfl := hm1
      have hG := hG2
      have hS := hS2
      refine lv_pop hx hb dL_law_1522 rfl ?_
      refine lv_goto (tgt := 1648) hx hb dL_law_1523 (by decide) ?_
      exact kk _ _ _ _ _ _ _ _ _ e1 e2 hR hG hS
  ·
    refine lv_iconst (v := (1 : Int32)) hx hb dL_law_1481 (by decide) ?_
    refine lv_goto (tgt := 1486) hx hb dL_law_1482 (by decide) ?_
    have hB0 := tB_of hG.2.2.2.1
    have hI0 := tBI_of hG.2.2.1
    refine gx_flood [] hcs C0 hbx hbm hK hO hG hS hl.1 (Nat.le_of_ble_eq_true rfl) kmL_135 dL_law_1486 (fun r1 mi' ko' T' I' H locs cells' slots' hx1 e1 e2 hG1 hS1 => ?_)
    obtain ⟨rfl, rfl, rfl⟩ := hx1
    have hG := hG1
    have hS := hS1
    refine lv_pop hx hb dL_law_1489 rfl ?_
    refine lv_aload_n hx hb dL_law_1490 rfl (lv_at hl 2 rfl) ?_
    refine lv_aload_n hx hb dL_law_1491 rfl (lv_at hl 0 rfl) ?_
    refine lv_iload_n hx hb dL_law_1492 rfl (lv_at hl 3 rfl) ?_
    refine lv_iconst (v := (1 : Int32)) hx hb dL_law_1493 (by decide) ?_
    refine lv_iadd hx hb dL_law_1494 ?_
    refine va_sld hx hb hX0 hbl hbA hS (zidx (k := 1) hi hL rfl (by decide)) dL_law_1495 ?_
    refine lv_aload_n hx hb dL_law_1496 rfl (lv_at hl 0 rfl) ?_
    refine lv_iload_n hx hb dL_law_1497 rfl (lv_at hl 3 rfl) ?_
    refine lv_iconst (v := (2 : Int32)) hx hb dL_law_1498 (by decide) ?_
    refine lv_iadd hx hb dL_law_1499 ?_
    refine va_sld hx hb hX0 hbl hbA hS (zidx (k := 2) hi hL rfl (by decide)) dL_law_1500 ?_
    refine lv_aload_n hx hb dL_law_1501 rfl (lv_at hl 0 rfl) ?_
    refine lv_iload_n hx hb dL_law_1502 rfl (lv_at hl 3 rfl) ?_
    refine lv_iconst (v := (3 : Int32)) hx hb dL_law_1503 (by decide) ?_
    refine lv_iadd hx hb dL_law_1504 ?_
    refine va_sld hx hb hX0 hbl hbA hS (zidx (k := 3) hi hL rfl (by decide)) dL_law_1505 ?_
    refine lv_aload_n hx hb dL_law_1506 rfl (lv_at hl 0 rfl) ?_
    refine lv_iload_n hx hb dL_law_1507 rfl (lv_at hl 3 rfl) ?_
    refine lv_iconst (v := (4 : Int32)) hx hb dL_law_1508 (by decide) ?_
    refine lv_iadd hx hb dL_law_1509 ?_
    refine va_sld hx hb hX0 hbl hbA hS (zidx (k := 4) hi hL rfl (by decide)) dL_law_1510 ?_
    refine lv_if_eq (tgt := 1518) hx hb dL_law_1511 (by decide) (fun hc11 => ?_) (fun hc11 => ?_)
    ·
      refine lv_iconst (v := (0 : Int32)) hx hb dL_law_1518 (by decide) ?_
      refine gm_flood [] ⟨Nat.le_trans e1 hcs.1, Nat.le_trans e2 hcs.2⟩ C0 hbx hbm hK hO hG hS hl.1 (Nat.le_of_ble_eq_true rfl) kmL_138 dL_law_1519 (fun r2 M' H locs hm1 hG2 hS2 => ?_)
      obtain rfl := hm1
      have hG := hG2
      have hS := hS2
      refine lv_pop hx hb dL_law_1522 rfl ?_
      refine lv_goto (tgt := 1648) hx hb dL_law_1523 (by decide) ?_
      exact kk _ _ _ _ _ _ _ _ _ e1 e2 hR hG hS
    ·
      refine lv_iconst (v := (1 : Int32)) hx hb dL_law_1514 (by decide) ?_
      refine lv_goto (tgt := 1519) hx hb dL_law_1515 (by decide) ?_
      refine gm_flood [] ⟨Nat.le_trans e1 hcs.1, Nat.le_trans e2 hcs.2⟩ C0 hbx hbm hK hO hG hS hl.1 (Nat.le_of_ble_eq_true rfl) kmL_138 dL_law_1519 (fun r2 M' H locs hm1 hG2 hS2 => ?_)
      obtain rfl := hm1
      have hG := hG2
      have hS := hS2
      refine lv_pop hx hb dL_law_1522 rfl ?_
      refine lv_goto (tgt := 1648) hx hb dL_law_1523 (by decide) ?_
      exact kk _ _ _ _ _ _ _ _ _ e1 e2 hR hG hS

set_option maxRecDepth 40000 in
set_option maxHeartbeats 4000000 in
theorem g_29 {p : Program} {l : Launch} {e : Env} {s : State} {m : MethodId} {below : List Frame} {meth : Method} {c : Code} {E : zE} {G : zG} {b L i bx bm cells slots : Nat} {xs : Nat → Int32} {mi : Nat → Option Nat} {ko : Option Nat} {T : TT} {M : Nat → Nat → Int32} {I : Nat → TT} {H : Heap} {locs : List Loc} {ls : Array Slot} (hi : i + 6 ≤ L) (hL : L ≤ 3072) (hR : RG T M I mi) (hcs : cells + 47 ≤ room_1.cells ∧ slots + 4608 ≤ room_1.slots) (C0 : lw_At p s m meth c b L xs) (hbx : s.heap.size ≤ bx) (hbm : bx + 93 ≤ bm) (hK : zK E s) (hO : zO s ∧ zZ G (fun q => s.heap.size ≤ q) s s.heap) (hG : GG E bx bm mi ko T M I H) (hS : va_S (fun q => s.heap.size ≤ q) s.heap H locs) (hl : lv_has ls 4 [(0, .ref b), (1, .ref bx), (2, .ref bm), (3, .int (nI i))])
    (kk : ∀ (mi : Nat → Option Nat) (ko : Option Nat) (T : TT) (M : Nat → Nat → Int32) (I : Nat → TT) (H : Heap) (locs : List Loc) (cells' slots' : Nat), cells' ≤ cells + 47 → slots' ≤ slots + 4608 → RG T M I mi → GG E bx bm mi ko T M I H → va_S (fun q => s.heap.size ≤ q) s.heap H locs → W p l e room_1 s m #[Value.ref b] below meth c H locs cells' slots' (lw_Z below #[Value.ref b] s) (F0 m 1648 ls [])) : W p l e room_1 s m #[Value.ref b] below meth c H locs cells slots (lw_Z below #[Value.ref b] s) (F0 m 1526 ls []) := by
  obtain ⟨hx, hb, hr, hml, hown, hts, hX0, hbl, hlocks, hgv⟩ := id C0
  have zc : zC p s m #[Value.ref b] meth c cL_law 4 RL ret := ⟨hx, hb, hml, hown, fun w hw => hts w (zb_in hw), hr, hlocks⟩
  have hbA : ¬ (fun q : Nat => s.heap.size ≤ q) b := Nat.not_le.mpr hbl
  refine lv_aload_n hx hb dL_law_1526 rfl (lv_at hl 1 rfl) ?_
  refine lv_aload_n hx hb dL_law_1527 rfl (lv_at hl 0 rfl) ?_
  refine lv_iload_n hx hb dL_law_1528 rfl (lv_at hl 3 rfl) ?_
  refine lv_iconst (v := (1 : Int32)) hx hb dL_law_1529 (by decide) ?_
  refine lv_iadd hx hb dL_law_1530 ?_
  refine va_sld hx hb hX0 hbl hbA hS (zidx (k := 1) hi hL rfl (by decide)) dL_law_1531 ?_
  refine lv_aload_n hx hb dL_law_1532 rfl (lv_at hl 0 rfl) ?_
  refine lv_iload_n hx hb dL_law_1533 rfl (lv_at hl 3 rfl) ?_
  refine lv_iconst (v := (2 : Int32)) hx hb dL_law_1534 (by decide) ?_
  refine lv_iadd hx hb dL_law_1535 ?_
  refine va_sld hx hb hX0 hbl hbA hS (zidx (k := 2) hi hL rfl (by decide)) dL_law_1536 ?_
  refine lv_aload_n hx hb dL_law_1537 rfl (lv_at hl 0 rfl) ?_
  refine lv_iload_n hx hb dL_law_1538 rfl (lv_at hl 3 rfl) ?_
  refine lv_iconst (v := (3 : Int32)) hx hb dL_law_1539 (by decide) ?_
  refine lv_iadd hx hb dL_law_1540 ?_
  refine va_sld hx hb hX0 hbl hbA hS (zidx (k := 3) hi hL rfl (by decide)) dL_law_1541 ?_
  refine lv_aload_n hx hb dL_law_1542 rfl (lv_at hl 0 rfl) ?_
  refine lv_iload_n hx hb dL_law_1543 rfl (lv_at hl 3 rfl) ?_
  refine lv_iconst (v := (4 : Int32)) hx hb dL_law_1544 (by decide) ?_
  refine lv_iadd hx hb dL_law_1545 ?_
  refine va_sld hx hb hX0 hbl hbA hS (zidx (k := 4) hi hL rfl (by decide)) dL_law_1546 ?_
  have hB0 := tB_of hG.2.2.2.1
  have hI0 := tBI_of hG.2.2.1
  refine gx_teach [] hcs C0 hbx hbm hK hO hG hS hl.1 (Nat.le_of_ble_eq_true rfl) kmL_139 dL_law_1547 (fun r1 mi' ko' T' I' H locs cells' slots' hx1 e1 e2 hG1 hS1 => ?_)
  obtain ⟨rfl, rfl, rfl⟩ := hx1
  have hG := hG1
  have hS := hS1
  refine lv_pop hx hb dL_law_1550 rfl ?_
  refine lv_aload_n hx hb dL_law_1551 rfl (lv_at hl 2 rfl) ?_
  refine lv_aload_n hx hb dL_law_1552 rfl (lv_at hl 0 rfl) ?_
  refine lv_iload_n hx hb dL_law_1553 rfl (lv_at hl 3 rfl) ?_
  refine lv_iconst (v := (1 : Int32)) hx hb dL_law_1554 (by decide) ?_
  refine lv_iadd hx hb dL_law_1555 ?_
  refine va_sld hx hb hX0 hbl hbA hS (zidx (k := 1) hi hL rfl (by decide)) dL_law_1556 ?_
  refine lv_aload_n hx hb dL_law_1557 rfl (lv_at hl 0 rfl) ?_
  refine lv_iload_n hx hb dL_law_1558 rfl (lv_at hl 3 rfl) ?_
  refine lv_iconst (v := (2 : Int32)) hx hb dL_law_1559 (by decide) ?_
  refine lv_iadd hx hb dL_law_1560 ?_
  refine va_sld hx hb hX0 hbl hbA hS (zidx (k := 2) hi hL rfl (by decide)) dL_law_1561 ?_
  refine lv_aload_n hx hb dL_law_1562 rfl (lv_at hl 0 rfl) ?_
  refine lv_iload_n hx hb dL_law_1563 rfl (lv_at hl 3 rfl) ?_
  refine lv_iconst (v := (3 : Int32)) hx hb dL_law_1564 (by decide) ?_
  refine lv_iadd hx hb dL_law_1565 ?_
  refine va_sld hx hb hX0 hbl hbA hS (zidx (k := 3) hi hL rfl (by decide)) dL_law_1566 ?_
  refine lv_aload_n hx hb dL_law_1567 rfl (lv_at hl 0 rfl) ?_
  refine lv_iload_n hx hb dL_law_1568 rfl (lv_at hl 3 rfl) ?_
  refine lv_iconst (v := (4 : Int32)) hx hb dL_law_1569 (by decide) ?_
  refine lv_iadd hx hb dL_law_1570 ?_
  refine va_sld hx hb hX0 hbl hbA hS (zidx (k := 4) hi hL rfl (by decide)) dL_law_1571 ?_
  refine gm_teach [] ⟨Nat.le_trans e1 hcs.1, Nat.le_trans e2 hcs.2⟩ C0 hbx hbm hK hO hG hS hl.1 (Nat.le_of_ble_eq_true rfl) kmL_142 dL_law_1572 (fun r2 M' H locs hm1 hG2 hS2 => ?_)
  obtain rfl := hm1
  have hG := hG2
  have hS := hS2
  refine lv_pop hx hb dL_law_1575 rfl ?_
  refine lv_goto (tgt := 1648) hx hb dL_law_1576 (by decide) ?_
  exact kk _ _ _ _ _ _ _ _ _ e1 e2 hR hG hS

set_option maxRecDepth 40000 in
set_option maxHeartbeats 4000000 in
theorem g_30 {p : Program} {l : Launch} {e : Env} {s : State} {m : MethodId} {below : List Frame} {meth : Method} {c : Code} {E : zE} {G : zG} {b L i bx bm cells slots : Nat} {xs : Nat → Int32} {mi : Nat → Option Nat} {ko : Option Nat} {T : TT} {M : Nat → Nat → Int32} {I : Nat → TT} {H : Heap} {locs : List Loc} {ls : Array Slot} (hi : i + 6 ≤ L) (hL : L ≤ 3072) (hR : RG T M I mi) (hcs : cells + 47 ≤ room_1.cells ∧ slots + 4608 ≤ room_1.slots) (C0 : lw_At p s m meth c b L xs) (hbx : s.heap.size ≤ bx) (hbm : bx + 93 ≤ bm) (hK : zK E s) (hO : zO s ∧ zZ G (fun q => s.heap.size ≤ q) s s.heap) (hG : GG E bx bm mi ko T M I H) (hS : va_S (fun q => s.heap.size ≤ q) s.heap H locs) (hl : lv_has ls 4 [(0, .ref b), (1, .ref bx), (2, .ref bm), (3, .int (nI i))])
    (kk : ∀ (mi : Nat → Option Nat) (ko : Option Nat) (T : TT) (M : Nat → Nat → Int32) (I : Nat → TT) (H : Heap) (locs : List Loc) (cells' slots' : Nat), cells' ≤ cells + 47 → slots' ≤ slots + 4608 → RG T M I mi → GG E bx bm mi ko T M I H → va_S (fun q => s.heap.size ≤ q) s.heap H locs → W p l e room_1 s m #[Value.ref b] below meth c H locs cells' slots' (lw_Z below #[Value.ref b] s) (F0 m 1648 ls [])) : W p l e room_1 s m #[Value.ref b] below meth c H locs cells slots (lw_Z below #[Value.ref b] s) (F0 m 1579 ls []) := by
  obtain ⟨hx, hb, hr, hml, hown, hts, hX0, hbl, hlocks, hgv⟩ := id C0
  have zc : zC p s m #[Value.ref b] meth c cL_law 4 RL ret := ⟨hx, hb, hml, hown, fun w hw => hts w (zb_in hw), hr, hlocks⟩
  have hbA : ¬ (fun q : Nat => s.heap.size ≤ q) b := Nat.not_le.mpr hbl
  refine lv_aload_n hx hb dL_law_1579 rfl (lv_at hl 1 rfl) ?_
  refine lv_aload_n hx hb dL_law_1580 rfl (lv_at hl 0 rfl) ?_
  refine lv_iload_n hx hb dL_law_1581 rfl (lv_at hl 3 rfl) ?_
  refine lv_iconst (v := (1 : Int32)) hx hb dL_law_1582 (by decide) ?_
  refine lv_iadd hx hb dL_law_1583 ?_
  refine va_sld hx hb hX0 hbl hbA hS (zidx (k := 1) hi hL rfl (by decide)) dL_law_1584 ?_
  have hB0 := tB_of hG.2.2.2.1
  have hI0 := tBI_of hG.2.2.1
  refine gx_count [] hcs C0 hbx hbm hK hO hG hS hl.1 (Nat.le_of_ble_eq_true rfl) kmL_143 dL_law_1585 (fun r1 mi' ko' T' I' H locs cells' slots' hx1 e1 e2 hG1 hS1 => ?_)
  obtain ⟨rfl, rfl, rfl⟩ := hx1
  have hG := hG1
  have hS := hS1
  refine lv_pop hx hb dL_law_1588 rfl ?_
  refine lv_aload_n hx hb dL_law_1589 rfl (lv_at hl 2 rfl) ?_
  refine lv_aload_n hx hb dL_law_1590 rfl (lv_at hl 0 rfl) ?_
  refine lv_iload_n hx hb dL_law_1591 rfl (lv_at hl 3 rfl) ?_
  refine lv_iconst (v := (1 : Int32)) hx hb dL_law_1592 (by decide) ?_
  refine lv_iadd hx hb dL_law_1593 ?_
  refine va_sld hx hb hX0 hbl hbA hS (zidx (k := 1) hi hL rfl (by decide)) dL_law_1594 ?_
  refine gm_count [] ⟨Nat.le_trans e1 hcs.1, Nat.le_trans e2 hcs.2⟩ C0 hbx hbm hK hO hG hS hl.1 (Nat.le_of_ble_eq_true rfl) kmL_146 dL_law_1595 (fun r2 M' H locs hm1 hG2 hS2 => ?_)
  obtain rfl := hm1
  have hG := hG2
  have hS := hS2
  refine lv_pop hx hb dL_law_1598 rfl ?_
  refine lv_goto (tgt := 1648) hx hb dL_law_1599 (by decide) ?_
  exact kk _ _ _ _ _ _ _ _ _ e1 e2 hR hG hS

set_option maxRecDepth 40000 in
set_option maxHeartbeats 4000000 in
theorem g_31 {p : Program} {l : Launch} {e : Env} {s : State} {m : MethodId} {below : List Frame} {meth : Method} {c : Code} {E : zE} {G : zG} {b L i bx bm cells slots : Nat} {xs : Nat → Int32} {mi : Nat → Option Nat} {ko : Option Nat} {T : TT} {M : Nat → Nat → Int32} {I : Nat → TT} {H : Heap} {locs : List Loc} {ls : Array Slot} (hi : i + 6 ≤ L) (hL : L ≤ 3072) (hR : RG T M I mi) (hcs : cells + 47 ≤ room_1.cells ∧ slots + 4608 ≤ room_1.slots) (C0 : lw_At p s m meth c b L xs) (hbx : s.heap.size ≤ bx) (hbm : bx + 93 ≤ bm) (hK : zK E s) (hO : zO s ∧ zZ G (fun q => s.heap.size ≤ q) s s.heap) (hG : GG E bx bm mi ko T M I H) (hS : va_S (fun q => s.heap.size ≤ q) s.heap H locs) (hl : lv_has ls 4 [(0, .ref b), (1, .ref bx), (2, .ref bm), (3, .int (nI i))])
    (kk : ∀ (mi : Nat → Option Nat) (ko : Option Nat) (T : TT) (M : Nat → Nat → Int32) (I : Nat → TT) (H : Heap) (locs : List Loc) (cells' slots' : Nat), cells' ≤ cells + 47 → slots' ≤ slots + 4608 → RG T M I mi → GG E bx bm mi ko T M I H → va_S (fun q => s.heap.size ≤ q) s.heap H locs → W p l e room_1 s m #[Value.ref b] below meth c H locs cells' slots' (lw_Z below #[Value.ref b] s) (F0 m 1648 ls [])) : W p l e room_1 s m #[Value.ref b] below meth c H locs cells slots (lw_Z below #[Value.ref b] s) (F0 m 1602 ls []) := by
  obtain ⟨hx, hb, hr, hml, hown, hts, hX0, hbl, hlocks, hgv⟩ := id C0
  have zc : zC p s m #[Value.ref b] meth c cL_law 4 RL ret := ⟨hx, hb, hml, hown, fun w hw => hts w (zb_in hw), hr, hlocks⟩
  have hbA : ¬ (fun q : Nat => s.heap.size ≤ q) b := Nat.not_le.mpr hbl
  refine lv_aload_n hx hb dL_law_1602 rfl (lv_at hl 1 rfl) ?_
  refine lv_aload_n hx hb dL_law_1603 rfl (lv_at hl 0 rfl) ?_
  refine lv_iload_n hx hb dL_law_1604 rfl (lv_at hl 3 rfl) ?_
  refine lv_iconst (v := (1 : Int32)) hx hb dL_law_1605 (by decide) ?_
  refine lv_iadd hx hb dL_law_1606 ?_
  refine va_sld hx hb hX0 hbl hbA hS (zidx (k := 1) hi hL rfl (by decide)) dL_law_1607 ?_
  have hB0 := tB_of hG.2.2.2.1
  have hI0 := tBI_of hG.2.2.1
  refine gx_image [] hcs C0 hbx hbm hK hO hG hS hl.1 (Nat.le_of_ble_eq_true rfl) kmL_147 dL_law_1608 (fun r1 mi' ko' T' I' H locs cells' slots' hx1 e1 e2 hG1 hS1 => ?_)
  obtain ⟨rfl, hx2⟩ := hx1
  have hG := hG1
  have hS := hS1
  refine lv_pop hx hb dL_law_1611 rfl ?_
  refine lv_aload_n hx hb dL_law_1612 rfl (lv_at hl 2 rfl) ?_
  refine lv_aload_n hx hb dL_law_1613 rfl (lv_at hl 0 rfl) ?_
  refine lv_iload_n hx hb dL_law_1614 rfl (lv_at hl 3 rfl) ?_
  refine lv_iconst (v := (1 : Int32)) hx hb dL_law_1615 (by decide) ?_
  refine lv_iadd hx hb dL_law_1616 ?_
  refine va_sld hx hb hX0 hbl hbA hS (zidx (k := 1) hi hL rfl (by decide)) dL_law_1617 ?_
  refine gm_image [] ⟨Nat.le_trans e1 hcs.1, Nat.le_trans e2 hcs.2⟩ C0 hbx hbm hK hO hG hS hl.1 (Nat.le_of_ble_eq_true rfl) kmL_151 dL_law_1618 (fun r2 M' H locs hm1 hG2 hS2 => ?_)
  obtain ⟨hrr, hR⟩ := RG_im hR hB0 hI0 hx2 hm1
  have hG := hG2
  have hS := hS2
  refine lv_pop hx hb dL_law_1621 rfl ?_
  refine lv_goto (tgt := 1648) hx hb dL_law_1622 (by decide) ?_
  exact kk _ _ _ _ _ _ _ _ _ e1 e2 hR hG hS

set_option maxRecDepth 40000 in
set_option maxHeartbeats 4000000 in
theorem g_32 {p : Program} {l : Launch} {e : Env} {s : State} {m : MethodId} {below : List Frame} {meth : Method} {c : Code} {E : zE} {G : zG} {b L i bx bm cells slots : Nat} {xs : Nat → Int32} {mi : Nat → Option Nat} {ko : Option Nat} {T : TT} {M : Nat → Nat → Int32} {I : Nat → TT} {H : Heap} {locs : List Loc} {ls : Array Slot} (hi : i + 6 ≤ L) (hL : L ≤ 3072) (hR : RG T M I mi) (hcs : cells + 47 ≤ room_1.cells ∧ slots + 4608 ≤ room_1.slots) (C0 : lw_At p s m meth c b L xs) (hbx : s.heap.size ≤ bx) (hbm : bx + 93 ≤ bm) (hK : zK E s) (hO : zO s ∧ zZ G (fun q => s.heap.size ≤ q) s s.heap) (hG : GG E bx bm mi ko T M I H) (hS : va_S (fun q => s.heap.size ≤ q) s.heap H locs) (hl : lv_has ls 4 [(0, .ref b), (1, .ref bx), (2, .ref bm), (3, .int (nI i))])
    (kk : ∀ (mi : Nat → Option Nat) (ko : Option Nat) (T : TT) (M : Nat → Nat → Int32) (I : Nat → TT) (H : Heap) (locs : List Loc) (cells' slots' : Nat), cells' ≤ cells + 47 → slots' ≤ slots + 4608 → RG T M I mi → GG E bx bm mi ko T M I H → va_S (fun q => s.heap.size ≤ q) s.heap H locs → W p l e room_1 s m #[Value.ref b] below meth c H locs cells' slots' (lw_Z below #[Value.ref b] s) (F0 m 1648 ls [])) : W p l e room_1 s m #[Value.ref b] below meth c H locs cells slots (lw_Z below #[Value.ref b] s) (F0 m 1625 ls []) := by
  obtain ⟨hx, hb, hr, hml, hown, hts, hX0, hbl, hlocks, hgv⟩ := id C0
  have zc : zC p s m #[Value.ref b] meth c cL_law 4 RL ret := ⟨hx, hb, hml, hown, fun w hw => hts w (zb_in hw), hr, hlocks⟩
  have hbA : ¬ (fun q : Nat => s.heap.size ≤ q) b := Nat.not_le.mpr hbl
  refine lv_aload_n hx hb dL_law_1625 rfl (lv_at hl 1 rfl) ?_
  refine lv_aload_n hx hb dL_law_1626 rfl (lv_at hl 0 rfl) ?_
  refine lv_iload_n hx hb dL_law_1627 rfl (lv_at hl 3 rfl) ?_
  refine lv_iconst (v := (1 : Int32)) hx hb dL_law_1628 (by decide) ?_
  refine lv_iadd hx hb dL_law_1629 ?_
  refine va_sld hx hb hX0 hbl hbA hS (zidx (k := 1) hi hL rfl (by decide)) dL_law_1630 ?_
  have hB0 := tB_of hG.2.2.2.1
  have hI0 := tBI_of hG.2.2.1
  refine gx_again [] hcs C0 hbx hbm hK hO hG hS hl.1 (Nat.le_of_ble_eq_true rfl) kmL_152 dL_law_1631 (fun r1 mi' ko' T' I' H locs cells' slots' hx1 e1 e2 hG1 hS1 => ?_)
  obtain ⟨rfl, rfl, hx2⟩ := hx1
  have hG := hG1
  have hS := hS1
  refine lv_pop hx hb dL_law_1634 rfl ?_
  refine lv_aload_n hx hb dL_law_1635 rfl (lv_at hl 2 rfl) ?_
  refine lv_aload_n hx hb dL_law_1636 rfl (lv_at hl 0 rfl) ?_
  refine lv_iload_n hx hb dL_law_1637 rfl (lv_at hl 3 rfl) ?_
  refine lv_iconst (v := (1 : Int32)) hx hb dL_law_1638 (by decide) ?_
  refine lv_iadd hx hb dL_law_1639 ?_
  refine va_sld hx hb hX0 hbl hbA hS (zidx (k := 1) hi hL rfl (by decide)) dL_law_1640 ?_
  refine gm_again [] ⟨Nat.le_trans e1 hcs.1, Nat.le_trans e2 hcs.2⟩ C0 hbx hbm hK hO hG hS hl.1 (Nat.le_of_ble_eq_true rfl) kmL_155 dL_law_1641 (fun r2 M' H locs hm1 hG2 hS2 => ?_)
  obtain ⟨hrr, hR⟩ := RG_ag hR hB0 hI0 hx2 hm1
  have hG := hG2
  have hS := hS2
  refine lv_pop hx hb dL_law_1644 rfl ?_
  refine lv_goto (tgt := 1648) hx hb dL_law_1645 (by decide) ?_
  exact kk _ _ _ _ _ _ _ _ _ e1 e2 hR hG hS

