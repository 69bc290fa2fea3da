set_option maxRecDepth 40000 in
set_option maxHeartbeats 4000000 in
theorem g_22 {p : Program} {l : Launch} {e : Env} {s : State} {m : MethodId} {below : List Frame} {meth : Method} {c : Code} {E : zE} {G : zG} {b L i bx bm cells slots : Nat} {xs : Nat → Int32} {mi : Nat → Option Nat} {ko : Option Nat} {T : TT} {M : Nat → Nat → Int32} {I : Nat → TT} {H : Heap} {locs : List Loc} {ls : Array Slot} (hi : i + 6 ≤ L) (hL : L ≤ 3072) (hR : RG T M I mi) (hcs : cells + 47 ≤ room_1.cells ∧ slots + 4608 ≤ room_1.slots) (C0 : lw_At p s m meth c b L xs) (hbx : s.heap.size ≤ bx) (hbm : bx + 93 ≤ bm) (hK : zK E s) (hO : zO s ∧ zZ G (fun q => s.heap.size ≤ q) s s.heap) (hG : GG E bx bm mi ko T M I H) (hS : va_S (fun q => s.heap.size ≤ q) s.heap H locs) (hl : lv_has ls 4 [(0, .ref b), (1, .ref bx), (2, .ref bm), (3, .int (nI i))])
    (kk : ∀ (mi : Nat → Option Nat) (ko : Option Nat) (T : TT) (M : Nat → Nat → Int32) (I : Nat → TT) (H : Heap) (locs : List Loc) (cells' slots' : Nat), cells' ≤ cells + 47 → slots' ≤ slots + 4608 → RG T M I mi → GG E bx bm mi ko T M I H → va_S (fun q => s.heap.size ≤ q) s.heap H locs → W p l e room_1 s m #[Value.ref b] below meth c H locs cells' slots' (lw_Z below #[Value.ref b] s) (F0 m 1647 ls [])) : W p l e room_1 s m #[Value.ref b] below meth c H locs cells slots (lw_Z below #[Value.ref b] s) (F0 m 1120 ls []) := by
  obtain ⟨hx, hb, hr, hml, hown, hts, hX0, hbl, hlocks, hgv⟩ := id C0
  have zc : zC p s m #[Value.ref b] meth c cL_law 4 RL ret := ⟨hx, hb, hml, hown, fun w hw => hts w (zb_in hw), hr, hlocks⟩
  have hbA : ¬ (fun q : Nat => s.heap.size ≤ q) b := Nat.not_le.mpr hbl
  refine lv_aload_n hx hb dL_law_1120 rfl (lv_at hl 1 rfl) ?_
  refine lv_aload_n hx hb dL_law_1121 rfl (lv_at hl 0 rfl) ?_
  refine lv_iload_n hx hb dL_law_1122 rfl (lv_at hl 3 rfl) ?_
  refine lv_iconst (v := (1 : Int32)) hx hb dL_law_1123 (by decide) ?_
  refine lv_iadd hx hb dL_law_1124 ?_
  refine va_sld hx hb hX0 hbl hbA hS (zidx (k := 1) hi hL rfl (by decide)) dL_law_1125 ?_
  refine lv_aload_n hx hb dL_law_1126 rfl (lv_at hl 0 rfl) ?_
  refine lv_iload_n hx hb dL_law_1127 rfl (lv_at hl 3 rfl) ?_
  refine lv_iconst (v := (2 : Int32)) hx hb dL_law_1128 (by decide) ?_
  refine lv_iadd hx hb dL_law_1129 ?_
  refine va_sld hx hb hX0 hbl hbA hS (zidx (k := 2) hi hL rfl (by decide)) dL_law_1130 ?_
  refine lv_aload_n hx hb dL_law_1131 rfl (lv_at hl 0 rfl) ?_
  refine lv_iload_n hx hb dL_law_1132 rfl (lv_at hl 3 rfl) ?_
  refine lv_iconst (v := (3 : Int32)) hx hb dL_law_1133 (by decide) ?_
  refine lv_iadd hx hb dL_law_1134 ?_
  refine va_sld hx hb hX0 hbl hbA hS (zidx (k := 3) hi hL rfl (by decide)) dL_law_1135 ?_
  refine lv_aload_n hx hb dL_law_1136 rfl (lv_at hl 0 rfl) ?_
  refine lv_iload_n hx hb dL_law_1137 rfl (lv_at hl 3 rfl) ?_
  refine lv_iconst (v := (4 : Int32)) hx hb dL_law_1138 (by decide) ?_
  refine lv_iadd hx hb dL_law_1139 ?_
  refine va_sld hx hb hX0 hbl hbA hS (zidx (k := 4) hi hL rfl (by decide)) dL_law_1140 ?_
  have hB0 := tB_of hG.2.2.2.1
  have hI0 := tBI_of hG.2.2.1
  refine gx_drawn [] hcs C0 hbx hbm hK hO hG hS hl.1 (Nat.le_of_ble_eq_true rfl) kmL_111 dL_law_1141 (fun r1 mi' ko' T' I' H locs cells' slots' hx1 e1 e2 hG1 hS1 => ?_)
  obtain ⟨rfl, rfl, rfl⟩ := hx1
  have hG := hG1
  have hS := hS1
  refine lv_pop hx hb dL_law_1144 rfl ?_
  refine lv_aload_n hx hb dL_law_1145 rfl (lv_at hl 2 rfl) ?_
  refine lv_aload_n hx hb dL_law_1146 rfl (lv_at hl 0 rfl) ?_
  refine lv_iload_n hx hb dL_law_1147 rfl (lv_at hl 3 rfl) ?_
  refine lv_iconst (v := (1 : Int32)) hx hb dL_law_1148 (by decide) ?_
  refine lv_iadd hx hb dL_law_1149 ?_
  refine va_sld hx hb hX0 hbl hbA hS (zidx (k := 1) hi hL rfl (by decide)) dL_law_1150 ?_
  refine lv_aload_n hx hb dL_law_1151 rfl (lv_at hl 0 rfl) ?_
  refine lv_iload_n hx hb dL_law_1152 rfl (lv_at hl 3 rfl) ?_
  refine lv_iconst (v := (2 : Int32)) hx hb dL_law_1153 (by decide) ?_
  refine lv_iadd hx hb dL_law_1154 ?_
  refine va_sld hx hb hX0 hbl hbA hS (zidx (k := 2) hi hL rfl (by decide)) dL_law_1155 ?_
  refine lv_aload_n hx hb dL_law_1156 rfl (lv_at hl 0 rfl) ?_
  refine lv_iload_n hx hb dL_law_1157 rfl (lv_at hl 3 rfl) ?_
  refine lv_iconst (v := (3 : Int32)) hx hb dL_law_1158 (by decide) ?_
  refine lv_iadd hx hb dL_law_1159 ?_
  refine va_sld hx hb hX0 hbl hbA hS (zidx (k := 3) hi hL rfl (by decide)) dL_law_1160 ?_
  refine lv_aload_n hx hb dL_law_1161 rfl (lv_at hl 0 rfl) ?_
  refine lv_iload_n hx hb dL_law_1162 rfl (lv_at hl 3 rfl) ?_
  refine lv_iconst (v := (4 : Int32)) hx hb dL_law_1163 (by decide) ?_
  refine lv_iadd hx hb dL_law_1164 ?_
  refine va_sld hx hb hX0 hbl hbA hS (zidx (k := 4) hi hL rfl (by decide)) dL_law_1165 ?_
  refine gm_drawn [] ⟨Nat.le_trans e1 hcs.1, Nat.le_trans e2 hcs.2⟩ C0 hbx hbm hK hO hG hS hl.1 (Nat.le_of_ble_eq_true rfl) kmL_114 dL_law_1166 (fun r2 M' H locs hm1 hG2 hS2 => ?_)
  obtain rfl := hm1
  have hG := hG2
  have hS := hS2
  refine lv_pop hx hb dL_law_1169 rfl ?_
  refine lv_goto (tgt := 1647) hx hb dL_law_1170 (by decide) ?_
  exact kk _ _ _ _ _ _ _ _ _ e1 e2 hR hG hS

set_option maxRecDepth 40000 in
set_option maxHeartbeats 4000000 in
theorem g_23 {p : Program} {l : Launch} {e : Env} {s : State} {m : MethodId} {below : List Frame} {meth : Method} {c : Code} {E : zE} {G : zG} {b L i bx bm cells slots : Nat} {xs : Nat → Int32} {mi : Nat → Option Nat} {ko : Option Nat} {T : TT} {M : Nat → Nat → Int32} {I : Nat → TT} {H : Heap} {locs : List Loc} {ls : Array Slot} (hi : i + 6 ≤ L) (hL : L ≤ 3072) (hR : RG T M I mi) (hcs : cells + 47 ≤ room_1.cells ∧ slots + 4608 ≤ room_1.slots) (C0 : lw_At p s m meth c b L xs) (hbx : s.heap.size ≤ bx) (hbm : bx + 93 ≤ bm) (hK : zK E s) (hO : zO s ∧ zZ G (fun q => s.heap.size ≤ q) s s.heap) (hG : GG E bx bm mi ko T M I H) (hS : va_S (fun q => s.heap.size ≤ q) s.heap H locs) (hl : lv_has ls 4 [(0, .ref b), (1, .ref bx), (2, .ref bm), (3, .int (nI i))])
    (kk : ∀ (mi : Nat → Option Nat) (ko : Option Nat) (T : TT) (M : Nat → Nat → Int32) (I : Nat → TT) (H : Heap) (locs : List Loc) (cells' slots' : Nat), cells' ≤ cells + 47 → slots' ≤ slots + 4608 → RG T M I mi → GG E bx bm mi ko T M I H → va_S (fun q => s.heap.size ≤ q) s.heap H locs → W p l e room_1 s m #[Value.ref b] below meth c H locs cells' slots' (lw_Z below #[Value.ref b] s) (F0 m 1647 ls [])) : W p l e room_1 s m #[Value.ref b] below meth c H locs cells slots (lw_Z below #[Value.ref b] s) (F0 m 1173 ls []) := by
  obtain ⟨hx, hb, hr, hml, hown, hts, hX0, hbl, hlocks, hgv⟩ := id C0
  have zc : zC p s m #[Value.ref b] meth c cL_law 4 RL ret := ⟨hx, hb, hml, hown, fun w hw => hts w (zb_in hw), hr, hlocks⟩
  have hbA : ¬ (fun q : Nat => s.heap.size ≤ q) b := Nat.not_le.mpr hbl
  refine lv_aload_n hx hb dL_law_1173 rfl (lv_at hl 1 rfl) ?_
  refine lv_aload_n hx hb dL_law_1174 rfl (lv_at hl 0 rfl) ?_
  refine lv_iload_n hx hb dL_law_1175 rfl (lv_at hl 3 rfl) ?_
  refine lv_iconst (v := (1 : Int32)) hx hb dL_law_1176 (by decide) ?_
  refine lv_iadd hx hb dL_law_1177 ?_
  refine va_sld hx hb hX0 hbl hbA hS (zidx (k := 1) hi hL rfl (by decide)) dL_law_1178 ?_
  refine lv_aload_n hx hb dL_law_1179 rfl (lv_at hl 0 rfl) ?_
  refine lv_iload_n hx hb dL_law_1180 rfl (lv_at hl 3 rfl) ?_
  refine lv_iconst (v := (2 : Int32)) hx hb dL_law_1181 (by decide) ?_
  refine lv_iadd hx hb dL_law_1182 ?_
  refine va_sld hx hb hX0 hbl hbA hS (zidx (k := 2) hi hL rfl (by decide)) dL_law_1183 ?_
  refine lv_aload_n hx hb dL_law_1184 rfl (lv_at hl 0 rfl) ?_
  refine lv_iload_n hx hb dL_law_1185 rfl (lv_at hl 3 rfl) ?_
  refine lv_iconst (v := (3 : Int32)) hx hb dL_law_1186 (by decide) ?_
  refine lv_iadd hx hb dL_law_1187 ?_
  refine va_sld hx hb hX0 hbl hbA hS (zidx (k := 3) hi hL rfl (by decide)) dL_law_1188 ?_
  refine lv_aload_n hx hb dL_law_1189 rfl (lv_at hl 0 rfl) ?_
  refine lv_iload_n hx hb dL_law_1190 rfl (lv_at hl 3 rfl) ?_
  refine lv_iconst (v := (4 : Int32)) hx hb dL_law_1191 (by decide) ?_
  refine lv_iadd hx hb dL_law_1192 ?_
  refine va_sld hx hb hX0 hbl hbA hS (zidx (k := 4) hi hL rfl (by decide)) dL_law_1193 ?_
  have hB0 := tB_of hG.2.2.2.1
  have hI0 := tBI_of hG.2.2.1
  refine gx_psalm [] hcs C0 hbx hbm hK hO hG hS hl.1 (Nat.le_of_ble_eq_true rfl) kmL_115 dL_law_1194 (fun r1 mi' ko' T' I' H locs cells' slots' hx1 e1 e2 hG1 hS1 => ?_)
  obtain ⟨rfl, rfl, rfl⟩ := hx1
  have hG := hG1
  have hS := hS1
  refine lv_pop hx hb dL_law_1197 rfl ?_
  refine lv_aload_n hx hb dL_law_1198 rfl (lv_at hl 2 rfl) ?_
  refine lv_aload_n hx hb dL_law_1199 rfl (lv_at hl 0 rfl) ?_
  refine lv_iload_n hx hb dL_law_1200 rfl (lv_at hl 3 rfl) ?_
  refine lv_iconst (v := (1 : Int32)) hx hb dL_law_1201 (by decide) ?_
  refine lv_iadd hx hb dL_law_1202 ?_
  refine va_sld hx hb hX0 hbl hbA hS (zidx (k := 1) hi hL rfl (by decide)) dL_law_1203 ?_
  refine lv_aload_n hx hb dL_law_1204 rfl (lv_at hl 0 rfl) ?_
  refine lv_iload_n hx hb dL_law_1205 rfl (lv_at hl 3 rfl) ?_
  refine lv_iconst (v := (2 : Int32)) hx hb dL_law_1206 (by decide) ?_
  refine lv_iadd hx hb dL_law_1207 ?_
  refine va_sld hx hb hX0 hbl hbA hS (zidx (k := 2) hi hL rfl (by decide)) dL_law_1208 ?_
  refine lv_aload_n hx hb dL_law_1209 rfl (lv_at hl 0 rfl) ?_
  refine lv_iload_n hx hb dL_law_1210 rfl (lv_at hl 3 rfl) ?_
  refine lv_iconst (v := (3 : Int32)) hx hb dL_law_1211 (by decide) ?_
  refine lv_iadd hx hb dL_law_1212 ?_
  refine va_sld hx hb hX0 hbl hbA hS (zidx (k := 3) hi hL rfl (by decide)) dL_law_1213 ?_
  refine lv_aload_n hx hb dL_law_1214 rfl (lv_at hl 0 rfl) ?_
  refine lv_iload_n hx hb dL_law_1215 rfl (lv_at hl 3 rfl) ?_
  refine lv_iconst (v := (4 : Int32)) hx hb dL_law_1216 (by decide) ?_
  refine lv_iadd hx hb dL_law_1217 ?_
  refine va_sld hx hb hX0 hbl hbA hS (zidx (k := 4) hi hL rfl (by decide)) dL_law_1218 ?_
  refine gm_psalm [] ⟨Nat.le_trans e1 hcs.1, Nat.le_trans e2 hcs.2⟩ C0 hbx hbm hK hO hG hS hl.1 (Nat.le_of_ble_eq_true rfl) kmL_118 dL_law_1219 (fun r2 M' H locs hm1 hG2 hS2 => ?_)
  obtain rfl := hm1
  have hG := hG2
  have hS := hS2
  refine lv_pop hx hb dL_law_1222 rfl ?_
  refine lv_goto (tgt := 1647) hx hb dL_law_1223 (by decide) ?_
  exact kk _ _ _ _ _ _ _ _ _ e1 e2 hR hG hS

set_option maxRecDepth 40000 in
set_option maxHeartbeats 4000000 in
theorem g_24 {p : Program} {l : Launch} {e : Env} {s : State} {m : MethodId} {below : List Frame} {meth : Method} {c : Code} {E : zE} {G : zG} {b L i bx bm cells slots : Nat} {xs : Nat → Int32} {mi : Nat → Option Nat} {ko : Option Nat} {T : TT} {M : Nat → Nat → Int32} {I : Nat → TT} {H : Heap} {locs : List Loc} {ls : Array Slot} (hi : i + 6 ≤ L) (hL : L ≤ 3072) (hR : RG T M I mi) (hcs : cells + 47 ≤ room_1.cells ∧ slots + 4608 ≤ room_1.slots) (C0 : lw_At p s m meth c b L xs) (hbx : s.heap.size ≤ bx) (hbm : bx + 93 ≤ bm) (hK : zK E s) (hO : zO s ∧ zZ G (fun q => s.heap.size ≤ q) s s.heap) (hG : GG E bx bm mi ko T M I H) (hS : va_S (fun q => s.heap.size ≤ q) s.heap H locs) (hl : lv_has ls 4 [(0, .ref b), (1, .ref bx), (2, .ref bm), (3, .int (nI i))])
    (kk : ∀ (mi : Nat → Option Nat) (ko : Option Nat) (T : TT) (M : Nat → Nat → Int32) (I : Nat → TT) (H : Heap) (locs : List Loc) (cells' slots' : Nat), cells' ≤ cells + 47 → slots' ≤ slots + 4608 → RG T M I mi → GG E bx bm mi ko T M I H → va_S (fun q => s.heap.size ≤ q) s.heap H locs → W p l e room_1 s m #[Value.ref b] below meth c H locs cells' slots' (lw_Z below #[Value.ref b] s) (F0 m 1647 ls [])) : W p l e room_1 s m #[Value.ref b] below meth c H locs cells slots (lw_Z below #[Value.ref b] s) (F0 m 1226 ls []) := by
  obtain ⟨hx, hb, hr, hml, hown, hts, hX0, hbl, hlocks, hgv⟩ := id C0
  have zc : zC p s m #[Value.ref b] meth c cL_law 4 RL ret := ⟨hx, hb, hml, hown, fun w hw => hts w (zb_in hw), hr, hlocks⟩
  have hbA : ¬ (fun q : Nat => s.heap.size ≤ q) b := Nat.not_le.mpr hbl
  refine lv_aload_n hx hb dL_law_1226 rfl (lv_at hl 1 rfl) ?_
  refine lv_aload_n hx hb dL_law_1227 rfl (lv_at hl 0 rfl) ?_
  refine lv_iload_n hx hb dL_law_1228 rfl (lv_at hl 3 rfl) ?_
  refine lv_iconst (v := (1 : Int32)) hx hb dL_law_1229 (by decide) ?_
  refine lv_iadd hx hb dL_law_1230 ?_
  refine va_sld hx hb hX0 hbl hbA hS (zidx (k := 1) hi hL rfl (by decide)) dL_law_1231 ?_
  refine lv_aload_n hx hb dL_law_1232 rfl (lv_at hl 0 rfl) ?_
  refine lv_iload_n hx hb dL_law_1233 rfl (lv_at hl 3 rfl) ?_
  refine lv_iconst (v := (2 : Int32)) hx hb dL_law_1234 (by decide) ?_
  refine lv_iadd hx hb dL_law_1235 ?_
  refine va_sld hx hb hX0 hbl hbA hS (zidx (k := 2) hi hL rfl (by decide)) dL_law_1236 ?_
  refine lv_aload_n hx hb dL_law_1237 rfl (lv_at hl 0 rfl) ?_
  refine lv_iload_n hx hb dL_law_1238 rfl (lv_at hl 3 rfl) ?_
  refine lv_iconst (v := (3 : Int32)) hx hb dL_law_1239 (by decide) ?_
  refine lv_iadd hx hb dL_law_1240 ?_
  refine va_sld hx hb hX0 hbl hbA hS (zidx (k := 3) hi hL rfl (by decide)) dL_law_1241 ?_
  refine lv_aload_n hx hb dL_law_1242 rfl (lv_at hl 0 rfl) ?_
  refine lv_iload_n hx hb dL_law_1243 rfl (lv_at hl 3 rfl) ?_
  refine lv_iconst (v := (4 : Int32)) hx hb dL_law_1244 (by decide) ?_
  refine lv_iadd hx hb dL_law_1245 ?_
  refine va_sld hx hb hX0 hbl hbA hS (zidx (k := 4) hi hL rfl (by decide)) dL_law_1246 ?_
  refine lv_if_eq (tgt := 1254) hx hb dL_law_1247 (by decide) (fun hc0 => ?_) (fun hc0 => ?_)
  ·
    refine lv_iconst (v := (0 : Int32)) hx hb dL_law_1254 (by decide) ?_
    have hB0 := tB_of hG.2.2.2.1
    have hI0 := tBI_of hG.2.2.1
    refine gx_meet [] hcs C0 hbx hbm hK hO hG hS hl.1 (Nat.le_of_ble_eq_true rfl) kmL_119 dL_law_1255 (fun r1 mi' ko' T' I' H locs cells' slots' hx1 e1 e2 hG1 hS1 => ?_)
    obtain ⟨rfl, rfl, rfl⟩ := hx1
    have hG := hG1
    have hS := hS1
    refine lv_pop hx hb dL_law_1258 rfl ?_
    refine lv_aload_n hx hb dL_law_1259 rfl (lv_at hl 2 rfl) ?_
    refine lv_aload_n hx hb dL_law_1260 rfl (lv_at hl 0 rfl) ?_
    refine lv_iload_n hx hb dL_law_1261 rfl (lv_at hl 3 rfl) ?_
    refine lv_iconst (v := (1 : Int32)) hx hb dL_law_1262 (by decide) ?_
    refine lv_iadd hx hb dL_law_1263 ?_
    refine va_sld hx hb hX0 hbl hbA hS (zidx (k := 1) hi hL rfl (by decide)) dL_law_1264 ?_
    refine lv_aload_n hx hb dL_law_1265 rfl (lv_at hl 0 rfl) ?_
    refine lv_iload_n hx hb dL_law_1266 rfl (lv_at hl 3 rfl) ?_
    refine lv_iconst (v := (2 : Int32)) hx hb dL_law_1267 (by decide) ?_
    refine lv_iadd hx hb dL_law_1268 ?_
    refine va_sld hx hb hX0 hbl hbA hS (zidx (k := 2) hi hL rfl (by decide)) dL_law_1269 ?_
    refine lv_aload_n hx hb dL_law_1270 rfl (lv_at hl 0 rfl) ?_
    refine lv_iload_n hx hb dL_law_1271 rfl (lv_at hl 3 rfl) ?_
    refine lv_iconst (v := (3 : Int32)) hx hb dL_law_1272 (by decide) ?_
    refine lv_iadd hx hb dL_law_1273 ?_
    refine va_sld hx hb hX0 hbl hbA hS (zidx (k := 3) hi hL rfl (by decide)) dL_law_1274 ?_
    refine lv_aload_n hx hb dL_law_1275 rfl (lv_at hl 0 rfl) ?_
    refine lv_iload_n hx hb dL_law_1276 rfl (lv_at hl 3 rfl) ?_
    refine lv_iconst (v := (4 : Int32)) hx hb dL_law_1277 (by decide) ?_
    refine lv_iadd hx hb dL_law_1278 ?_
    refine va_sld hx hb hX0 hbl hbA hS (zidx (k := 4) hi hL rfl (by decide)) dL_law_1279 ?_
    refine lv_if_eq (tgt := 1287) hx hb dL_law_1280 (by decide) (fun hc11 => ?_) (fun hc11 => ?_)
    ·
      refine lv_iconst (v := (0 : Int32)) hx hb dL_law_1287 (by decide) ?_
      refine gm_meet [] ⟨Nat.le_trans e1 hcs.1, Nat.le_trans e2 hcs.2⟩ C0 hbx hbm hK hO hG hS hl.1 (Nat.le_of_ble_eq_true rfl) kmL_122 dL_law_1288 (fun r2 M' H locs hm1 hG2 hS2 => ?_)
      obtain rfl := hm1
      have hG := hG2
      have hS := hS2
      refine lv_pop hx hb dL_law_1291 rfl ?_
      refine lv_goto (tgt := 1647) hx hb dL_law_1292 (by decide) ?_
      exact kk _ _ _ _ _ _ _ _ _ e1 e2 hR hG hS
    ·
      refine lv_iconst (v := (1 : Int32)) hx hb dL_law_1283 (by decide) ?_
      refine lv_goto (tgt := 1288) hx hb dL_law_1284 (by decide) ?_
      refine gm_meet [] ⟨Nat.le_trans e1 hcs.1, Nat.le_trans e2 hcs.2⟩ C0 hbx hbm hK hO hG hS hl.1 (Nat.le_of_ble_eq_true rfl) kmL_122 dL_law_1288 (fun r2 M' H locs hm1 hG2 hS2 => ?_)
      obtain rfl := hm1
      have hG := hG2
      have hS := hS2
      refine lv_pop hx hb dL_law_1291 rfl ?_
      refine lv_goto (tgt := 1647) hx hb dL_law_1292 (by decide) ?_
      exact kk _ _ _ _ _ _ _ _ _ e1 e2 hR hG hS
  ·
    refine lv_iconst (v := (1 : Int32)) hx hb dL_law_1250 (by decide) ?_
    refine lv_goto (tgt := 1255) hx hb dL_law_1251 (by decide) ?_
    have hB0 := tB_of hG.2.2.2.1
    have hI0 := tBI_of hG.2.2.1
    refine gx_meet [] hcs C0 hbx hbm hK hO hG hS hl.1 (Nat.le_of_ble_eq_true rfl) kmL_119 dL_law_1255 (fun r1 mi' ko' T' I' H locs cells' slots' hx1 e1 e2 hG1 hS1 => ?_)
    obtain ⟨rfl, rfl, rfl⟩ := hx1
    have hG := hG1
    have hS := hS1
    refine lv_pop hx hb dL_law_1258 rfl ?_
    refine lv_aload_n hx hb dL_law_1259 rfl (lv_at hl 2 rfl) ?_
    refine lv_aload_n hx hb dL_law_1260 rfl (lv_at hl 0 rfl) ?_
    refine lv_iload_n hx hb dL_law_1261 rfl (lv_at hl 3 rfl) ?_
    refine lv_iconst (v := (1 : Int32)) hx hb dL_law_1262 (by decide) ?_
    refine lv_iadd hx hb dL_law_1263 ?_
    refine va_sld hx hb hX0 hbl hbA hS (zidx (k := 1) hi hL rfl (by decide)) dL_law_1264 ?_
    refine lv_aload_n hx hb dL_law_1265 rfl (lv_at hl 0 rfl) ?_
    refine lv_iload_n hx hb dL_law_1266 rfl (lv_at hl 3 rfl) ?_
    refine lv_iconst (v := (2 : Int32)) hx hb dL_law_1267 (by decide) ?_
    refine lv_iadd hx hb dL_law_1268 ?_
    refine va_sld hx hb hX0 hbl hbA hS (zidx (k := 2) hi hL rfl (by decide)) dL_law_1269 ?_
    refine lv_aload_n hx hb dL_law_1270 rfl (lv_at hl 0 rfl) ?_
    refine lv_iload_n hx hb dL_law_1271 rfl (lv_at hl 3 rfl) ?_
    refine lv_iconst (v := (3 : Int32)) hx hb dL_law_1272 (by decide) ?_
    refine lv_iadd hx hb dL_law_1273 ?_
    refine va_sld hx hb hX0 hbl hbA hS (zidx (k := 3) hi hL rfl (by decide)) dL_law_1274 ?_
    refine lv_aload_n hx hb dL_law_1275 rfl (lv_at hl 0 rfl) ?_
    refine lv_iload_n hx hb dL_law_1276 rfl (lv_at hl 3 rfl) ?_
    refine lv_iconst (v := (4 : Int32)) hx hb dL_law_1277 (by decide) ?_
    refine lv_iadd hx hb dL_law_1278 ?_
    refine va_sld hx hb hX0 hbl hbA hS (zidx (k := 4) hi hL rfl (by decide)) dL_law_1279 ?_
    refine lv_if_eq (tgt := 1287) hx hb dL_law_1280 (by decide) (fun hc11 => ?_) (fun hc11 => ?_)
    ·
      refine lv_iconst (v := (0 : Int32)) hx hb dL_law_1287 (by decide) ?_
      refine gm_meet [] ⟨Nat.le_trans e1 hcs.1, Nat.le_trans e2 hcs.2⟩ C0 hbx hbm hK hO hG hS hl.1 (Nat.le_of_ble_eq_true rfl) kmL_122 dL_law_1288 (fun r2 M' H locs hm1 hG2 hS2 => ?_)
      obtain rfl := hm1
      have hG := hG2
      have hS := hS2
      refine lv_pop hx hb dL_law_1291 rfl ?_
      refine lv_goto (tgt := 1647) hx hb dL_law_1292 (by decide) ?_
      exact kk _ _ _ _ _ _ _ _ _ e1 e2 hR hG hS
    ·
      refine lv_iconst (v := (1 : Int32)) hx hb dL_law_1283 (by decide) ?_
      refine lv_goto (tgt := 1288) hx hb dL_law_1284 (by decide) ?_
      refine gm_meet [] ⟨Nat.le_trans e1 hcs.1, Nat.le_trans e2 hcs.2⟩ C0 hbx hbm hK hO hG hS hl.1 (Nat.le_of_ble_eq_true rfl) kmL_122 dL_law_1288 (fun r2 M' H locs hm1 hG2 hS2 => ?_)
      obtain rfl := hm1
      have hG := hG2
      have hS := hS2
      refine lv_pop hx hb dL_law_1291 rfl ?_
      refine lv_goto (tgt := 1647) hx hb dL_law_1292 (by decide) ?_
      exact kk _ _ _ _ _ _ _ _ _ e1 e2 hR hG hS

set_option maxRecDepth 40000 in
set_option maxHeartbeats 4000000 in
theorem g_25 {p : Program} {l : Launch} {e : Env} {s : State} {m : MethodId} {below : List Frame} {meth : Method} {c : Code} {E : zE} {G : zG} {b L i bx bm cells slots : Nat} {xs : Nat → Int32} {mi : Nat → Option Nat} {ko : Option Nat} {T : TT} {M : Nat → Nat → Int32} {I : Nat → TT} {H : Heap} {locs : List Loc} {ls : Array Slot} (hi : i + 6 ≤ L) (hL : L ≤ 3072) (hR : RG T M I mi) (hcs : cells + 47 ≤ room_1.cells ∧ slots + 4608 ≤ room_1.slots) (C0 : lw_At p s m meth c b L xs) (hbx : s.heap.size ≤ bx) (hbm : bx + 93 ≤ bm) (hK : zK E s) (hO : zO s ∧ zZ G (fun q => s.heap.size ≤ q) s s.heap) (hG : GG E bx bm mi ko T M I H) (hS : va_S (fun q => s.heap.size ≤ q) s.heap H locs) (hl : lv_has ls 4 [(0, .ref b), (1, .ref bx), (2, .ref bm), (3, .int (nI i))])
    (kk : ∀ (mi : Nat → Option Nat) (ko : Option Nat) (T : TT) (M : Nat → Nat → Int32) (I : Nat → TT) (H : Heap) (locs : List Loc) (cells' slots' : Nat), cells' ≤ cells + 47 → slots' ≤ slots + 4608 → RG T M I mi → GG E bx bm mi ko T M I H → va_S (fun q => s.heap.size ≤ q) s.heap H locs → W p l e room_1 s m #[Value.ref b] below meth c H locs cells' slots' (lw_Z below #[Value.ref b] s) (F0 m 1647 ls [])) : W p l e room_1 s m #[Value.ref b] below meth c H locs cells slots (lw_Z below #[Value.ref b] s) (F0 m 1295 ls []) := by
  obtain ⟨hx, hb, hr, hml, hown, hts, hX0, hbl, hlocks, hgv⟩ := id C0
  have zc : zC p s m #[Value.ref b] meth c cL_law 4 RL ret := ⟨hx, hb, hml, hown, fun w hw => hts w (zb_in hw), hr, hlocks⟩
  have hbA : ¬ (fun q : Nat => s.heap.size ≤ q) b := Nat.not_le.mpr hbl
  refine lv_aload_n hx hb dL_law_1295 rfl (lv_at hl 1 rfl) ?_
  refine lv_aload_n hx hb dL_law_1296 rfl (lv_at hl 0 rfl) ?_
  refine lv_iload_n hx hb dL_law_1297 rfl (lv_at hl 3 rfl) ?_
  refine lv_iconst (v := (1 : Int32)) hx hb dL_law_1298 (by decide) ?_
  refine lv_iadd hx hb dL_law_1299 ?_
  refine va_sld hx hb hX0 hbl hbA hS (zidx (k := 1) hi hL rfl (by decide)) dL_law_1300 ?_
  refine lv_aload_n hx hb dL_law_1301 rfl (lv_at hl 0 rfl) ?_
  refine lv_iload_n hx hb dL_law_1302 rfl (lv_at hl 3 rfl) ?_
  refine lv_iconst (v := (2 : Int32)) hx hb dL_law_1303 (by decide) ?_
  refine lv_iadd hx hb dL_law_1304 ?_
  refine va_sld hx hb hX0 hbl hbA hS (zidx (k := 2) hi hL rfl (by decide)) dL_law_1305 ?_
  refine lv_aload_n hx hb dL_law_1306 rfl (lv_at hl 0 rfl) ?_
  refine lv_iload_n hx hb dL_law_1307 rfl (lv_at hl 3 rfl) ?_
  refine lv_iconst (v := (3 : Int32)) hx hb dL_law_1308 (by decide) ?_
  refine lv_iadd hx hb dL_law_1309 ?_
  refine va_sld hx hb hX0 hbl hbA hS (zidx (k := 3) hi hL rfl (by decide)) dL_law_1310 ?_
  refine lv_if_eq (tgt := 1318) hx hb dL_law_1311 (by decide) (fun hc0 => ?_) (fun hc0 => ?_)
  ·
    refine lv_iconst (v := (0 : Int32)) hx hb dL_law_1318 (by decide) ?_
    have hB0 := tB_of hG.2.2.2.1
    have hI0 := tBI_of hG.2.2.1
    refine gx_carry [] hcs C0 hbx hbm hK hO hG hS hl.1 (Nat.le_of_ble_eq_true rfl) kmL_123 dL_law_1319 (fun r1 mi' ko' T' I' H locs cells' slots' hx1 e1 e2 hG1 hS1 => ?_)
    obtain ⟨rfl, rfl, rfl⟩ := hx1
    have hG := hG1
    have hS := hS1
    refine lv_pop hx hb dL_law_1322 rfl ?_
    refine lv_aload_n hx hb dL_law_1323 rfl (lv_at hl 2 rfl) ?_
    refine lv_aload_n hx hb dL_law_1324 rfl (lv_at hl 0 rfl) ?_
    refine lv_iload_n hx hb dL_law_1325 rfl (lv_at hl 3 rfl) ?_
    refine lv_iconst (v := (1 : Int32)) hx hb dL_law_1326 (by decide) ?_
    refine lv_iadd hx hb dL_law_1327 ?_
    refine va_sld hx hb hX0 hbl hbA hS (zidx (k := 1) hi hL rfl (by decide)) dL_law_1328 ?_
    refine lv_aload_n hx hb dL_law_1329 rfl (lv_at hl 0 rfl) ?_
    refine lv_iload_n hx hb dL_law_1330 rfl (lv_at hl 3 rfl) ?_
    refine lv_iconst (v := (2 : Int32)) hx hb dL_law_1331 (by decide) ?_
    refine lv_iadd hx hb dL_law_1332 ?_
    refine va_sld hx hb hX0 hbl hbA hS (zidx (k := 2) hi hL rfl (by decide)) dL_law_1333 ?_
    refine lv_aload_n hx hb dL_law_1334 rfl (lv_at hl 0 rfl) ?_
    refine lv_iload_n hx hb dL_law_1335 rfl (lv_at hl 3 rfl) ?_
    refine lv_iconst (v := (3 : Int32)) hx hb dL_law_1336 (by decide) ?_
    refine lv_iadd hx hb dL_law_1337 ?_
    refine va_sld hx hb hX0 hbl hbA hS (zidx (k := 3) hi hL rfl (by decide)) dL_law_1338 ?_
    refine lv_if_eq (tgt := 1346) hx hb dL_law_1339 (by decide) (fun hc11 => ?_) (fun hc11 => ?_)
    ·
      refine lv_iconst (v := (0 : Int32)) hx hb dL_law_1346 (by decide) ?_
      refine gm_carry [] ⟨Nat.le_trans e1 hcs.1, Nat.le_trans e2 hcs.2⟩ C0 hbx hbm hK hO hG hS hl.1 (Nat.le_of_ble_eq_true rfl) kmL_126 dL_law_1347 (fun r2 M' H locs hm1 hG2 hS2 => ?_)
      obtain rfl := hm1
      have hG := hG2
      have hS := hS2
      refine lv_pop hx hb dL_law_1350 rfl ?_
      refine lv_goto (tgt := 1647) hx hb dL_law_1351 (by decide) ?_
      exact kk _ _ _ _ _ _ _ _ _ e1 e2 hR hG hS
    ·
      refine lv_iconst (v := (1 : Int32)) hx hb dL_law_1342 (by decide) ?_
      refine lv_goto (tgt := 1347) hx hb dL_law_1343 (by decide) ?_
      refine gm_carry [] ⟨Nat.le_trans e1 hcs.1, Nat.le_trans e2 hcs.2⟩ C0 hbx hbm hK hO hG hS hl.1 (Nat.le_of_ble_eq_true rfl) kmL_126 dL_law_1347 (fun r2 M' H locs hm1 hG2 hS2 => ?_)
      obtain rfl := hm1
      have hG := hG2
      have hS := hS2
      refine lv_pop hx hb dL_law_1350 rfl ?_
      refine lv_goto (tgt := 1647) hx hb dL_law_1351 (by decide) ?_
      exact kk _ _ _ _ _ _ _ _ _ e1 e2 hR hG hS
  ·
    refine lv_iconst (v := (1 : Int32)) hx hb dL_law_1314 (by decide) ?_
    refine lv_goto (tgt := 1319) hx hb dL_law_1315 (by decide) ?_
    have hB0 := tB_of hG.2.2.2.1
    have hI0 := tBI_of hG.2.2.1
    refine gx_carry [] hcs C0 hbx hbm hK hO hG hS hl.1 (Nat.le_of_ble_eq_true rfl) kmL_123 dL_law_1319 (fun r1 mi' ko' T' I' H locs cells' slots' hx1 e1 e2 hG1 hS1 => ?_)
    obtain ⟨rfl, rfl, rfl⟩ := hx1
    have hG := hG1
    have hS := hS1
    refine lv_pop hx hb dL_law_1322 rfl ?_
    refine lv_aload_n hx hb dL_law_1323 rfl (lv_at hl 2 rfl) ?_
    refine lv_aload_n hx hb dL_law_1324 rfl (lv_at hl 0 rfl) ?_
    refine lv_iload_n hx hb dL_law_1325 rfl (lv_at hl 3 rfl) ?_
    refine lv_iconst (v := (1 : Int32)) hx hb dL_law_1326 (by decide) ?_
    refine lv_iadd hx hb dL_law_1327 ?_
    refine va_sld hx hb hX0 hbl hbA hS (zidx (k := 1) hi hL rfl (by decide)) dL_law_1328 ?_
    refine lv_aload_n hx hb dL_law_1329 rfl (lv_at hl 0 rfl) ?_
    refine lv_iload_n hx hb dL_law_1330 rfl (lv_at hl 3 rfl) ?_
    refine lv_iconst (v := (2 : Int32)) hx hb dL_law_1331 (by decide) ?_
    refine lv_iadd hx hb dL_law_1332 ?_
    refine va_sld hx hb hX0 hbl hbA hS (zidx (k := 2) hi hL rfl (by decide)) dL_law_1333 ?_
    refine lv_aload_n hx hb dL_law_1334 rfl (lv_at hl 0 rfl) ?_
    refine lv_iload_n hx hb dL_law_1335 rfl (lv_at hl 3 rfl) ?_
    refine lv_iconst (v := (3 : Int32)) hx hb dL_law_1336 (by decide) ?_
    refine lv_iadd hx hb dL_law_1337 ?_
    refine va_sld hx hb hX0 hbl hbA hS (zidx (k := 3) hi hL rfl (by decide)) dL_law_1338 ?_
    refine lv_if_eq (tgt := 1346) hx hb dL_law_1339 (by decide) (fun hc11 => ?_) (fun hc11 => ?_)
    ·
      refine lv_iconst (v := (0 : Int32)) hx hb dL_law_1346 (by decide) ?_
      refine gm_carry [] ⟨Nat.le_trans e1 hcs.1, Nat.le_trans e2 hcs.2⟩ C0 hbx hbm hK hO hG hS hl.1 (Nat.le_of_ble_eq_true rfl) kmL_126 dL_law_1347 (fun r2 M' H locs hm1 hG2 hS2 => ?_)
      obtain rfl := hm1
      have hG := hG2
      have hS := hS2
      refine lv_pop hx hb dL_law_1350 rfl ?_
      refine lv_goto (tgt := 1647) hx hb dL_law_1351 (by decide) ?_
      exact kk _ _ _ _ _ _ _ _ _ e1 e2 hR hG hS
    ·
      refine lv_iconst (v := (1 : Int32)) hx hb dL_law_1342 (by decide) ?_
      refine lv_goto (tgt := 1347) hx hb dL_law_1343 (by decide) ?_
      refine gm_carry [] ⟨Nat.le_trans e1 hcs.1, Nat.le_trans e2 hcs.2⟩ C0 hbx hbm hK hO hG hS hl.1 (Nat.le_of_ble_eq_true rfl) kmL_126 dL_law_1347 (fun r2 M' H locs hm1 hG2 hS2 => ?_)
      obtain rfl := hm1
      have hG := hG2
      have hS := hS2
      refine lv_pop hx hb dL_law_1350 rfl ?_
      refine lv_goto (tgt := 1647) hx hb dL_law_1351 (by decide) ?_
      exact kk _ _ _ _ _ _ _ _ _ e1 e2 hR hG hS

set_option maxRecDepth 40000 in
set_option maxHeartbeats 4000000 in
theorem g_26 {p : Program} {l : Launch} {e : Env} {s : State} {m : MethodId} {below : List Frame} {meth : Method} {c : Code} {E : zE} {G : zG} {b L i bx bm cells slots : Nat} {xs : Nat → Int32} {mi : Nat → Option Nat} {ko : Option Nat} {T : TT} {M : Nat → Nat → Int32} {I : Nat → TT} {H : Heap} {locs : List Loc} {ls : Array Slot} (hi : i + 6 ≤ L) (hL : L ≤ 3072) (hR : RG T M I mi) (hcs : cells + 47 ≤ room_1.cells ∧ slots + 4608 ≤ room_1.slots) (C0 : lw_At p s m meth c b L xs) (hbx : s.heap.size ≤ bx) (hbm : bx + 93 ≤ bm) (hK : zK E s) (hO : zO s ∧ zZ G (fun q => s.heap.size ≤ q) s s.heap) (hG : GG E bx bm mi ko T M I H) (hS : va_S (fun q => s.heap.size ≤ q) s.heap H locs) (hl : lv_has ls 4 [(0, .ref b), (1, .ref bx), (2, .ref bm), (3, .int (nI i))])
    (kk : ∀ (mi : Nat → Option Nat) (ko : Option Nat) (T : TT) (M : Nat → Nat → Int32) (I : Nat → TT) (H : Heap) (locs : List Loc) (cells' slots' : Nat), cells' ≤ cells + 47 → slots' ≤ slots + 4608 → RG T M I mi → GG E bx bm mi ko T M I H → va_S (fun q => s.heap.size ≤ q) s.heap H locs → W p l e room_1 s m #[Value.ref b] below meth c H locs cells' slots' (lw_Z below #[Value.ref b] s) (F0 m 1647 ls [])) : W p l e room_1 s m #[Value.ref b] below meth c H locs cells slots (lw_Z below #[Value.ref b] s) (F0 m 1354 ls []) := by
  obtain ⟨hx, hb, hr, hml, hown, hts, hX0, hbl, hlocks, hgv⟩ := id C0
  have zc : zC p s m #[Value.ref b] meth c cL_law 4 RL ret := ⟨hx, hb, hml, hown, fun w hw => hts w (zb_in hw), hr, hlocks⟩
  have hbA : ¬ (fun q : Nat => s.heap.size ≤ q) b := Nat.not_le.mpr hbl
  refine lv_aload_n hx hb dL_law_1354 rfl (lv_at hl 1 rfl) ?_
  refine lv_aload_n hx hb dL_law_1355 rfl (lv_at hl 0 rfl) ?_
  refine lv_iload_n hx hb dL_law_1356 rfl (lv_at hl 3 rfl) ?_
  refine lv_iconst (v := (1 : Int32)) hx hb dL_law_1357 (by decide) ?_
  refine lv_iadd hx hb dL_law_1358 ?_
  refine va_sld hx hb hX0 hbl hbA hS (zidx (k := 1) hi hL rfl (by decide)) dL_law_1359 ?_
  refine lv_aload_n hx hb dL_law_1360 rfl (lv_at hl 0 rfl) ?_
  refine lv_iload_n hx hb dL_law_1361 rfl (lv_at hl 3 rfl) ?_
  refine lv_iconst (v := (2 : Int32)) hx hb dL_law_1362 (by decide) ?_
  refine lv_iadd hx hb dL_law_1363 ?_
  refine va_sld hx hb hX0 hbl hbA hS (zidx (k := 2) hi hL rfl (by decide)) dL_law_1364 ?_
  refine lv_aload_n hx hb dL_law_1365 rfl (lv_at hl 0 rfl) ?_
  refine lv_iload_n hx hb dL_law_1366 rfl (lv_at hl 3 rfl) ?_
  refine lv_iconst (v := (3 : Int32)) hx hb dL_law_1367 (by decide) ?_
  refine lv_iadd hx hb dL_law_1368 ?_
  refine va_sld hx hb hX0 hbl hbA hS (zidx (k := 3) hi hL rfl (by decide)) dL_law_1369 ?_
  refine lv_aload_n hx hb dL_law_1370 rfl (lv_at hl 0 rfl) ?_
  refine lv_iload_n hx hb dL_law_1371 rfl (lv_at hl 3 rfl) ?_
  refine lv_iconst (v := (4 : Int32)) hx hb dL_law_1372 (by decide) ?_
  refine lv_iadd hx hb dL_law_1373 ?_
  refine va_sld hx hb hX0 hbl hbA hS (zidx (k := 4) hi hL rfl (by decide)) dL_law_1374 ?_
  refine lv_if_eq (tgt := 1382) hx hb dL_law_1375 (by decide) (fun hc0 => ?_) (fun hc0 => ?_)
  ·
    refine lv_iconst (v := (0 : Int32)) hx hb dL_law_1382 (by decide) ?_
    have hB0 := tB_of hG.2.2.2.1
    have hI0 := tBI_of hG.2.2.1
    refine gx_join [] hcs C0 hbx hbm hK hO hG hS hl.1 (Nat.le_of_ble_eq_true rfl) kmL_127 dL_law_1383 (fun r1 mi' ko' T' I' H locs cells' slots' hx1 e1 e2 hG1 hS1 => ?_)
    obtain ⟨rfl, rfl, rfl⟩ := hx1
    have hG := hG1
    have hS := hS1
    refine lv_pop hx hb dL_law_1386 rfl ?_
    refine lv_aload_n hx hb dL_law_1387 rfl (lv_at hl 2 rfl) ?_
    refine lv_aload_n hx hb dL_law_1388 rfl (lv_at hl 0 rfl) ?_
    refine lv_iload_n hx hb dL_law_1389 rfl (lv_at hl 3 rfl) ?_
    refine lv_iconst (v := (1 : Int32)) hx hb dL_law_1390 (by decide) ?_
    refine lv_iadd hx hb dL_law_1391 ?_
    refine va_sld hx hb hX0 hbl hbA hS (zidx (k := 1) hi hL rfl (by decide)) dL_law_1392 ?_
    refine lv_aload_n hx hb dL_law_1393 rfl (lv_at hl 0 rfl) ?_
    refine lv_iload_n hx hb dL_law_1394 rfl (lv_at hl 3 rfl) ?_
    refine lv_iconst (v := (2 : Int32)) hx hb dL_law_1395 (by decide) ?_
    refine lv_iadd hx hb dL_law_1396 ?_
    refine va_sld hx hb hX0 hbl hbA hS (zidx (k := 2) hi hL rfl (by decide)) dL_law_1397 ?_
    refine lv_aload_n hx hb dL_law_1398 rfl (lv_at hl 0 rfl) ?_
    refine lv_iload_n hx hb dL_law_1399 rfl (lv_at hl 3 rfl) ?_
    refine lv_iconst (v := (3 : Int32)) hx hb dL_law_1400 (by decide) ?_
    refine lv_iadd hx hb dL_law_1401 ?_
    refine va_sld hx hb hX0 hbl hbA hS (zidx (k := 3) hi hL rfl (by decide)) dL_law_1402 ?_
    refine lv_aload_n hx hb dL_law_1403 rfl (lv_at hl 0 rfl) ?_
    refine lv_iload_n hx hb dL_law_1404 rfl (lv_at hl 3 rfl) ?_
    refine lv_iconst (v := (4 : Int32)) hx hb dL_law_1405 (by decide) ?_
    refine lv_iadd hx hb dL_law_1406 ?_
    refine va_sld hx hb hX0 hbl hbA hS (zidx (k := 4) hi hL rfl (by decide)) dL_law_1407 ?_
    refine lv_if_eq (tgt := 1415) hx hb dL_law_1408 (by decide) (fun hc11 => ?_) (fun hc11 => ?_)
    ·
      refine lv_iconst (v := (0 : Int32)) hx hb dL_law_1415 (by decide) ?_
      refine gm_join [] ⟨Nat.le_trans e1 hcs.1, Nat.le_trans e2 hcs.2⟩ C0 hbx hbm hK hO hG hS hl.1 (Nat.le_of_ble_eq_true rfl) kmL_130 dL_law_1416 (fun r2 M' H locs hm1 hG2 hS2 => ?_)
      obtain rfl := hm1
      have hG := hG2
      have hS := hS2
      refine lv_pop hx hb dL_law_1419 rfl ?_
      refine lv_goto (tgt := 1647) hx hb dL_law_1420 (by decide) ?_
      exact kk _ _ _ _ _ _ _ _ _ e1 e2 hR hG hS
    ·
      refine lv_iconst (v := (1 : Int32)) hx hb dL_law_1411 (by decide) ?_
      refine lv_goto (tgt := 1416) hx hb dL_law_1412 (by decide) ?_
      refine gm_join [] ⟨Nat.le_trans e1 hcs.1, Nat.le_trans e2 hcs.2⟩ C0 hbx hbm hK hO hG hS hl.1 (Nat.le_of_ble_eq_true rfl) kmL_130 dL_law_1416 (fun r2 M' H locs hm1 hG2 hS2 => ?_)
      obtain rfl := hm1
      have hG := hG2
      have hS := hS2
      refine lv_pop hx hb dL_law_1419 rfl ?_
      refine lv_goto (tgt := 1647) hx hb dL_law_1420 (by decide) ?_
      exact kk _ _ _ _ _ _ _ _ _ e1 e2 hR hG hS
  ·
    refine lv_iconst (v := (1 : Int32)) hx hb dL_law_1378 (by decide) ?_
    refine lv_goto (tgt := 1383) hx hb dL_law_1379 (by decide) ?_
    have hB0 := tB_of hG.2.2.2.1
    have hI0 := tBI_of hG.2.2.1
    refine gx_join [] hcs C0 hbx hbm hK hO hG hS hl.1 (Nat.le_of_ble_eq_true rfl) kmL_127 dL_law_1383 (fun r1 mi' ko' T' I' H locs cells' slots' hx1 e1 e2 hG1 hS1 => ?_)
    obtain ⟨rfl, rfl, rfl⟩ := hx1
    have hG := hG1
    have hS := hS1
    refine lv_pop hx hb dL_law_1386 rfl ?_
    refine lv_aload_n hx hb dL_law_1387 rfl (lv_at hl 2 rfl) ?_
    refine lv_aload_n hx hb dL_law_1388 rfl (lv_at hl 0 rfl) ?_
    refine lv_iload_n hx hb dL_law_1389 rfl (lv_at hl 3 rfl) ?_
    refine lv_iconst (v := (1 : Int32)) hx hb dL_law_1390 (by decide) ?_
    refine lv_iadd hx hb dL_law_1391 ?_
    refine va_sld hx hb hX0 hbl hbA hS (zidx (k := 1) hi hL rfl (by decide)) dL_law_1392 ?_
    refine lv_aload_n hx hb dL_law_1393 rfl (lv_at hl 0 rfl) ?_
    refine lv_iload_n hx hb dL_law_1394 rfl (lv_at hl 3 rfl) ?_
    refine lv_iconst (v := (2 : Int32)) hx hb dL_law_1395 (by decide) ?_
    refine lv_iadd hx hb dL_law_1396 ?_
    refine va_sld hx hb hX0 hbl hbA hS (zidx (k := 2) hi hL rfl (by decide)) dL_law_1397 ?_
    refine lv_aload_n hx hb dL_law_1398 rfl (lv_at hl 0 rfl) ?_
    refine lv_iload_n hx hb dL_law_1399 rfl (lv_at hl 3 rfl) ?_
    refine lv_iconst (v := (3 : Int32)) hx hb dL_law_1400 (by decide) ?_
    refine lv_iadd hx hb dL_law_1401 ?_
    refine va_sld hx hb hX0 hbl hbA hS (zidx (k := 3) hi hL rfl (by decide)) dL_law_1402 ?_
    refine lv_aload_n hx hb dL_law_1403 rfl (lv_at hl 0 rfl) ?_
    refine lv_iload_n hx hb dL_law_1404 rfl (lv_at hl 3 rfl) ?_
    refine lv_iconst (v := (4 : Int32)) hx hb dL_law_1405 (by decide) ?_
    refine lv_iadd hx hb dL_law_1406 ?_
    refine va_sld hx hb hX0 hbl hbA hS (zidx (k := 4) hi hL rfl (by decide)) dL_law_1407 ?_
    refine lv_if_eq (tgt := 1415) hx hb dL_law_1408 (by decide) (fun hc11 => ?_) (fun hc11 => ?_)
    ·
      refine lv_iconst (v := (0 : Int32)) hx hb dL_law_1415 (by decide) ?_
      refine gm_join [] ⟨Nat.le_trans e1 hcs.1, Nat.le_trans e2 hcs.2⟩ C0 hbx hbm hK hO hG hS hl.1 (Nat.le_of_ble_eq_true rfl) kmL_130 dL_law_1416 (fun r2 M' H locs hm1 hG2 hS2 => ?_)
      obtain rfl := hm1
      have hG := hG2
      have hS := hS2
      refine lv_pop hx hb dL_law_1419 rfl ?_
      refine lv_goto (tgt := 1647) hx hb dL_law_1420 (by decide) ?_
      exact kk _ _ _ _ _ _ _ _ _ e1 e2 hR hG hS
    ·
      refine lv_iconst (v := (1 : Int32)) hx hb dL_law_1411 (by decide) ?_
      refine lv_goto (tgt := 1416) hx hb dL_law_1412 (by decide) ?_
      refine gm_join [] ⟨Nat.le_trans e1 hcs.1, Nat.le_trans e2 hcs.2⟩ C0 hbx hbm hK hO hG hS hl.1 (Nat.le_of_ble_eq_true rfl) kmL_130 dL_law_1416 (fun r2 M' H locs hm1 hG2 hS2 => ?_)
      obtain rfl := hm1
      have hG := hG2
      have hS := hS2
      refine lv_pop hx hb dL_law_1419 rfl ?_
      refine lv_goto (tgt := 1647) hx hb dL_law_1420 (by decide) ?_
      exact kk _ _ _ _ _ _ _ _ _ e1 e2 hR hG hS

set_option maxRecDepth 40000 in
set_option maxHeartbeats 4000000 in
theorem g_27 {p : Program} {l : Launch} {e : Env} {s : State} {m : MethodId} {below : List Frame} {meth : Method} {c : Code} {E : zE} {G : zG} {b L i bx bm cells slots : Nat} {xs : Nat → Int32} {mi : Nat → Option Nat} {ko : Option Nat} {T : TT} {M : Nat → Nat → Int32} {I : Nat → TT} {H : Heap} {locs : List Loc} {ls : Array Slot} (hi : i + 6 ≤ L) (hL : L ≤ 3072) (hR : RG T M I mi) (hcs : cells + 47 ≤ room_1.cells ∧ slots + 4608 ≤ room_1.slots) (C0 : lw_At p s m meth c b L xs) (hbx : s.heap.size ≤ bx) (hbm : bx + 93 ≤ bm) (hK : zK E s) (hO : zO s ∧ zZ G (fun q => s.heap.size ≤ q) s s.heap) (hG : GG E bx bm mi ko T M I H) (hS : va_S (fun q => s.heap.size ≤ q) s.heap H locs) (hl : lv_has ls 4 [(0, .ref b), (1, .ref bx), (2, .ref bm), (3, .int (nI i))])
    (kk : ∀ (mi : Nat → Option Nat) (ko : Option Nat) (T : TT) (M : Nat → Nat → Int32) (I : Nat → TT) (H : Heap) (locs : List Loc) (cells' slots' : Nat), cells' ≤ cells + 47 → slots' ≤ slots + 4608 → RG T M I mi → GG E bx bm mi ko T M I H → va_S (fun q => s.heap.size ≤ q) s.heap H locs → W p l e room_1 s m #[Value.ref b] below meth c H locs cells' slots' (lw_Z below #[Value.ref b] s) (F0 m 1647 ls [])) : W p l e room_1 s m #[Value.ref b] below meth c H locs cells slots (lw_Z below #[Value.ref b] s) (F0 m 1423 ls []) := by
  obtain ⟨hx, hb, hr, hml, hown, hts, hX0, hbl, hlocks, hgv⟩ := id C0
  have zc : zC p s m #[Value.ref b] meth c cL_law 4 RL ret := ⟨hx, hb, hml, hown, fun w hw => hts w (zb_in hw), hr, hlocks⟩
  have hbA : ¬ (fun q : Nat => s.heap.size ≤ q) b := Nat.not_le.mpr hbl
  refine lv_aload_n hx hb dL_law_1423 rfl (lv_at hl 1 rfl) ?_
  refine lv_aload_n hx hb dL_law_1424 rfl (lv_at hl 0 rfl) ?_
  refine lv_iload_n hx hb dL_law_1425 rfl (lv_at hl 3 rfl) ?_
  refine lv_iconst (v := (1 : Int32)) hx hb dL_law_1426 (by decide) ?_
  refine lv_iadd hx hb dL_law_1427 ?_
  refine va_sld hx hb hX0 hbl hbA hS (zidx (k := 1) hi hL rfl (by decide)) dL_law_1428 ?_
  refine lv_aload_n hx hb dL_law_1429 rfl (lv_at hl 0 rfl) ?_
  refine lv_iload_n hx hb dL_law_1430 rfl (lv_at hl 3 rfl) ?_
  refine lv_iconst (v := (2 : Int32)) hx hb dL_law_1431 (by decide) ?_
  refine lv_iadd hx hb dL_law_1432 ?_
  refine va_sld hx hb hX0 hbl hbA hS (zidx (k := 2) hi hL rfl (by decide)) dL_law_1433 ?_
  have hB0 := tB_of hG.2.2.2.1
  have hI0 := tBI_of hG.2.2.1
  refine gx_slopes [] hcs C0 hbx hbm hK hO hG hS hl.1 (Nat.le_of_ble_eq_true rfl) kmL_131 dL_law_1434 (fun r1 mi' ko' T' I' H locs cells' slots' hx1 e1 e2 hG1 hS1 => ?_)
  obtain ⟨rfl, rfl, rfl⟩ := hx1
  have hG := hG1
  have hS := hS1
  refine lv_pop hx hb dL_law_1437 rfl ?_
  refine lv_aload_n hx hb dL_law_1438 rfl (lv_at hl 2 rfl) ?_
  refine lv_aload_n hx hb dL_law_1439 rfl (lv_at hl 0 rfl) ?_
  refine lv_iload_n hx hb dL_law_1440 rfl (lv_at hl 3 rfl) ?_
  refine lv_iconst (v := (1 : Int32)) hx hb dL_law_1441 (by decide) ?_
  refine lv_iadd hx hb dL_law_1442 ?_
  refine va_sld hx hb hX0 hbl hbA hS (zidx (k := 1) hi hL rfl (by decide)) dL_law_1443 ?_
  refine lv_aload_n hx hb dL_law_1444 rfl (lv_at hl 0 rfl) ?_
  refine lv_iload_n hx hb dL_law_1445 rfl (lv_at hl 3 rfl) ?_
  refine lv_iconst (v := (2 : Int32)) hx hb dL_law_1446 (by decide) ?_
  refine lv_iadd hx hb dL_law_1447 ?_
  refine va_sld hx hb hX0 hbl hbA hS (zidx (k := 2) hi hL rfl (by decide)) dL_law_1448 ?_
  refine gm_slopes [] ⟨Nat.le_trans e1 hcs.1, Nat.le_trans e2 hcs.2⟩ C0 hbx hbm hK hO hG hS hl.1 (Nat.le_of_ble_eq_true rfl) kmL_134 dL_law_1449 (fun r2 M' H locs hm1 hG2 hS2 => ?_)
  obtain rfl := hm1
  have hG := hG2
  have hS := hS2
  refine lv_pop hx hb dL_law_1452 rfl ?_
  refine lv_goto (tgt := 1647) hx hb dL_law_1453 (by decide) ?_
  exact kk _ _ _ _ _ _ _ _ _ e1 e2 hR hG hS

set_option maxRecDepth 40000 in
set_option maxHeartbeats 4000000 in
theorem g_28 {p : Program} {l : Launch} {e : Env} {s : State} {m : MethodId} {below : List Frame} {meth : Method} {c : Code} {E : zE} {G : zG} {b L i bx bm cells slots : Nat} {xs : Nat → Int32} {mi : Nat → Option Nat} {ko : Option Nat} {T : TT} {M : Nat → Nat → Int32} {I : Nat → TT} {H : Heap} {locs : List Loc} {ls : Array Slot} (hi : i + 6 ≤ L) (hL : L ≤ 3072) (hR : RG T M I mi) (hcs : cells + 47 ≤ room_1.cells ∧ slots + 4608 ≤ room_1.slots) (C0 : lw_At p s m meth c b L xs) (hbx : s.heap.size ≤ bx) (hbm : bx + 93 ≤ bm) (hK : zK E s) (hO : zO s ∧ zZ G (fun q => s.heap.size ≤ q) s s.heap) (hG : GG E bx bm mi ko T M I H) (hS : va_S (fun q => s.heap.size ≤ q) s.heap H locs) (hl : lv_has ls 4 [(0, .ref b), (1, .ref bx), (2, .ref bm), (3, .int (nI i))])
    (kk : ∀ (mi : Nat → Option Nat) (ko : Option Nat) (T : TT) (M : Nat → Nat → Int32) (I : Nat → TT) (H : Heap) (locs : List Loc) (cells' slots' : Nat), cells' ≤ cells + 47 → slots' ≤ slots + 4608 → RG T M I mi → GG E bx bm mi ko T M I H → va_S (fun q => s.heap.size ≤ q) s.heap H locs → W p l e room_1 s m #[Value.ref b] below meth c H locs cells' slots' (lw_Z below #[Value.ref b] s) (F0 m 1647 ls [])) : W p l e room_1 s m #[Value.ref b] below meth c H locs cells slots (lw_Z below #[Value.ref b] s) (F0 m 1456 ls []) := by
  obtain ⟨hx, hb, hr, hml, hown, hts, hX0, hbl, hlocks, hgv⟩ := id C0
  have zc : zC p s m #[Value.ref b] meth c cL_law 4 RL ret := ⟨hx, hb, hml, hown, fun w hw => hts w (zb_in hw), hr, hlocks⟩
  have hbA : ¬ (fun q : Nat => s.heap.size ≤ q) b := Nat.not_le.mpr hbl
  refine lv_aload_n hx hb dL_law_1456 rfl (lv_at hl 1 rfl) ?_
  refine lv_aload_n hx hb dL_law_1457 rfl (lv_at hl 0 rfl) ?_
  refine lv_iload_n hx hb dL_law_1458 rfl (lv_at hl 3 rfl) ?_
  refine lv_iconst (v := (1 : Int32)) hx hb dL_law_1459 (by decide) ?_
  refine lv_iadd hx hb dL_law_1460 ?_
  refine va_sld hx hb hX0 hbl hbA hS (zidx (k := 1) hi hL rfl (by decide)) dL_law_1461 ?_
  refine lv_aload_n hx hb dL_law_1462 rfl (lv_at hl 0 rfl) ?_
  refine lv_iload_n hx hb dL_law_1463 rfl (lv_at hl 3 rfl) ?_
  refine lv_iconst (v := (2 : Int32)) hx hb dL_law_1464 (by decide) ?_
  refine lv_iadd hx hb dL_law_1465 ?_
  refine va_sld hx hb hX0 hbl hbA hS (zidx (k := 2) hi hL rfl (by decide)) dL_law_1466 ?_
  refine lv_aload_n hx hb dL_law_1467 rfl (lv_at hl 0 rfl) ?_
  refine lv_iload_n hx hb dL_law_1468 rfl (lv_at hl 3 rfl) ?_
  refine lv_iconst (v := (3 : Int32)) hx hb dL_law_1469 (by decide) ?_
  refine lv_iadd hx hb dL_law_1470 ?_
  refine va_sld hx hb hX0 hbl hbA hS (zidx (k := 3) hi hL rfl (by decide)) dL_law_1471 ?_
  refine lv_aload_n hx hb dL_law_1472 rfl (lv_at hl 0 rfl) ?_
  refine lv_iload_n hx hb dL_law_1473 rfl (lv_at hl 3 rfl) ?_
  refine lv_iconst (v := (4 : Int32)) hx hb dL_law_1474 (by decide) ?_
  refine lv_iadd hx hb dL_law_1475 ?_
  refine va_sld hx hb hX0 hbl hbA hS (zidx (k := 4) hi hL rfl (by decide)) dL_law_1476 ?_
  refine lv_if_eq (tgt := 1484) hx hb dL_law_1477 (by decide) (fun hc0 => ?_) (fun hc0 => ?_)
  ·
    refine lv_iconst (v := (0 : Int32)) hx hb dL_law_1484 (by decide) ?_
    have hB0 := tB_of hG.2.2.2.1
    have hI0 := tBI_of hG.2.2.1
    refine gx_flood [] hcs C0 hbx hbm hK hO hG hS hl.1 (Nat.le_of_ble_eq_true rfl) kmL_135 dL_law_1485 (fun r1 mi' ko' T' I' H locs cells' slots' hx1 e1 e2 hG1 hS1 => ?_)
    obtain ⟨rfl, rfl, rfl⟩ := hx1
    have hG := hG1
    have hS := hS1
    refine lv_pop hx hb dL_law_1488 rfl ?_
    refine lv_aload_n hx hb dL_law_1489 rfl (lv_at hl 2 rfl) ?_
    refine lv_aload_n hx hb dL_law_1490 rfl (lv_at hl 0 rfl) ?_
    refine lv_iload_n hx hb dL_law_1491 rfl (lv_at hl 3 rfl) ?_
    refine lv_iconst (v := (1 : Int32)) hx hb dL_law_1492 (by decide) ?_
    refine lv_iadd hx hb dL_law_1493 ?_
    refine va_sld hx hb hX0 hbl hbA hS (zidx (k := 1) hi hL rfl (by decide)) dL_law_1494 ?_
    refine lv_aload_n hx hb dL_law_1495 rfl (lv_at hl 0 rfl) ?_
    refine lv_iload_n hx hb dL_law_1496 rfl (lv_at hl 3 rfl) ?_
    refine lv_iconst (v := (2 : Int32)) hx hb dL_law_1497 (by decide) ?_
    refine lv_iadd hx hb dL_law_1498 ?_
    refine va_sld hx hb hX0 hbl hbA hS (zidx (k := 2) hi hL rfl (by decide)) dL_law_1499 ?_
    refine lv_aload_n hx hb dL_law_1500 rfl (lv_at hl 0 rfl) ?_
    refine lv_iload_n hx hb dL_law_1501 rfl (lv_at hl 3 rfl) ?_
    refine lv_iconst (v := (3 : Int32)) hx hb dL_law_1502 (by decide) ?_
    refine lv_iadd hx hb dL_law_1503 ?_
    refine va_sld hx hb hX0 hbl hbA hS (zidx (k := 3) hi hL rfl (by decide)) dL_law_1504 ?_
    refine lv_aload_n hx hb dL_law_1505 rfl (lv_at hl 0 rfl) ?_
    refine lv_iload_n hx hb dL_law_1506 rfl (lv_at hl 3 rfl) ?_
    refine lv_iconst (v := (4 : Int32)) hx hb dL_law_1507 (by decide) ?_
    refine lv_iadd hx hb dL_law_1508 ?_
    refine va_sld hx hb hX0 hbl hbA hS (zidx (k := 4) hi hL rfl (by decide)) dL_law_1509 ?_
    refine lv_if_eq (tgt := 1517) hx hb dL_law_1510 (by decide) (fun hc11 => ?_) (fun hc11 => ?_)
    ·
      refine lv_iconst (v := (0 : Int32)) hx hb dL_law_1517 (by decide) ?_
      refine gm_flood [] ⟨Nat.le_trans e1 hcs.1, Nat.le_trans e2 hcs.2⟩ C0 hbx hbm hK hO hG hS hl.1 (Nat.le_of_ble_eq_true rfl) kmL_138 dL_law_1518 (fun r2 M' H locs hm1 hG2 hS2 => ?_)
      obtain rfl := hm1
      have hG := hG2
      have hS := hS2
      refine lv_pop hx hb dL_law_1521 rfl ?_
      refine lv_goto (tgt := 1647) hx hb dL_law_1522 (by decide) ?_
      exact kk _ _ _ _ _ _ _ _ _ e1 e2 hR hG hS
    ·
      refine lv_iconst (v := (1 : Int32)) hx hb dL_law_1513 (by decide) ?_
      refine lv_goto (tgt := 1518) hx hb dL_law_1514 (by decide) ?_
      refine gm_flood [] ⟨Nat.le_trans e1 hcs.1, Nat.le_trans e2 hcs.2⟩ C0 hbx hbm hK hO hG hS hl.1 (Nat.le_of_ble_eq_true rfl) kmL_138 dL_law_1518 (fun r2 M' H locs hm1 hG2 hS2 => ?_)
      obtain rfl := hm1
      have hG := hG2
      have hS := hS2
      refine lv_pop hx hb dL_law_1521 rfl ?_
      refine lv_goto (tgt := 1647) hx hb dL_law_1522 (by decide) ?_
      exact kk _ _ _ _ _ _ _ _ _ e1 e2 hR hG hS
  ·
    refine lv_iconst (v := (1 : Int32)) hx hb dL_law_1480 (by decide) ?_
    refine lv_goto (tgt := 1485) hx hb dL_law_1481 (by decide) ?_
    have hB0 := tB_of hG.2.2.2.1
    have hI0 := tBI_of hG.2.2.1
    refine gx_flood [] hcs C0 hbx hbm hK hO hG hS hl.1 (Nat.le_of_ble_eq_true rfl) kmL_135 dL_law_1485 (fun r1 mi' ko' T' I' H locs cells' slots' hx1 e1 e2 hG1 hS1 => ?_)
    obtain ⟨rfl, rfl, rfl⟩ := hx1
    have hG := hG1
    have hS := hS1
    refine lv_pop hx hb dL_law_1488 rfl ?_
    refine lv_aload_n hx hb dL_law_1489 rfl (lv_at hl 2 rfl) ?_
    refine lv_aload_n hx hb dL_law_1490 rfl (lv_at hl 0 rfl) ?_
    refine lv_iload_n hx hb dL_law_1491 rfl (lv_at hl 3 rfl) ?_
    refine lv_iconst (v := (1 : Int32)) hx hb dL_law_1492 (by decide) ?_
    refine lv_iadd hx hb dL_law_1493 ?_
    refine va_sld hx hb hX0 hbl hbA hS (zidx (k := 1) hi hL rfl (by decide)) dL_law_1494 ?_
    refine lv_aload_n hx hb dL_law_1495 rfl (lv_at hl 0 rfl) ?_
    refine lv_iload_n hx hb dL_law_1496 rfl (lv_at hl 3 rfl) ?_
    refine lv_iconst (v := (2 : Int32)) hx hb dL_law_1497 (by decide) ?_
    refine lv_iadd hx hb dL_law_1498 ?_
    refine va_sld hx hb hX0 hbl hbA hS (zidx (k := 2) hi hL rfl (by decide)) dL_law_1499 ?_
    refine lv_aload_n hx hb dL_law_1500 rfl (lv_at hl 0 rfl) ?_
    refine lv_iload_n hx hb dL_law_1501 rfl (lv_at hl 3 rfl) ?_
    refine lv_iconst (v := (3 : Int32)) hx hb dL_law_1502 (by decide) ?_
    refine lv_iadd hx hb dL_law_1503 ?_
    refine va_sld hx hb hX0 hbl hbA hS (zidx (k := 3) hi hL rfl (by decide)) dL_law_1504 ?_
    refine lv_aload_n hx hb dL_law_1505 rfl (lv_at hl 0 rfl) ?_
    refine lv_iload_n hx hb dL_law_1506 rfl (lv_at hl 3 rfl) ?_
    refine lv_iconst (v := (4 : Int32)) hx hb dL_law_1507 (by decide) ?_
    refine lv_iadd hx hb dL_law_1508 ?_
    refine va_sld hx hb hX0 hbl hbA hS (zidx (k := 4) hi hL rfl (by decide)) dL_law_1509 ?_
    refine lv_if_eq (tgt := 1517) hx hb dL_law_1510 (by decide) (fun hc11 => ?_) (fun hc11 => ?_)
    ·
      refine lv_iconst (v := (0 : Int32)) hx hb dL_law_1517 (by decide) ?_
      refine gm_flood [] ⟨Nat.le_trans e1 hcs.1, Nat.le_trans e2 hcs.2⟩ C0 hbx hbm hK hO hG hS hl.1 (Nat.le_of_ble_eq_true rfl) kmL_138 dL_law_1518 (fun r2 M' H locs hm1 hG2 hS2 => ?_)
      obtain rfl := hm1
      have hG := hG2
      have hS := hS2
      refine lv_pop hx hb dL_law_1521 rfl ?_
      refine lv_goto (tgt := 1647) hx hb dL_law_1522 (by decide) ?_
      exact kk _ _ _ _ _ _ _ _ _ e1 e2 hR hG hS
    ·
      refine lv_iconst (v := (1 : Int32)) hx hb dL_law_1513 (by decide) ?_
      refine lv_goto (tgt := 1518) hx hb dL_law_1514 (by decide) ?_
      refine gm_flood [] ⟨Nat.le_trans e1 hcs.1, Nat.le_trans e2 hcs.2⟩ C0 hbx hbm hK hO hG hS hl.1 (Nat.le_of_ble_eq_true rfl) kmL_138 dL_law_1518 (fun r2 M' H locs hm1 hG2 hS2 => ?_)
      obtain rfl := hm1
      have hG := hG2
      have hS := hS2
      refine lv_pop hx hb dL_law_1521 rfl ?_
      refine lv_goto (tgt := 1647) hx hb dL_law_1522 (by decide) ?_
      exact kk _ _ _ _ _ _ _ _ _ e1 e2 hR hG hS

set_option maxRecDepth 40000 in
set_option maxHeartbeats 4000000 in
theorem g_29 {p : Program} {l : Launch} {e : Env} {s : State} {m : MethodId} {below : List Frame} {meth : Method} {c : Code} {E : zE} {G : zG} {b L i bx bm cells slots : Nat} {xs : Nat → Int32} {mi : Nat → Option Nat} {ko : Option Nat} {T : TT} {M : Nat → Nat → Int32} {I : Nat → TT} {H : Heap} {locs : List Loc} {ls : Array Slot} (hi : i + 6 ≤ L) (hL : L ≤ 3072) (hR : RG T M I mi) (hcs : cells + 47 ≤ room_1.cells ∧ slots + 4608 ≤ room_1.slots) (C0 : lw_At p s m meth c b L xs) (hbx : s.heap.size ≤ bx) (hbm : bx + 93 ≤ bm) (hK : zK E s) (hO : zO s ∧ zZ G (fun q => s.heap.size ≤ q) s s.heap) (hG : GG E bx bm mi ko T M I H) (hS : va_S (fun q => s.heap.size ≤ q) s.heap H locs) (hl : lv_has ls 4 [(0, .ref b), (1, .ref bx), (2, .ref bm), (3, .int (nI i))])
    (kk : ∀ (mi : Nat → Option Nat) (ko : Option Nat) (T : TT) (M : Nat → Nat → Int32) (I : Nat → TT) (H : Heap) (locs : List Loc) (cells' slots' : Nat), cells' ≤ cells + 47 → slots' ≤ slots + 4608 → RG T M I mi → GG E bx bm mi ko T M I H → va_S (fun q => s.heap.size ≤ q) s.heap H locs → W p l e room_1 s m #[Value.ref b] below meth c H locs cells' slots' (lw_Z below #[Value.ref b] s) (F0 m 1647 ls [])) : W p l e room_1 s m #[Value.ref b] below meth c H locs cells slots (lw_Z below #[Value.ref b] s) (F0 m 1525 ls []) := by
  obtain ⟨hx, hb, hr, hml, hown, hts, hX0, hbl, hlocks, hgv⟩ := id C0
  have zc : zC p s m #[Value.ref b] meth c cL_law 4 RL ret := ⟨hx, hb, hml, hown, fun w hw => hts w (zb_in hw), hr, hlocks⟩
  have hbA : ¬ (fun q : Nat => s.heap.size ≤ q) b := Nat.not_le.mpr hbl
  refine lv_aload_n hx hb dL_law_1525 rfl (lv_at hl 1 rfl) ?_
  refine lv_aload_n hx hb dL_law_1526 rfl (lv_at hl 0 rfl) ?_
  refine lv_iload_n hx hb dL_law_1527 rfl (lv_at hl 3 rfl) ?_
  refine lv_iconst (v := (1 : Int32)) hx hb dL_law_1528 (by decide) ?_
  refine lv_iadd hx hb dL_law_1529 ?_
  refine va_sld hx hb hX0 hbl hbA hS (zidx (k := 1) hi hL rfl (by decide)) dL_law_1530 ?_
  refine lv_aload_n hx hb dL_law_1531 rfl (lv_at hl 0 rfl) ?_
  refine lv_iload_n hx hb dL_law_1532 rfl (lv_at hl 3 rfl) ?_
  refine lv_iconst (v := (2 : Int32)) hx hb dL_law_1533 (by decide) ?_
  refine lv_iadd hx hb dL_law_1534 ?_
  refine va_sld hx hb hX0 hbl hbA hS (zidx (k := 2) hi hL rfl (by decide)) dL_law_1535 ?_
  refine lv_aload_n hx hb dL_law_1536 rfl (lv_at hl 0 rfl) ?_
  refine lv_iload_n hx hb dL_law_1537 rfl (lv_at hl 3 rfl) ?_
  refine lv_iconst (v := (3 : Int32)) hx hb dL_law_1538 (by decide) ?_
  refine lv_iadd hx hb dL_law_1539 ?_
  refine va_sld hx hb hX0 hbl hbA hS (zidx (k := 3) hi hL rfl (by decide)) dL_law_1540 ?_
  refine lv_aload_n hx hb dL_law_1541 rfl (lv_at hl 0 rfl) ?_
  refine lv_iload_n hx hb dL_law_1542 rfl (lv_at hl 3 rfl) ?_
  refine lv_iconst (v := (4 : Int32)) hx hb dL_law_1543 (by decide) ?_
  refine lv_iadd hx hb dL_law_1544 ?_
  refine va_sld hx hb hX0 hbl hbA hS (zidx (k := 4) hi hL rfl (by decide)) dL_law_1545 ?_
  have hB0 := tB_of hG.2.2.2.1
  have hI0 := tBI_of hG.2.2.1
  refine gx_teach [] hcs C0 hbx hbm hK hO hG hS hl.1 (Nat.le_of_ble_eq_true rfl) kmL_139 dL_law_1546 (fun r1 mi' ko' T' I' H locs cells' slots' hx1 e1 e2 hG1 hS1 => ?_)
  obtain ⟨rfl, rfl, rfl⟩ := hx1
  have hG := hG1
  have hS := hS1
  refine lv_pop hx hb dL_law_1549 rfl ?_
  refine lv_aload_n hx hb dL_law_1550 rfl (lv_at hl 2 rfl) ?_
  refine lv_aload_n hx hb dL_law_1551 rfl (lv_at hl 0 rfl) ?_
  refine lv_iload_n hx hb dL_law_1552 rfl (lv_at hl 3 rfl) ?_
  refine lv_iconst (v := (1 : Int32)) hx hb dL_law_1553 (by decide) ?_
  refine lv_iadd hx hb dL_law_1554 ?_
  refine va_sld hx hb hX0 hbl hbA hS (zidx (k := 1) hi hL rfl (by decide)) dL_law_1555 ?_
  refine lv_aload_n hx hb dL_law_1556 rfl (lv_at hl 0 rfl) ?_
  refine lv_iload_n hx hb dL_law_1557 rfl (lv_at hl 3 rfl) ?_
  refine lv_iconst (v := (2 : Int32)) hx hb dL_law_1558 (by decide) ?_
  refine lv_iadd hx hb dL_law_1559 ?_
  refine va_sld hx hb hX0 hbl hbA hS (zidx (k := 2) hi hL rfl (by decide)) dL_law_1560 ?_
  refine lv_aload_n hx hb dL_law_1561 rfl (lv_at hl 0 rfl) ?_
  refine lv_iload_n hx hb dL_law_1562 rfl (lv_at hl 3 rfl) ?_
  refine lv_iconst (v := (3 : Int32)) hx hb dL_law_1563 (by decide) ?_
  refine lv_iadd hx hb dL_law_1564 ?_
  refine va_sld hx hb hX0 hbl hbA hS (zidx (k := 3) hi hL rfl (by decide)) dL_law_1565 ?_
  refine lv_aload_n hx hb dL_law_1566 rfl (lv_at hl 0 rfl) ?_
  refine lv_iload_n hx hb dL_law_1567 rfl (lv_at hl 3 rfl) ?_
  refine lv_iconst (v := (4 : Int32)) hx hb dL_law_1568 (by decide) ?_
  refine lv_iadd hx hb dL_law_1569 ?_
  refine va_sld hx hb hX0 hbl hbA hS (zidx (k := 4) hi hL rfl (by decide)) dL_law_1570 ?_
  refine gm_teach [] ⟨Nat.le_trans e1 hcs.1, Nat.le_trans e2 hcs.2⟩ C0 hbx hbm hK hO hG hS hl.1 (Nat.le_of_ble_eq_true rfl) kmL_142 dL_law_1571 (fun r2 M' H locs hm1 hG2 hS2 => ?_)
  obtain rfl := hm1
  have hG := hG2
  have hS := hS2
  refine lv_pop hx hb dL_law_1574 rfl ?_
  refine lv_goto (tgt := 1647) hx hb dL_law_1575 (by decide) ?_
  exact kk _ _ _ _ _ _ _ _ _ e1 e2 hR hG hS

set_option maxRecDepth 40000 in
set_option maxHeartbeats 4000000 in
theorem g_30 {p : Program} {l : Launch} {e : Env} {s : State} {m : MethodId} {below : List Frame} {meth : Method} {c : Code} {E : zE} {G : zG} {b L i bx bm cells slots : Nat} {xs : Nat → Int32} {mi : Nat → Option Nat} {ko : Option Nat} {T : TT} {M : Nat → Nat → Int32} {I : Nat → TT} {H : Heap} {locs : List Loc} {ls : Array Slot} (hi : i + 6 ≤ L) (hL : L ≤ 3072) (hR : RG T M I mi) (hcs : cells + 47 ≤ room_1.cells ∧ slots + 4608 ≤ room_1.slots) (C0 : lw_At p s m meth c b L xs) (hbx : s.heap.size ≤ bx) (hbm : bx + 93 ≤ bm) (hK : zK E s) (hO : zO s ∧ zZ G (fun q => s.heap.size ≤ q) s s.heap) (hG : GG E bx bm mi ko T M I H) (hS : va_S (fun q => s.heap.size ≤ q) s.heap H locs) (hl : lv_has ls 4 [(0, .ref b), (1, .ref bx), (2, .ref bm), (3, .int (nI i))])
    (kk : ∀ (mi : Nat → Option Nat) (ko : Option Nat) (T : TT) (M : Nat → Nat → Int32) (I : Nat → TT) (H : Heap) (locs : List Loc) (cells' slots' : Nat), cells' ≤ cells + 47 → slots' ≤ slots + 4608 → RG T M I mi → GG E bx bm mi ko T M I H → va_S (fun q => s.heap.size ≤ q) s.heap H locs → W p l e room_1 s m #[Value.ref b] below meth c H locs cells' slots' (lw_Z below #[Value.ref b] s) (F0 m 1647 ls [])) : W p l e room_1 s m #[Value.ref b] below meth c H locs cells slots (lw_Z below #[Value.ref b] s) (F0 m 1578 ls []) := by
  obtain ⟨hx, hb, hr, hml, hown, hts, hX0, hbl, hlocks, hgv⟩ := id C0
  have zc : zC p s m #[Value.ref b] meth c cL_law 4 RL ret := ⟨hx, hb, hml, hown, fun w hw => hts w (zb_in hw), hr, hlocks⟩
  have hbA : ¬ (fun q : Nat => s.heap.size ≤ q) b := Nat.not_le.mpr hbl
  refine lv_aload_n hx hb dL_law_1578 rfl (lv_at hl 1 rfl) ?_
  refine lv_aload_n hx hb dL_law_1579 rfl (lv_at hl 0 rfl) ?_
  refine lv_iload_n hx hb dL_law_1580 rfl (lv_at hl 3 rfl) ?_
  refine lv_iconst (v := (1 : Int32)) hx hb dL_law_1581 (by decide) ?_
  refine lv_iadd hx hb dL_law_1582 ?_
  refine va_sld hx hb hX0 hbl hbA hS (zidx (k := 1) hi hL rfl (by decide)) dL_law_1583 ?_
  have hB0 := tB_of hG.2.2.2.1
  have hI0 := tBI_of hG.2.2.1
  refine gx_count [] hcs C0 hbx hbm hK hO hG hS hl.1 (Nat.le_of_ble_eq_true rfl) kmL_143 dL_law_1584 (fun r1 mi' ko' T' I' H locs cells' slots' hx1 e1 e2 hG1 hS1 => ?_)
  obtain ⟨rfl, rfl, rfl⟩ := hx1
  have hG := hG1
  have hS := hS1
  refine lv_pop hx hb dL_law_1587 rfl ?_
  refine lv_aload_n hx hb dL_law_1588 rfl (lv_at hl 2 rfl) ?_
  refine lv_aload_n hx hb dL_law_1589 rfl (lv_at hl 0 rfl) ?_
  refine lv_iload_n hx hb dL_law_1590 rfl (lv_at hl 3 rfl) ?_
  refine lv_iconst (v := (1 : Int32)) hx hb dL_law_1591 (by decide) ?_
  refine lv_iadd hx hb dL_law_1592 ?_
  refine va_sld hx hb hX0 hbl hbA hS (zidx (k := 1) hi hL rfl (by decide)) dL_law_1593 ?_
  refine gm_count [] ⟨Nat.le_trans e1 hcs.1, Nat.le_trans e2 hcs.2⟩ C0 hbx hbm hK hO hG hS hl.1 (Nat.le_of_ble_eq_true rfl) kmL_146 dL_law_1594 (fun r2 M' H locs hm1 hG2 hS2 => ?_)
  obtain rfl := hm1
  have hG := hG2
  have hS := hS2
  refine lv_pop hx hb dL_law_1597 rfl ?_
  refine lv_goto (tgt := 1647) hx hb dL_law_1598 (by decide) ?_
  exact kk _ _ _ _ _ _ _ _ _ e1 e2 hR hG hS

set_option maxRecDepth 40000 in
set_option maxHeartbeats 4000000 in
theorem g_31 {p : Program} {l : Launch} {e : Env} {s : State} {m : MethodId} {below : List Frame} {meth : Method} {c : Code} {E : zE} {G : zG} {b L i bx bm cells slots : Nat} {xs : Nat → Int32} {mi : Nat → Option Nat} {ko : Option Nat} {T : TT} {M : Nat → Nat → Int32} {I : Nat → TT} {H : Heap} {locs : List Loc} {ls : Array Slot} (hi : i + 6 ≤ L) (hL : L ≤ 3072) (hR : RG T M I mi) (hcs : cells + 47 ≤ room_1.cells ∧ slots + 4608 ≤ room_1.slots) (C0 : lw_At p s m meth c b L xs) (hbx : s.heap.size ≤ bx) (hbm : bx + 93 ≤ bm) (hK : zK E s) (hO : zO s ∧ zZ G (fun q => s.heap.size ≤ q) s s.heap) (hG : GG E bx bm mi ko T M I H) (hS : va_S (fun q => s.heap.size ≤ q) s.heap H locs) (hl : lv_has ls 4 [(0, .ref b), (1, .ref bx), (2, .ref bm), (3, .int (nI i))])
    (kk : ∀ (mi : Nat → Option Nat) (ko : Option Nat) (T : TT) (M : Nat → Nat → Int32) (I : Nat → TT) (H : Heap) (locs : List Loc) (cells' slots' : Nat), cells' ≤ cells + 47 → slots' ≤ slots + 4608 → RG T M I mi → GG E bx bm mi ko T M I H → va_S (fun q => s.heap.size ≤ q) s.heap H locs → W p l e room_1 s m #[Value.ref b] below meth c H locs cells' slots' (lw_Z below #[Value.ref b] s) (F0 m 1647 ls [])) : W p l e room_1 s m #[Value.ref b] below meth c H locs cells slots (lw_Z below #[Value.ref b] s) (F0 m 1601 ls []) := by
  obtain ⟨hx, hb, hr, hml, hown, hts, hX0, hbl, hlocks, hgv⟩ := id C0
  have zc : zC p s m #[Value.ref b] meth c cL_law 4 RL ret := ⟨hx, hb, hml, hown, fun w hw => hts w (zb_in hw), hr, hlocks⟩
  have hbA : ¬ (fun q : Nat => s.heap.size ≤ q) b := Nat.not_le.mpr hbl
  refine lv_aload_n hx hb dL_law_1601 rfl (lv_at hl 1 rfl) ?_
  refine lv_aload_n hx hb dL_law_1602 rfl (lv_at hl 0 rfl) ?_
  refine lv_iload_n hx hb dL_law_1603 rfl (lv_at hl 3 rfl) ?_
  refine lv_iconst (v := (1 : Int32)) hx hb dL_law_1604 (by decide) ?_
  refine lv_iadd hx hb dL_law_1605 ?_
  refine va_sld hx hb hX0 hbl hbA hS (zidx (k := 1) hi hL rfl (by decide)) dL_law_1606 ?_
  have hB0 := tB_of hG.2.2.2.1
  have hI0 := tBI_of hG.2.2.1
  refine gx_image [] hcs C0 hbx hbm hK hO hG hS hl.1 (Nat.le_of_ble_eq_true rfl) kmL_147 dL_law_1607 (fun r1 mi' ko' T' I' H locs cells' slots' hx1 e1 e2 hG1 hS1 => ?_)
  obtain ⟨rfl, hx2⟩ := hx1
  have hG := hG1
  have hS := hS1
  refine lv_pop hx hb dL_law_1610 rfl ?_
  refine lv_aload_n hx hb dL_law_1611 rfl (lv_at hl 2 rfl) ?_
  refine lv_aload_n hx hb dL_law_1612 rfl (lv_at hl 0 rfl) ?_
  refine lv_iload_n hx hb dL_law_1613 rfl (lv_at hl 3 rfl) ?_
  refine lv_iconst (v := (1 : Int32)) hx hb dL_law_1614 (by decide) ?_
  refine lv_iadd hx hb dL_law_1615 ?_
  refine va_sld hx hb hX0 hbl hbA hS (zidx (k := 1) hi hL rfl (by decide)) dL_law_1616 ?_
  refine gm_image [] ⟨Nat.le_trans e1 hcs.1, Nat.le_trans e2 hcs.2⟩ C0 hbx hbm hK hO hG hS hl.1 (Nat.le_of_ble_eq_true rfl) kmL_151 dL_law_1617 (fun r2 M' H locs hm1 hG2 hS2 => ?_)
  obtain ⟨hrr, hR⟩ := RG_im hR hB0 hI0 hx2 hm1
  have hG := hG2
  have hS := hS2
  refine lv_pop hx hb dL_law_1620 rfl ?_
  refine lv_goto (tgt := 1647) hx hb dL_law_1621 (by decide) ?_
  exact kk _ _ _ _ _ _ _ _ _ e1 e2 hR hG hS

set_option maxRecDepth 40000 in
set_option maxHeartbeats 4000000 in
theorem g_32 {p : Program} {l : Launch} {e : Env} {s : State} {m : MethodId} {below : List Frame} {meth : Method} {c : Code} {E : zE} {G : zG} {b L i bx bm cells slots : Nat} {xs : Nat → Int32} {mi : Nat → Option Nat} {ko : Option Nat} {T : TT} {M : Nat → Nat → Int32} {I : Nat → TT} {H : Heap} {locs : List Loc} {ls : Array Slot} (hi : i + 6 ≤ L) (hL : L ≤ 3072) (hR : RG T M I mi) (hcs : cells + 47 ≤ room_1.cells ∧ slots + 4608 ≤ room_1.slots) (C0 : lw_At p s m meth c b L xs) (hbx : s.heap.size ≤ bx) (hbm : bx + 93 ≤ bm) (hK : zK E s) (hO : zO s ∧ zZ G (fun q => s.heap.size ≤ q) s s.heap) (hG : GG E bx bm mi ko T M I H) (hS : va_S (fun q => s.heap.size ≤ q) s.heap H locs) (hl : lv_has ls 4 [(0, .ref b), (1, .ref bx), (2, .ref bm), (3, .int (nI i))])
    (kk : ∀ (mi : Nat → Option Nat) (ko : Option Nat) (T : TT) (M : Nat → Nat → Int32) (I : Nat → TT) (H : Heap) (locs : List Loc) (cells' slots' : Nat), cells' ≤ cells + 47 → slots' ≤ slots + 4608 → RG T M I mi → GG E bx bm mi ko T M I H → va_S (fun q => s.heap.size ≤ q) s.heap H locs → W p l e room_1 s m #[Value.ref b] below meth c H locs cells' slots' (lw_Z below #[Value.ref b] s) (F0 m 1647 ls [])) : W p l e room_1 s m #[Value.ref b] below meth c H locs cells slots (lw_Z below #[Value.ref b] s) (F0 m 1624 ls []) := by
  obtain ⟨hx, hb, hr, hml, hown, hts, hX0, hbl, hlocks, hgv⟩ := id C0
  have zc : zC p s m #[Value.ref b] meth c cL_law 4 RL ret := ⟨hx, hb, hml, hown, fun w hw => hts w (zb_in hw), hr, hlocks⟩
  have hbA : ¬ (fun q : Nat => s.heap.size ≤ q) b := Nat.not_le.mpr hbl
  refine lv_aload_n hx hb dL_law_1624 rfl (lv_at hl 1 rfl) ?_
  refine lv_aload_n hx hb dL_law_1625 rfl (lv_at hl 0 rfl) ?_
  refine lv_iload_n hx hb dL_law_1626 rfl (lv_at hl 3 rfl) ?_
  refine lv_iconst (v := (1 : Int32)) hx hb dL_law_1627 (by decide) ?_
  refine lv_iadd hx hb dL_law_1628 ?_
  refine va_sld hx hb hX0 hbl hbA hS (zidx (k := 1) hi hL rfl (by decide)) dL_law_1629 ?_
  have hB0 := tB_of hG.2.2.2.1
  have hI0 := tBI_of hG.2.2.1
  refine gx_again [] hcs C0 hbx hbm hK hO hG hS hl.1 (Nat.le_of_ble_eq_true rfl) kmL_152 dL_law_1630 (fun r1 mi' ko' T' I' H locs cells' slots' hx1 e1 e2 hG1 hS1 => ?_)
  obtain ⟨rfl, rfl, hx2⟩ := hx1
  have hG := hG1
  have hS := hS1
  refine lv_pop hx hb dL_law_1633 rfl ?_
  refine lv_aload_n hx hb dL_law_1634 rfl (lv_at hl 2 rfl) ?_
  refine lv_aload_n hx hb dL_law_1635 rfl (lv_at hl 0 rfl) ?_
  refine lv_iload_n hx hb dL_law_1636 rfl (lv_at hl 3 rfl) ?_
  refine lv_iconst (v := (1 : Int32)) hx hb dL_law_1637 (by decide) ?_
  refine lv_iadd hx hb dL_law_1638 ?_
  refine va_sld hx hb hX0 hbl hbA hS (zidx (k := 1) hi hL rfl (by decide)) dL_law_1639 ?_
  refine gm_again [] ⟨Nat.le_trans e1 hcs.1, Nat.le_trans e2 hcs.2⟩ C0 hbx hbm hK hO hG hS hl.1 (Nat.le_of_ble_eq_true rfl) kmL_155 dL_law_1640 (fun r2 M' H locs hm1 hG2 hS2 => ?_)
  obtain ⟨hrr, hR⟩ := RG_ag hR hB0 hI0 hx2 hm1
  have hG := hG2
  have hS := hS2
  refine lv_pop hx hb dL_law_1643 rfl ?_
  refine lv_goto (tgt := 1647) hx hb dL_law_1644 (by decide) ?_
  exact kk _ _ _ _ _ _ _ _ _ e1 e2 hR hG hS

