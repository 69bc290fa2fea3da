set_option maxRecDepth 40000 in
set_option maxHeartbeats 4000000 in
theorem ls_24 {p : Program} {l : Launch} {e : Env} {s : State} {m : MethodId} {below : List Frame} {meth : Method} {c : Code} {E : zE} {b L i bx bm cells slots : Nat} {xs : Nat → Int32} {Xta_tape : Nat → Int32} {Xtf_length : Int32} {Xtf_fault : Int32} {Xtf_place : Int32} {Xta_counts : Nat → Int32} {Xtl0f_huts : Int32} {Xtl0f_singers : Int32} {Xtl0f_villages : Int32} {Xtl0f_dams : Int32} {Xtl0f_echoes : Int32} {Xtl0f_deep : Int32} {Xtl0f_slide : Int32} {Xtl0a_heights : Nat → Int32} {Xtl0a_ladders : Nat → Int32} {Xtl0a_minutes : Nat → Int32} {Xtl0a_echoFrom : Nat → Int32} {Xtl0a_echoTo : Nat → Int32} {Xtl0a_homes : Nat → Int32} {Xtl0a_talls : Nat → Int32} {Xtl0a_known : Nat → Int32} {Xtl1f_huts : Int32} {Xtl1f_singers : Int32} {Xtl1f_villages : Int32} {Xtl1f_dams : Int32} {Xtl1f_echoes : Int32} {Xtl1f_deep : Int32} {Xtl1f_slide : Int32} {Xtl1a_heights : Nat → Int32} {Xtl1a_ladders : Nat → Int32} {Xtl1a_minutes : Nat → Int32} {Xtl1a_echoFrom : Nat → Int32} {Xtl1a_echoTo : Nat → Int32} {Xtl1a_homes : Nat → Int32} {Xtl1a_talls : Nat → Int32} {Xtl1a_known : Nat → Int32} {Xtv0f_deeds : Int32} {Xtv0a_kinds : Nat → Int32} {Xtv0a_firsts : Nat → Int32} {Xtv0a_seconds : Nat → Int32} {Xtv1f_deeds : Int32} {Xtv1a_kinds : Nat → Int32} {Xtv1a_firsts : Nat → Int32} {Xtv1a_seconds : Nat → Int32} {Xts0f_facts : Int32} {Xts0a_heard : Nat → Int32} {Xts0a_huts : Nat → Int32} {Xts0a_minutes : Nat → Int32} {Xts1f_facts : Int32} {Xts1a_heard : Nat → Int32} {Xts1a_huts : Nat → Int32} {Xts1a_minutes : Nat → Int32} {Xtc0f_voices : Int32} {Xtc0f_step : Int32} {Xtc0a_parts : Nat → Int32} {Xtc0a_heights : Nat → Int32} {Xtc1f_voices : Int32} {Xtc1f_step : Int32} {Xtc1a_parts : Nat → Int32} {Xtc1a_heights : Nat → Int32} {Xm_images : Nat → Option Nat} {Xrlf_huts : Int32} {Xrlf_singers : Int32} {Xrlf_villages : Int32} {Xrlf_dams : Int32} {Xrlf_echoes : Int32} {Xrlf_deep : Int32} {Xrlf_slide : Int32} {Xrla_heights : Nat → Int32} {Xrla_ladders : Nat → Int32} {Xrla_minutes : Nat → Int32} {Xrla_echoFrom : Nat → Int32} {Xrla_echoTo : Nat → Int32} {Xrla_homes : Nat → Int32} {Xrla_talls : Nat → Int32} {Xrla_known : Nat → Int32} {Xrvf_deeds : Int32} {Xrva_kinds : Nat → Int32} {Xrva_firsts : Nat → Int32} {Xrva_seconds : Nat → Int32} {Xrsf_facts : Int32} {Xrsa_heard : Nat → Int32} {Xrsa_huts : Nat → Int32} {Xrsa_minutes : Nat → Int32} {Xrcf_voices : Int32} {Xrcf_step : Int32} {Xrca_parts : Nat → Int32} {Xrca_heights : Nat → Int32} {Xrf_fault : Int32} {Xrf_faultPlace : Int32} {Xra_numbers : Nat → Int32} {Xra_tape : Nat → Int32} {Xrf_length : Int32} {Xrf_behind : Int32} {Xrf_kind : Int32} {Xrf_first : Int32} {Xrf_value : Int32} {Xrf_hutsToldOf : Int32} {Xrf_singersToldOf : Int32} {Xnf_minute : Int32} {Xnf_avalanches : Int32} {Xnf_begun : Int32} {Xnf_climbed : Int32} {Xnf_seed : Int32} {Xna_huts : Nat → Int32} {Xna_known : Nat → Int32} {Xna_levels : Nat → Int32} {Xna_snow : Nat → Int32} {Xna_open : Nat → Int32} {Xpa_heard : Nat → Int32} {Xpa_walked : Nat → Int32} {Xpa_total : Nat → Int32} {Xpa_longest : Nat → Int32} {Xpa_next : Nat → Int32} {Xpa_cover : Nat → Int32} {Xpa_now : Nat → Int32} {Xpa_then : Nat → Int32} {Xko_stands : Option Nat} {Xka_gaps : Nat → Int32} {Xka_behind : Nat → Int32} {Xba_less : Nat → Int32} {Xba_full : Nat → Int32} {Mf_code : Int32} {Ma_tape : Nat → Int32} {Ma_size : Nat → Int32} {Ma_fault : Nat → Int32} {Ma_faultPlace : Nat → Int32} {Ma_many : Nat → Int32} {Ma_lands : Nat → Int32} {Ma_evenings : Nat → Int32} {Ma_sights : Nat → Int32} {Ma_choirs : Nat → Int32} {Mf_reached : Int32} {Mf_length : Int32} {Mf_begins : Int32} {Mf_sort : Int32} {Mf_value : Int32} {Mf_word : Int64} {Mf_wrongAt : Int32} {Mf_laterFault : Int32} {Mf_laterPlace : Int32} {Ma_told : Nat → Int32} {Ma_read : Nat → Int32} {Mf_farHut : Int32} {Mf_farSinger : Int32} {Mf_good : Int32} {Mf_land : Int32} {Mf_huts : Int32} {Mf_singers : Int32} {Mf_evening : Int32} {Ma_at : Nat → Int32} {Ma_knows : Nat → Int32} {Ma_climbed : Nat → Int32} {Ma_snow : Nat → Int32} {Ma_level : Nat → Int32} {Mf_begun : Int32} {Mf_minute : Int32} {Mf_avalanches : Int32} {Ma_run : Nat → Int32} {Ma_covers : Nat → Int32} {Ma_routes : Nat → Int32} {Ma_longest : Nat → Int32} {Ma_steep : Nat → Int32} {Ma_laid : Nat → Int32} {Ma_far : Nat → Int32} {Mf_sight : Int32} {Ma_runs : Nat → Int32} {Mf_choir : Int32} {Mf_voices : Int32} {Ma_rest : Nat → Int64} {Ma_wins : Nat → Int32} {Mf_seed : Int32} {Ma_other : Nat → Int32} {Ma_kept : Nat → Int32} {N : (Int32) → (Int32) → Prop} {H : Heap} {locs : List Loc} {ls : Array Slot}
    (C0 : lw_At p s m meth c b L xs) (hi : i + 6 ≤ L) (hL : L ≤ 3072) (hcs : cells ≤ room_1.cells ∧ slots ≤ room_1.slots) (hbx : s.heap.size ≤ bx) (hbm : bx + 93 ≤ bm) (hK : zK E s)
    (hX : wxW E bx Xta_tape Xtf_length Xtf_fault Xtf_place Xta_counts Xtl0f_huts Xtl0f_singers Xtl0f_villages Xtl0f_dams Xtl0f_echoes Xtl0f_deep Xtl0f_slide Xtl0a_heights Xtl0a_ladders Xtl0a_minutes Xtl0a_echoFrom Xtl0a_echoTo Xtl0a_homes Xtl0a_talls Xtl0a_known Xtl1f_huts Xtl1f_singers Xtl1f_villages Xtl1f_dams Xtl1f_echoes Xtl1f_deep Xtl1f_slide Xtl1a_heights Xtl1a_ladders Xtl1a_minutes Xtl1a_echoFrom Xtl1a_echoTo Xtl1a_homes Xtl1a_talls Xtl1a_known Xtv0f_deeds Xtv0a_kinds Xtv0a_firsts Xtv0a_seconds Xtv1f_deeds Xtv1a_kinds Xtv1a_firsts Xtv1a_seconds Xts0f_facts Xts0a_heard Xts0a_huts Xts0a_minutes Xts1f_facts Xts1a_heard Xts1a_huts Xts1a_minutes Xtc0f_voices Xtc0f_step Xtc0a_parts Xtc0a_heights Xtc1f_voices Xtc1f_step Xtc1a_parts Xtc1a_heights Xm_images Xrlf_huts Xrlf_singers Xrlf_villages Xrlf_dams Xrlf_echoes Xrlf_deep Xrlf_slide Xrla_heights Xrla_ladders Xrla_minutes Xrla_echoFrom Xrla_echoTo Xrla_homes Xrla_talls Xrla_known Xrvf_deeds Xrva_kinds Xrva_firsts Xrva_seconds Xrsf_facts Xrsa_heard Xrsa_huts Xrsa_minutes Xrcf_voices Xrcf_step Xrca_parts Xrca_heights Xrf_fault Xrf_faultPlace Xra_numbers Xra_tape Xrf_length Xrf_behind Xrf_kind Xrf_first Xrf_value Xrf_hutsToldOf Xrf_singersToldOf Xnf_minute Xnf_avalanches Xnf_begun Xnf_climbed Xnf_seed Xna_huts Xna_known Xna_levels Xna_snow Xna_open Xpa_heard Xpa_walked Xpa_total Xpa_longest Xpa_next Xpa_cover Xpa_now Xpa_then Xko_stands Xka_gaps Xka_behind Xba_less Xba_full H) (hM : mW E bm Mf_code Ma_tape Ma_size Ma_fault Ma_faultPlace Ma_many Ma_lands Ma_evenings Ma_sights Ma_choirs Mf_reached Mf_length Mf_begins Mf_sort Mf_value Mf_word Mf_wrongAt Mf_laterFault Mf_laterPlace Ma_told Ma_read Mf_farHut Mf_farSinger Mf_good Mf_land Mf_huts Mf_singers Mf_evening Ma_at Ma_knows Ma_climbed Ma_snow Ma_level Mf_begun Mf_minute Mf_avalanches Ma_run Ma_covers Ma_routes Ma_longest Ma_steep Ma_laid Ma_far Mf_sight Ma_runs Mf_choir Mf_voices Ma_rest Ma_wins Mf_seed Ma_other Ma_kept H) (hS : va_S (fun q => s.heap.size ≤ q) s.heap H locs)
    (hl : lv_has ls 4 [(0, .ref b), (1, .ref bx), (2, .ref bm), (3, .int (nI i))])
    (hw : q_wx_X10_meet_0 Xta_counts (xs (nI i + (1 : Int32)).toNatClampNeg) (xs (nI i + (2 : Int32)).toNatClampNeg) (xs (nI i + (3 : Int32)).toNatClampNeg) (zbo (xs (nI i + (4 : Int32)).toNatClampNeg)) (fun r1 => q_m_meet_0 Mf_code Ma_many Mf_land (xs (nI i + (1 : Int32)).toNatClampNeg) (xs (nI i + (2 : Int32)).toNatClampNeg) (xs (nI i + (3 : Int32)).toNatClampNeg) (zbo (xs (nI i + (4 : Int32)).toNatClampNeg)) (fun r2 Vf_code Vf_land => r1 = r2 ∧ N Vf_code Vf_land)))
    (kk : ∀ (Vf_code : (Int32)) (Vf_land : (Int32)) (H : Heap) (locs : List Loc), N Vf_code Vf_land → wxW E bx Xta_tape Xtf_length Xtf_fault Xtf_place Xta_counts Xtl0f_huts Xtl0f_singers Xtl0f_villages Xtl0f_dams Xtl0f_echoes Xtl0f_deep Xtl0f_slide Xtl0a_heights Xtl0a_ladders Xtl0a_minutes Xtl0a_echoFrom Xtl0a_echoTo Xtl0a_homes Xtl0a_talls Xtl0a_known Xtl1f_huts Xtl1f_singers Xtl1f_villages Xtl1f_dams Xtl1f_echoes Xtl1f_deep Xtl1f_slide Xtl1a_heights Xtl1a_ladders Xtl1a_minutes Xtl1a_echoFrom Xtl1a_echoTo Xtl1a_homes Xtl1a_talls Xtl1a_known Xtv0f_deeds Xtv0a_kinds Xtv0a_firsts Xtv0a_seconds Xtv1f_deeds Xtv1a_kinds Xtv1a_firsts Xtv1a_seconds Xts0f_facts Xts0a_heard Xts0a_huts Xts0a_minutes Xts1f_facts Xts1a_heard Xts1a_huts Xts1a_minutes Xtc0f_voices Xtc0f_step Xtc0a_parts Xtc0a_heights Xtc1f_voices Xtc1f_step Xtc1a_parts Xtc1a_heights Xm_images Xrlf_huts Xrlf_singers Xrlf_villages Xrlf_dams Xrlf_echoes Xrlf_deep Xrlf_slide Xrla_heights Xrla_ladders Xrla_minutes Xrla_echoFrom Xrla_echoTo Xrla_homes Xrla_talls Xrla_known Xrvf_deeds Xrva_kinds Xrva_firsts Xrva_seconds Xrsf_facts Xrsa_heard Xrsa_huts Xrsa_minutes Xrcf_voices Xrcf_step Xrca_parts Xrca_heights Xrf_fault Xrf_faultPlace Xra_numbers Xra_tape Xrf_length Xrf_behind Xrf_kind Xrf_first Xrf_value Xrf_hutsToldOf Xrf_singersToldOf Xnf_minute Xnf_avalanches Xnf_begun Xnf_climbed Xnf_seed Xna_huts Xna_known Xna_levels Xna_snow Xna_open Xpa_heard Xpa_walked Xpa_total Xpa_longest Xpa_next Xpa_cover Xpa_now Xpa_then Xko_stands Xka_gaps Xka_behind Xba_less Xba_full H → mW E bm Vf_code Ma_tape Ma_size Ma_fault Ma_faultPlace Ma_many Ma_lands Ma_evenings Ma_sights Ma_choirs Mf_reached Mf_length Mf_begins Mf_sort Mf_value Mf_word Mf_wrongAt Mf_laterFault Mf_laterPlace Ma_told Ma_read Mf_farHut Mf_farSinger Mf_good Vf_land Mf_huts Mf_singers Mf_evening Ma_at Ma_knows Ma_climbed Ma_snow Ma_level Mf_begun Mf_minute Mf_avalanches Ma_run Ma_covers Ma_routes Ma_longest Ma_steep Ma_laid Ma_far Mf_sight Ma_runs Mf_choir Mf_voices Ma_rest Ma_wins Mf_seed Ma_other Ma_kept H → va_S (fun q => s.heap.size ≤ q) s.heap H locs → W p l e room_1 s m #[Value.ref b] below meth c H locs cells slots (lw_Z below #[Value.ref b] s) (F0 m 1649 ls [])) :
    W p l e room_1 s m #[Value.ref b] below meth c H locs cells slots (lw_Z below #[Value.ref b] s) (F0 m 1228 ls []) := by
  obtain ⟨hx, hb, hr, hml, hown, hts, hX0, hbl, hlocks, hgv⟩ := C0
  have zc : zC p s m #[Value.ref b] meth c cL_law 4 RL ret := ⟨hx, hb, hml, hown, fun w hw => hts w (zb_in hw), hr, hlocks⟩
  have hbA : ¬ (fun q : Nat => s.heap.size ≤ q) b := Nat.not_le.mpr hbl
  have hn1 : vp_in (nI i + (1 : Int32)) L := zidx hi hL rfl (by decide)
  have hn2 : vp_in (nI i + (2 : Int32)) L := zidx hi hL rfl (by decide)
  have hn3 : vp_in (nI i + (3 : Int32)) L := zidx hi hL rfl (by decide)
  have hn4 : vp_in (nI i + (4 : Int32)) L := zidx hi hL rfl (by decide)
  refine lv_aload_n hx hb dL_law_1228 rfl (lv_at hl 1 rfl) ?_
  refine lv_aload_n hx hb dL_law_1229 rfl (lv_at hl 0 rfl) ?_
  refine lv_iload_n hx hb dL_law_1230 rfl (lv_at hl 3 rfl) ?_
  refine lv_iconst (v := (1 : Int32)) hx hb dL_law_1231 (by decide) ?_
  refine lv_iadd hx hb dL_law_1232 ?_
  refine va_sld hx hb hX0 hbl hbA hS hn1 dL_law_1233 ?_
  refine lv_aload_n hx hb dL_law_1234 rfl (lv_at hl 0 rfl) ?_
  refine lv_iload_n hx hb dL_law_1235 rfl (lv_at hl 3 rfl) ?_
  refine lv_iconst (v := (2 : Int32)) hx hb dL_law_1236 (by decide) ?_
  refine lv_iadd hx hb dL_law_1237 ?_
  refine va_sld hx hb hX0 hbl hbA hS hn2 dL_law_1238 ?_
  refine lv_aload_n hx hb dL_law_1239 rfl (lv_at hl 0 rfl) ?_
  refine lv_iload_n hx hb dL_law_1240 rfl (lv_at hl 3 rfl) ?_
  refine lv_iconst (v := (3 : Int32)) hx hb dL_law_1241 (by decide) ?_
  refine lv_iadd hx hb dL_law_1242 ?_
  refine va_sld hx hb hX0 hbl hbA hS hn3 dL_law_1243 ?_
  refine lv_aload_n hx hb dL_law_1244 rfl (lv_at hl 0 rfl) ?_
  refine lv_iload_n hx hb dL_law_1245 rfl (lv_at hl 3 rfl) ?_
  refine lv_iconst (v := (4 : Int32)) hx hb dL_law_1246 (by decide) ?_
  refine lv_iadd hx hb dL_law_1247 ?_
  refine va_sld hx hb hX0 hbl hbA hS hn4 dL_law_1248 ?_
  refine lv_if_eq (tgt := 1256) hx hb dL_law_1249 (by decide) (fun hc0 => ?_) (fun hc0 => ?_)
  · rw [show zbo (xs (nI i + (4 : Int32)).toNatClampNeg) = 0 from if_pos hc0] at hw
    refine lv_iconst (v := (0 : Int32)) hx hb dL_law_1256 (by decide) ?_
    refine zV_i [.int (xs (nI i + (1 : Int32)).toNatClampNeg), .int (xs (nI i + (2 : Int32)).toNatClampNeg), .int (xs (nI i + (3 : Int32)).toNatClampNeg), .int (0 : Int32)] [] zc ky_X10_meet kz_X10_meet kmL_119 (c_wx_X10_meet l hw) (wxPreV0 hK hX) rfl rfl hl.1 (Nat.le_of_ble_eq_true rfl) ⟨rfl, rfl⟩ ⟨Nat.le_of_ble_eq_true rfl, Nat.le_of_ble_eq_true rfl⟩ hcs dL_law_1257 (fun r1 hw => ?_)
    refine lv_aload_n hx hb dL_law_1260 rfl (lv_at hl 2 rfl) ?_
    refine lv_aload_n hx hb dL_law_1261 rfl (lv_at hl 0 rfl) ?_
    refine lv_iload_n hx hb dL_law_1262 rfl (lv_at hl 3 rfl) ?_
    refine lv_iconst (v := (1 : Int32)) hx hb dL_law_1263 (by decide) ?_
    refine lv_iadd hx hb dL_law_1264 ?_
    refine va_sld hx hb hX0 hbl hbA hS hn1 dL_law_1265 ?_
    refine lv_aload_n hx hb dL_law_1266 rfl (lv_at hl 0 rfl) ?_
    refine lv_iload_n hx hb dL_law_1267 rfl (lv_at hl 3 rfl) ?_
    refine lv_iconst (v := (2 : Int32)) hx hb dL_law_1268 (by decide) ?_
    refine lv_iadd hx hb dL_law_1269 ?_
    refine va_sld hx hb hX0 hbl hbA hS hn2 dL_law_1270 ?_
    refine lv_aload_n hx hb dL_law_1271 rfl (lv_at hl 0 rfl) ?_
    refine lv_iload_n hx hb dL_law_1272 rfl (lv_at hl 3 rfl) ?_
    refine lv_iconst (v := (3 : Int32)) hx hb dL_law_1273 (by decide) ?_
    refine lv_iadd hx hb dL_law_1274 ?_
    refine va_sld hx hb hX0 hbl hbA hS hn3 dL_law_1275 ?_
    refine lv_aload_n hx hb dL_law_1276 rfl (lv_at hl 0 rfl) ?_
    refine lv_iload_n hx hb dL_law_1277 rfl (lv_at hl 3 rfl) ?_
    refine lv_iconst (v := (4 : Int32)) hx hb dL_law_1278 (by decide) ?_
    refine lv_iadd hx hb dL_law_1279 ?_
    refine va_sld hx hb hX0 hbl hbA hS hn4 dL_law_1280 ?_
    refine lv_if_eq (tgt := 1288) hx hb dL_law_1281 (by decide) (fun hd => ?_) (fun hd => ?_)
    rotate_left
    · exact absurd hc0 hd
    refine lv_iconst (v := (0 : Int32)) hx hb dL_law_1288 (by decide) ?_
    refine zVx_i [.int (xs (nI i + (1 : Int32)).toNatClampNeg), .int (xs (nI i + (2 : Int32)).toNatClampNeg), .int (xs (nI i + (3 : Int32)).toNatClampNeg), .int (0 : Int32)] [.int r1] zc ky_X11_meet kz_X11_meet kmL_122 (c_m_meet l hw) (mPreV0 hK hM) hS (fun q (h : mA bm q) => Nat.le_trans hbx (Nat.le_trans (Nat.le_trans (Nat.le_add_right bx 93) hbm) h.1)) rfl rfl hl.1 (Nat.le_of_ble_eq_true rfl) ⟨rfl, rfl⟩ ⟨Nat.le_of_ble_eq_true rfl, Nat.le_of_ble_eq_true rfl⟩ hcs dL_law_1289 (fun r2 u H locs hw h9 hk hS => ?_)
    obtain ⟨Vf_code, Vf_land⟩ := u
    have hX := wx_kp hX (fun q h1 h2 h3 => hk q h1 (fun h => zap hbm h.1 h3))
    have hM := h9
    refine lv_icmp_eq (tgt := 1649) hx hb dL_law_1292 (by decide) (fun hd => ?_) (fun hd => absurd hw.1 hd)
    exact kk _ _ _ _ hw.2 hX hM hS
  · rw [show zbo (xs (nI i + (4 : Int32)).toNatClampNeg) = 1 from if_neg hc0] at hw
    refine lv_iconst (v := (1 : Int32)) hx hb dL_law_1252 (by decide) ?_
    refine lv_goto (tgt := 1257) hx hb dL_law_1253 (by decide) ?_
    refine zV_i [.int (xs (nI i + (1 : Int32)).toNatClampNeg), .int (xs (nI i + (2 : Int32)).toNatClampNeg), .int (xs (nI i + (3 : Int32)).toNatClampNeg), .int (1 : Int32)] [] zc ky_X10_meet kz_X10_meet kmL_119 (c_wx_X10_meet l hw) (wxPreV0 hK hX) rfl rfl hl.1 (Nat.le_of_ble_eq_true rfl) ⟨rfl, rfl⟩ ⟨Nat.le_of_ble_eq_true rfl, Nat.le_of_ble_eq_true rfl⟩ hcs dL_law_1257 (fun r1 hw => ?_)
    refine lv_aload_n hx hb dL_law_1260 rfl (lv_at hl 2 rfl) ?_
    refine lv_aload_n hx hb dL_law_1261 rfl (lv_at hl 0 rfl) ?_
    refine lv_iload_n hx hb dL_law_1262 rfl (lv_at hl 3 rfl) ?_
    refine lv_iconst (v := (1 : Int32)) hx hb dL_law_1263 (by decide) ?_
    refine lv_iadd hx hb dL_law_1264 ?_
    refine va_sld hx hb hX0 hbl hbA hS hn1 dL_law_1265 ?_
    refine lv_aload_n hx hb dL_law_1266 rfl (lv_at hl 0 rfl) ?_
    refine lv_iload_n hx hb dL_law_1267 rfl (lv_at hl 3 rfl) ?_
    refine lv_iconst (v := (2 : Int32)) hx hb dL_law_1268 (by decide) ?_
    refine lv_iadd hx hb dL_law_1269 ?_
    refine va_sld hx hb hX0 hbl hbA hS hn2 dL_law_1270 ?_
    refine lv_aload_n hx hb dL_law_1271 rfl (lv_at hl 0 rfl) ?_
    refine lv_iload_n hx hb dL_law_1272 rfl (lv_at hl 3 rfl) ?_
    refine lv_iconst (v := (3 : Int32)) hx hb dL_law_1273 (by decide) ?_
    refine lv_iadd hx hb dL_law_1274 ?_
    refine va_sld hx hb hX0 hbl hbA hS hn3 dL_law_1275 ?_
    refine lv_aload_n hx hb dL_law_1276 rfl (lv_at hl 0 rfl) ?_
    refine lv_iload_n hx hb dL_law_1277 rfl (lv_at hl 3 rfl) ?_
    refine lv_iconst (v := (4 : Int32)) hx hb dL_law_1278 (by decide) ?_
    refine lv_iadd hx hb dL_law_1279 ?_
    refine va_sld hx hb hX0 hbl hbA hS hn4 dL_law_1280 ?_
    refine lv_if_eq (tgt := 1288) hx hb dL_law_1281 (by decide) (fun hd => ?_) (fun hd => ?_)
    · exact absurd hd hc0
    refine lv_iconst (v := (1 : Int32)) hx hb dL_law_1284 (by decide) ?_
    refine lv_goto (tgt := 1289) hx hb dL_law_1285 (by decide) ?_
    refine zVx_i [.int (xs (nI i + (1 : Int32)).toNatClampNeg), .int (xs (nI i + (2 : Int32)).toNatClampNeg), .int (xs (nI i + (3 : Int32)).toNatClampNeg), .int (1 : Int32)] [.int r1] zc ky_X11_meet kz_X11_meet kmL_122 (c_m_meet l hw) (mPreV0 hK hM) hS (fun q (h : mA bm q) => Nat.le_trans hbx (Nat.le_trans (Nat.le_trans (Nat.le_add_right bx 93) hbm) h.1)) rfl rfl hl.1 (Nat.le_of_ble_eq_true rfl) ⟨rfl, rfl⟩ ⟨Nat.le_of_ble_eq_true rfl, Nat.le_of_ble_eq_true rfl⟩ hcs dL_law_1289 (fun r2 u H locs hw h9 hk hS => ?_)
    obtain ⟨Vf_code, Vf_land⟩ := u
    have hX := wx_kp hX (fun q h1 h2 h3 => hk q h1 (fun h => zap hbm h.1 h3))
    have hM := h9
    refine lv_icmp_eq (tgt := 1649) hx hb dL_law_1292 (by decide) (fun hd => ?_) (fun hd => absurd hw.1 hd)
    exact kk _ _ _ _ hw.2 hX hM hS

set_option maxRecDepth 40000 in
set_option maxHeartbeats 4000000 in
theorem ls_25 {p : Program} {l : Launch} {e : Env} {s : State} {m : MethodId} {below : List Frame} {meth : Method} {c : Code} {E : zE} {b L i bx bm cells slots : Nat} {xs : Nat → Int32} {Xta_tape : Nat → Int32} {Xtf_length : Int32} {Xtf_fault : Int32} {Xtf_place : Int32} {Xta_counts : Nat → Int32} {Xtl0f_huts : Int32} {Xtl0f_singers : Int32} {Xtl0f_villages : Int32} {Xtl0f_dams : Int32} {Xtl0f_echoes : Int32} {Xtl0f_deep : Int32} {Xtl0f_slide : Int32} {Xtl0a_heights : Nat → Int32} {Xtl0a_ladders : Nat → Int32} {Xtl0a_minutes : Nat → Int32} {Xtl0a_echoFrom : Nat → Int32} {Xtl0a_echoTo : Nat → Int32} {Xtl0a_homes : Nat → Int32} {Xtl0a_talls : Nat → Int32} {Xtl0a_known : Nat → Int32} {Xtl1f_huts : Int32} {Xtl1f_singers : Int32} {Xtl1f_villages : Int32} {Xtl1f_dams : Int32} {Xtl1f_echoes : Int32} {Xtl1f_deep : Int32} {Xtl1f_slide : Int32} {Xtl1a_heights : Nat → Int32} {Xtl1a_ladders : Nat → Int32} {Xtl1a_minutes : Nat → Int32} {Xtl1a_echoFrom : Nat → Int32} {Xtl1a_echoTo : Nat → Int32} {Xtl1a_homes : Nat → Int32} {Xtl1a_talls : Nat → Int32} {Xtl1a_known : Nat → Int32} {Xtv0f_deeds : Int32} {Xtv0a_kinds : Nat → Int32} {Xtv0a_firsts : Nat → Int32} {Xtv0a_seconds : Nat → Int32} {Xtv1f_deeds : Int32} {Xtv1a_kinds : Nat → Int32} {Xtv1a_firsts : Nat → Int32} {Xtv1a_seconds : Nat → Int32} {Xts0f_facts : Int32} {Xts0a_heard : Nat → Int32} {Xts0a_huts : Nat → Int32} {Xts0a_minutes : Nat → Int32} {Xts1f_facts : Int32} {Xts1a_heard : Nat → Int32} {Xts1a_huts : Nat → Int32} {Xts1a_minutes : Nat → Int32} {Xtc0f_voices : Int32} {Xtc0f_step : Int32} {Xtc0a_parts : Nat → Int32} {Xtc0a_heights : Nat → Int32} {Xtc1f_voices : Int32} {Xtc1f_step : Int32} {Xtc1a_parts : Nat → Int32} {Xtc1a_heights : Nat → Int32} {Xm_images : Nat → Option Nat} {Xrlf_huts : Int32} {Xrlf_singers : Int32} {Xrlf_villages : Int32} {Xrlf_dams : Int32} {Xrlf_echoes : Int32} {Xrlf_deep : Int32} {Xrlf_slide : Int32} {Xrla_heights : Nat → Int32} {Xrla_ladders : Nat → Int32} {Xrla_minutes : Nat → Int32} {Xrla_echoFrom : Nat → Int32} {Xrla_echoTo : Nat → Int32} {Xrla_homes : Nat → Int32} {Xrla_talls : Nat → Int32} {Xrla_known : Nat → Int32} {Xrvf_deeds : Int32} {Xrva_kinds : Nat → Int32} {Xrva_firsts : Nat → Int32} {Xrva_seconds : Nat → Int32} {Xrsf_facts : Int32} {Xrsa_heard : Nat → Int32} {Xrsa_huts : Nat → Int32} {Xrsa_minutes : Nat → Int32} {Xrcf_voices : Int32} {Xrcf_step : Int32} {Xrca_parts : Nat → Int32} {Xrca_heights : Nat → Int32} {Xrf_fault : Int32} {Xrf_faultPlace : Int32} {Xra_numbers : Nat → Int32} {Xra_tape : Nat → Int32} {Xrf_length : Int32} {Xrf_behind : Int32} {Xrf_kind : Int32} {Xrf_first : Int32} {Xrf_value : Int32} {Xrf_hutsToldOf : Int32} {Xrf_singersToldOf : Int32} {Xnf_minute : Int32} {Xnf_avalanches : Int32} {Xnf_begun : Int32} {Xnf_climbed : Int32} {Xnf_seed : Int32} {Xna_huts : Nat → Int32} {Xna_known : Nat → Int32} {Xna_levels : Nat → Int32} {Xna_snow : Nat → Int32} {Xna_open : Nat → Int32} {Xpa_heard : Nat → Int32} {Xpa_walked : Nat → Int32} {Xpa_total : Nat → Int32} {Xpa_longest : Nat → Int32} {Xpa_next : Nat → Int32} {Xpa_cover : Nat → Int32} {Xpa_now : Nat → Int32} {Xpa_then : Nat → Int32} {Xko_stands : Option Nat} {Xka_gaps : Nat → Int32} {Xka_behind : Nat → Int32} {Xba_less : Nat → Int32} {Xba_full : Nat → Int32} {Mf_code : Int32} {Ma_tape : Nat → Int32} {Ma_size : Nat → Int32} {Ma_fault : Nat → Int32} {Ma_faultPlace : Nat → Int32} {Ma_many : Nat → Int32} {Ma_lands : Nat → Int32} {Ma_evenings : Nat → Int32} {Ma_sights : Nat → Int32} {Ma_choirs : Nat → Int32} {Mf_reached : Int32} {Mf_length : Int32} {Mf_begins : Int32} {Mf_sort : Int32} {Mf_value : Int32} {Mf_word : Int64} {Mf_wrongAt : Int32} {Mf_laterFault : Int32} {Mf_laterPlace : Int32} {Ma_told : Nat → Int32} {Ma_read : Nat → Int32} {Mf_farHut : Int32} {Mf_farSinger : Int32} {Mf_good : Int32} {Mf_land : Int32} {Mf_huts : Int32} {Mf_singers : Int32} {Mf_evening : Int32} {Ma_at : Nat → Int32} {Ma_knows : Nat → Int32} {Ma_climbed : Nat → Int32} {Ma_snow : Nat → Int32} {Ma_level : Nat → Int32} {Mf_begun : Int32} {Mf_minute : Int32} {Mf_avalanches : Int32} {Ma_run : Nat → Int32} {Ma_covers : Nat → Int32} {Ma_routes : Nat → Int32} {Ma_longest : Nat → Int32} {Ma_steep : Nat → Int32} {Ma_laid : Nat → Int32} {Ma_far : Nat → Int32} {Mf_sight : Int32} {Ma_runs : Nat → Int32} {Mf_choir : Int32} {Mf_voices : Int32} {Ma_rest : Nat → Int64} {Ma_wins : Nat → Int32} {Mf_seed : Int32} {Ma_other : Nat → Int32} {Ma_kept : Nat → Int32} {N : (Int32) → (Int32) → Prop} {H : Heap} {locs : List Loc} {ls : Array Slot}
    (C0 : lw_At p s m meth c b L xs) (hi : i + 6 ≤ L) (hL : L ≤ 3072) (hcs : cells ≤ room_1.cells ∧ slots ≤ room_1.slots) (hbx : s.heap.size ≤ bx) (hbm : bx + 93 ≤ bm) (hK : zK E s)
    (hX : wxW E bx Xta_tape Xtf_length Xtf_fault Xtf_place Xta_counts Xtl0f_huts Xtl0f_singers Xtl0f_villages Xtl0f_dams Xtl0f_echoes Xtl0f_deep Xtl0f_slide Xtl0a_heights Xtl0a_ladders Xtl0a_minutes Xtl0a_echoFrom Xtl0a_echoTo Xtl0a_homes Xtl0a_talls Xtl0a_known Xtl1f_huts Xtl1f_singers Xtl1f_villages Xtl1f_dams Xtl1f_echoes Xtl1f_deep Xtl1f_slide Xtl1a_heights Xtl1a_ladders Xtl1a_minutes Xtl1a_echoFrom Xtl1a_echoTo Xtl1a_homes Xtl1a_talls Xtl1a_known Xtv0f_deeds Xtv0a_kinds Xtv0a_firsts Xtv0a_seconds Xtv1f_deeds Xtv1a_kinds Xtv1a_firsts Xtv1a_seconds Xts0f_facts Xts0a_heard Xts0a_huts Xts0a_minutes Xts1f_facts Xts1a_heard Xts1a_huts Xts1a_minutes Xtc0f_voices Xtc0f_step Xtc0a_parts Xtc0a_heights Xtc1f_voices Xtc1f_step Xtc1a_parts Xtc1a_heights Xm_images Xrlf_huts Xrlf_singers Xrlf_villages Xrlf_dams Xrlf_echoes Xrlf_deep Xrlf_slide Xrla_heights Xrla_ladders Xrla_minutes Xrla_echoFrom Xrla_echoTo Xrla_homes Xrla_talls Xrla_known Xrvf_deeds Xrva_kinds Xrva_firsts Xrva_seconds Xrsf_facts Xrsa_heard Xrsa_huts Xrsa_minutes Xrcf_voices Xrcf_step Xrca_parts Xrca_heights Xrf_fault Xrf_faultPlace Xra_numbers Xra_tape Xrf_length Xrf_behind Xrf_kind Xrf_first Xrf_value Xrf_hutsToldOf Xrf_singersToldOf Xnf_minute Xnf_avalanches Xnf_begun Xnf_climbed Xnf_seed Xna_huts Xna_known Xna_levels Xna_snow Xna_open Xpa_heard Xpa_walked Xpa_total Xpa_longest Xpa_next Xpa_cover Xpa_now Xpa_then Xko_stands Xka_gaps Xka_behind Xba_less Xba_full H) (hM : mW E bm Mf_code Ma_tape Ma_size Ma_fault Ma_faultPlace Ma_many Ma_lands Ma_evenings Ma_sights Ma_choirs Mf_reached Mf_length Mf_begins Mf_sort Mf_value Mf_word Mf_wrongAt Mf_laterFault Mf_laterPlace Ma_told Ma_read Mf_farHut Mf_farSinger Mf_good Mf_land Mf_huts Mf_singers Mf_evening Ma_at Ma_knows Ma_climbed Ma_snow Ma_level Mf_begun Mf_minute Mf_avalanches Ma_run Ma_covers Ma_routes Ma_longest Ma_steep Ma_laid Ma_far Mf_sight Ma_runs Mf_choir Mf_voices Ma_rest Ma_wins Mf_seed Ma_other Ma_kept H) (hS : va_S (fun q => s.heap.size ≤ q) s.heap H locs)
    (hl : lv_has ls 4 [(0, .ref b), (1, .ref bx), (2, .ref bm), (3, .int (nI i))])
    (hw : q_wx_X10_carry_0 Xta_counts (xs (nI i + (1 : Int32)).toNatClampNeg) (xs (nI i + (2 : Int32)).toNatClampNeg) (zbo (xs (nI i + (3 : Int32)).toNatClampNeg)) (fun r1 => q_m_carry_0 Mf_code Ma_many Mf_land (xs (nI i + (1 : Int32)).toNatClampNeg) (xs (nI i + (2 : Int32)).toNatClampNeg) (zbo (xs (nI i + (3 : Int32)).toNatClampNeg)) (fun r2 Vf_code Vf_land => r1 = r2 ∧ N Vf_code Vf_land)))
    (kk : ∀ (Vf_code : (Int32)) (Vf_land : (Int32)) (H : Heap) (locs : List Loc), N Vf_code Vf_land → wxW E bx Xta_tape Xtf_length Xtf_fault Xtf_place Xta_counts Xtl0f_huts Xtl0f_singers Xtl0f_villages Xtl0f_dams Xtl0f_echoes Xtl0f_deep Xtl0f_slide Xtl0a_heights Xtl0a_ladders Xtl0a_minutes Xtl0a_echoFrom Xtl0a_echoTo Xtl0a_homes Xtl0a_talls Xtl0a_known Xtl1f_huts Xtl1f_singers Xtl1f_villages Xtl1f_dams Xtl1f_echoes Xtl1f_deep Xtl1f_slide Xtl1a_heights Xtl1a_ladders Xtl1a_minutes Xtl1a_echoFrom Xtl1a_echoTo Xtl1a_homes Xtl1a_talls Xtl1a_known Xtv0f_deeds Xtv0a_kinds Xtv0a_firsts Xtv0a_seconds Xtv1f_deeds Xtv1a_kinds Xtv1a_firsts Xtv1a_seconds Xts0f_facts Xts0a_heard Xts0a_huts Xts0a_minutes Xts1f_facts Xts1a_heard Xts1a_huts Xts1a_minutes Xtc0f_voices Xtc0f_step Xtc0a_parts Xtc0a_heights Xtc1f_voices Xtc1f_step Xtc1a_parts Xtc1a_heights Xm_images Xrlf_huts Xrlf_singers Xrlf_villages Xrlf_dams Xrlf_echoes Xrlf_deep Xrlf_slide Xrla_heights Xrla_ladders Xrla_minutes Xrla_echoFrom Xrla_echoTo Xrla_homes Xrla_talls Xrla_known Xrvf_deeds Xrva_kinds Xrva_firsts Xrva_seconds Xrsf_facts Xrsa_heard Xrsa_huts Xrsa_minutes Xrcf_voices Xrcf_step Xrca_parts Xrca_heights Xrf_fault Xrf_faultPlace Xra_numbers Xra_tape Xrf_length Xrf_behind Xrf_kind Xrf_first Xrf_value Xrf_hutsToldOf Xrf_singersToldOf Xnf_minute Xnf_avalanches Xnf_begun Xnf_climbed Xnf_seed Xna_huts Xna_known Xna_levels Xna_snow Xna_open Xpa_heard Xpa_walked Xpa_total Xpa_longest Xpa_next Xpa_cover Xpa_now Xpa_then Xko_stands Xka_gaps Xka_behind Xba_less Xba_full H → mW E bm Vf_code Ma_tape Ma_size Ma_fault Ma_faultPlace Ma_many Ma_lands Ma_evenings Ma_sights Ma_choirs Mf_reached Mf_length Mf_begins Mf_sort Mf_value Mf_word Mf_wrongAt Mf_laterFault Mf_laterPlace Ma_told Ma_read Mf_farHut Mf_farSinger Mf_good Vf_land Mf_huts Mf_singers Mf_evening Ma_at Ma_knows Ma_climbed Ma_snow Ma_level Mf_begun Mf_minute Mf_avalanches Ma_run Ma_covers Ma_routes Ma_longest Ma_steep Ma_laid Ma_far Mf_sight Ma_runs Mf_choir Mf_voices Ma_rest Ma_wins Mf_seed Ma_other Ma_kept H → va_S (fun q => s.heap.size ≤ q) s.heap H locs → W p l e room_1 s m #[Value.ref b] below meth c H locs cells slots (lw_Z below #[Value.ref b] s) (F0 m 1649 ls [])) :
    W p l e room_1 s m #[Value.ref b] below meth c H locs cells slots (lw_Z below #[Value.ref b] s) (F0 m 1297 ls []) := by
  obtain ⟨hx, hb, hr, hml, hown, hts, hX0, hbl, hlocks, hgv⟩ := C0
  have zc : zC p s m #[Value.ref b] meth c cL_law 4 RL ret := ⟨hx, hb, hml, hown, fun w hw => hts w (zb_in hw), hr, hlocks⟩
  have hbA : ¬ (fun q : Nat => s.heap.size ≤ q) b := Nat.not_le.mpr hbl
  have hn1 : vp_in (nI i + (1 : Int32)) L := zidx hi hL rfl (by decide)
  have hn2 : vp_in (nI i + (2 : Int32)) L := zidx hi hL rfl (by decide)
  have hn3 : vp_in (nI i + (3 : Int32)) L := zidx hi hL rfl (by decide)
  refine lv_aload_n hx hb dL_law_1297 rfl (lv_at hl 1 rfl) ?_
  refine lv_aload_n hx hb dL_law_1298 rfl (lv_at hl 0 rfl) ?_
  refine lv_iload_n hx hb dL_law_1299 rfl (lv_at hl 3 rfl) ?_
  refine lv_iconst (v := (1 : Int32)) hx hb dL_law_1300 (by decide) ?_
  refine lv_iadd hx hb dL_law_1301 ?_
  refine va_sld hx hb hX0 hbl hbA hS hn1 dL_law_1302 ?_
  refine lv_aload_n hx hb dL_law_1303 rfl (lv_at hl 0 rfl) ?_
  refine lv_iload_n hx hb dL_law_1304 rfl (lv_at hl 3 rfl) ?_
  refine lv_iconst (v := (2 : Int32)) hx hb dL_law_1305 (by decide) ?_
  refine lv_iadd hx hb dL_law_1306 ?_
  refine va_sld hx hb hX0 hbl hbA hS hn2 dL_law_1307 ?_
  refine lv_aload_n hx hb dL_law_1308 rfl (lv_at hl 0 rfl) ?_
  refine lv_iload_n hx hb dL_law_1309 rfl (lv_at hl 3 rfl) ?_
  refine lv_iconst (v := (3 : Int32)) hx hb dL_law_1310 (by decide) ?_
  refine lv_iadd hx hb dL_law_1311 ?_
  refine va_sld hx hb hX0 hbl hbA hS hn3 dL_law_1312 ?_
  refine lv_if_eq (tgt := 1320) hx hb dL_law_1313 (by decide) (fun hc0 => ?_) (fun hc0 => ?_)
  · rw [show zbo (xs (nI i + (3 : Int32)).toNatClampNeg) = 0 from if_pos hc0] at hw
    refine lv_iconst (v := (0 : Int32)) hx hb dL_law_1320 (by decide) ?_
    refine zV_i [.int (xs (nI i + (1 : Int32)).toNatClampNeg), .int (xs (nI i + (2 : Int32)).toNatClampNeg), .int (0 : Int32)] [] zc ky_X10_carry kz_X10_carry kmL_123 (c_wx_X10_carry l hw) (wxPreV0 hK hX) rfl rfl hl.1 (Nat.le_of_ble_eq_true rfl) ⟨rfl, rfl⟩ ⟨Nat.le_of_ble_eq_true rfl, Nat.le_of_ble_eq_true rfl⟩ hcs dL_law_1321 (fun r1 hw => ?_)
    refine lv_aload_n hx hb dL_law_1324 rfl (lv_at hl 2 rfl) ?_
    refine lv_aload_n hx hb dL_law_1325 rfl (lv_at hl 0 rfl) ?_
    refine lv_iload_n hx hb dL_law_1326 rfl (lv_at hl 3 rfl) ?_
    refine lv_iconst (v := (1 : Int32)) hx hb dL_law_1327 (by decide) ?_
    refine lv_iadd hx hb dL_law_1328 ?_
    refine va_sld hx hb hX0 hbl hbA hS hn1 dL_law_1329 ?_
    refine lv_aload_n hx hb dL_law_1330 rfl (lv_at hl 0 rfl) ?_
    refine lv_iload_n hx hb dL_law_1331 rfl (lv_at hl 3 rfl) ?_
    refine lv_iconst (v := (2 : Int32)) hx hb dL_law_1332 (by decide) ?_
    refine lv_iadd hx hb dL_law_1333 ?_
    refine va_sld hx hb hX0 hbl hbA hS hn2 dL_law_1334 ?_
    refine lv_aload_n hx hb dL_law_1335 rfl (lv_at hl 0 rfl) ?_
    refine lv_iload_n hx hb dL_law_1336 rfl (lv_at hl 3 rfl) ?_
    refine lv_iconst (v := (3 : Int32)) hx hb dL_law_1337 (by decide) ?_
    refine lv_iadd hx hb dL_law_1338 ?_
    refine va_sld hx hb hX0 hbl hbA hS hn3 dL_law_1339 ?_
    refine lv_if_eq (tgt := 1347) hx hb dL_law_1340 (by decide) (fun hd => ?_) (fun hd => ?_)
    rotate_left
    · exact absurd hc0 hd
    refine lv_iconst (v := (0 : Int32)) hx hb dL_law_1347 (by decide) ?_
    refine zVx_i [.int (xs (nI i + (1 : Int32)).toNatClampNeg), .int (xs (nI i + (2 : Int32)).toNatClampNeg), .int (0 : Int32)] [.int r1] zc ky_X11_carry kz_X11_carry kmL_126 (c_m_carry l hw) (mPreV0 hK hM) hS (fun q (h : mA bm q) => Nat.le_trans hbx (Nat.le_trans (Nat.le_trans (Nat.le_add_right bx 93) hbm) h.1)) rfl rfl hl.1 (Nat.le_of_ble_eq_true rfl) ⟨rfl, rfl⟩ ⟨Nat.le_of_ble_eq_true rfl, Nat.le_of_ble_eq_true rfl⟩ hcs dL_law_1348 (fun r2 u H locs hw h9 hk hS => ?_)
    obtain ⟨Vf_code, Vf_land⟩ := u
    have hX := wx_kp hX (fun q h1 h2 h3 => hk q h1 (fun h => zap hbm h.1 h3))
    have hM := h9
    refine lv_icmp_eq (tgt := 1649) hx hb dL_law_1351 (by decide) (fun hd => ?_) (fun hd => absurd hw.1 hd)
    exact kk _ _ _ _ hw.2 hX hM hS
  · rw [show zbo (xs (nI i + (3 : Int32)).toNatClampNeg) = 1 from if_neg hc0] at hw
    refine lv_iconst (v := (1 : Int32)) hx hb dL_law_1316 (by decide) ?_
    refine lv_goto (tgt := 1321) hx hb dL_law_1317 (by decide) ?_
    refine zV_i [.int (xs (nI i + (1 : Int32)).toNatClampNeg), .int (xs (nI i + (2 : Int32)).toNatClampNeg), .int (1 : Int32)] [] zc ky_X10_carry kz_X10_carry kmL_123 (c_wx_X10_carry l hw) (wxPreV0 hK hX) rfl rfl hl.1 (Nat.le_of_ble_eq_true rfl) ⟨rfl, rfl⟩ ⟨Nat.le_of_ble_eq_true rfl, Nat.le_of_ble_eq_true rfl⟩ hcs dL_law_1321 (fun r1 hw => ?_)
    refine lv_aload_n hx hb dL_law_1324 rfl (lv_at hl 2 rfl) ?_
    refine lv_aload_n hx hb dL_law_1325 rfl (lv_at hl 0 rfl) ?_
    refine lv_iload_n hx hb dL_law_1326 rfl (lv_at hl 3 rfl) ?_
    refine lv_iconst (v := (1 : Int32)) hx hb dL_law_1327 (by decide) ?_
    refine lv_iadd hx hb dL_law_1328 ?_
    refine va_sld hx hb hX0 hbl hbA hS hn1 dL_law_1329 ?_
    refine lv_aload_n hx hb dL_law_1330 rfl (lv_at hl 0 rfl) ?_
    refine lv_iload_n hx hb dL_law_1331 rfl (lv_at hl 3 rfl) ?_
    refine lv_iconst (v := (2 : Int32)) hx hb dL_law_1332 (by decide) ?_
    refine lv_iadd hx hb dL_law_1333 ?_
    refine va_sld hx hb hX0 hbl hbA hS hn2 dL_law_1334 ?_
    refine lv_aload_n hx hb dL_law_1335 rfl (lv_at hl 0 rfl) ?_
    refine lv_iload_n hx hb dL_law_1336 rfl (lv_at hl 3 rfl) ?_
    refine lv_iconst (v := (3 : Int32)) hx hb dL_law_1337 (by decide) ?_
    refine lv_iadd hx hb dL_law_1338 ?_
    refine va_sld hx hb hX0 hbl hbA hS hn3 dL_law_1339 ?_
    refine lv_if_eq (tgt := 1347) hx hb dL_law_1340 (by decide) (fun hd => ?_) (fun hd => ?_)
    · exact absurd hd hc0
    refine lv_iconst (v := (1 : Int32)) hx hb dL_law_1343 (by decide) ?_
    refine lv_goto (tgt := 1348) hx hb dL_law_1344 (by decide) ?_
    refine zVx_i [.int (xs (nI i + (1 : Int32)).toNatClampNeg), .int (xs (nI i + (2 : Int32)).toNatClampNeg), .int (1 : Int32)] [.int r1] zc ky_X11_carry kz_X11_carry kmL_126 (c_m_carry l hw) (mPreV0 hK hM) hS (fun q (h : mA bm q) => Nat.le_trans hbx (Nat.le_trans (Nat.le_trans (Nat.le_add_right bx 93) hbm) h.1)) rfl rfl hl.1 (Nat.le_of_ble_eq_true rfl) ⟨rfl, rfl⟩ ⟨Nat.le_of_ble_eq_true rfl, Nat.le_of_ble_eq_true rfl⟩ hcs dL_law_1348 (fun r2 u H locs hw h9 hk hS => ?_)
    obtain ⟨Vf_code, Vf_land⟩ := u
    have hX := wx_kp hX (fun q h1 h2 h3 => hk q h1 (fun h => zap hbm h.1 h3))
    have hM := h9
    refine lv_icmp_eq (tgt := 1649) hx hb dL_law_1351 (by decide) (fun hd => ?_) (fun hd => absurd hw.1 hd)
    exact kk _ _ _ _ hw.2 hX hM hS

set_option maxRecDepth 40000 in
set_option maxHeartbeats 4000000 in
theorem ls_26 {p : Program} {l : Launch} {e : Env} {s : State} {m : MethodId} {below : List Frame} {meth : Method} {c : Code} {E : zE} {b L i bx bm cells slots : Nat} {xs : Nat → Int32} {Xta_tape : Nat → Int32} {Xtf_length : Int32} {Xtf_fault : Int32} {Xtf_place : Int32} {Xta_counts : Nat → Int32} {Xtl0f_huts : Int32} {Xtl0f_singers : Int32} {Xtl0f_villages : Int32} {Xtl0f_dams : Int32} {Xtl0f_echoes : Int32} {Xtl0f_deep : Int32} {Xtl0f_slide : Int32} {Xtl0a_heights : Nat → Int32} {Xtl0a_ladders : Nat → Int32} {Xtl0a_minutes : Nat → Int32} {Xtl0a_echoFrom : Nat → Int32} {Xtl0a_echoTo : Nat → Int32} {Xtl0a_homes : Nat → Int32} {Xtl0a_talls : Nat → Int32} {Xtl0a_known : Nat → Int32} {Xtl1f_huts : Int32} {Xtl1f_singers : Int32} {Xtl1f_villages : Int32} {Xtl1f_dams : Int32} {Xtl1f_echoes : Int32} {Xtl1f_deep : Int32} {Xtl1f_slide : Int32} {Xtl1a_heights : Nat → Int32} {Xtl1a_ladders : Nat → Int32} {Xtl1a_minutes : Nat → Int32} {Xtl1a_echoFrom : Nat → Int32} {Xtl1a_echoTo : Nat → Int32} {Xtl1a_homes : Nat → Int32} {Xtl1a_talls : Nat → Int32} {Xtl1a_known : Nat → Int32} {Xtv0f_deeds : Int32} {Xtv0a_kinds : Nat → Int32} {Xtv0a_firsts : Nat → Int32} {Xtv0a_seconds : Nat → Int32} {Xtv1f_deeds : Int32} {Xtv1a_kinds : Nat → Int32} {Xtv1a_firsts : Nat → Int32} {Xtv1a_seconds : Nat → Int32} {Xts0f_facts : Int32} {Xts0a_heard : Nat → Int32} {Xts0a_huts : Nat → Int32} {Xts0a_minutes : Nat → Int32} {Xts1f_facts : Int32} {Xts1a_heard : Nat → Int32} {Xts1a_huts : Nat → Int32} {Xts1a_minutes : Nat → Int32} {Xtc0f_voices : Int32} {Xtc0f_step : Int32} {Xtc0a_parts : Nat → Int32} {Xtc0a_heights : Nat → Int32} {Xtc1f_voices : Int32} {Xtc1f_step : Int32} {Xtc1a_parts : Nat → Int32} {Xtc1a_heights : Nat → Int32} {Xm_images : Nat → Option Nat} {Xrlf_huts : Int32} {Xrlf_singers : Int32} {Xrlf_villages : Int32} {Xrlf_dams : Int32} {Xrlf_echoes : Int32} {Xrlf_deep : Int32} {Xrlf_slide : Int32} {Xrla_heights : Nat → Int32} {Xrla_ladders : Nat → Int32} {Xrla_minutes : Nat → Int32} {Xrla_echoFrom : Nat → Int32} {Xrla_echoTo : Nat → Int32} {Xrla_homes : Nat → Int32} {Xrla_talls : Nat → Int32} {Xrla_known : Nat → Int32} {Xrvf_deeds : Int32} {Xrva_kinds : Nat → Int32} {Xrva_firsts : Nat → Int32} {Xrva_seconds : Nat → Int32} {Xrsf_facts : Int32} {Xrsa_heard : Nat → Int32} {Xrsa_huts : Nat → Int32} {Xrsa_minutes : Nat → Int32} {Xrcf_voices : Int32} {Xrcf_step : Int32} {Xrca_parts : Nat → Int32} {Xrca_heights : Nat → Int32} {Xrf_fault : Int32} {Xrf_faultPlace : Int32} {Xra_numbers : Nat → Int32} {Xra_tape : Nat → Int32} {Xrf_length : Int32} {Xrf_behind : Int32} {Xrf_kind : Int32} {Xrf_first : Int32} {Xrf_value : Int32} {Xrf_hutsToldOf : Int32} {Xrf_singersToldOf : Int32} {Xnf_minute : Int32} {Xnf_avalanches : Int32} {Xnf_begun : Int32} {Xnf_climbed : Int32} {Xnf_seed : Int32} {Xna_huts : Nat → Int32} {Xna_known : Nat → Int32} {Xna_levels : Nat → Int32} {Xna_snow : Nat → Int32} {Xna_open : Nat → Int32} {Xpa_heard : Nat → Int32} {Xpa_walked : Nat → Int32} {Xpa_total : Nat → Int32} {Xpa_longest : Nat → Int32} {Xpa_next : Nat → Int32} {Xpa_cover : Nat → Int32} {Xpa_now : Nat → Int32} {Xpa_then : Nat → Int32} {Xko_stands : Option Nat} {Xka_gaps : Nat → Int32} {Xka_behind : Nat → Int32} {Xba_less : Nat → Int32} {Xba_full : Nat → Int32} {Mf_code : Int32} {Ma_tape : Nat → Int32} {Ma_size : Nat → Int32} {Ma_fault : Nat → Int32} {Ma_faultPlace : Nat → Int32} {Ma_many : Nat → Int32} {Ma_lands : Nat → Int32} {Ma_evenings : Nat → Int32} {Ma_sights : Nat → Int32} {Ma_choirs : Nat → Int32} {Mf_reached : Int32} {Mf_length : Int32} {Mf_begins : Int32} {Mf_sort : Int32} {Mf_value : Int32} {Mf_word : Int64} {Mf_wrongAt : Int32} {Mf_laterFault : Int32} {Mf_laterPlace : Int32} {Ma_told : Nat → Int32} {Ma_read : Nat → Int32} {Mf_farHut : Int32} {Mf_farSinger : Int32} {Mf_good : Int32} {Mf_land : Int32} {Mf_huts : Int32} {Mf_singers : Int32} {Mf_evening : Int32} {Ma_at : Nat → Int32} {Ma_knows : Nat → Int32} {Ma_climbed : Nat → Int32} {Ma_snow : Nat → Int32} {Ma_level : Nat → Int32} {Mf_begun : Int32} {Mf_minute : Int32} {Mf_avalanches : Int32} {Ma_run : Nat → Int32} {Ma_covers : Nat → Int32} {Ma_routes : Nat → Int32} {Ma_longest : Nat → Int32} {Ma_steep : Nat → Int32} {Ma_laid : Nat → Int32} {Ma_far : Nat → Int32} {Mf_sight : Int32} {Ma_runs : Nat → Int32} {Mf_choir : Int32} {Mf_voices : Int32} {Ma_rest : Nat → Int64} {Ma_wins : Nat → Int32} {Mf_seed : Int32} {Ma_other : Nat → Int32} {Ma_kept : Nat → Int32} {N : (Int32) → (Int32) → Prop} {H : Heap} {locs : List Loc} {ls : Array Slot}
    (C0 : lw_At p s m meth c b L xs) (hi : i + 6 ≤ L) (hL : L ≤ 3072) (hcs : cells ≤ room_1.cells ∧ slots ≤ room_1.slots) (hbx : s.heap.size ≤ bx) (hbm : bx + 93 ≤ bm) (hK : zK E s)
    (hX : wxW E bx Xta_tape Xtf_length Xtf_fault Xtf_place Xta_counts Xtl0f_huts Xtl0f_singers Xtl0f_villages Xtl0f_dams Xtl0f_echoes Xtl0f_deep Xtl0f_slide Xtl0a_heights Xtl0a_ladders Xtl0a_minutes Xtl0a_echoFrom Xtl0a_echoTo Xtl0a_homes Xtl0a_talls Xtl0a_known Xtl1f_huts Xtl1f_singers Xtl1f_villages Xtl1f_dams Xtl1f_echoes Xtl1f_deep Xtl1f_slide Xtl1a_heights Xtl1a_ladders Xtl1a_minutes Xtl1a_echoFrom Xtl1a_echoTo Xtl1a_homes Xtl1a_talls Xtl1a_known Xtv0f_deeds Xtv0a_kinds Xtv0a_firsts Xtv0a_seconds Xtv1f_deeds Xtv1a_kinds Xtv1a_firsts Xtv1a_seconds Xts0f_facts Xts0a_heard Xts0a_huts Xts0a_minutes Xts1f_facts Xts1a_heard Xts1a_huts Xts1a_minutes Xtc0f_voices Xtc0f_step Xtc0a_parts Xtc0a_heights Xtc1f_voices Xtc1f_step Xtc1a_parts Xtc1a_heights Xm_images Xrlf_huts Xrlf_singers Xrlf_villages Xrlf_dams Xrlf_echoes Xrlf_deep Xrlf_slide Xrla_heights Xrla_ladders Xrla_minutes Xrla_echoFrom Xrla_echoTo Xrla_homes Xrla_talls Xrla_known Xrvf_deeds Xrva_kinds Xrva_firsts Xrva_seconds Xrsf_facts Xrsa_heard Xrsa_huts Xrsa_minutes Xrcf_voices Xrcf_step Xrca_parts Xrca_heights Xrf_fault Xrf_faultPlace Xra_numbers Xra_tape Xrf_length Xrf_behind Xrf_kind Xrf_first Xrf_value Xrf_hutsToldOf Xrf_singersToldOf Xnf_minute Xnf_avalanches Xnf_begun Xnf_climbed Xnf_seed Xna_huts Xna_known Xna_levels Xna_snow Xna_open Xpa_heard Xpa_walked Xpa_total Xpa_longest Xpa_next Xpa_cover Xpa_now Xpa_then Xko_stands Xka_gaps Xka_behind Xba_less Xba_full H) (hM : mW E bm Mf_code Ma_tape Ma_size Ma_fault Ma_faultPlace Ma_many Ma_lands Ma_evenings Ma_sights Ma_choirs Mf_reached Mf_length Mf_begins Mf_sort Mf_value Mf_word Mf_wrongAt Mf_laterFault Mf_laterPlace Ma_told Ma_read Mf_farHut Mf_farSinger Mf_good Mf_land Mf_huts Mf_singers Mf_evening Ma_at Ma_knows Ma_climbed Ma_snow Ma_level Mf_begun Mf_minute Mf_avalanches Ma_run Ma_covers Ma_routes Ma_longest Ma_steep Ma_laid Ma_far Mf_sight Ma_runs Mf_choir Mf_voices Ma_rest Ma_wins Mf_seed Ma_other Ma_kept H) (hS : va_S (fun q => s.heap.size ≤ q) s.heap H locs)
    (hl : lv_has ls 4 [(0, .ref b), (1, .ref bx), (2, .ref bm), (3, .int (nI i))])
    (hw : q_wx_X10_join_0 Xta_counts (xs (nI i + (1 : Int32)).toNatClampNeg) (xs (nI i + (2 : Int32)).toNatClampNeg) (xs (nI i + (3 : Int32)).toNatClampNeg) (zbo (xs (nI i + (4 : Int32)).toNatClampNeg)) (fun r1 => q_m_join_0 Mf_code Ma_many Mf_land (xs (nI i + (1 : Int32)).toNatClampNeg) (xs (nI i + (2 : Int32)).toNatClampNeg) (xs (nI i + (3 : Int32)).toNatClampNeg) (zbo (xs (nI i + (4 : Int32)).toNatClampNeg)) (fun r2 Vf_code Vf_land => r1 = r2 ∧ N Vf_code Vf_land)))
    (kk : ∀ (Vf_code : (Int32)) (Vf_land : (Int32)) (H : Heap) (locs : List Loc), N Vf_code Vf_land → wxW E bx Xta_tape Xtf_length Xtf_fault Xtf_place Xta_counts Xtl0f_huts Xtl0f_singers Xtl0f_villages Xtl0f_dams Xtl0f_echoes Xtl0f_deep Xtl0f_slide Xtl0a_heights Xtl0a_ladders Xtl0a_minutes Xtl0a_echoFrom Xtl0a_echoTo Xtl0a_homes Xtl0a_talls Xtl0a_known Xtl1f_huts Xtl1f_singers Xtl1f_villages Xtl1f_dams Xtl1f_echoes Xtl1f_deep Xtl1f_slide Xtl1a_heights Xtl1a_ladders Xtl1a_minutes Xtl1a_echoFrom Xtl1a_echoTo Xtl1a_homes Xtl1a_talls Xtl1a_known Xtv0f_deeds Xtv0a_kinds Xtv0a_firsts Xtv0a_seconds Xtv1f_deeds Xtv1a_kinds Xtv1a_firsts Xtv1a_seconds Xts0f_facts Xts0a_heard Xts0a_huts Xts0a_minutes Xts1f_facts Xts1a_heard Xts1a_huts Xts1a_minutes Xtc0f_voices Xtc0f_step Xtc0a_parts Xtc0a_heights Xtc1f_voices Xtc1f_step Xtc1a_parts Xtc1a_heights Xm_images Xrlf_huts Xrlf_singers Xrlf_villages Xrlf_dams Xrlf_echoes Xrlf_deep Xrlf_slide Xrla_heights Xrla_ladders Xrla_minutes Xrla_echoFrom Xrla_echoTo Xrla_homes Xrla_talls Xrla_known Xrvf_deeds Xrva_kinds Xrva_firsts Xrva_seconds Xrsf_facts Xrsa_heard Xrsa_huts Xrsa_minutes Xrcf_voices Xrcf_step Xrca_parts Xrca_heights Xrf_fault Xrf_faultPlace Xra_numbers Xra_tape Xrf_length Xrf_behind Xrf_kind Xrf_first Xrf_value Xrf_hutsToldOf Xrf_singersToldOf Xnf_minute Xnf_avalanches Xnf_begun Xnf_climbed Xnf_seed Xna_huts Xna_known Xna_levels Xna_snow Xna_open Xpa_heard Xpa_walked Xpa_total Xpa_longest Xpa_next Xpa_cover Xpa_now Xpa_then Xko_stands Xka_gaps Xka_behind Xba_less Xba_full H → mW E bm Vf_code Ma_tape Ma_size Ma_fault Ma_faultPlace Ma_many Ma_lands Ma_evenings Ma_sights Ma_choirs Mf_reached Mf_length Mf_begins Mf_sort Mf_value Mf_word Mf_wrongAt Mf_laterFault Mf_laterPlace Ma_told Ma_read Mf_farHut Mf_farSinger Mf_good Vf_land Mf_huts Mf_singers Mf_evening Ma_at Ma_knows Ma_climbed Ma_snow Ma_level Mf_begun Mf_minute Mf_avalanches Ma_run Ma_covers Ma_routes Ma_longest Ma_steep Ma_laid Ma_far Mf_sight Ma_runs Mf_choir Mf_voices Ma_rest Ma_wins Mf_seed Ma_other Ma_kept H → va_S (fun q => s.heap.size ≤ q) s.heap H locs → W p l e room_1 s m #[Value.ref b] below meth c H locs cells slots (lw_Z below #[Value.ref b] s) (F0 m 1649 ls [])) :
    W p l e room_1 s m #[Value.ref b] below meth c H locs cells slots (lw_Z below #[Value.ref b] s) (F0 m 1356 ls []) := by
  obtain ⟨hx, hb, hr, hml, hown, hts, hX0, hbl, hlocks, hgv⟩ := C0
  have zc : zC p s m #[Value.ref b] meth c cL_law 4 RL ret := ⟨hx, hb, hml, hown, fun w hw => hts w (zb_in hw), hr, hlocks⟩
  have hbA : ¬ (fun q : Nat => s.heap.size ≤ q) b := Nat.not_le.mpr hbl
  have hn1 : vp_in (nI i + (1 : Int32)) L := zidx hi hL rfl (by decide)
  have hn2 : vp_in (nI i + (2 : Int32)) L := zidx hi hL rfl (by decide)
  have hn3 : vp_in (nI i + (3 : Int32)) L := zidx hi hL rfl (by decide)
  have hn4 : vp_in (nI i + (4 : Int32)) L := zidx hi hL rfl (by decide)
  refine lv_aload_n hx hb dL_law_1356 rfl (lv_at hl 1 rfl) ?_
  refine lv_aload_n hx hb dL_law_1357 rfl (lv_at hl 0 rfl) ?_
  refine lv_iload_n hx hb dL_law_1358 rfl (lv_at hl 3 rfl) ?_
  refine lv_iconst (v := (1 : Int32)) hx hb dL_law_1359 (by decide) ?_
  refine lv_iadd hx hb dL_law_1360 ?_
  refine va_sld hx hb hX0 hbl hbA hS hn1 dL_law_1361 ?_
  refine lv_aload_n hx hb dL_law_1362 rfl (lv_at hl 0 rfl) ?_
  refine lv_iload_n hx hb dL_law_1363 rfl (lv_at hl 3 rfl) ?_
  refine lv_iconst (v := (2 : Int32)) hx hb dL_law_1364 (by decide) ?_
  refine lv_iadd hx hb dL_law_1365 ?_
  refine va_sld hx hb hX0 hbl hbA hS hn2 dL_law_1366 ?_
  refine lv_aload_n hx hb dL_law_1367 rfl (lv_at hl 0 rfl) ?_
  refine lv_iload_n hx hb dL_law_1368 rfl (lv_at hl 3 rfl) ?_
  refine lv_iconst (v := (3 : Int32)) hx hb dL_law_1369 (by decide) ?_
  refine lv_iadd hx hb dL_law_1370 ?_
  refine va_sld hx hb hX0 hbl hbA hS hn3 dL_law_1371 ?_
  refine lv_aload_n hx hb dL_law_1372 rfl (lv_at hl 0 rfl) ?_
  refine lv_iload_n hx hb dL_law_1373 rfl (lv_at hl 3 rfl) ?_
  refine lv_iconst (v := (4 : Int32)) hx hb dL_law_1374 (by decide) ?_
  refine lv_iadd hx hb dL_law_1375 ?_
  refine va_sld hx hb hX0 hbl hbA hS hn4 dL_law_1376 ?_
  refine lv_if_eq (tgt := 1384) hx hb dL_law_1377 (by decide) (fun hc0 => ?_) (fun hc0 => ?_)
  · rw [show zbo (xs (nI i + (4 : Int32)).toNatClampNeg) = 0 from if_pos hc0] at hw
    refine lv_iconst (v := (0 : Int32)) hx hb dL_law_1384 (by decide) ?_
    refine zV_i [.int (xs (nI i + (1 : Int32)).toNatClampNeg), .int (xs (nI i + (2 : Int32)).toNatClampNeg), .int (xs (nI i + (3 : Int32)).toNatClampNeg), .int (0 : Int32)] [] zc ky_X10_join kz_X10_join kmL_127 (c_wx_X10_join l hw) (wxPreV0 hK hX) rfl rfl hl.1 (Nat.le_of_ble_eq_true rfl) ⟨rfl, rfl⟩ ⟨Nat.le_of_ble_eq_true rfl, Nat.le_of_ble_eq_true rfl⟩ hcs dL_law_1385 (fun r1 hw => ?_)
    refine lv_aload_n hx hb dL_law_1388 rfl (lv_at hl 2 rfl) ?_
    refine lv_aload_n hx hb dL_law_1389 rfl (lv_at hl 0 rfl) ?_
    refine lv_iload_n hx hb dL_law_1390 rfl (lv_at hl 3 rfl) ?_
    refine lv_iconst (v := (1 : Int32)) hx hb dL_law_1391 (by decide) ?_
    refine lv_iadd hx hb dL_law_1392 ?_
    refine va_sld hx hb hX0 hbl hbA hS hn1 dL_law_1393 ?_
    refine lv_aload_n hx hb dL_law_1394 rfl (lv_at hl 0 rfl) ?_
    refine lv_iload_n hx hb dL_law_1395 rfl (lv_at hl 3 rfl) ?_
    refine lv_iconst (v := (2 : Int32)) hx hb dL_law_1396 (by decide) ?_
    refine lv_iadd hx hb dL_law_1397 ?_
    refine va_sld hx hb hX0 hbl hbA hS hn2 dL_law_1398 ?_
    refine lv_aload_n hx hb dL_law_1399 rfl (lv_at hl 0 rfl) ?_
    refine lv_iload_n hx hb dL_law_1400 rfl (lv_at hl 3 rfl) ?_
    refine lv_iconst (v := (3 : Int32)) hx hb dL_law_1401 (by decide) ?_
    refine lv_iadd hx hb dL_law_1402 ?_
    refine va_sld hx hb hX0 hbl hbA hS hn3 dL_law_1403 ?_
    refine lv_aload_n hx hb dL_law_1404 rfl (lv_at hl 0 rfl) ?_
    refine lv_iload_n hx hb dL_law_1405 rfl (lv_at hl 3 rfl) ?_
    refine lv_iconst (v := (4 : Int32)) hx hb dL_law_1406 (by decide) ?_
    refine lv_iadd hx hb dL_law_1407 ?_
    refine va_sld hx hb hX0 hbl hbA hS hn4 dL_law_1408 ?_
    refine lv_if_eq (tgt := 1416) hx hb dL_law_1409 (by decide) (fun hd => ?_) (fun hd => ?_)
    rotate_left
    · exact absurd hc0 hd
    refine lv_iconst (v := (0 : Int32)) hx hb dL_law_1416 (by decide) ?_
    refine zVx_i [.int (xs (nI i + (1 : Int32)).toNatClampNeg), .int (xs (nI i + (2 : Int32)).toNatClampNeg), .int (xs (nI i + (3 : Int32)).toNatClampNeg), .int (0 : Int32)] [.int r1] zc ky_X11_join kz_X11_join kmL_130 (c_m_join l hw) (mPreV0 hK hM) hS (fun q (h : mA bm q) => Nat.le_trans hbx (Nat.le_trans (Nat.le_trans (Nat.le_add_right bx 93) hbm) h.1)) rfl rfl hl.1 (Nat.le_of_ble_eq_true rfl) ⟨rfl, rfl⟩ ⟨Nat.le_of_ble_eq_true rfl, Nat.le_of_ble_eq_true rfl⟩ hcs dL_law_1417 (fun r2 u H locs hw h9 hk hS => ?_)
    obtain ⟨Vf_code, Vf_land⟩ := u
    have hX := wx_kp hX (fun q h1 h2 h3 => hk q h1 (fun h => zap hbm h.1 h3))
    have hM := h9
    refine lv_icmp_eq (tgt := 1649) hx hb dL_law_1420 (by decide) (fun hd => ?_) (fun hd => absurd hw.1 hd)
    exact kk _ _ _ _ hw.2 hX hM hS
  · rw [show zbo (xs (nI i + (4 : Int32)).toNatClampNeg) = 1 from if_neg hc0] at hw
    refine lv_iconst (v := (1 : Int32)) hx hb dL_law_1380 (by decide) ?_
    refine lv_goto (tgt := 1385) hx hb dL_law_1381 (by decide) ?_
    refine zV_i [.int (xs (nI i + (1 : Int32)).toNatClampNeg), .int (xs (nI i + (2 : Int32)).toNatClampNeg), .int (xs (nI i + (3 : Int32)).toNatClampNeg), .int (1 : Int32)] [] zc ky_X10_join kz_X10_join kmL_127 (c_wx_X10_join l hw) (wxPreV0 hK hX) rfl rfl hl.1 (Nat.le_of_ble_eq_true rfl) ⟨rfl, rfl⟩ ⟨Nat.le_of_ble_eq_true rfl, Nat.le_of_ble_eq_true rfl⟩ hcs dL_law_1385 (fun r1 hw => ?_)
    refine lv_aload_n hx hb dL_law_1388 rfl (lv_at hl 2 rfl) ?_
    refine lv_aload_n hx hb dL_law_1389 rfl (lv_at hl 0 rfl) ?_
    refine lv_iload_n hx hb dL_law_1390 rfl (lv_at hl 3 rfl) ?_
    refine lv_iconst (v := (1 : Int32)) hx hb dL_law_1391 (by decide) ?_
    refine lv_iadd hx hb dL_law_1392 ?_
    refine va_sld hx hb hX0 hbl hbA hS hn1 dL_law_1393 ?_
    refine lv_aload_n hx hb dL_law_1394 rfl (lv_at hl 0 rfl) ?_
    refine lv_iload_n hx hb dL_law_1395 rfl (lv_at hl 3 rfl) ?_
    refine lv_iconst (v := (2 : Int32)) hx hb dL_law_1396 (by decide) ?_
    refine lv_iadd hx hb dL_law_1397 ?_
    refine va_sld hx hb hX0 hbl hbA hS hn2 dL_law_1398 ?_
    refine lv_aload_n hx hb dL_law_1399 rfl (lv_at hl 0 rfl) ?_
    refine lv_iload_n hx hb dL_law_1400 rfl (lv_at hl 3 rfl) ?_
    refine lv_iconst (v := (3 : Int32)) hx hb dL_law_1401 (by decide) ?_
    refine lv_iadd hx hb dL_law_1402 ?_
    refine va_sld hx hb hX0 hbl hbA hS hn3 dL_law_1403 ?_
    refine lv_aload_n hx hb dL_law_1404 rfl (lv_at hl 0 rfl) ?_
    refine lv_iload_n hx hb dL_law_1405 rfl (lv_at hl 3 rfl) ?_
    refine lv_iconst (v := (4 : Int32)) hx hb dL_law_1406 (by decide) ?_
    refine lv_iadd hx hb dL_law_1407 ?_
    refine va_sld hx hb hX0 hbl hbA hS hn4 dL_law_1408 ?_
    refine lv_if_eq (tgt := 1416) hx hb dL_law_1409 (by decide) (fun hd => ?_) (fun hd => ?_)
    · exact absurd hd hc0
    refine lv_iconst (v := (1 : Int32)) hx hb dL_law_1412 (by decide) ?_
    refine lv_goto (tgt := 1417) hx hb dL_law_1413 (by decide) ?_
    refine zVx_i [.int (xs (nI i + (1 : Int32)).toNatClampNeg), .int (xs (nI i + (2 : Int32)).toNatClampNeg), .int (xs (nI i + (3 : Int32)).toNatClampNeg), .int (1 : Int32)] [.int r1] zc ky_X11_join kz_X11_join kmL_130 (c_m_join l hw) (mPreV0 hK hM) hS (fun q (h : mA bm q) => Nat.le_trans hbx (Nat.le_trans (Nat.le_trans (Nat.le_add_right bx 93) hbm) h.1)) rfl rfl hl.1 (Nat.le_of_ble_eq_true rfl) ⟨rfl, rfl⟩ ⟨Nat.le_of_ble_eq_true rfl, Nat.le_of_ble_eq_true rfl⟩ hcs dL_law_1417 (fun r2 u H locs hw h9 hk hS => ?_)
    obtain ⟨Vf_code, Vf_land⟩ := u
    have hX := wx_kp hX (fun q h1 h2 h3 => hk q h1 (fun h => zap hbm h.1 h3))
    have hM := h9
    refine lv_icmp_eq (tgt := 1649) hx hb dL_law_1420 (by decide) (fun hd => ?_) (fun hd => absurd hw.1 hd)
    exact kk _ _ _ _ hw.2 hX hM hS

set_option maxRecDepth 40000 in
set_option maxHeartbeats 4000000 in
theorem ls_27 {p : Program} {l : Launch} {e : Env} {s : State} {m : MethodId} {below : List Frame} {meth : Method} {c : Code} {E : zE} {b L i bx bm cells slots : Nat} {xs : Nat → Int32} {Xta_tape : Nat → Int32} {Xtf_length : Int32} {Xtf_fault : Int32} {Xtf_place : Int32} {Xta_counts : Nat → Int32} {Xtl0f_huts : Int32} {Xtl0f_singers : Int32} {Xtl0f_villages : Int32} {Xtl0f_dams : Int32} {Xtl0f_echoes : Int32} {Xtl0f_deep : Int32} {Xtl0f_slide : Int32} {Xtl0a_heights : Nat → Int32} {Xtl0a_ladders : Nat → Int32} {Xtl0a_minutes : Nat → Int32} {Xtl0a_echoFrom : Nat → Int32} {Xtl0a_echoTo : Nat → Int32} {Xtl0a_homes : Nat → Int32} {Xtl0a_talls : Nat → Int32} {Xtl0a_known : Nat → Int32} {Xtl1f_huts : Int32} {Xtl1f_singers : Int32} {Xtl1f_villages : Int32} {Xtl1f_dams : Int32} {Xtl1f_echoes : Int32} {Xtl1f_deep : Int32} {Xtl1f_slide : Int32} {Xtl1a_heights : Nat → Int32} {Xtl1a_ladders : Nat → Int32} {Xtl1a_minutes : Nat → Int32} {Xtl1a_echoFrom : Nat → Int32} {Xtl1a_echoTo : Nat → Int32} {Xtl1a_homes : Nat → Int32} {Xtl1a_talls : Nat → Int32} {Xtl1a_known : Nat → Int32} {Xtv0f_deeds : Int32} {Xtv0a_kinds : Nat → Int32} {Xtv0a_firsts : Nat → Int32} {Xtv0a_seconds : Nat → Int32} {Xtv1f_deeds : Int32} {Xtv1a_kinds : Nat → Int32} {Xtv1a_firsts : Nat → Int32} {Xtv1a_seconds : Nat → Int32} {Xts0f_facts : Int32} {Xts0a_heard : Nat → Int32} {Xts0a_huts : Nat → Int32} {Xts0a_minutes : Nat → Int32} {Xts1f_facts : Int32} {Xts1a_heard : Nat → Int32} {Xts1a_huts : Nat → Int32} {Xts1a_minutes : Nat → Int32} {Xtc0f_voices : Int32} {Xtc0f_step : Int32} {Xtc0a_parts : Nat → Int32} {Xtc0a_heights : Nat → Int32} {Xtc1f_voices : Int32} {Xtc1f_step : Int32} {Xtc1a_parts : Nat → Int32} {Xtc1a_heights : Nat → Int32} {Xm_images : Nat → Option Nat} {Xrlf_huts : Int32} {Xrlf_singers : Int32} {Xrlf_villages : Int32} {Xrlf_dams : Int32} {Xrlf_echoes : Int32} {Xrlf_deep : Int32} {Xrlf_slide : Int32} {Xrla_heights : Nat → Int32} {Xrla_ladders : Nat → Int32} {Xrla_minutes : Nat → Int32} {Xrla_echoFrom : Nat → Int32} {Xrla_echoTo : Nat → Int32} {Xrla_homes : Nat → Int32} {Xrla_talls : Nat → Int32} {Xrla_known : Nat → Int32} {Xrvf_deeds : Int32} {Xrva_kinds : Nat → Int32} {Xrva_firsts : Nat → Int32} {Xrva_seconds : Nat → Int32} {Xrsf_facts : Int32} {Xrsa_heard : Nat → Int32} {Xrsa_huts : Nat → Int32} {Xrsa_minutes : Nat → Int32} {Xrcf_voices : Int32} {Xrcf_step : Int32} {Xrca_parts : Nat → Int32} {Xrca_heights : Nat → Int32} {Xrf_fault : Int32} {Xrf_faultPlace : Int32} {Xra_numbers : Nat → Int32} {Xra_tape : Nat → Int32} {Xrf_length : Int32} {Xrf_behind : Int32} {Xrf_kind : Int32} {Xrf_first : Int32} {Xrf_value : Int32} {Xrf_hutsToldOf : Int32} {Xrf_singersToldOf : Int32} {Xnf_minute : Int32} {Xnf_avalanches : Int32} {Xnf_begun : Int32} {Xnf_climbed : Int32} {Xnf_seed : Int32} {Xna_huts : Nat → Int32} {Xna_known : Nat → Int32} {Xna_levels : Nat → Int32} {Xna_snow : Nat → Int32} {Xna_open : Nat → Int32} {Xpa_heard : Nat → Int32} {Xpa_walked : Nat → Int32} {Xpa_total : Nat → Int32} {Xpa_longest : Nat → Int32} {Xpa_next : Nat → Int32} {Xpa_cover : Nat → Int32} {Xpa_now : Nat → Int32} {Xpa_then : Nat → Int32} {Xko_stands : Option Nat} {Xka_gaps : Nat → Int32} {Xka_behind : Nat → Int32} {Xba_less : Nat → Int32} {Xba_full : Nat → Int32} {Mf_code : Int32} {Ma_tape : Nat → Int32} {Ma_size : Nat → Int32} {Ma_fault : Nat → Int32} {Ma_faultPlace : Nat → Int32} {Ma_many : Nat → Int32} {Ma_lands : Nat → Int32} {Ma_evenings : Nat → Int32} {Ma_sights : Nat → Int32} {Ma_choirs : Nat → Int32} {Mf_reached : Int32} {Mf_length : Int32} {Mf_begins : Int32} {Mf_sort : Int32} {Mf_value : Int32} {Mf_word : Int64} {Mf_wrongAt : Int32} {Mf_laterFault : Int32} {Mf_laterPlace : Int32} {Ma_told : Nat → Int32} {Ma_read : Nat → Int32} {Mf_farHut : Int32} {Mf_farSinger : Int32} {Mf_good : Int32} {Mf_land : Int32} {Mf_huts : Int32} {Mf_singers : Int32} {Mf_evening : Int32} {Ma_at : Nat → Int32} {Ma_knows : Nat → Int32} {Ma_climbed : Nat → Int32} {Ma_snow : Nat → Int32} {Ma_level : Nat → Int32} {Mf_begun : Int32} {Mf_minute : Int32} {Mf_avalanches : Int32} {Ma_run : Nat → Int32} {Ma_covers : Nat → Int32} {Ma_routes : Nat → Int32} {Ma_longest : Nat → Int32} {Ma_steep : Nat → Int32} {Ma_laid : Nat → Int32} {Ma_far : Nat → Int32} {Mf_sight : Int32} {Ma_runs : Nat → Int32} {Mf_choir : Int32} {Mf_voices : Int32} {Ma_rest : Nat → Int64} {Ma_wins : Nat → Int32} {Mf_seed : Int32} {Ma_other : Nat → Int32} {Ma_kept : Nat → Int32} {N : (Int32) → (Int32) → Prop} {H : Heap} {locs : List Loc} {ls : Array Slot}
    (C0 : lw_At p s m meth c b L xs) (hi : i + 6 ≤ L) (hL : L ≤ 3072) (hcs : cells ≤ room_1.cells ∧ slots ≤ room_1.slots) (hbx : s.heap.size ≤ bx) (hbm : bx + 93 ≤ bm) (hK : zK E s)
    (hX : wxW E bx Xta_tape Xtf_length Xtf_fault Xtf_place Xta_counts Xtl0f_huts Xtl0f_singers Xtl0f_villages Xtl0f_dams Xtl0f_echoes Xtl0f_deep Xtl0f_slide Xtl0a_heights Xtl0a_ladders Xtl0a_minutes Xtl0a_echoFrom Xtl0a_echoTo Xtl0a_homes Xtl0a_talls Xtl0a_known Xtl1f_huts Xtl1f_singers Xtl1f_villages Xtl1f_dams Xtl1f_echoes Xtl1f_deep Xtl1f_slide Xtl1a_heights Xtl1a_ladders Xtl1a_minutes Xtl1a_echoFrom Xtl1a_echoTo Xtl1a_homes Xtl1a_talls Xtl1a_known Xtv0f_deeds Xtv0a_kinds Xtv0a_firsts Xtv0a_seconds Xtv1f_deeds Xtv1a_kinds Xtv1a_firsts Xtv1a_seconds Xts0f_facts Xts0a_heard Xts0a_huts Xts0a_minutes Xts1f_facts Xts1a_heard Xts1a_huts Xts1a_minutes Xtc0f_voices Xtc0f_step Xtc0a_parts Xtc0a_heights Xtc1f_voices Xtc1f_step Xtc1a_parts Xtc1a_heights Xm_images Xrlf_huts Xrlf_singers Xrlf_villages Xrlf_dams Xrlf_echoes Xrlf_deep Xrlf_slide Xrla_heights Xrla_ladders Xrla_minutes Xrla_echoFrom Xrla_echoTo Xrla_homes Xrla_talls Xrla_known Xrvf_deeds Xrva_kinds Xrva_firsts Xrva_seconds Xrsf_facts Xrsa_heard Xrsa_huts Xrsa_minutes Xrcf_voices Xrcf_step Xrca_parts Xrca_heights Xrf_fault Xrf_faultPlace Xra_numbers Xra_tape Xrf_length Xrf_behind Xrf_kind Xrf_first Xrf_value Xrf_hutsToldOf Xrf_singersToldOf Xnf_minute Xnf_avalanches Xnf_begun Xnf_climbed Xnf_seed Xna_huts Xna_known Xna_levels Xna_snow Xna_open Xpa_heard Xpa_walked Xpa_total Xpa_longest Xpa_next Xpa_cover Xpa_now Xpa_then Xko_stands Xka_gaps Xka_behind Xba_less Xba_full H) (hM : mW E bm Mf_code Ma_tape Ma_size Ma_fault Ma_faultPlace Ma_many Ma_lands Ma_evenings Ma_sights Ma_choirs Mf_reached Mf_length Mf_begins Mf_sort Mf_value Mf_word Mf_wrongAt Mf_laterFault Mf_laterPlace Ma_told Ma_read Mf_farHut Mf_farSinger Mf_good Mf_land Mf_huts Mf_singers Mf_evening Ma_at Ma_knows Ma_climbed Ma_snow Ma_level Mf_begun Mf_minute Mf_avalanches Ma_run Ma_covers Ma_routes Ma_longest Ma_steep Ma_laid Ma_far Mf_sight Ma_runs Mf_choir Mf_voices Ma_rest Ma_wins Mf_seed Ma_other Ma_kept H) (hS : va_S (fun q => s.heap.size ≤ q) s.heap H locs)
    (hl : lv_has ls 4 [(0, .ref b), (1, .ref bx), (2, .ref bm), (3, .int (nI i))])
    (hw : q_wx_X10_slopes_0 Xta_counts (xs (nI i + (1 : Int32)).toNatClampNeg) (xs (nI i + (2 : Int32)).toNatClampNeg) (fun r1 => q_m_slopes_0 Mf_code Ma_many Mf_land Mf_huts (xs (nI i + (1 : Int32)).toNatClampNeg) (xs (nI i + (2 : Int32)).toNatClampNeg) (fun r2 Vf_code Vf_land => r1 = r2 ∧ N Vf_code Vf_land)))
    (kk : ∀ (Vf_code : (Int32)) (Vf_land : (Int32)) (H : Heap) (locs : List Loc), N Vf_code Vf_land → wxW E bx Xta_tape Xtf_length Xtf_fault Xtf_place Xta_counts Xtl0f_huts Xtl0f_singers Xtl0f_villages Xtl0f_dams Xtl0f_echoes Xtl0f_deep Xtl0f_slide Xtl0a_heights Xtl0a_ladders Xtl0a_minutes Xtl0a_echoFrom Xtl0a_echoTo Xtl0a_homes Xtl0a_talls Xtl0a_known Xtl1f_huts Xtl1f_singers Xtl1f_villages Xtl1f_dams Xtl1f_echoes Xtl1f_deep Xtl1f_slide Xtl1a_heights Xtl1a_ladders Xtl1a_minutes Xtl1a_echoFrom Xtl1a_echoTo Xtl1a_homes Xtl1a_talls Xtl1a_known Xtv0f_deeds Xtv0a_kinds Xtv0a_firsts Xtv0a_seconds Xtv1f_deeds Xtv1a_kinds Xtv1a_firsts Xtv1a_seconds Xts0f_facts Xts0a_heard Xts0a_huts Xts0a_minutes Xts1f_facts Xts1a_heard Xts1a_huts Xts1a_minutes Xtc0f_voices Xtc0f_step Xtc0a_parts Xtc0a_heights Xtc1f_voices Xtc1f_step Xtc1a_parts Xtc1a_heights Xm_images Xrlf_huts Xrlf_singers Xrlf_villages Xrlf_dams Xrlf_echoes Xrlf_deep Xrlf_slide Xrla_heights Xrla_ladders Xrla_minutes Xrla_echoFrom Xrla_echoTo Xrla_homes Xrla_talls Xrla_known Xrvf_deeds Xrva_kinds Xrva_firsts Xrva_seconds Xrsf_facts Xrsa_heard Xrsa_huts Xrsa_minutes Xrcf_voices Xrcf_step Xrca_parts Xrca_heights Xrf_fault Xrf_faultPlace Xra_numbers Xra_tape Xrf_length Xrf_behind Xrf_kind Xrf_first Xrf_value Xrf_hutsToldOf Xrf_singersToldOf Xnf_minute Xnf_avalanches Xnf_begun Xnf_climbed Xnf_seed Xna_huts Xna_known Xna_levels Xna_snow Xna_open Xpa_heard Xpa_walked Xpa_total Xpa_longest Xpa_next Xpa_cover Xpa_now Xpa_then Xko_stands Xka_gaps Xka_behind Xba_less Xba_full H → mW E bm Vf_code Ma_tape Ma_size Ma_fault Ma_faultPlace Ma_many Ma_lands Ma_evenings Ma_sights Ma_choirs Mf_reached Mf_length Mf_begins Mf_sort Mf_value Mf_word Mf_wrongAt Mf_laterFault Mf_laterPlace Ma_told Ma_read Mf_farHut Mf_farSinger Mf_good Vf_land Mf_huts Mf_singers Mf_evening Ma_at Ma_knows Ma_climbed Ma_snow Ma_level Mf_begun Mf_minute Mf_avalanches Ma_run Ma_covers Ma_routes Ma_longest Ma_steep Ma_laid Ma_far Mf_sight Ma_runs Mf_choir Mf_voices Ma_rest Ma_wins Mf_seed Ma_other Ma_kept H → va_S (fun q => s.heap.size ≤ q) s.heap H locs → W p l e room_1 s m #[Value.ref b] below meth c H locs cells slots (lw_Z below #[Value.ref b] s) (F0 m 1649 ls [])) :
    W p l e room_1 s m #[Value.ref b] below meth c H locs cells slots (lw_Z below #[Value.ref b] s) (F0 m 1425 ls []) := by
  obtain ⟨hx, hb, hr, hml, hown, hts, hX0, hbl, hlocks, hgv⟩ := C0
  have zc : zC p s m #[Value.ref b] meth c cL_law 4 RL ret := ⟨hx, hb, hml, hown, fun w hw => hts w (zb_in hw), hr, hlocks⟩
  have hbA : ¬ (fun q : Nat => s.heap.size ≤ q) b := Nat.not_le.mpr hbl
  have hn1 : vp_in (nI i + (1 : Int32)) L := zidx hi hL rfl (by decide)
  have hn2 : vp_in (nI i + (2 : Int32)) L := zidx hi hL rfl (by decide)
  refine lv_aload_n hx hb dL_law_1425 rfl (lv_at hl 1 rfl) ?_
  refine lv_aload_n hx hb dL_law_1426 rfl (lv_at hl 0 rfl) ?_
  refine lv_iload_n hx hb dL_law_1427 rfl (lv_at hl 3 rfl) ?_
  refine lv_iconst (v := (1 : Int32)) hx hb dL_law_1428 (by decide) ?_
  refine lv_iadd hx hb dL_law_1429 ?_
  refine va_sld hx hb hX0 hbl hbA hS hn1 dL_law_1430 ?_
  refine lv_aload_n hx hb dL_law_1431 rfl (lv_at hl 0 rfl) ?_
  refine lv_iload_n hx hb dL_law_1432 rfl (lv_at hl 3 rfl) ?_
  refine lv_iconst (v := (2 : Int32)) hx hb dL_law_1433 (by decide) ?_
  refine lv_iadd hx hb dL_law_1434 ?_
  refine va_sld hx hb hX0 hbl hbA hS hn2 dL_law_1435 ?_
  refine zV_i [.int (xs (nI i + (1 : Int32)).toNatClampNeg), .int (xs (nI i + (2 : Int32)).toNatClampNeg)] [] zc ky_X10_slopes kz_X10_slopes kmL_131 (c_wx_X10_slopes l hw) (wxPreV0 hK hX) rfl rfl hl.1 (Nat.le_of_ble_eq_true rfl) ⟨rfl, rfl⟩ ⟨Nat.le_of_ble_eq_true rfl, Nat.le_of_ble_eq_true rfl⟩ hcs dL_law_1436 (fun r1 hw => ?_)
  refine lv_aload_n hx hb dL_law_1439 rfl (lv_at hl 2 rfl) ?_
  refine lv_aload_n hx hb dL_law_1440 rfl (lv_at hl 0 rfl) ?_
  refine lv_iload_n hx hb dL_law_1441 rfl (lv_at hl 3 rfl) ?_
  refine lv_iconst (v := (1 : Int32)) hx hb dL_law_1442 (by decide) ?_
  refine lv_iadd hx hb dL_law_1443 ?_
  refine va_sld hx hb hX0 hbl hbA hS hn1 dL_law_1444 ?_
  refine lv_aload_n hx hb dL_law_1445 rfl (lv_at hl 0 rfl) ?_
  refine lv_iload_n hx hb dL_law_1446 rfl (lv_at hl 3 rfl) ?_
  refine lv_iconst (v := (2 : Int32)) hx hb dL_law_1447 (by decide) ?_
  refine lv_iadd hx hb dL_law_1448 ?_
  refine va_sld hx hb hX0 hbl hbA hS hn2 dL_law_1449 ?_
  refine zVx_i [.int (xs (nI i + (1 : Int32)).toNatClampNeg), .int (xs (nI i + (2 : Int32)).toNatClampNeg)] [.int r1] zc ky_X11_slopes kz_X11_slopes kmL_134 (c_m_slopes l hw) (mPreV0 hK hM) hS (fun q (h : mA bm q) => Nat.le_trans hbx (Nat.le_trans (Nat.le_trans (Nat.le_add_right bx 93) hbm) h.1)) rfl rfl hl.1 (Nat.le_of_ble_eq_true rfl) ⟨rfl, rfl⟩ ⟨Nat.le_of_ble_eq_true rfl, Nat.le_of_ble_eq_true rfl⟩ hcs dL_law_1450 (fun r2 u H locs hw h9 hk hS => ?_)
  obtain ⟨Vf_code, Vf_land⟩ := u
  have hX := wx_kp hX (fun q h1 h2 h3 => hk q h1 (fun h => zap hbm h.1 h3))
  have hM := h9
  refine lv_icmp_eq (tgt := 1649) hx hb dL_law_1453 (by decide) (fun hd => ?_) (fun hd => absurd hw.1 hd)
  exact kk _ _ _ _ hw.2 hX hM hS

set_option maxRecDepth 40000 in
set_option maxHeartbeats 4000000 in
theorem ls_28 {p : Program} {l : Launch} {e : Env} {s : State} {m : MethodId} {below : List Frame} {meth : Method} {c : Code} {E : zE} {b L i bx bm cells slots : Nat} {xs : Nat → Int32} {Xta_tape : Nat → Int32} {Xtf_length : Int32} {Xtf_fault : Int32} {Xtf_place : Int32} {Xta_counts : Nat → Int32} {Xtl0f_huts : Int32} {Xtl0f_singers : Int32} {Xtl0f_villages : Int32} {Xtl0f_dams : Int32} {Xtl0f_echoes : Int32} {Xtl0f_deep : Int32} {Xtl0f_slide : Int32} {Xtl0a_heights : Nat → Int32} {Xtl0a_ladders : Nat → Int32} {Xtl0a_minutes : Nat → Int32} {Xtl0a_echoFrom : Nat → Int32} {Xtl0a_echoTo : Nat → Int32} {Xtl0a_homes : Nat → Int32} {Xtl0a_talls : Nat → Int32} {Xtl0a_known : Nat → Int32} {Xtl1f_huts : Int32} {Xtl1f_singers : Int32} {Xtl1f_villages : Int32} {Xtl1f_dams : Int32} {Xtl1f_echoes : Int32} {Xtl1f_deep : Int32} {Xtl1f_slide : Int32} {Xtl1a_heights : Nat → Int32} {Xtl1a_ladders : Nat → Int32} {Xtl1a_minutes : Nat → Int32} {Xtl1a_echoFrom : Nat → Int32} {Xtl1a_echoTo : Nat → Int32} {Xtl1a_homes : Nat → Int32} {Xtl1a_talls : Nat → Int32} {Xtl1a_known : Nat → Int32} {Xtv0f_deeds : Int32} {Xtv0a_kinds : Nat → Int32} {Xtv0a_firsts : Nat → Int32} {Xtv0a_seconds : Nat → Int32} {Xtv1f_deeds : Int32} {Xtv1a_kinds : Nat → Int32} {Xtv1a_firsts : Nat → Int32} {Xtv1a_seconds : Nat → Int32} {Xts0f_facts : Int32} {Xts0a_heard : Nat → Int32} {Xts0a_huts : Nat → Int32} {Xts0a_minutes : Nat → Int32} {Xts1f_facts : Int32} {Xts1a_heard : Nat → Int32} {Xts1a_huts : Nat → Int32} {Xts1a_minutes : Nat → Int32} {Xtc0f_voices : Int32} {Xtc0f_step : Int32} {Xtc0a_parts : Nat → Int32} {Xtc0a_heights : Nat → Int32} {Xtc1f_voices : Int32} {Xtc1f_step : Int32} {Xtc1a_parts : Nat → Int32} {Xtc1a_heights : Nat → Int32} {Xm_images : Nat → Option Nat} {Xrlf_huts : Int32} {Xrlf_singers : Int32} {Xrlf_villages : Int32} {Xrlf_dams : Int32} {Xrlf_echoes : Int32} {Xrlf_deep : Int32} {Xrlf_slide : Int32} {Xrla_heights : Nat → Int32} {Xrla_ladders : Nat → Int32} {Xrla_minutes : Nat → Int32} {Xrla_echoFrom : Nat → Int32} {Xrla_echoTo : Nat → Int32} {Xrla_homes : Nat → Int32} {Xrla_talls : Nat → Int32} {Xrla_known : Nat → Int32} {Xrvf_deeds : Int32} {Xrva_kinds : Nat → Int32} {Xrva_firsts : Nat → Int32} {Xrva_seconds : Nat → Int32} {Xrsf_facts : Int32} {Xrsa_heard : Nat → Int32} {Xrsa_huts : Nat → Int32} {Xrsa_minutes : Nat → Int32} {Xrcf_voices : Int32} {Xrcf_step : Int32} {Xrca_parts : Nat → Int32} {Xrca_heights : Nat → Int32} {Xrf_fault : Int32} {Xrf_faultPlace : Int32} {Xra_numbers : Nat → Int32} {Xra_tape : Nat → Int32} {Xrf_length : Int32} {Xrf_behind : Int32} {Xrf_kind : Int32} {Xrf_first : Int32} {Xrf_value : Int32} {Xrf_hutsToldOf : Int32} {Xrf_singersToldOf : Int32} {Xnf_minute : Int32} {Xnf_avalanches : Int32} {Xnf_begun : Int32} {Xnf_climbed : Int32} {Xnf_seed : Int32} {Xna_huts : Nat → Int32} {Xna_known : Nat → Int32} {Xna_levels : Nat → Int32} {Xna_snow : Nat → Int32} {Xna_open : Nat → Int32} {Xpa_heard : Nat → Int32} {Xpa_walked : Nat → Int32} {Xpa_total : Nat → Int32} {Xpa_longest : Nat → Int32} {Xpa_next : Nat → Int32} {Xpa_cover : Nat → Int32} {Xpa_now : Nat → Int32} {Xpa_then : Nat → Int32} {Xko_stands : Option Nat} {Xka_gaps : Nat → Int32} {Xka_behind : Nat → Int32} {Xba_less : Nat → Int32} {Xba_full : Nat → Int32} {Mf_code : Int32} {Ma_tape : Nat → Int32} {Ma_size : Nat → Int32} {Ma_fault : Nat → Int32} {Ma_faultPlace : Nat → Int32} {Ma_many : Nat → Int32} {Ma_lands : Nat → Int32} {Ma_evenings : Nat → Int32} {Ma_sights : Nat → Int32} {Ma_choirs : Nat → Int32} {Mf_reached : Int32} {Mf_length : Int32} {Mf_begins : Int32} {Mf_sort : Int32} {Mf_value : Int32} {Mf_word : Int64} {Mf_wrongAt : Int32} {Mf_laterFault : Int32} {Mf_laterPlace : Int32} {Ma_told : Nat → Int32} {Ma_read : Nat → Int32} {Mf_farHut : Int32} {Mf_farSinger : Int32} {Mf_good : Int32} {Mf_land : Int32} {Mf_huts : Int32} {Mf_singers : Int32} {Mf_evening : Int32} {Ma_at : Nat → Int32} {Ma_knows : Nat → Int32} {Ma_climbed : Nat → Int32} {Ma_snow : Nat → Int32} {Ma_level : Nat → Int32} {Mf_begun : Int32} {Mf_minute : Int32} {Mf_avalanches : Int32} {Ma_run : Nat → Int32} {Ma_covers : Nat → Int32} {Ma_routes : Nat → Int32} {Ma_longest : Nat → Int32} {Ma_steep : Nat → Int32} {Ma_laid : Nat → Int32} {Ma_far : Nat → Int32} {Mf_sight : Int32} {Ma_runs : Nat → Int32} {Mf_choir : Int32} {Mf_voices : Int32} {Ma_rest : Nat → Int64} {Ma_wins : Nat → Int32} {Mf_seed : Int32} {Ma_other : Nat → Int32} {Ma_kept : Nat → Int32} {N : (Int32) → (Int32) → Prop} {H : Heap} {locs : List Loc} {ls : Array Slot}
    (C0 : lw_At p s m meth c b L xs) (hi : i + 6 ≤ L) (hL : L ≤ 3072) (hcs : cells ≤ room_1.cells ∧ slots ≤ room_1.slots) (hbx : s.heap.size ≤ bx) (hbm : bx + 93 ≤ bm) (hK : zK E s)
    (hX : wxW E bx Xta_tape Xtf_length Xtf_fault Xtf_place Xta_counts Xtl0f_huts Xtl0f_singers Xtl0f_villages Xtl0f_dams Xtl0f_echoes Xtl0f_deep Xtl0f_slide Xtl0a_heights Xtl0a_ladders Xtl0a_minutes Xtl0a_echoFrom Xtl0a_echoTo Xtl0a_homes Xtl0a_talls Xtl0a_known Xtl1f_huts Xtl1f_singers Xtl1f_villages Xtl1f_dams Xtl1f_echoes Xtl1f_deep Xtl1f_slide Xtl1a_heights Xtl1a_ladders Xtl1a_minutes Xtl1a_echoFrom Xtl1a_echoTo Xtl1a_homes Xtl1a_talls Xtl1a_known Xtv0f_deeds Xtv0a_kinds Xtv0a_firsts Xtv0a_seconds Xtv1f_deeds Xtv1a_kinds Xtv1a_firsts Xtv1a_seconds Xts0f_facts Xts0a_heard Xts0a_huts Xts0a_minutes Xts1f_facts Xts1a_heard Xts1a_huts Xts1a_minutes Xtc0f_voices Xtc0f_step Xtc0a_parts Xtc0a_heights Xtc1f_voices Xtc1f_step Xtc1a_parts Xtc1a_heights Xm_images Xrlf_huts Xrlf_singers Xrlf_villages Xrlf_dams Xrlf_echoes Xrlf_deep Xrlf_slide Xrla_heights Xrla_ladders Xrla_minutes Xrla_echoFrom Xrla_echoTo Xrla_homes Xrla_talls Xrla_known Xrvf_deeds Xrva_kinds Xrva_firsts Xrva_seconds Xrsf_facts Xrsa_heard Xrsa_huts Xrsa_minutes Xrcf_voices Xrcf_step Xrca_parts Xrca_heights Xrf_fault Xrf_faultPlace Xra_numbers Xra_tape Xrf_length Xrf_behind Xrf_kind Xrf_first Xrf_value Xrf_hutsToldOf Xrf_singersToldOf Xnf_minute Xnf_avalanches Xnf_begun Xnf_climbed Xnf_seed Xna_huts Xna_known Xna_levels Xna_snow Xna_open Xpa_heard Xpa_walked Xpa_total Xpa_longest Xpa_next Xpa_cover Xpa_now Xpa_then Xko_stands Xka_gaps Xka_behind Xba_less Xba_full H) (hM : mW E bm Mf_code Ma_tape Ma_size Ma_fault Ma_faultPlace Ma_many Ma_lands Ma_evenings Ma_sights Ma_choirs Mf_reached Mf_length Mf_begins Mf_sort Mf_value Mf_word Mf_wrongAt Mf_laterFault Mf_laterPlace Ma_told Ma_read Mf_farHut Mf_farSinger Mf_good Mf_land Mf_huts Mf_singers Mf_evening Ma_at Ma_knows Ma_climbed Ma_snow Ma_level Mf_begun Mf_minute Mf_avalanches Ma_run Ma_covers Ma_routes Ma_longest Ma_steep Ma_laid Ma_far Mf_sight Ma_runs Mf_choir Mf_voices Ma_rest Ma_wins Mf_seed Ma_other Ma_kept H) (hS : va_S (fun q => s.heap.size ≤ q) s.heap H locs)
    (hl : lv_has ls 4 [(0, .ref b), (1, .ref bx), (2, .ref bm), (3, .int (nI i))])
    (hw : q_wx_X10_flood_0 Xta_counts (xs (nI i + (1 : Int32)).toNatClampNeg) (xs (nI i + (2 : Int32)).toNatClampNeg) (xs (nI i + (3 : Int32)).toNatClampNeg) (zbo (xs (nI i + (4 : Int32)).toNatClampNeg)) (fun r1 => q_m_flood_0 Mf_code Ma_many Mf_land (xs (nI i + (1 : Int32)).toNatClampNeg) (xs (nI i + (2 : Int32)).toNatClampNeg) (xs (nI i + (3 : Int32)).toNatClampNeg) (zbo (xs (nI i + (4 : Int32)).toNatClampNeg)) (fun r2 Vf_code Vf_land => r1 = r2 ∧ N Vf_code Vf_land)))
    (kk : ∀ (Vf_code : (Int32)) (Vf_land : (Int32)) (H : Heap) (locs : List Loc), N Vf_code Vf_land → wxW E bx Xta_tape Xtf_length Xtf_fault Xtf_place Xta_counts Xtl0f_huts Xtl0f_singers Xtl0f_villages Xtl0f_dams Xtl0f_echoes Xtl0f_deep Xtl0f_slide Xtl0a_heights Xtl0a_ladders Xtl0a_minutes Xtl0a_echoFrom Xtl0a_echoTo Xtl0a_homes Xtl0a_talls Xtl0a_known Xtl1f_huts Xtl1f_singers Xtl1f_villages Xtl1f_dams Xtl1f_echoes Xtl1f_deep Xtl1f_slide Xtl1a_heights Xtl1a_ladders Xtl1a_minutes Xtl1a_echoFrom Xtl1a_echoTo Xtl1a_homes Xtl1a_talls Xtl1a_known Xtv0f_deeds Xtv0a_kinds Xtv0a_firsts Xtv0a_seconds Xtv1f_deeds Xtv1a_kinds Xtv1a_firsts Xtv1a_seconds Xts0f_facts Xts0a_heard Xts0a_huts Xts0a_minutes Xts1f_facts Xts1a_heard Xts1a_huts Xts1a_minutes Xtc0f_voices Xtc0f_step Xtc0a_parts Xtc0a_heights Xtc1f_voices Xtc1f_step Xtc1a_parts Xtc1a_heights Xm_images Xrlf_huts Xrlf_singers Xrlf_villages Xrlf_dams Xrlf_echoes Xrlf_deep Xrlf_slide Xrla_heights Xrla_ladders Xrla_minutes Xrla_echoFrom Xrla_echoTo Xrla_homes Xrla_talls Xrla_known Xrvf_deeds Xrva_kinds Xrva_firsts Xrva_seconds Xrsf_facts Xrsa_heard Xrsa_huts Xrsa_minutes Xrcf_voices Xrcf_step Xrca_parts Xrca_heights Xrf_fault Xrf_faultPlace Xra_numbers Xra_tape Xrf_length Xrf_behind Xrf_kind Xrf_first Xrf_value Xrf_hutsToldOf Xrf_singersToldOf Xnf_minute Xnf_avalanches Xnf_begun Xnf_climbed Xnf_seed Xna_huts Xna_known Xna_levels Xna_snow Xna_open Xpa_heard Xpa_walked Xpa_total Xpa_longest Xpa_next Xpa_cover Xpa_now Xpa_then Xko_stands Xka_gaps Xka_behind Xba_less Xba_full H → mW E bm Vf_code Ma_tape Ma_size Ma_fault Ma_faultPlace Ma_many Ma_lands Ma_evenings Ma_sights Ma_choirs Mf_reached Mf_length Mf_begins Mf_sort Mf_value Mf_word Mf_wrongAt Mf_laterFault Mf_laterPlace Ma_told Ma_read Mf_farHut Mf_farSinger Mf_good Vf_land Mf_huts Mf_singers Mf_evening Ma_at Ma_knows Ma_climbed Ma_snow Ma_level Mf_begun Mf_minute Mf_avalanches Ma_run Ma_covers Ma_routes Ma_longest Ma_steep Ma_laid Ma_far Mf_sight Ma_runs Mf_choir Mf_voices Ma_rest Ma_wins Mf_seed Ma_other Ma_kept H → va_S (fun q => s.heap.size ≤ q) s.heap H locs → W p l e room_1 s m #[Value.ref b] below meth c H locs cells slots (lw_Z below #[Value.ref b] s) (F0 m 1649 ls [])) :
    W p l e room_1 s m #[Value.ref b] below meth c H locs cells slots (lw_Z below #[Value.ref b] s) (F0 m 1458 ls []) := by
  obtain ⟨hx, hb, hr, hml, hown, hts, hX0, hbl, hlocks, hgv⟩ := C0
  have zc : zC p s m #[Value.ref b] meth c cL_law 4 RL ret := ⟨hx, hb, hml, hown, fun w hw => hts w (zb_in hw), hr, hlocks⟩
  have hbA : ¬ (fun q : Nat => s.heap.size ≤ q) b := Nat.not_le.mpr hbl
  have hn1 : vp_in (nI i + (1 : Int32)) L := zidx hi hL rfl (by decide)
  have hn2 : vp_in (nI i + (2 : Int32)) L := zidx hi hL rfl (by decide)
  have hn3 : vp_in (nI i + (3 : Int32)) L := zidx hi hL rfl (by decide)
  have hn4 : vp_in (nI i + (4 : Int32)) L := zidx hi hL rfl (by decide)
  refine lv_aload_n hx hb dL_law_1458 rfl (lv_at hl 1 rfl) ?_
  refine lv_aload_n hx hb dL_law_1459 rfl (lv_at hl 0 rfl) ?_
  refine lv_iload_n hx hb dL_law_1460 rfl (lv_at hl 3 rfl) ?_
  refine lv_iconst (v := (1 : Int32)) hx hb dL_law_1461 (by decide) ?_
  refine lv_iadd hx hb dL_law_1462 ?_
  refine va_sld hx hb hX0 hbl hbA hS hn1 dL_law_1463 ?_
  refine lv_aload_n hx hb dL_law_1464 rfl (lv_at hl 0 rfl) ?_
  refine lv_iload_n hx hb dL_law_1465 rfl (lv_at hl 3 rfl) ?_
  refine lv_iconst (v := (2 : Int32)) hx hb dL_law_1466 (by decide) ?_
  refine lv_iadd hx hb dL_law_1467 ?_
  refine va_sld hx hb hX0 hbl hbA hS hn2 dL_law_1468 ?_
  refine lv_aload_n hx hb dL_law_1469 rfl (lv_at hl 0 rfl) ?_
  refine lv_iload_n hx hb dL_law_1470 rfl (lv_at hl 3 rfl) ?_
  refine lv_iconst (v := (3 : Int32)) hx hb dL_law_1471 (by decide) ?_
  refine lv_iadd hx hb dL_law_1472 ?_
  refine va_sld hx hb hX0 hbl hbA hS hn3 dL_law_1473 ?_
  refine lv_aload_n hx hb dL_law_1474 rfl (lv_at hl 0 rfl) ?_
  refine lv_iload_n hx hb dL_law_1475 rfl (lv_at hl 3 rfl) ?_
  refine lv_iconst (v := (4 : Int32)) hx hb dL_law_1476 (by decide) ?_
  refine lv_iadd hx hb dL_law_1477 ?_
  refine va_sld hx hb hX0 hbl hbA hS hn4 dL_law_1478 ?_
  refine lv_if_eq (tgt := 1486) hx hb dL_law_1479 (by decide) (fun hc0 => ?_) (fun hc0 => ?_)
  · rw [show zbo (xs (nI i + (4 : Int32)).toNatClampNeg) = 0 from if_pos hc0] at hw
    refine lv_iconst (v := (0 : Int32)) hx hb dL_law_1486 (by decide) ?_
    refine zV_i [.int (xs (nI i + (1 : Int32)).toNatClampNeg), .int (xs (nI i + (2 : Int32)).toNatClampNeg), .int (xs (nI i + (3 : Int32)).toNatClampNeg), .int (0 : Int32)] [] zc ky_X10_flood kz_X10_flood kmL_135 (c_wx_X10_flood l hw) (wxPreV0 hK hX) rfl rfl hl.1 (Nat.le_of_ble_eq_true rfl) ⟨rfl, rfl⟩ ⟨Nat.le_of_ble_eq_true rfl, Nat.le_of_ble_eq_true rfl⟩ hcs dL_law_1487 (fun r1 hw => ?_)
    refine lv_aload_n hx hb dL_law_1490 rfl (lv_at hl 2 rfl) ?_
    refine lv_aload_n hx hb dL_law_1491 rfl (lv_at hl 0 rfl) ?_
    refine lv_iload_n hx hb dL_law_1492 rfl (lv_at hl 3 rfl) ?_
    refine lv_iconst (v := (1 : Int32)) hx hb dL_law_1493 (by decide) ?_
    refine lv_iadd hx hb dL_law_1494 ?_
    refine va_sld hx hb hX0 hbl hbA hS hn1 dL_law_1495 ?_
    refine lv_aload_n hx hb dL_law_1496 rfl (lv_at hl 0 rfl) ?_
    refine lv_iload_n hx hb dL_law_1497 rfl (lv_at hl 3 rfl) ?_
    refine lv_iconst (v := (2 : Int32)) hx hb dL_law_1498 (by decide) ?_
    refine lv_iadd hx hb dL_law_1499 ?_
    refine va_sld hx hb hX0 hbl hbA hS hn2 dL_law_1500 ?_
    refine lv_aload_n hx hb dL_law_1501 rfl (lv_at hl 0 rfl) ?_
    refine lv_iload_n hx hb dL_law_1502 rfl (lv_at hl 3 rfl) ?_
    refine lv_iconst (v := (3 : Int32)) hx hb dL_law_1503 (by decide) ?_
    refine lv_iadd hx hb dL_law_1504 ?_
    refine va_sld hx hb hX0 hbl hbA hS hn3 dL_law_1505 ?_
    refine lv_aload_n hx hb dL_law_1506 rfl (lv_at hl 0 rfl) ?_
    refine lv_iload_n hx hb dL_law_1507 rfl (lv_at hl 3 rfl) ?_
    refine lv_iconst (v := (4 : Int32)) hx hb dL_law_1508 (by decide) ?_
    refine lv_iadd hx hb dL_law_1509 ?_
    refine va_sld hx hb hX0 hbl hbA hS hn4 dL_law_1510 ?_
    refine lv_if_eq (tgt := 1518) hx hb dL_law_1511 (by decide) (fun hd => ?_) (fun hd => ?_)
    rotate_left
    · exact absurd hc0 hd
    refine lv_iconst (v := (0 : Int32)) hx hb dL_law_1518 (by decide) ?_
    refine zVx_i [.int (xs (nI i + (1 : Int32)).toNatClampNeg), .int (xs (nI i + (2 : Int32)).toNatClampNeg), .int (xs (nI i + (3 : Int32)).toNatClampNeg), .int (0 : Int32)] [.int r1] zc ky_X11_flood kz_X11_flood kmL_138 (c_m_flood l hw) (mPreV0 hK hM) hS (fun q (h : mA bm q) => Nat.le_trans hbx (Nat.le_trans (Nat.le_trans (Nat.le_add_right bx 93) hbm) h.1)) rfl rfl hl.1 (Nat.le_of_ble_eq_true rfl) ⟨rfl, rfl⟩ ⟨Nat.le_of_ble_eq_true rfl, Nat.le_of_ble_eq_true rfl⟩ hcs dL_law_1519 (fun r2 u H locs hw h9 hk hS => ?_)
    obtain ⟨Vf_code, Vf_land⟩ := u
    have hX := wx_kp hX (fun q h1 h2 h3 => hk q h1 (fun h => zap hbm h.1 h3))
    have hM := h9
    refine lv_icmp_eq (tgt := 1649) hx hb dL_law_1522 (by decide) (fun hd => ?_) (fun hd => absurd hw.1 hd)
    exact kk _ _ _ _ hw.2 hX hM hS
  · rw [show zbo (xs (nI i + (4 : Int32)).toNatClampNeg) = 1 from if_neg hc0] at hw
    refine lv_iconst (v := (1 : Int32)) hx hb dL_law_1482 (by decide) ?_
    refine lv_goto (tgt := 1487) hx hb dL_law_1483 (by decide) ?_
    refine zV_i [.int (xs (nI i + (1 : Int32)).toNatClampNeg), .int (xs (nI i + (2 : Int32)).toNatClampNeg), .int (xs (nI i + (3 : Int32)).toNatClampNeg), .int (1 : Int32)] [] zc ky_X10_flood kz_X10_flood kmL_135 (c_wx_X10_flood l hw) (wxPreV0 hK hX) rfl rfl hl.1 (Nat.le_of_ble_eq_true rfl) ⟨rfl, rfl⟩ ⟨Nat.le_of_ble_eq_true rfl, Nat.le_of_ble_eq_true rfl⟩ hcs dL_law_1487 (fun r1 hw => ?_)
    refine lv_aload_n hx hb dL_law_1490 rfl (lv_at hl 2 rfl) ?_
    refine lv_aload_n hx hb dL_law_1491 rfl (lv_at hl 0 rfl) ?_
    refine lv_iload_n hx hb dL_law_1492 rfl (lv_at hl 3 rfl) ?_
    refine lv_iconst (v := (1 : Int32)) hx hb dL_law_1493 (by decide) ?_
    refine lv_iadd hx hb dL_law_1494 ?_
    refine va_sld hx hb hX0 hbl hbA hS hn1 dL_law_1495 ?_
    refine lv_aload_n hx hb dL_law_1496 rfl (lv_at hl 0 rfl) ?_
    refine lv_iload_n hx hb dL_law_1497 rfl (lv_at hl 3 rfl) ?_
    refine lv_iconst (v := (2 : Int32)) hx hb dL_law_1498 (by decide) ?_
    refine lv_iadd hx hb dL_law_1499 ?_
    refine va_sld hx hb hX0 hbl hbA hS hn2 dL_law_1500 ?_
    refine lv_aload_n hx hb dL_law_1501 rfl (lv_at hl 0 rfl) ?_
    refine lv_iload_n hx hb dL_law_1502 rfl (lv_at hl 3 rfl) ?_
    refine lv_iconst (v := (3 : Int32)) hx hb dL_law_1503 (by decide) ?_
    refine lv_iadd hx hb dL_law_1504 ?_
    refine va_sld hx hb hX0 hbl hbA hS hn3 dL_law_1505 ?_
    refine lv_aload_n hx hb dL_law_1506 rfl (lv_at hl 0 rfl) ?_
    refine lv_iload_n hx hb dL_law_1507 rfl (lv_at hl 3 rfl) ?_
    refine lv_iconst (v := (4 : Int32)) hx hb dL_law_1508 (by decide) ?_
    refine lv_iadd hx hb dL_law_1509 ?_
    refine va_sld hx hb hX0 hbl hbA hS hn4 dL_law_1510 ?_
    refine lv_if_eq (tgt := 1518) hx hb dL_law_1511 (by decide) (fun hd => ?_) (fun hd => ?_)
    · exact absurd hd hc0
    refine lv_iconst (v := (1 : Int32)) hx hb dL_law_1514 (by decide) ?_
    refine lv_goto (tgt := 1519) hx hb dL_law_1515 (by decide) ?_
    refine zVx_i [.int (xs (nI i + (1 : Int32)).toNatClampNeg), .int (xs (nI i + (2 : Int32)).toNatClampNeg), .int (xs (nI i + (3 : Int32)).toNatClampNeg), .int (1 : Int32)] [.int r1] zc ky_X11_flood kz_X11_flood kmL_138 (c_m_flood l hw) (mPreV0 hK hM) hS (fun q (h : mA bm q) => Nat.le_trans hbx (Nat.le_trans (Nat.le_trans (Nat.le_add_right bx 93) hbm) h.1)) rfl rfl hl.1 (Nat.le_of_ble_eq_true rfl) ⟨rfl, rfl⟩ ⟨Nat.le_of_ble_eq_true rfl, Nat.le_of_ble_eq_true rfl⟩ hcs dL_law_1519 (fun r2 u H locs hw h9 hk hS => ?_)
    obtain ⟨Vf_code, Vf_land⟩ := u
    have hX := wx_kp hX (fun q h1 h2 h3 => hk q h1 (fun h => zap hbm h.1 h3))
    have hM := h9
    refine lv_icmp_eq (tgt := 1649) hx hb dL_law_1522 (by decide) (fun hd => ?_) (fun hd => absurd hw.1 hd)
    exact kk _ _ _ _ hw.2 hX hM hS

set_option maxRecDepth 40000 in
set_option maxHeartbeats 4000000 in
theorem ls_29 {p : Program} {l : Launch} {e : Env} {s : State} {m : MethodId} {below : List Frame} {meth : Method} {c : Code} {E : zE} {b L i bx bm cells slots : Nat} {xs : Nat → Int32} {Xta_tape : Nat → Int32} {Xtf_length : Int32} {Xtf_fault : Int32} {Xtf_place : Int32} {Xta_counts : Nat → Int32} {Xtl0f_huts : Int32} {Xtl0f_singers : Int32} {Xtl0f_villages : Int32} {Xtl0f_dams : Int32} {Xtl0f_echoes : Int32} {Xtl0f_deep : Int32} {Xtl0f_slide : Int32} {Xtl0a_heights : Nat → Int32} {Xtl0a_ladders : Nat → Int32} {Xtl0a_minutes : Nat → Int32} {Xtl0a_echoFrom : Nat → Int32} {Xtl0a_echoTo : Nat → Int32} {Xtl0a_homes : Nat → Int32} {Xtl0a_talls : Nat → Int32} {Xtl0a_known : Nat → Int32} {Xtl1f_huts : Int32} {Xtl1f_singers : Int32} {Xtl1f_villages : Int32} {Xtl1f_dams : Int32} {Xtl1f_echoes : Int32} {Xtl1f_deep : Int32} {Xtl1f_slide : Int32} {Xtl1a_heights : Nat → Int32} {Xtl1a_ladders : Nat → Int32} {Xtl1a_minutes : Nat → Int32} {Xtl1a_echoFrom : Nat → Int32} {Xtl1a_echoTo : Nat → Int32} {Xtl1a_homes : Nat → Int32} {Xtl1a_talls : Nat → Int32} {Xtl1a_known : Nat → Int32} {Xtv0f_deeds : Int32} {Xtv0a_kinds : Nat → Int32} {Xtv0a_firsts : Nat → Int32} {Xtv0a_seconds : Nat → Int32} {Xtv1f_deeds : Int32} {Xtv1a_kinds : Nat → Int32} {Xtv1a_firsts : Nat → Int32} {Xtv1a_seconds : Nat → Int32} {Xts0f_facts : Int32} {Xts0a_heard : Nat → Int32} {Xts0a_huts : Nat → Int32} {Xts0a_minutes : Nat → Int32} {Xts1f_facts : Int32} {Xts1a_heard : Nat → Int32} {Xts1a_huts : Nat → Int32} {Xts1a_minutes : Nat → Int32} {Xtc0f_voices : Int32} {Xtc0f_step : Int32} {Xtc0a_parts : Nat → Int32} {Xtc0a_heights : Nat → Int32} {Xtc1f_voices : Int32} {Xtc1f_step : Int32} {Xtc1a_parts : Nat → Int32} {Xtc1a_heights : Nat → Int32} {Xm_images : Nat → Option Nat} {Xrlf_huts : Int32} {Xrlf_singers : Int32} {Xrlf_villages : Int32} {Xrlf_dams : Int32} {Xrlf_echoes : Int32} {Xrlf_deep : Int32} {Xrlf_slide : Int32} {Xrla_heights : Nat → Int32} {Xrla_ladders : Nat → Int32} {Xrla_minutes : Nat → Int32} {Xrla_echoFrom : Nat → Int32} {Xrla_echoTo : Nat → Int32} {Xrla_homes : Nat → Int32} {Xrla_talls : Nat → Int32} {Xrla_known : Nat → Int32} {Xrvf_deeds : Int32} {Xrva_kinds : Nat → Int32} {Xrva_firsts : Nat → Int32} {Xrva_seconds : Nat → Int32} {Xrsf_facts : Int32} {Xrsa_heard : Nat → Int32} {Xrsa_huts : Nat → Int32} {Xrsa_minutes : Nat → Int32} {Xrcf_voices : Int32} {Xrcf_step : Int32} {Xrca_parts : Nat → Int32} {Xrca_heights : Nat → Int32} {Xrf_fault : Int32} {Xrf_faultPlace : Int32} {Xra_numbers : Nat → Int32} {Xra_tape : Nat → Int32} {Xrf_length : Int32} {Xrf_behind : Int32} {Xrf_kind : Int32} {Xrf_first : Int32} {Xrf_value : Int32} {Xrf_hutsToldOf : Int32} {Xrf_singersToldOf : Int32} {Xnf_minute : Int32} {Xnf_avalanches : Int32} {Xnf_begun : Int32} {Xnf_climbed : Int32} {Xnf_seed : Int32} {Xna_huts : Nat → Int32} {Xna_known : Nat → Int32} {Xna_levels : Nat → Int32} {Xna_snow : Nat → Int32} {Xna_open : Nat → Int32} {Xpa_heard : Nat → Int32} {Xpa_walked : Nat → Int32} {Xpa_total : Nat → Int32} {Xpa_longest : Nat → Int32} {Xpa_next : Nat → Int32} {Xpa_cover : Nat → Int32} {Xpa_now : Nat → Int32} {Xpa_then : Nat → Int32} {Xko_stands : Option Nat} {Xka_gaps : Nat → Int32} {Xka_behind : Nat → Int32} {Xba_less : Nat → Int32} {Xba_full : Nat → Int32} {Mf_code : Int32} {Ma_tape : Nat → Int32} {Ma_size : Nat → Int32} {Ma_fault : Nat → Int32} {Ma_faultPlace : Nat → Int32} {Ma_many : Nat → Int32} {Ma_lands : Nat → Int32} {Ma_evenings : Nat → Int32} {Ma_sights : Nat → Int32} {Ma_choirs : Nat → Int32} {Mf_reached : Int32} {Mf_length : Int32} {Mf_begins : Int32} {Mf_sort : Int32} {Mf_value : Int32} {Mf_word : Int64} {Mf_wrongAt : Int32} {Mf_laterFault : Int32} {Mf_laterPlace : Int32} {Ma_told : Nat → Int32} {Ma_read : Nat → Int32} {Mf_farHut : Int32} {Mf_farSinger : Int32} {Mf_good : Int32} {Mf_land : Int32} {Mf_huts : Int32} {Mf_singers : Int32} {Mf_evening : Int32} {Ma_at : Nat → Int32} {Ma_knows : Nat → Int32} {Ma_climbed : Nat → Int32} {Ma_snow : Nat → Int32} {Ma_level : Nat → Int32} {Mf_begun : Int32} {Mf_minute : Int32} {Mf_avalanches : Int32} {Ma_run : Nat → Int32} {Ma_covers : Nat → Int32} {Ma_routes : Nat → Int32} {Ma_longest : Nat → Int32} {Ma_steep : Nat → Int32} {Ma_laid : Nat → Int32} {Ma_far : Nat → Int32} {Mf_sight : Int32} {Ma_runs : Nat → Int32} {Mf_choir : Int32} {Mf_voices : Int32} {Ma_rest : Nat → Int64} {Ma_wins : Nat → Int32} {Mf_seed : Int32} {Ma_other : Nat → Int32} {Ma_kept : Nat → Int32} {N : (Int32) → (Int32) → (Int32) → Prop} {H : Heap} {locs : List Loc} {ls : Array Slot}
    (C0 : lw_At p s m meth c b L xs) (hi : i + 6 ≤ L) (hL : L ≤ 3072) (hcs : cells ≤ room_1.cells ∧ slots ≤ room_1.slots) (hbx : s.heap.size ≤ bx) (hbm : bx + 93 ≤ bm) (hK : zK E s)
    (hX : wxW E bx Xta_tape Xtf_length Xtf_fault Xtf_place Xta_counts Xtl0f_huts Xtl0f_singers Xtl0f_villages Xtl0f_dams Xtl0f_echoes Xtl0f_deep Xtl0f_slide Xtl0a_heights Xtl0a_ladders Xtl0a_minutes Xtl0a_echoFrom Xtl0a_echoTo Xtl0a_homes Xtl0a_talls Xtl0a_known Xtl1f_huts Xtl1f_singers Xtl1f_villages Xtl1f_dams Xtl1f_echoes Xtl1f_deep Xtl1f_slide Xtl1a_heights Xtl1a_ladders Xtl1a_minutes Xtl1a_echoFrom Xtl1a_echoTo Xtl1a_homes Xtl1a_talls Xtl1a_known Xtv0f_deeds Xtv0a_kinds Xtv0a_firsts Xtv0a_seconds Xtv1f_deeds Xtv1a_kinds Xtv1a_firsts Xtv1a_seconds Xts0f_facts Xts0a_heard Xts0a_huts Xts0a_minutes Xts1f_facts Xts1a_heard Xts1a_huts Xts1a_minutes Xtc0f_voices Xtc0f_step Xtc0a_parts Xtc0a_heights Xtc1f_voices Xtc1f_step Xtc1a_parts Xtc1a_heights Xm_images Xrlf_huts Xrlf_singers Xrlf_villages Xrlf_dams Xrlf_echoes Xrlf_deep Xrlf_slide Xrla_heights Xrla_ladders Xrla_minutes Xrla_echoFrom Xrla_echoTo Xrla_homes Xrla_talls Xrla_known Xrvf_deeds Xrva_kinds Xrva_firsts Xrva_seconds Xrsf_facts Xrsa_heard Xrsa_huts Xrsa_minutes Xrcf_voices Xrcf_step Xrca_parts Xrca_heights Xrf_fault Xrf_faultPlace Xra_numbers Xra_tape Xrf_length Xrf_behind Xrf_kind Xrf_first Xrf_value Xrf_hutsToldOf Xrf_singersToldOf Xnf_minute Xnf_avalanches Xnf_begun Xnf_climbed Xnf_seed Xna_huts Xna_known Xna_levels Xna_snow Xna_open Xpa_heard Xpa_walked Xpa_total Xpa_longest Xpa_next Xpa_cover Xpa_now Xpa_then Xko_stands Xka_gaps Xka_behind Xba_less Xba_full H) (hM : mW E bm Mf_code Ma_tape Ma_size Ma_fault Ma_faultPlace Ma_many Ma_lands Ma_evenings Ma_sights Ma_choirs Mf_reached Mf_length Mf_begins Mf_sort Mf_value Mf_word Mf_wrongAt Mf_laterFault Mf_laterPlace Ma_told Ma_read Mf_farHut Mf_farSinger Mf_good Mf_land Mf_huts Mf_singers Mf_evening Ma_at Ma_knows Ma_climbed Ma_snow Ma_level Mf_begun Mf_minute Mf_avalanches Ma_run Ma_covers Ma_routes Ma_longest Ma_steep Ma_laid Ma_far Mf_sight Ma_runs Mf_choir Mf_voices Ma_rest Ma_wins Mf_seed Ma_other Ma_kept H) (hS : va_S (fun q => s.heap.size ≤ q) s.heap H locs)
    (hl : lv_has ls 4 [(0, .ref b), (1, .ref bx), (2, .ref bm), (3, .int (nI i))])
    (hw : q_wx_X10_teach_0 Xta_counts Xtv0f_deeds Xtv1f_deeds (xs (nI i + (1 : Int32)).toNatClampNeg) (xs (nI i + (2 : Int32)).toNatClampNeg) (xs (nI i + (3 : Int32)).toNatClampNeg) (xs (nI i + (4 : Int32)).toNatClampNeg) (fun r1 => q_m_teach_0 Mf_code Ma_many Mf_land Mf_evening (xs (nI i + (1 : Int32)).toNatClampNeg) (xs (nI i + (2 : Int32)).toNatClampNeg) (xs (nI i + (3 : Int32)).toNatClampNeg) (xs (nI i + (4 : Int32)).toNatClampNeg) (fun r2 Vf_code Vf_land Vf_evening => r1 = r2 ∧ N Vf_code Vf_land Vf_evening)))
    (kk : ∀ (Vf_code : (Int32)) (Vf_land : (Int32)) (Vf_evening : (Int32)) (H : Heap) (locs : List Loc), N Vf_code Vf_land Vf_evening → wxW E bx Xta_tape Xtf_length Xtf_fault Xtf_place Xta_counts Xtl0f_huts Xtl0f_singers Xtl0f_villages Xtl0f_dams Xtl0f_echoes Xtl0f_deep Xtl0f_slide Xtl0a_heights Xtl0a_ladders Xtl0a_minutes Xtl0a_echoFrom Xtl0a_echoTo Xtl0a_homes Xtl0a_talls Xtl0a_known Xtl1f_huts Xtl1f_singers Xtl1f_villages Xtl1f_dams Xtl1f_echoes Xtl1f_deep Xtl1f_slide Xtl1a_heights Xtl1a_ladders Xtl1a_minutes Xtl1a_echoFrom Xtl1a_echoTo Xtl1a_homes Xtl1a_talls Xtl1a_known Xtv0f_deeds Xtv0a_kinds Xtv0a_firsts Xtv0a_seconds Xtv1f_deeds Xtv1a_kinds Xtv1a_firsts Xtv1a_seconds Xts0f_facts Xts0a_heard Xts0a_huts Xts0a_minutes Xts1f_facts Xts1a_heard Xts1a_huts Xts1a_minutes Xtc0f_voices Xtc0f_step Xtc0a_parts Xtc0a_heights Xtc1f_voices Xtc1f_step Xtc1a_parts Xtc1a_heights Xm_images Xrlf_huts Xrlf_singers Xrlf_villages Xrlf_dams Xrlf_echoes Xrlf_deep Xrlf_slide Xrla_heights Xrla_ladders Xrla_minutes Xrla_echoFrom Xrla_echoTo Xrla_homes Xrla_talls Xrla_known Xrvf_deeds Xrva_kinds Xrva_firsts Xrva_seconds Xrsf_facts Xrsa_heard Xrsa_huts Xrsa_minutes Xrcf_voices Xrcf_step Xrca_parts Xrca_heights Xrf_fault Xrf_faultPlace Xra_numbers Xra_tape Xrf_length Xrf_behind Xrf_kind Xrf_first Xrf_value Xrf_hutsToldOf Xrf_singersToldOf Xnf_minute Xnf_avalanches Xnf_begun Xnf_climbed Xnf_seed Xna_huts Xna_known Xna_levels Xna_snow Xna_open Xpa_heard Xpa_walked Xpa_total Xpa_longest Xpa_next Xpa_cover Xpa_now Xpa_then Xko_stands Xka_gaps Xka_behind Xba_less Xba_full H → mW E bm Vf_code Ma_tape Ma_size Ma_fault Ma_faultPlace Ma_many Ma_lands Ma_evenings Ma_sights Ma_choirs Mf_reached Mf_length Mf_begins Mf_sort Mf_value Mf_word Mf_wrongAt Mf_laterFault Mf_laterPlace Ma_told Ma_read Mf_farHut Mf_farSinger Mf_good Vf_land Mf_huts Mf_singers Vf_evening Ma_at Ma_knows Ma_climbed Ma_snow Ma_level Mf_begun Mf_minute Mf_avalanches Ma_run Ma_covers Ma_routes Ma_longest Ma_steep Ma_laid Ma_far Mf_sight Ma_runs Mf_choir Mf_voices Ma_rest Ma_wins Mf_seed Ma_other Ma_kept H → va_S (fun q => s.heap.size ≤ q) s.heap H locs → W p l e room_1 s m #[Value.ref b] below meth c H locs cells slots (lw_Z below #[Value.ref b] s) (F0 m 1649 ls [])) :
    W p l e room_1 s m #[Value.ref b] below meth c H locs cells slots (lw_Z below #[Value.ref b] s) (F0 m 1527 ls []) := by
  obtain ⟨hx, hb, hr, hml, hown, hts, hX0, hbl, hlocks, hgv⟩ := C0
  have zc : zC p s m #[Value.ref b] meth c cL_law 4 RL ret := ⟨hx, hb, hml, hown, fun w hw => hts w (zb_in hw), hr, hlocks⟩
  have hbA : ¬ (fun q : Nat => s.heap.size ≤ q) b := Nat.not_le.mpr hbl
  have hn1 : vp_in (nI i + (1 : Int32)) L := zidx hi hL rfl (by decide)
  have hn2 : vp_in (nI i + (2 : Int32)) L := zidx hi hL rfl (by decide)
  have hn3 : vp_in (nI i + (3 : Int32)) L := zidx hi hL rfl (by decide)
  have hn4 : vp_in (nI i + (4 : Int32)) L := zidx hi hL rfl (by decide)
  refine lv_aload_n hx hb dL_law_1527 rfl (lv_at hl 1 rfl) ?_
  refine lv_aload_n hx hb dL_law_1528 rfl (lv_at hl 0 rfl) ?_
  refine lv_iload_n hx hb dL_law_1529 rfl (lv_at hl 3 rfl) ?_
  refine lv_iconst (v := (1 : Int32)) hx hb dL_law_1530 (by decide) ?_
  refine lv_iadd hx hb dL_law_1531 ?_
  refine va_sld hx hb hX0 hbl hbA hS hn1 dL_law_1532 ?_
  refine lv_aload_n hx hb dL_law_1533 rfl (lv_at hl 0 rfl) ?_
  refine lv_iload_n hx hb dL_law_1534 rfl (lv_at hl 3 rfl) ?_
  refine lv_iconst (v := (2 : Int32)) hx hb dL_law_1535 (by decide) ?_
  refine lv_iadd hx hb dL_law_1536 ?_
  refine va_sld hx hb hX0 hbl hbA hS hn2 dL_law_1537 ?_
  refine lv_aload_n hx hb dL_law_1538 rfl (lv_at hl 0 rfl) ?_
  refine lv_iload_n hx hb dL_law_1539 rfl (lv_at hl 3 rfl) ?_
  refine lv_iconst (v := (3 : Int32)) hx hb dL_law_1540 (by decide) ?_
  refine lv_iadd hx hb dL_law_1541 ?_
  refine va_sld hx hb hX0 hbl hbA hS hn3 dL_law_1542 ?_
  refine lv_aload_n hx hb dL_law_1543 rfl (lv_at hl 0 rfl) ?_
  refine lv_iload_n hx hb dL_law_1544 rfl (lv_at hl 3 rfl) ?_
  refine lv_iconst (v := (4 : Int32)) hx hb dL_law_1545 (by decide) ?_
  refine lv_iadd hx hb dL_law_1546 ?_
  refine va_sld hx hb hX0 hbl hbA hS hn4 dL_law_1547 ?_
  refine zV_i [.int (xs (nI i + (1 : Int32)).toNatClampNeg), .int (xs (nI i + (2 : Int32)).toNatClampNeg), .int (xs (nI i + (3 : Int32)).toNatClampNeg), .int (xs (nI i + (4 : Int32)).toNatClampNeg)] [] zc ky_X10_teach kz_X10_teach kmL_139 (c_wx_X10_teach l hw) (wxPreV0 hK hX) rfl rfl hl.1 (Nat.le_of_ble_eq_true rfl) ⟨rfl, rfl⟩ ⟨Nat.le_of_ble_eq_true rfl, Nat.le_of_ble_eq_true rfl⟩ hcs dL_law_1548 (fun r1 hw => ?_)
  refine lv_aload_n hx hb dL_law_1551 rfl (lv_at hl 2 rfl) ?_
  refine lv_aload_n hx hb dL_law_1552 rfl (lv_at hl 0 rfl) ?_
  refine lv_iload_n hx hb dL_law_1553 rfl (lv_at hl 3 rfl) ?_
  refine lv_iconst (v := (1 : Int32)) hx hb dL_law_1554 (by decide) ?_
  refine lv_iadd hx hb dL_law_1555 ?_
  refine va_sld hx hb hX0 hbl hbA hS hn1 dL_law_1556 ?_
  refine lv_aload_n hx hb dL_law_1557 rfl (lv_at hl 0 rfl) ?_
  refine lv_iload_n hx hb dL_law_1558 rfl (lv_at hl 3 rfl) ?_
  refine lv_iconst (v := (2 : Int32)) hx hb dL_law_1559 (by decide) ?_
  refine lv_iadd hx hb dL_law_1560 ?_
  refine va_sld hx hb hX0 hbl hbA hS hn2 dL_law_1561 ?_
  refine lv_aload_n hx hb dL_law_1562 rfl (lv_at hl 0 rfl) ?_
  refine lv_iload_n hx hb dL_law_1563 rfl (lv_at hl 3 rfl) ?_
  refine lv_iconst (v := (3 : Int32)) hx hb dL_law_1564 (by decide) ?_
  refine lv_iadd hx hb dL_law_1565 ?_
  refine va_sld hx hb hX0 hbl hbA hS hn3 dL_law_1566 ?_
  refine lv_aload_n hx hb dL_law_1567 rfl (lv_at hl 0 rfl) ?_
  refine lv_iload_n hx hb dL_law_1568 rfl (lv_at hl 3 rfl) ?_
  refine lv_iconst (v := (4 : Int32)) hx hb dL_law_1569 (by decide) ?_
  refine lv_iadd hx hb dL_law_1570 ?_
  refine va_sld hx hb hX0 hbl hbA hS hn4 dL_law_1571 ?_
  refine zVx_i [.int (xs (nI i + (1 : Int32)).toNatClampNeg), .int (xs (nI i + (2 : Int32)).toNatClampNeg), .int (xs (nI i + (3 : Int32)).toNatClampNeg), .int (xs (nI i + (4 : Int32)).toNatClampNeg)] [.int r1] zc ky_X11_teach kz_X11_teach kmL_142 (c_m_teach l hw) (mPreV0 hK hM) hS (fun q (h : mA bm q) => Nat.le_trans hbx (Nat.le_trans (Nat.le_trans (Nat.le_add_right bx 93) hbm) h.1)) rfl rfl hl.1 (Nat.le_of_ble_eq_true rfl) ⟨rfl, rfl⟩ ⟨Nat.le_of_ble_eq_true rfl, Nat.le_of_ble_eq_true rfl⟩ hcs dL_law_1572 (fun r2 u H locs hw h9 hk hS => ?_)
  obtain ⟨Vf_code, Vf_land, Vf_evening⟩ := u
  have hX := wx_kp hX (fun q h1 h2 h3 => hk q h1 (fun h => zap hbm h.1 h3))
  have hM := h9
  refine lv_icmp_eq (tgt := 1649) hx hb dL_law_1575 (by decide) (fun hd => ?_) (fun hd => absurd hw.1 hd)
  exact kk _ _ _ _ _ hw.2 hX hM hS
