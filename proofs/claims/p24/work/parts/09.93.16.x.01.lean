-- wx_X10_reachState
abbrev rm_wx_X10_reachState : Room := { frames := 5, cells := 0, slots := 0, locals := 121 }
def q_wx_X10_reachState_0 (ta_counts : Nat → Int32) (tl0f_huts : Int32) (tl0f_singers : Int32) (tl0f_dams : Int32) (tl0f_echoes : Int32) (tl0f_deep : Int32) (tl0a_heights : Nat → Int32) (tl0a_ladders : Nat → Int32) (tl0a_minutes : Nat → Int32) (tl0a_echoFrom : Nat → Int32) (tl0a_echoTo : Nat → Int32) (tl0a_homes : Nat → Int32) (tl0a_talls : Nat → Int32) (tl0a_known : Nat → Int32) (tl1f_huts : Int32) (tl1f_singers : Int32) (tl1f_dams : Int32) (tl1f_echoes : Int32) (tl1f_deep : Int32) (tl1a_heights : Nat → Int32) (tl1a_ladders : Nat → Int32) (tl1a_minutes : Nat → Int32) (tl1a_echoFrom : Nat → Int32) (tl1a_echoTo : Nat → Int32) (tl1a_homes : Nat → Int32) (tl1a_talls : Nat → Int32) (tl1a_known : Nat → Int32) (tv0f_deeds : Int32) (tv0a_kinds : Nat → Int32) (tv0a_firsts : Nat → Int32) (tv0a_seconds : Nat → Int32) (tv1f_deeds : Int32) (tv1a_kinds : Nat → Int32) (tv1a_firsts : Nat → Int32) (tv1a_seconds : Nat → Int32) (nf_minute : Int32) (nf_avalanches : Int32) (nf_begun : Int32) (nf_climbed : Int32) (na_huts : Nat → Int32) (na_known : Nat → Int32) (na_levels : Nat → Int32) (na_snow : Nat → Int32) (x1 : Int32) (x2 : Int32) (x3 : Int32) (post : Int32 → (Int32) → (Int32) → (Int32) → (Int32) → (Nat → Int32) → (Nat → Int32) → (Nat → Int32) → (Nat → Int32) → Prop) : Prop :=
  q_wx_X10_landAt_0 ta_counts x1 (fun r_1 => (r_1 = 0 → (q_wx_X10_eveningAt_0 ta_counts x2 (fun r_2 => (r_2 = 0 → (post (0 : Int32) nf_minute nf_avalanches nf_begun nf_climbed na_huts na_known na_levels na_snow)) ∧ (r_2 = 1 → (post (0 : Int32) nf_minute nf_avalanches nf_begun nf_climbed na_huts na_known na_levels na_snow)) ∧ (¬ r_2 = 0 → ¬ r_2 = 1 → (post (0 : Int32) nf_minute nf_avalanches nf_begun nf_climbed na_huts na_known na_levels na_snow))))) ∧ (r_1 = 1 → (q_wx_X10_eveningAt_0 ta_counts x2 (fun r_3 => (r_3 = 0 → (post (0 : Int32) nf_minute nf_avalanches nf_begun nf_climbed na_huts na_known na_levels na_snow)) ∧ (r_3 = 1 → ((x3 < 0 → (post (0 : Int32) nf_minute nf_avalanches nf_begun nf_climbed na_huts na_known na_levels na_snow)) ∧ (¬ x3 < 0 → ((x3 ≤ tv1f_deeds → (q_wn_X3_play_6_15_0 nf_minute nf_avalanches nf_begun nf_climbed na_huts na_known na_levels na_snow tl1f_huts tl1f_singers tl1f_dams tl1f_echoes tl1f_deep tl1a_heights tl1a_ladders tl1a_minutes tl1a_echoFrom tl1a_echoTo tl1a_homes tl1a_talls tl1a_known tv1f_deeds tv1a_kinds tv1a_firsts tv1a_seconds x3 (fun r_4 nf_minute_1 nf_avalanches_1 nf_begun_1 nf_climbed_1 na_huts_1 na_known_1 na_levels_1 na_snow_1 => (¬ r_4 = x3 → (post (0 : Int32) nf_minute_1 nf_avalanches_1 nf_begun_1 nf_climbed_1 na_huts_1 na_known_1 na_levels_1 na_snow_1)) ∧ (r_4 = x3 → (post (1 : Int32) nf_minute_1 nf_avalanches_1 nf_begun_1 nf_climbed_1 na_huts_1 na_known_1 na_levels_1 na_snow_1))))) ∧ (¬ x3 ≤ tv1f_deeds → (post (0 : Int32) nf_minute nf_avalanches nf_begun nf_climbed na_huts na_known na_levels na_snow)))))) ∧ (¬ r_3 = 0 → ¬ r_3 = 1 → ((x3 < 0 → (post (0 : Int32) nf_minute nf_avalanches nf_begun nf_climbed na_huts na_known na_levels na_snow)) ∧ (¬ x3 < 0 → ((x3 ≤ tv0f_deeds → (q_wn_X3_play_6_15_0 nf_minute nf_avalanches nf_begun nf_climbed na_huts na_known na_levels na_snow tl1f_huts tl1f_singers tl1f_dams tl1f_echoes tl1f_deep tl1a_heights tl1a_ladders tl1a_minutes tl1a_echoFrom tl1a_echoTo tl1a_homes tl1a_talls tl1a_known tv0f_deeds tv0a_kinds tv0a_firsts tv0a_seconds x3 (fun r_5 nf_minute_2 nf_avalanches_2 nf_begun_2 nf_climbed_2 na_huts_2 na_known_2 na_levels_2 na_snow_2 => (¬ r_5 = x3 → (post (0 : Int32) nf_minute_2 nf_avalanches_2 nf_begun_2 nf_climbed_2 na_huts_2 na_known_2 na_levels_2 na_snow_2)) ∧ (r_5 = x3 → (post (1 : Int32) nf_minute_2 nf_avalanches_2 nf_begun_2 nf_climbed_2 na_huts_2 na_known_2 na_levels_2 na_snow_2))))) ∧ (¬ x3 ≤ tv0f_deeds → (post (0 : Int32) nf_minute nf_avalanches nf_begun nf_climbed na_huts na_known na_levels na_snow))))))))) ∧ (¬ r_1 = 0 → ¬ r_1 = 1 → (q_wx_X10_eveningAt_0 ta_counts x2 (fun r_6 => (r_6 = 0 → (post (0 : Int32) nf_minute nf_avalanches nf_begun nf_climbed na_huts na_known na_levels na_snow)) ∧ (r_6 = 1 → ((x3 < 0 → (post (0 : Int32) nf_minute nf_avalanches nf_begun nf_climbed na_huts na_known na_levels na_snow)) ∧ (¬ x3 < 0 → ((x3 ≤ tv1f_deeds → (q_wn_X3_play_6_15_0 nf_minute nf_avalanches nf_begun nf_climbed na_huts na_known na_levels na_snow tl0f_huts tl0f_singers tl0f_dams tl0f_echoes tl0f_deep tl0a_heights tl0a_ladders tl0a_minutes tl0a_echoFrom tl0a_echoTo tl0a_homes tl0a_talls tl0a_known tv1f_deeds tv1a_kinds tv1a_firsts tv1a_seconds x3 (fun r_7 nf_minute_3 nf_avalanches_3 nf_begun_3 nf_climbed_3 na_huts_3 na_known_3 na_levels_3 na_snow_3 => (¬ r_7 = x3 → (post (0 : Int32) nf_minute_3 nf_avalanches_3 nf_begun_3 nf_climbed_3 na_huts_3 na_known_3 na_levels_3 na_snow_3)) ∧ (r_7 = x3 → (post (1 : Int32) nf_minute_3 nf_avalanches_3 nf_begun_3 nf_climbed_3 na_huts_3 na_known_3 na_levels_3 na_snow_3))))) ∧ (¬ x3 ≤ tv1f_deeds → (post (0 : Int32) nf_minute nf_avalanches nf_begun nf_climbed na_huts na_known na_levels na_snow)))))) ∧ (¬ r_6 = 0 → ¬ r_6 = 1 → ((x3 < 0 → (post (0 : Int32) nf_minute nf_avalanches nf_begun nf_climbed na_huts na_known na_levels na_snow)) ∧ (¬ x3 < 0 → ((x3 ≤ tv0f_deeds → (q_wn_X3_play_6_15_0 nf_minute nf_avalanches nf_begun nf_climbed na_huts na_known na_levels na_snow tl0f_huts tl0f_singers tl0f_dams tl0f_echoes tl0f_deep tl0a_heights tl0a_ladders tl0a_minutes tl0a_echoFrom tl0a_echoTo tl0a_homes tl0a_talls tl0a_known tv0f_deeds tv0a_kinds tv0a_firsts tv0a_seconds x3 (fun r_8 nf_minute_4 nf_avalanches_4 nf_begun_4 nf_climbed_4 na_huts_4 na_known_4 na_levels_4 na_snow_4 => (¬ r_8 = x3 → (post (0 : Int32) nf_minute_4 nf_avalanches_4 nf_begun_4 nf_climbed_4 na_huts_4 na_known_4 na_levels_4 na_snow_4)) ∧ (r_8 = x3 → (post (1 : Int32) nf_minute_4 nf_avalanches_4 nf_begun_4 nf_climbed_4 na_huts_4 na_known_4 na_levels_4 na_snow_4))))) ∧ (¬ x3 ≤ tv0f_deeds → (post (0 : Int32) nf_minute nf_avalanches nf_begun nf_climbed na_huts na_known na_levels na_snow))))))))))
set_option maxRecDepth 20000 in
theorem t_wx_X10_reachState_0 {p : Program} {l : Launch} {e : Env} {s : State} {m : MethodId} {args : Array Value} {below : List Frame} {meth : Method} {c : Code} {E : zE} {qx : Nat} {ta_tape : Nat → Int32} {tf_length : Int32} {tf_fault : Int32} {tf_place : Int32} {ta_counts : Nat → Int32} {tl0f_huts : Int32} {tl0f_singers : Int32} {tl0f_villages : Int32} {tl0f_dams : Int32} {tl0f_echoes : Int32} {tl0f_deep : Int32} {tl0f_slide : Int32} {tl0a_heights : Nat → Int32} {tl0a_ladders : Nat → Int32} {tl0a_minutes : Nat → Int32} {tl0a_echoFrom : Nat → Int32} {tl0a_echoTo : Nat → Int32} {tl0a_homes : Nat → Int32} {tl0a_talls : Nat → Int32} {tl0a_known : Nat → Int32} {tl1f_huts : Int32} {tl1f_singers : Int32} {tl1f_villages : Int32} {tl1f_dams : Int32} {tl1f_echoes : Int32} {tl1f_deep : Int32} {tl1f_slide : Int32} {tl1a_heights : Nat → Int32} {tl1a_ladders : Nat → Int32} {tl1a_minutes : Nat → Int32} {tl1a_echoFrom : Nat → Int32} {tl1a_echoTo : Nat → Int32} {tl1a_homes : Nat → Int32} {tl1a_talls : Nat → Int32} {tl1a_known : Nat → Int32} {tv0f_deeds : Int32} {tv0a_kinds : Nat → Int32} {tv0a_firsts : Nat → Int32} {tv0a_seconds : Nat → Int32} {tv1f_deeds : Int32} {tv1a_kinds : Nat → Int32} {tv1a_firsts : Nat → Int32} {tv1a_seconds : Nat → Int32} {ts0f_facts : Int32} {ts0a_heard : Nat → Int32} {ts0a_huts : Nat → Int32} {ts0a_minutes : Nat → Int32} {ts1f_facts : Int32} {ts1a_heard : Nat → Int32} {ts1a_huts : Nat → Int32} {ts1a_minutes : Nat → Int32} {tc0f_voices : Int32} {tc0f_step : Int32} {tc0a_parts : Nat → Int32} {tc0a_heights : Nat → Int32} {tc1f_voices : Int32} {tc1f_step : Int32} {tc1a_parts : Nat → Int32} {tc1a_heights : Nat → Int32} {m_images : Nat → Option Nat} {rlf_huts : Int32} {rlf_singers : Int32} {rlf_villages : Int32} {rlf_dams : Int32} {rlf_echoes : Int32} {rlf_deep : Int32} {rlf_slide : Int32} {rla_heights : Nat → Int32} {rla_ladders : Nat → Int32} {rla_minutes : Nat → Int32} {rla_echoFrom : Nat → Int32} {rla_echoTo : Nat → Int32} {rla_homes : Nat → Int32} {rla_talls : Nat → Int32} {rla_known : Nat → Int32} {rvf_deeds : Int32} {rva_kinds : Nat → Int32} {rva_firsts : Nat → Int32} {rva_seconds : Nat → Int32} {rsf_facts : Int32} {rsa_heard : Nat → Int32} {rsa_huts : Nat → Int32} {rsa_minutes : Nat → Int32} {rcf_voices : Int32} {rcf_step : Int32} {rca_parts : Nat → Int32} {rca_heights : Nat → Int32} {rf_fault : Int32} {rf_faultPlace : Int32} {ra_numbers : Nat → Int32} {ra_tape : Nat → Int32} {rf_length : Int32} {rf_behind : Int32} {rf_kind : Int32} {rf_first : Int32} {rf_value : Int32} {rf_hutsToldOf : Int32} {rf_singersToldOf : Int32} {nf_minute : Int32} {nf_avalanches : Int32} {nf_begun : Int32} {nf_climbed : Int32} {nf_seed : Int32} {na_huts : Nat → Int32} {na_known : Nat → Int32} {na_levels : Nat → Int32} {na_snow : Nat → Int32} {na_open : Nat → Int32} {pa_heard : Nat → Int32} {pa_walked : Nat → Int32} {pa_total : Nat → Int32} {pa_longest : Nat → Int32} {pa_next : Nat → Int32} {pa_cover : Nat → Int32} {pa_now : Nat → Int32} {pa_then : Nat → Int32} {ko_stands : Option Nat} {ka_gaps : Nat → Int32} {ka_behind : Nat → Int32} {ba_less : Nat → Int32} {ba_full : Nat → Int32} {post : Int32 → (Int32) → (Int32) → (Int32) → (Int32) → (Nat → Int32) → (Nat → Int32) → (Nat → Int32) → (Nat → Int32) → Prop} {x1 : Int32} {x2 : Int32} {x3 : Int32} {ls : Array Slot} {H : Heap} {locs : List Loc}
    (zc : zC p s m args meth c cX10_reachState 6 RX10 (some .boolean))
    (hK : zK E s)
    (hM : wxW E qx ta_tape tf_length tf_fault tf_place ta_counts tl0f_huts tl0f_singers tl0f_villages tl0f_dams tl0f_echoes tl0f_deep tl0f_slide tl0a_heights tl0a_ladders tl0a_minutes tl0a_echoFrom tl0a_echoTo tl0a_homes tl0a_talls tl0a_known tl1f_huts tl1f_singers tl1f_villages tl1f_dams tl1f_echoes tl1f_deep tl1f_slide tl1a_heights tl1a_ladders tl1a_minutes tl1a_echoFrom tl1a_echoTo tl1a_homes tl1a_talls tl1a_known tv0f_deeds tv0a_kinds tv0a_firsts tv0a_seconds tv1f_deeds tv1a_kinds tv1a_firsts tv1a_seconds ts0f_facts ts0a_heard ts0a_huts ts0a_minutes ts1f_facts ts1a_heard ts1a_huts ts1a_minutes tc0f_voices tc0f_step tc0a_parts tc0a_heights tc1f_voices tc1f_step tc1a_parts tc1a_heights m_images rlf_huts rlf_singers rlf_villages rlf_dams rlf_echoes rlf_deep rlf_slide rla_heights rla_ladders rla_minutes rla_echoFrom rla_echoTo rla_homes rla_talls rla_known rvf_deeds rva_kinds rva_firsts rva_seconds rsf_facts rsa_heard rsa_huts rsa_minutes rcf_voices rcf_step rca_parts rca_heights rf_fault rf_faultPlace ra_numbers ra_tape rf_length rf_behind rf_kind rf_first rf_value rf_hutsToldOf rf_singersToldOf nf_minute nf_avalanches nf_begun nf_climbed nf_seed na_huts na_known na_levels na_snow na_open pa_heard pa_walked pa_total pa_longest pa_next pa_cover pa_now pa_then ko_stands ka_gaps ka_behind ba_less ba_full H)
    (hS : va_S (wxA qx) s.heap H locs)
    (hl : lv_has ls 6 [(0, .ref qx), (1, .int x1), (2, .int x2), (3, .int x3)])
    (hw : q_wx_X10_reachState_0 ta_counts tl0f_huts tl0f_singers tl0f_dams tl0f_echoes tl0f_deep tl0a_heights tl0a_ladders tl0a_minutes tl0a_echoFrom tl0a_echoTo tl0a_homes tl0a_talls tl0a_known tl1f_huts tl1f_singers tl1f_dams tl1f_echoes tl1f_deep tl1a_heights tl1a_ladders tl1a_minutes tl1a_echoFrom tl1a_echoTo tl1a_homes tl1a_talls tl1a_known tv0f_deeds tv0a_kinds tv0a_firsts tv0a_seconds tv1f_deeds tv1a_kinds tv1a_firsts tv1a_seconds nf_minute nf_avalanches nf_begun nf_climbed na_huts na_known na_levels na_snow x1 x2 x3 post) :
    W p l e rm_wx_X10_reachState s m args below meth c H locs 0 0 (MQ below (zQi (S := (Int32) × (Int32) × (Int32) × (Int32) × (Nat → Int32) × (Nat → Int32) × (Nat → Int32) × (Nat → Int32)) (fun r u => post r u.1 u.2.1 u.2.2.1 u.2.2.2.1 u.2.2.2.2.1 u.2.2.2.2.2.1 u.2.2.2.2.2.2.1 u.2.2.2.2.2.2.2) (fun u H => wxW E qx ta_tape tf_length tf_fault tf_place ta_counts tl0f_huts tl0f_singers tl0f_villages tl0f_dams tl0f_echoes tl0f_deep tl0f_slide tl0a_heights tl0a_ladders tl0a_minutes tl0a_echoFrom tl0a_echoTo tl0a_homes tl0a_talls tl0a_known tl1f_huts tl1f_singers tl1f_villages tl1f_dams tl1f_echoes tl1f_deep tl1f_slide tl1a_heights tl1a_ladders tl1a_minutes tl1a_echoFrom tl1a_echoTo tl1a_homes tl1a_talls tl1a_known tv0f_deeds tv0a_kinds tv0a_firsts tv0a_seconds tv1f_deeds tv1a_kinds tv1a_firsts tv1a_seconds ts0f_facts ts0a_heard ts0a_huts ts0a_minutes ts1f_facts ts1a_heard ts1a_huts ts1a_minutes tc0f_voices tc0f_step tc0a_parts tc0a_heights tc1f_voices tc1f_step tc1a_parts tc1a_heights m_images rlf_huts rlf_singers rlf_villages rlf_dams rlf_echoes rlf_deep rlf_slide rla_heights rla_ladders rla_minutes rla_echoFrom rla_echoTo rla_homes rla_talls rla_known rvf_deeds rva_kinds rva_firsts rva_seconds rsf_facts rsa_heard rsa_huts rsa_minutes rcf_voices rcf_step rca_parts rca_heights rf_fault rf_faultPlace ra_numbers ra_tape rf_length rf_behind rf_kind rf_first rf_value rf_hutsToldOf rf_singersToldOf u.1 u.2.1 u.2.2.1 u.2.2.2.1 nf_seed u.2.2.2.2.1 u.2.2.2.2.2.1 u.2.2.2.2.2.2.1 u.2.2.2.2.2.2.2 na_open pa_heard pa_walked pa_total pa_longest pa_next pa_cover pa_now pa_then ko_stands ka_gaps ka_behind ba_less ba_full H) (wxA qx)) args s 0 0 (wxA qx)) (F0 m 0 ls []) := by
  have hx := zc.1
  have hb := zc.2.1
  refine lv_aload_n hx hb dX10_reachState_0 rfl (lv_at hl 0 rfl) ?_
  refine lv_iload_n hx hb dX10_reachState_1 rfl (lv_at hl 1 rfl) ?_
  refine zV_r [.int x1] [] zc ky_X10_landAt kz_X10_landAt km_10_89 (c_wx_X10_landAt l hw) (wxPreV0 hK hM) rfl rfl hl.1 (Nat.le_of_ble_eq_true rfl) ⟨rfl, rfl⟩ ⟨Nat.le_of_ble_eq_true rfl, Nat.le_of_ble_eq_true rfl⟩ ⟨(Nat.zero_le _), (Nat.zero_le _)⟩ dX10_reachState_2 (fun r_1 hw => ?_)
  by_cases hc0 : r_1 = 0
  · have hw := hw.1 hc0
    refine W.eq (g2 := F0 m 5 ls (.null :: [])) (by simp [hc0]) ?_
    refine lv_astoreN (lv' := [(4, .null), (0, .ref qx), (1, .int x1), (2, .int x2), (3, .int x3)]) hx hb dX10_reachState_5 hl (by decide) rfl (fun ls hl => ?_)
    refine lv_aload_n hx hb dX10_reachState_7 rfl (lv_at hl 1 rfl) ?_
    refine lv_iload_n hx hb dX10_reachState_8 rfl (lv_at hl 3 rfl) ?_
    refine zV_r [.int x2] [] zc ky_X10_eveningAt kz_X10_eveningAt km_10_109 (c_wx_X10_eveningAt l hw) (wxPreV0 hK hM) rfl rfl hl.1 (Nat.le_of_ble_eq_true rfl) ⟨rfl, rfl⟩ ⟨Nat.le_of_ble_eq_true rfl, Nat.le_of_ble_eq_true rfl⟩ ⟨(Nat.zero_le _), (Nat.zero_le _)⟩ dX10_reachState_9 (fun r_2 hw => ?_)
    by_cases hc0 : r_2 = 0
    · have hw := hw.1 hc0
      refine W.eq (g2 := F0 m 12 ls (.null :: [])) (by simp [hc0]) ?_
      refine lv_astoreN (lv' := [(5, .null), (4, .null), (0, .ref qx), (1, .int x1), (2, .int x2), (3, .int x3)]) hx hb dX10_reachState_12 hl (by decide) rfl (fun ls hl => ?_)
      refine lv_aloadN hx hb dX10_reachState_14 (lv_at hl 1 rfl) ?_
      refine lv_ifnullN (tgt := 37) hx hb dX10_reachState_16 (by decide) ?_
      refine lv_iconst (v := (0 : Int32)) hx hb dX10_reachState_37 (by decide) ?_
      exact zret_zw ⟨nf_minute, nf_avalanches, nf_begun, nf_climbed, na_huts, na_known, na_levels, na_snow⟩ zc hS rfl hw hM dX10_reachState_38
    by_cases hc1 : r_2 = 1
    · have hw := hw.2.1 hc1
      refine W.eq (g2 := F0 m 12 ls (.ref (qx + 28) :: [])) (by simp [hc0, hc1]) ?_
      refine lv_astore (lv' := [(5, .ref (qx + 28)), (4, .null), (0, .ref qx), (1, .int x1), (2, .int x2), (3, .int x3)]) hx hb dX10_reachState_12 hl (by decide) rfl (fun ls hl => ?_)
      refine lv_aloadN hx hb dX10_reachState_14 (lv_at hl 1 rfl) ?_
      refine lv_ifnullN (tgt := 37) hx hb dX10_reachState_16 (by decide) ?_
      refine lv_iconst (v := (0 : Int32)) hx hb dX10_reachState_37 (by decide) ?_
      exact zret_zw ⟨nf_minute, nf_avalanches, nf_begun, nf_climbed, na_huts, na_known, na_levels, na_snow⟩ zc hS rfl hw hM dX10_reachState_38
    have hw := hw.2.2 hc0 hc1
    refine W.eq (g2 := F0 m 12 ls (.ref (qx + 24) :: [])) (by simp [hc0, hc1]) ?_
    refine lv_astore (lv' := [(5, .ref (qx + 24)), (4, .null), (0, .ref qx), (1, .int x1), (2, .int x2), (3, .int x3)]) hx hb dX10_reachState_12 hl (by decide) rfl (fun ls hl => ?_)
    refine lv_aloadN hx hb dX10_reachState_14 (lv_at hl 1 rfl) ?_
    refine lv_ifnullN (tgt := 37) hx hb dX10_reachState_16 (by decide) ?_
    refine lv_iconst (v := (0 : Int32)) hx hb dX10_reachState_37 (by decide) ?_
    exact zret_zw ⟨nf_minute, nf_avalanches, nf_begun, nf_climbed, na_huts, na_known, na_levels, na_snow⟩ zc hS rfl hw hM dX10_reachState_38
  by_cases hc1 : r_1 = 1
  · have hw := hw.2.1 hc1
    refine W.eq (g2 := F0 m 5 ls (.ref (qx + 14) :: [])) (by simp [hc0, hc1]) ?_
    refine lv_astore (lv' := [(4, .ref (qx + 14)), (0, .ref qx), (1, .int x1), (2, .int x2), (3, .int x3)]) hx hb dX10_reachState_5 hl (by decide) rfl (fun ls hl => ?_)
    refine lv_aload_n hx hb dX10_reachState_7 rfl (lv_at hl 1 rfl) ?_
    refine lv_iload_n hx hb dX10_reachState_8 rfl (lv_at hl 3 rfl) ?_
    refine zV_r [.int x2] [] zc ky_X10_eveningAt kz_X10_eveningAt km_10_109 (c_wx_X10_eveningAt l hw) (wxPreV0 hK hM) rfl rfl hl.1 (Nat.le_of_ble_eq_true rfl) ⟨rfl, rfl⟩ ⟨Nat.le_of_ble_eq_true rfl, Nat.le_of_ble_eq_true rfl⟩ ⟨(Nat.zero_le _), (Nat.zero_le _)⟩ dX10_reachState_9 (fun r_3 hw => ?_)
    by_cases hc0 : r_3 = 0
    · have hw := hw.1 hc0
      refine W.eq (g2 := F0 m 12 ls (.null :: [])) (by simp [hc0]) ?_
      refine lv_astoreN (lv' := [(5, .null), (4, .ref (qx + 14)), (0, .ref qx), (1, .int x1), (2, .int x2), (3, .int x3)]) hx hb dX10_reachState_12 hl (by decide) rfl (fun ls hl => ?_)
      refine lv_aload hx hb dX10_reachState_14 (lv_at hl 1 rfl) ?_
      refine lv_ifnull hx hb dX10_reachState_16 ?_
      refine lv_aloadN hx hb dX10_reachState_19 (lv_at hl 0 rfl) ?_
      refine lv_ifnullN (tgt := 37) hx hb dX10_reachState_21 (by decide) ?_
      refine lv_iconst (v := (0 : Int32)) hx hb dX10_reachState_37 (by decide) ?_
      exact zret_zw ⟨nf_minute, nf_avalanches, nf_begun, nf_climbed, na_huts, na_known, na_levels, na_snow⟩ zc hS rfl hw hM dX10_reachState_38
    by_cases hc1 : r_3 = 1
    · have hw := hw.2.1 hc1
      refine W.eq (g2 := F0 m 12 ls (.ref (qx + 28) :: [])) (by simp [hc0, hc1]) ?_
      refine lv_astore (lv' := [(5, .ref (qx + 28)), (4, .ref (qx + 14)), (0, .ref qx), (1, .int x1), (2, .int x2), (3, .int x3)]) hx hb dX10_reachState_12 hl (by decide) rfl (fun ls hl => ?_)
      refine lv_aload hx hb dX10_reachState_14 (lv_at hl 1 rfl) ?_
      refine lv_ifnull hx hb dX10_reachState_16 ?_
      refine lv_aload hx hb dX10_reachState_19 (lv_at hl 0 rfl) ?_
      refine lv_ifnull hx hb dX10_reachState_21 ?_
      refine lv_iload_n hx hb dX10_reachState_24 rfl (lv_at hl 5 rfl) ?_
      refine lv_if_lt (tgt := 37) hx hb dX10_reachState_25 (by decide) (fun hc => ?_) (fun hc => ?_)
      · have hw := hw.1 hc
        refine lv_iconst (v := (0 : Int32)) hx hb dX10_reachState_37 (by decide) ?_
        exact zret_zw ⟨nf_minute, nf_avalanches, nf_begun, nf_climbed, na_huts, na_known, na_levels, na_snow⟩ zc hS rfl hw hM dX10_reachState_38
      · have hw := hw.2 hc
        refine lv_iload_n hx hb dX10_reachState_28 rfl (lv_at hl 5 rfl) ?_
        refine lv_aload hx hb dX10_reachState_29 (lv_at hl 0 rfl) ?_
        refine wxg_10_113_28 zc hK hM dX10_reachState_31 ?_
        refine lv_icmp_le (tgt := 39) hx hb dX10_reachState_34 (by decide) (fun hc => ?_) (fun hc => ?_)
        · have hw := hw.1 hc
          refine lv_aload_n hx hb dX10_reachState_39 rfl (lv_at hl 2 rfl) ?_
          refine wxg_10_30_0 zc hK hM dX10_reachState_40 ?_
          refine lv_aload hx hb dX10_reachState_43 (lv_at hl 1 rfl) ?_
          refine lv_aload hx hb dX10_reachState_45 (lv_at hl 0 rfl) ?_
          refine lv_iload_n hx hb dX10_reachState_47 rfl (lv_at hl 5 rfl) ?_
          refine zVx_i [.ref (qx + 14), .ref (qx + 28), .int x3] [] zc ky_X3_play kz_X3_play km_10_120 (c_wn_X3_play_6_15 l hw) (wnPreV0 hK (pj_wx_wn_72_14_28 hM)) hS (sb_wx_wn_72_14_28) rfl rfl hl.1 (Nat.le_of_ble_eq_true rfl) ⟨rfl, rfl⟩ ⟨Nat.le_of_ble_eq_true rfl, Nat.le_of_ble_eq_true rfl⟩ ⟨(Nat.zero_le _), (Nat.zero_le _)⟩ dX10_reachState_48 (fun r_4 u H1 locs1 hw hM1 hk hS => ?_)
          obtain ⟨nf_minute_1, nf_avalanches_1, nf_begun_1, nf_climbed_1, na_huts_1, na_known_1, na_levels_1, na_snow_1⟩ := u
          have hM := jn_wx_wn_72_14_28 hM hM1 hk
          refine lv_iload_n hx hb dX10_reachState_51 rfl (lv_at hl 5 rfl) ?_
          refine lv_icmp_ne (tgt := 59) hx hb dX10_reachState_52 (by decide) (fun hc => ?_) (fun hc => ?_)
          · have hw := hw.1 hc
            refine lv_iconst (v := (0 : Int32)) hx hb dX10_reachState_59 (by decide) ?_
            exact zret_zw ⟨nf_minute_1, nf_avalanches_1, nf_begun_1, nf_climbed_1, na_huts_1, na_known_1, na_levels_1, na_snow_1⟩ zc hS rfl hw hM dX10_reachState_60
          · have hw := hw.2 hc
            refine lv_iconst (v := (1 : Int32)) hx hb dX10_reachState_55 (by decide) ?_
            refine lv_goto (tgt := 60) hx hb dX10_reachState_56 (by decide) ?_
            exact zret_zw ⟨nf_minute_1, nf_avalanches_1, nf_begun_1, nf_climbed_1, na_huts_1, na_known_1, na_levels_1, na_snow_1⟩ zc hS rfl hw hM dX10_reachState_60
        · have hw := hw.2 hc
          refine lv_iconst (v := (0 : Int32)) hx hb dX10_reachState_37 (by decide) ?_
          exact zret_zw ⟨nf_minute, nf_avalanches, nf_begun, nf_climbed, na_huts, na_known, na_levels, na_snow⟩ zc hS rfl hw hM dX10_reachState_38
    have hw := hw.2.2 hc0 hc1
    refine W.eq (g2 := F0 m 12 ls (.ref (qx + 24) :: [])) (by simp [hc0, hc1]) ?_
    refine lv_astore (lv' := [(5, .ref (qx + 24)), (4, .ref (qx + 14)), (0, .ref qx), (1, .int x1), (2, .int x2), (3, .int x3)]) hx hb dX10_reachState_12 hl (by decide) rfl (fun ls hl => ?_)
    refine lv_aload hx hb dX10_reachState_14 (lv_at hl 1 rfl) ?_
    refine lv_ifnull hx hb dX10_reachState_16 ?_
    refine lv_aload hx hb dX10_reachState_19 (lv_at hl 0 rfl) ?_
    refine lv_ifnull hx hb dX10_reachState_21 ?_
    refine lv_iload_n hx hb dX10_reachState_24 rfl (lv_at hl 5 rfl) ?_
    refine lv_if_lt (tgt := 37) hx hb dX10_reachState_25 (by decide) (fun hc => ?_) (fun hc => ?_)
    · have hw := hw.1 hc
      refine lv_iconst (v := (0 : Int32)) hx hb dX10_reachState_37 (by decide) ?_
      exact zret_zw ⟨nf_minute, nf_avalanches, nf_begun, nf_climbed, na_huts, na_known, na_levels, na_snow⟩ zc hS rfl hw hM dX10_reachState_38
    · have hw := hw.2 hc
      refine lv_iload_n hx hb dX10_reachState_28 rfl (lv_at hl 5 rfl) ?_
      refine lv_aload hx hb dX10_reachState_29 (lv_at hl 0 rfl) ?_
      refine wxg_10_113_24 zc hK hM dX10_reachState_31 ?_
      refine lv_icmp_le (tgt := 39) hx hb dX10_reachState_34 (by decide) (fun hc => ?_) (fun hc => ?_)
      · have hw := hw.1 hc
        refine lv_aload_n hx hb dX10_reachState_39 rfl (lv_at hl 2 rfl) ?_
        refine wxg_10_30_0 zc hK hM dX10_reachState_40 ?_
        refine lv_aload hx hb dX10_reachState_43 (lv_at hl 1 rfl) ?_
        refine lv_aload hx hb dX10_reachState_45 (lv_at hl 0 rfl) ?_
        refine lv_iload_n hx hb dX10_reachState_47 rfl (lv_at hl 5 rfl) ?_
        refine zVx_i [.ref (qx + 14), .ref (qx + 24), .int x3] [] zc ky_X3_play kz_X3_play km_10_120 (c_wn_X3_play_6_15 l hw) (wnPreV0 hK (pj_wx_wn_72_14_24 hM)) hS (sb_wx_wn_72_14_24) rfl rfl hl.1 (Nat.le_of_ble_eq_true rfl) ⟨rfl, rfl⟩ ⟨Nat.le_of_ble_eq_true rfl, Nat.le_of_ble_eq_true rfl⟩ ⟨(Nat.zero_le _), (Nat.zero_le _)⟩ dX10_reachState_48 (fun r_5 u H1 locs1 hw hM1 hk hS => ?_)
        obtain ⟨nf_minute_2, nf_avalanches_2, nf_begun_2, nf_climbed_2, na_huts_2, na_known_2, na_levels_2, na_snow_2⟩ := u
        have hM := jn_wx_wn_72_14_24 hM hM1 hk
        refine lv_iload_n hx hb dX10_reachState_51 rfl (lv_at hl 5 rfl) ?_
        refine lv_icmp_ne (tgt := 59) hx hb dX10_reachState_52 (by decide) (fun hc => ?_) (fun hc => ?_)
        · have hw := hw.1 hc
          refine lv_iconst (v := (0 : Int32)) hx hb dX10_reachState_59 (by decide) ?_
          exact zret_zw ⟨nf_minute_2, nf_avalanches_2, nf_begun_2, nf_climbed_2, na_huts_2, na_known_2, na_levels_2, na_snow_2⟩ zc hS rfl hw hM dX10_reachState_60
        · have hw := hw.2 hc
          refine lv_iconst (v := (1 : Int32)) hx hb dX10_reachState_55 (by decide) ?_
          refine lv_goto (tgt := 60) hx hb dX10_reachState_56 (by decide) ?_
          exact zret_zw ⟨nf_minute_2, nf_avalanches_2, nf_begun_2, nf_climbed_2, na_huts_2, na_known_2, na_levels_2, na_snow_2⟩ zc hS rfl hw hM dX10_reachState_60
      · have hw := hw.2 hc
        refine lv_iconst (v := (0 : Int32)) hx hb dX10_reachState_37 (by decide) ?_
        exact zret_zw ⟨nf_minute, nf_avalanches, nf_begun, nf_climbed, na_huts, na_known, na_levels, na_snow⟩ zc hS rfl hw hM dX10_reachState_38
  have hw := hw.2.2 hc0 hc1
  refine W.eq (g2 := F0 m 5 ls (.ref (qx + 5) :: [])) (by simp [hc0, hc1]) ?_
  refine lv_astore (lv' := [(4, .ref (qx + 5)), (0, .ref qx), (1, .int x1), (2, .int x2), (3, .int x3)]) hx hb dX10_reachState_5 hl (by decide) rfl (fun ls hl => ?_)
  refine lv_aload_n hx hb dX10_reachState_7 rfl (lv_at hl 1 rfl) ?_
  refine lv_iload_n hx hb dX10_reachState_8 rfl (lv_at hl 3 rfl) ?_
  refine zV_r [.int x2] [] zc ky_X10_eveningAt kz_X10_eveningAt km_10_109 (c_wx_X10_eveningAt l hw) (wxPreV0 hK hM) rfl rfl hl.1 (Nat.le_of_ble_eq_true rfl) ⟨rfl, rfl⟩ ⟨Nat.le_of_ble_eq_true rfl, Nat.le_of_ble_eq_true rfl⟩ ⟨(Nat.zero_le _), (Nat.zero_le _)⟩ dX10_reachState_9 (fun r_6 hw => ?_)
  by_cases hc0 : r_6 = 0
  · have hw := hw.1 hc0
    refine W.eq (g2 := F0 m 12 ls (.null :: [])) (by simp [hc0]) ?_
    refine lv_astoreN (lv' := [(5, .null), (4, .ref (qx + 5)), (0, .ref qx), (1, .int x1), (2, .int x2), (3, .int x3)]) hx hb dX10_reachState_12 hl (by decide) rfl (fun ls hl => ?_)
    refine lv_aload hx hb dX10_reachState_14 (lv_at hl 1 rfl) ?_
    refine lv_ifnull hx hb dX10_reachState_16 ?_
    refine lv_aloadN hx hb dX10_reachState_19 (lv_at hl 0 rfl) ?_
    refine lv_ifnullN (tgt := 37) hx hb dX10_reachState_21 (by decide) ?_
    refine lv_iconst (v := (0 : Int32)) hx hb dX10_reachState_37 (by decide) ?_
    exact zret_zw ⟨nf_minute, nf_avalanches, nf_begun, nf_climbed, na_huts, na_known, na_levels, na_snow⟩ zc hS rfl hw hM dX10_reachState_38
  by_cases hc1 : r_6 = 1
  · have hw := hw.2.1 hc1
    refine W.eq (g2 := F0 m 12 ls (.ref (qx + 28) :: [])) (by simp [hc0, hc1]) ?_
    refine lv_astore (lv' := [(5, .ref (qx + 28)), (4, .ref (qx + 5)), (0, .ref qx), (1, .int x1), (2, .int x2), (3, .int x3)]) hx hb dX10_reachState_12 hl (by decide) rfl (fun ls hl => ?_)
    refine lv_aload hx hb dX10_reachState_14 (lv_at hl 1 rfl) ?_
    refine lv_ifnull hx hb dX10_reachState_16 ?_
    refine lv_aload hx hb dX10_reachState_19 (lv_at hl 0 rfl) ?_
    refine lv_ifnull hx hb dX10_reachState_21 ?_
    refine lv_iload_n hx hb dX10_reachState_24 rfl (lv_at hl 5 rfl) ?_
    refine lv_if_lt (tgt := 37) hx hb dX10_reachState_25 (by decide) (fun hc => ?_) (fun hc => ?_)
    · have hw := hw.1 hc
      refine lv_iconst (v := (0 : Int32)) hx hb dX10_reachState_37 (by decide) ?_
      exact zret_zw ⟨nf_minute, nf_avalanches, nf_begun, nf_climbed, na_huts, na_known, na_levels, na_snow⟩ zc hS rfl hw hM dX10_reachState_38
    · have hw := hw.2 hc
      refine lv_iload_n hx hb dX10_reachState_28 rfl (lv_at hl 5 rfl) ?_
      refine lv_aload hx hb dX10_reachState_29 (lv_at hl 0 rfl) ?_
      refine wxg_10_113_28 zc hK hM dX10_reachState_31 ?_
      refine lv_icmp_le (tgt := 39) hx hb dX10_reachState_34 (by decide) (fun hc => ?_) (fun hc => ?_)
      · have hw := hw.1 hc
        refine lv_aload_n hx hb dX10_reachState_39 rfl (lv_at hl 2 rfl) ?_
        refine wxg_10_30_0 zc hK hM dX10_reachState_40 ?_
        refine lv_aload hx hb dX10_reachState_43 (lv_at hl 1 rfl) ?_
        refine lv_aload hx hb dX10_reachState_45 (lv_at hl 0 rfl) ?_
        refine lv_iload_n hx hb dX10_reachState_47 rfl (lv_at hl 5 rfl) ?_
        refine zVx_i [.ref (qx + 5), .ref (qx + 28), .int x3] [] zc ky_X3_play kz_X3_play km_10_120 (c_wn_X3_play_6_15 l hw) (wnPreV0 hK (pj_wx_wn_72_5_28 hM)) hS (sb_wx_wn_72_5_28) rfl rfl hl.1 (Nat.le_of_ble_eq_true rfl) ⟨rfl, rfl⟩ ⟨Nat.le_of_ble_eq_true rfl, Nat.le_of_ble_eq_true rfl⟩ ⟨(Nat.zero_le _), (Nat.zero_le _)⟩ dX10_reachState_48 (fun r_7 u H1 locs1 hw hM1 hk hS => ?_)
        obtain ⟨nf_minute_3, nf_avalanches_3, nf_begun_3, nf_climbed_3, na_huts_3, na_known_3, na_levels_3, na_snow_3⟩ := u
        have hM := jn_wx_wn_72_5_28 hM hM1 hk
        refine lv_iload_n hx hb dX10_reachState_51 rfl (lv_at hl 5 rfl) ?_
        refine lv_icmp_ne (tgt := 59) hx hb dX10_reachState_52 (by decide) (fun hc => ?_) (fun hc => ?_)
        · have hw := hw.1 hc
          refine lv_iconst (v := (0 : Int32)) hx hb dX10_reachState_59 (by decide) ?_
          exact zret_zw ⟨nf_minute_3, nf_avalanches_3, nf_begun_3, nf_climbed_3, na_huts_3, na_known_3, na_levels_3, na_snow_3⟩ zc hS rfl hw hM dX10_reachState_60
        · have hw := hw.2 hc
          refine lv_iconst (v := (1 : Int32)) hx hb dX10_reachState_55 (by decide) ?_
          refine lv_goto (tgt := 60) hx hb dX10_reachState_56 (by decide) ?_
          exact zret_zw ⟨nf_minute_3, nf_avalanches_3, nf_begun_3, nf_climbed_3, na_huts_3, na_known_3, na_levels_3, na_snow_3⟩ zc hS rfl hw hM dX10_reachState_60
      · have hw := hw.2 hc
        refine lv_iconst (v := (0 : Int32)) hx hb dX10_reachState_37 (by decide) ?_
        exact zret_zw ⟨nf_minute, nf_avalanches, nf_begun, nf_climbed, na_huts, na_known, na_levels, na_snow⟩ zc hS rfl hw hM dX10_reachState_38
  have hw := hw.2.2 hc0 hc1
  refine W.eq (g2 := F0 m 12 ls (.ref (qx + 24) :: [])) (by simp [hc0, hc1]) ?_
  refine lv_astore (lv' := [(5, .ref (qx + 24)), (4, .ref (qx + 5)), (0, .ref qx), (1, .int x1), (2, .int x2), (3, .int x3)]) hx hb dX10_reachState_12 hl (by decide) rfl (fun ls hl => ?_)
  refine lv_aload hx hb dX10_reachState_14 (lv_at hl 1 rfl) ?_
  refine lv_ifnull hx hb dX10_reachState_16 ?_
  refine lv_aload hx hb dX10_reachState_19 (lv_at hl 0 rfl) ?_
  refine lv_ifnull hx hb dX10_reachState_21 ?_
  refine lv_iload_n hx hb dX10_reachState_24 rfl (lv_at hl 5 rfl) ?_
  refine lv_if_lt (tgt := 37) hx hb dX10_reachState_25 (by decide) (fun hc => ?_) (fun hc => ?_)
  · have hw := hw.1 hc
    refine lv_iconst (v := (0 : Int32)) hx hb dX10_reachState_37 (by decide) ?_
    exact zret_zw ⟨nf_minute, nf_avalanches, nf_begun, nf_climbed, na_huts, na_known, na_levels, na_snow⟩ zc hS rfl hw hM dX10_reachState_38
  · have hw := hw.2 hc
    refine lv_iload_n hx hb dX10_reachState_28 rfl (lv_at hl 5 rfl) ?_
    refine lv_aload hx hb dX10_reachState_29 (lv_at hl 0 rfl) ?_
    refine wxg_10_113_24 zc hK hM dX10_reachState_31 ?_
    refine lv_icmp_le (tgt := 39) hx hb dX10_reachState_34 (by decide) (fun hc => ?_) (fun hc => ?_)
    · have hw := hw.1 hc
      refine lv_aload_n hx hb dX10_reachState_39 rfl (lv_at hl 2 rfl) ?_
      refine wxg_10_30_0 zc hK hM dX10_reachState_40 ?_
      refine lv_aload hx hb dX10_reachState_43 (lv_at hl 1 rfl) ?_
      refine lv_aload hx hb dX10_reachState_45 (lv_at hl 0 rfl) ?_
      refine lv_iload_n hx hb dX10_reachState_47 rfl (lv_at hl 5 rfl) ?_
      refine zVx_i [.ref (qx + 5), .ref (qx + 24), .int x3] [] zc ky_X3_play kz_X3_play km_10_120 (c_wn_X3_play_6_15 l hw) (wnPreV0 hK (pj_wx_wn_72_5_24 hM)) hS (sb_wx_wn_72_5_24) rfl rfl hl.1 (Nat.le_of_ble_eq_true rfl) ⟨rfl, rfl⟩ ⟨Nat.le_of_ble_eq_true rfl, Nat.le_of_ble_eq_true rfl⟩ ⟨(Nat.zero_le _), (Nat.zero_le _)⟩ dX10_reachState_48 (fun r_8 u H1 locs1 hw hM1 hk hS => ?_)
      obtain ⟨nf_minute_4, nf_avalanches_4, nf_begun_4, nf_climbed_4, na_huts_4, na_known_4, na_levels_4, na_snow_4⟩ := u
      have hM := jn_wx_wn_72_5_24 hM hM1 hk
      refine lv_iload_n hx hb dX10_reachState_51 rfl (lv_at hl 5 rfl) ?_
      refine lv_icmp_ne (tgt := 59) hx hb dX10_reachState_52 (by decide) (fun hc => ?_) (fun hc => ?_)
      · have hw := hw.1 hc
        refine lv_iconst (v := (0 : Int32)) hx hb dX10_reachState_59 (by decide) ?_
        exact zret_zw ⟨nf_minute_4, nf_avalanches_4, nf_begun_4, nf_climbed_4, na_huts_4, na_known_4, na_levels_4, na_snow_4⟩ zc hS rfl hw hM dX10_reachState_60
      · have hw := hw.2 hc
        refine lv_iconst (v := (1 : Int32)) hx hb dX10_reachState_55 (by decide) ?_
        refine lv_goto (tgt := 60) hx hb dX10_reachState_56 (by decide) ?_
        exact zret_zw ⟨nf_minute_4, nf_avalanches_4, nf_begun_4, nf_climbed_4, na_huts_4, na_known_4, na_levels_4, na_snow_4⟩ zc hS rfl hw hM dX10_reachState_60
    · have hw := hw.2 hc
      refine lv_iconst (v := (0 : Int32)) hx hb dX10_reachState_37 (by decide) ?_
      exact zret_zw ⟨nf_minute, nf_avalanches, nf_begun, nf_climbed, na_huts, na_known, na_levels, na_snow⟩ zc hS rfl hw hM dX10_reachState_38
set_option maxRecDepth 20000 in
theorem c_wx_X10_reachState (l : Launch) {E : zE} {qx : Nat} {ta_tape : Nat → Int32} {tf_length : Int32} {tf_fault : Int32} {tf_place : Int32} {ta_counts : Nat → Int32} {tl0f_huts : Int32} {tl0f_singers : Int32} {tl0f_villages : Int32} {tl0f_dams : Int32} {tl0f_echoes : Int32} {tl0f_deep : Int32} {tl0f_slide : Int32} {tl0a_heights : Nat → Int32} {tl0a_ladders : Nat → Int32} {tl0a_minutes : Nat → Int32} {tl0a_echoFrom : Nat → Int32} {tl0a_echoTo : Nat → Int32} {tl0a_homes : Nat → Int32} {tl0a_talls : Nat → Int32} {tl0a_known : Nat → Int32} {tl1f_huts : Int32} {tl1f_singers : Int32} {tl1f_villages : Int32} {tl1f_dams : Int32} {tl1f_echoes : Int32} {tl1f_deep : Int32} {tl1f_slide : Int32} {tl1a_heights : Nat → Int32} {tl1a_ladders : Nat → Int32} {tl1a_minutes : Nat → Int32} {tl1a_echoFrom : Nat → Int32} {tl1a_echoTo : Nat → Int32} {tl1a_homes : Nat → Int32} {tl1a_talls : Nat → Int32} {tl1a_known : Nat → Int32} {tv0f_deeds : Int32} {tv0a_kinds : Nat → Int32} {tv0a_firsts : Nat → Int32} {tv0a_seconds : Nat → Int32} {tv1f_deeds : Int32} {tv1a_kinds : Nat → Int32} {tv1a_firsts : Nat → Int32} {tv1a_seconds : Nat → Int32} {ts0f_facts : Int32} {ts0a_heard : Nat → Int32} {ts0a_huts : Nat → Int32} {ts0a_minutes : Nat → Int32} {ts1f_facts : Int32} {ts1a_heard : Nat → Int32} {ts1a_huts : Nat → Int32} {ts1a_minutes : Nat → Int32} {tc0f_voices : Int32} {tc0f_step : Int32} {tc0a_parts : Nat → Int32} {tc0a_heights : Nat → Int32} {tc1f_voices : Int32} {tc1f_step : Int32} {tc1a_parts : Nat → Int32} {tc1a_heights : Nat → Int32} {m_images : Nat → Option Nat} {rlf_huts : Int32} {rlf_singers : Int32} {rlf_villages : Int32} {rlf_dams : Int32} {rlf_echoes : Int32} {rlf_deep : Int32} {rlf_slide : Int32} {rla_heights : Nat → Int32} {rla_ladders : Nat → Int32} {rla_minutes : Nat → Int32} {rla_echoFrom : Nat → Int32} {rla_echoTo : Nat → Int32} {rla_homes : Nat → Int32} {rla_talls : Nat → Int32} {rla_known : Nat → Int32} {rvf_deeds : Int32} {rva_kinds : Nat → Int32} {rva_firsts : Nat → Int32} {rva_seconds : Nat → Int32} {rsf_facts : Int32} {rsa_heard : Nat → Int32} {rsa_huts : Nat → Int32} {rsa_minutes : Nat → Int32} {rcf_voices : Int32} {rcf_step : Int32} {rca_parts : Nat → Int32} {rca_heights : Nat → Int32} {rf_fault : Int32} {rf_faultPlace : Int32} {ra_numbers : Nat → Int32} {ra_tape : Nat → Int32} {rf_length : Int32} {rf_behind : Int32} {rf_kind : Int32} {rf_first : Int32} {rf_value : Int32} {rf_hutsToldOf : Int32} {rf_singersToldOf : Int32} {nf_minute : Int32} {nf_avalanches : Int32} {nf_begun : Int32} {nf_climbed : Int32} {nf_seed : Int32} {na_huts : Nat → Int32} {na_known : Nat → Int32} {na_levels : Nat → Int32} {na_snow : Nat → Int32} {na_open : Nat → Int32} {pa_heard : Nat → Int32} {pa_walked : Nat → Int32} {pa_total : Nat → Int32} {pa_longest : Nat → Int32} {pa_next : Nat → Int32} {pa_cover : Nat → Int32} {pa_now : Nat → Int32} {pa_then : Nat → Int32} {ko_stands : Option Nat} {ka_gaps : Nat → Int32} {ka_behind : Nat → Int32} {ba_less : Nat → Int32} {ba_full : Nat → Int32} {x1 : Int32} {x2 : Int32} {x3 : Int32} {post : Int32 → (Int32) → (Int32) → (Int32) → (Int32) → (Nat → Int32) → (Nat → Int32) → (Nat → Int32) → (Nat → Int32) → Prop} (hw : q_wx_X10_reachState_0 ta_counts tl0f_huts tl0f_singers tl0f_dams tl0f_echoes tl0f_deep tl0a_heights tl0a_ladders tl0a_minutes tl0a_echoFrom tl0a_echoTo tl0a_homes tl0a_talls tl0a_known tl1f_huts tl1f_singers tl1f_dams tl1f_echoes tl1f_deep tl1a_heights tl1a_ladders tl1a_minutes tl1a_echoFrom tl1a_echoTo tl1a_homes tl1a_talls tl1a_known tv0f_deeds tv0a_kinds tv0a_firsts tv0a_seconds tv1f_deeds tv1a_kinds tv1a_firsts tv1a_seconds nf_minute nf_avalanches nf_begun nf_climbed na_huts na_known na_levels na_snow x1 x2 x3 post) : Met l yX10_reachState (Cond.code yX10_reachState cX10_reachState 6 (some .boolean) :: zb) rm_wx_X10_reachState (va_Pc [.ref qx, .int x1, .int x2, .int x3] (fun U => wxW E qx ta_tape tf_length tf_fault tf_place ta_counts tl0f_huts tl0f_singers tl0f_villages tl0f_dams tl0f_echoes tl0f_deep tl0f_slide tl0a_heights tl0a_ladders tl0a_minutes tl0a_echoFrom tl0a_echoTo tl0a_homes tl0a_talls tl0a_known tl1f_huts tl1f_singers tl1f_villages tl1f_dams tl1f_echoes tl1f_deep tl1f_slide tl1a_heights tl1a_ladders tl1a_minutes tl1a_echoFrom tl1a_echoTo tl1a_homes tl1a_talls tl1a_known tv0f_deeds tv0a_kinds tv0a_firsts tv0a_seconds tv1f_deeds tv1a_kinds tv1a_firsts tv1a_seconds ts0f_facts ts0a_heard ts0a_huts ts0a_minutes ts1f_facts ts1a_heard ts1a_huts ts1a_minutes tc0f_voices tc0f_step tc0a_parts tc0a_heights tc1f_voices tc1f_step tc1a_parts tc1a_heights m_images rlf_huts rlf_singers rlf_villages rlf_dams rlf_echoes rlf_deep rlf_slide rla_heights rla_ladders rla_minutes rla_echoFrom rla_echoTo rla_homes rla_talls rla_known rvf_deeds rva_kinds rva_firsts rva_seconds rsf_facts rsa_heard rsa_huts rsa_minutes rcf_voices rcf_step rca_parts rca_heights rf_fault rf_faultPlace ra_numbers ra_tape rf_length rf_behind rf_kind rf_first rf_value rf_hutsToldOf rf_singersToldOf nf_minute nf_avalanches nf_begun nf_climbed nf_seed na_huts na_known na_levels na_snow na_open pa_heard pa_walked pa_total pa_longest pa_next pa_cover pa_now pa_then ko_stands ka_gaps ka_behind ba_less ba_full U.heap ∧ zK E U)) (zQi (S := (Int32) × (Int32) × (Int32) × (Int32) × (Nat → Int32) × (Nat → Int32) × (Nat → Int32) × (Nat → Int32)) (fun r u => post r u.1 u.2.1 u.2.2.1 u.2.2.2.1 u.2.2.2.2.1 u.2.2.2.2.2.1 u.2.2.2.2.2.2.1 u.2.2.2.2.2.2.2) (fun u H => wxW E qx ta_tape tf_length tf_fault tf_place ta_counts tl0f_huts tl0f_singers tl0f_villages tl0f_dams tl0f_echoes tl0f_deep tl0f_slide tl0a_heights tl0a_ladders tl0a_minutes tl0a_echoFrom tl0a_echoTo tl0a_homes tl0a_talls tl0a_known tl1f_huts tl1f_singers tl1f_villages tl1f_dams tl1f_echoes tl1f_deep tl1f_slide tl1a_heights tl1a_ladders tl1a_minutes tl1a_echoFrom tl1a_echoTo tl1a_homes tl1a_talls tl1a_known tv0f_deeds tv0a_kinds tv0a_firsts tv0a_seconds tv1f_deeds tv1a_kinds tv1a_firsts tv1a_seconds ts0f_facts ts0a_heard ts0a_huts ts0a_minutes ts1f_facts ts1a_heard ts1a_huts ts1a_minutes tc0f_voices tc0f_step tc0a_parts tc0a_heights tc1f_voices tc1f_step tc1a_parts tc1a_heights m_images rlf_huts rlf_singers rlf_villages rlf_dams rlf_echoes rlf_deep rlf_slide rla_heights rla_ladders rla_minutes rla_echoFrom rla_echoTo rla_homes rla_talls rla_known rvf_deeds rva_kinds rva_firsts rva_seconds rsf_facts rsa_heard rsa_huts rsa_minutes rcf_voices rcf_step rca_parts rca_heights rf_fault rf_faultPlace ra_numbers ra_tape rf_length rf_behind rf_kind rf_first rf_value rf_hutsToldOf rf_singersToldOf u.1 u.2.1 u.2.2.1 u.2.2.2.1 nf_seed u.2.2.2.2.1 u.2.2.2.2.2.1 u.2.2.2.2.2.2.1 u.2.2.2.2.2.2.2 na_open pa_heard pa_walked pa_total pa_longest pa_next pa_cover pa_now pa_then ko_stands ka_gaps ka_behind ba_less ba_full H) (wxA qx)) 0 0 (wxA qx) := by
  refine Met.ofW (cc := cX10_reachState) (maxL := 6) (ret := (some .boolean)) (by decide) rfl ?_
  intro p e s m args below meth c s₁ B hml hv
  obtain ⟨rfl, hM, hK⟩ := hv
  have zc := zc_of B hml
  have hl := lv_entry ([.ref qx, .int x1, .int x2, .int x3]) (n := 6) (Nat.le_of_ble_eq_true rfl)
  rw [lg_entry_eq]
  generalize (lg_sl ([.ref qx, .int x1, .int x2, .int x3]) ++ List.replicate (6 - (lg_sl ([.ref qx, .int x1, .int x2, .int x3])).length) Slot.unset).toArray = ls at hl ⊢
  have hl : lv_has ls 6 [(0, .ref qx), (1, .int x1), (2, .int x2), (3, .int x3)] := hl
  exact t_wx_X10_reachState_0 zc hK hM va_S.rf (lv_sub hl [0, 1, 2, 3] rfl) hw
-- wx_X10_state
abbrev rm_wx_X10_state : Room := { frames := 6, cells := 0, slots := 0, locals := 146 }
def q_wx_X10_state_0 (ta_counts : Nat → Int32) (tl0f_huts : Int32) (tl0f_singers : Int32) (tl0f_dams : Int32) (tl0f_echoes : Int32) (tl0f_deep : Int32) (tl0a_heights : Nat → Int32) (tl0a_ladders : Nat → Int32) (tl0a_minutes : Nat → Int32) (tl0a_echoFrom : Nat → Int32) (tl0a_echoTo : Nat → Int32) (tl0a_homes : Nat → Int32) (tl0a_talls : Nat → Int32) (tl0a_known : Nat → Int32) (tl1f_huts : Int32) (tl1f_singers : Int32) (tl1f_dams : Int32) (tl1f_echoes : Int32) (tl1f_deep : Int32) (tl1a_heights : Nat → Int32) (tl1a_ladders : Nat → Int32) (tl1a_minutes : Nat → Int32) (tl1a_echoFrom : Nat → Int32) (tl1a_echoTo : Nat → Int32) (tl1a_homes : Nat → Int32) (tl1a_talls : Nat → Int32) (tl1a_known : Nat → Int32) (tv0f_deeds : Int32) (tv0a_kinds : Nat → Int32) (tv0a_firsts : Nat → Int32) (tv0a_seconds : Nat → Int32) (tv1f_deeds : Int32) (tv1a_kinds : Nat → Int32) (tv1a_firsts : Nat → Int32) (tv1a_seconds : Nat → Int32) (nf_minute : Int32) (nf_avalanches : Int32) (nf_begun : Int32) (nf_climbed : Int32) (na_huts : Nat → Int32) (na_known : Nat → Int32) (na_levels : Nat → Int32) (na_snow : Nat → Int32) (na_open : Nat → Int32) (x1 : Int32) (x2 : Int32) (x3 : Int32) (x4 : Int32) (post : Int32 → (Int32) → (Int32) → (Int32) → (Int32) → (Nat → Int32) → (Nat → Int32) → (Nat → Int32) → (Nat → Int32) → (Nat → Int32) → Prop) : Prop :=
  q_wx_X10_reachState_0 ta_counts tl0f_huts tl0f_singers tl0f_dams tl0f_echoes tl0f_deep tl0a_heights tl0a_ladders tl0a_minutes tl0a_echoFrom tl0a_echoTo tl0a_homes tl0a_talls tl0a_known tl1f_huts tl1f_singers tl1f_dams tl1f_echoes tl1f_deep tl1a_heights tl1a_ladders tl1a_minutes tl1a_echoFrom tl1a_echoTo tl1a_homes tl1a_talls tl1a_known tv0f_deeds tv0a_kinds tv0a_firsts tv0a_seconds tv1f_deeds tv1a_kinds tv1a_firsts tv1a_seconds nf_minute nf_avalanches nf_begun nf_climbed na_huts na_known na_levels na_snow x1 x2 x3 (fun r_1 nf_minute_1 nf_avalanches_1 nf_begun_1 nf_climbed_1 na_huts_1 na_known_1 na_levels_1 na_snow_1 => (r_1 = 0 → (post (-1000 : Int32) nf_minute_1 nf_avalanches_1 nf_begun_1 nf_climbed_1 na_huts_1 na_known_1 na_levels_1 na_snow_1 na_open)) ∧ (¬ r_1 = 0 → (vp_in x1 2 ∧ (x1 = 0 → (q_wn_X3_look_6_0 nf_minute_1 nf_avalanches_1 nf_begun_1 nf_climbed_1 na_huts_1 na_known_1 na_levels_1 na_snow_1 na_open tl0f_huts tl0f_singers tl0f_dams tl0f_deep tl0a_heights tl0a_ladders tl0a_minutes tl0a_talls x4 (fun r_2 na_open_1 => post r_2 nf_minute_1 nf_avalanches_1 nf_begun_1 nf_climbed_1 na_huts_1 na_known_1 na_levels_1 na_snow_1 na_open_1))) ∧ (¬ x1 = 0 → (q_wn_X3_look_6_0 nf_minute_1 nf_avalanches_1 nf_begun_1 nf_climbed_1 na_huts_1 na_known_1 na_levels_1 na_snow_1 na_open tl1f_huts tl1f_singers tl1f_dams tl1f_deep tl1a_heights tl1a_ladders tl1a_minutes tl1a_talls x4 (fun r_3 na_open_2 => post r_3 nf_minute_1 nf_avalanches_1 nf_begun_1 nf_climbed_1 na_huts_1 na_known_1 na_levels_1 na_snow_1 na_open_2))))))
set_option maxRecDepth 20000 in
theorem t_wx_X10_state_0 {p : Program} {l : Launch} {e : Env} {s : State} {m : MethodId} {args : Array Value} {below : List Frame} {meth : Method} {c : Code} {E : zE} {qx : Nat} {ta_tape : Nat → Int32} {tf_length : Int32} {tf_fault : Int32} {tf_place : Int32} {ta_counts : Nat → Int32} {tl0f_huts : Int32} {tl0f_singers : Int32} {tl0f_villages : Int32} {tl0f_dams : Int32} {tl0f_echoes : Int32} {tl0f_deep : Int32} {tl0f_slide : Int32} {tl0a_heights : Nat → Int32} {tl0a_ladders : Nat → Int32} {tl0a_minutes : Nat → Int32} {tl0a_echoFrom : Nat → Int32} {tl0a_echoTo : Nat → Int32} {tl0a_homes : Nat → Int32} {tl0a_talls : Nat → Int32} {tl0a_known : Nat → Int32} {tl1f_huts : Int32} {tl1f_singers : Int32} {tl1f_villages : Int32} {tl1f_dams : Int32} {tl1f_echoes : Int32} {tl1f_deep : Int32} {tl1f_slide : Int32} {tl1a_heights : Nat → Int32} {tl1a_ladders : Nat → Int32} {tl1a_minutes : Nat → Int32} {tl1a_echoFrom : Nat → Int32} {tl1a_echoTo : Nat → Int32} {tl1a_homes : Nat → Int32} {tl1a_talls : Nat → Int32} {tl1a_known : Nat → Int32} {tv0f_deeds : Int32} {tv0a_kinds : Nat → Int32} {tv0a_firsts : Nat → Int32} {tv0a_seconds : Nat → Int32} {tv1f_deeds : Int32} {tv1a_kinds : Nat → Int32} {tv1a_firsts : Nat → Int32} {tv1a_seconds : Nat → Int32} {ts0f_facts : Int32} {ts0a_heard : Nat → Int32} {ts0a_huts : Nat → Int32} {ts0a_minutes : Nat → Int32} {ts1f_facts : Int32} {ts1a_heard : Nat → Int32} {ts1a_huts : Nat → Int32} {ts1a_minutes : Nat → Int32} {tc0f_voices : Int32} {tc0f_step : Int32} {tc0a_parts : Nat → Int32} {tc0a_heights : Nat → Int32} {tc1f_voices : Int32} {tc1f_step : Int32} {tc1a_parts : Nat → Int32} {tc1a_heights : Nat → Int32} {m_images : Nat → Option Nat} {rlf_huts : Int32} {rlf_singers : Int32} {rlf_villages : Int32} {rlf_dams : Int32} {rlf_echoes : Int32} {rlf_deep : Int32} {rlf_slide : Int32} {rla_heights : Nat → Int32} {rla_ladders : Nat → Int32} {rla_minutes : Nat → Int32} {rla_echoFrom : Nat → Int32} {rla_echoTo : Nat → Int32} {rla_homes : Nat → Int32} {rla_talls : Nat → Int32} {rla_known : Nat → Int32} {rvf_deeds : Int32} {rva_kinds : Nat → Int32} {rva_firsts : Nat → Int32} {rva_seconds : Nat → Int32} {rsf_facts : Int32} {rsa_heard : Nat → Int32} {rsa_huts : Nat → Int32} {rsa_minutes : Nat → Int32} {rcf_voices : Int32} {rcf_step : Int32} {rca_parts : Nat → Int32} {rca_heights : Nat → Int32} {rf_fault : Int32} {rf_faultPlace : Int32} {ra_numbers : Nat → Int32} {ra_tape : Nat → Int32} {rf_length : Int32} {rf_behind : Int32} {rf_kind : Int32} {rf_first : Int32} {rf_value : Int32} {rf_hutsToldOf : Int32} {rf_singersToldOf : Int32} {nf_minute : Int32} {nf_avalanches : Int32} {nf_begun : Int32} {nf_climbed : Int32} {nf_seed : Int32} {na_huts : Nat → Int32} {na_known : Nat → Int32} {na_levels : Nat → Int32} {na_snow : Nat → Int32} {na_open : Nat → Int32} {pa_heard : Nat → Int32} {pa_walked : Nat → Int32} {pa_total : Nat → Int32} {pa_longest : Nat → Int32} {pa_next : Nat → Int32} {pa_cover : Nat → Int32} {pa_now : Nat → Int32} {pa_then : Nat → Int32} {ko_stands : Option Nat} {ka_gaps : Nat → Int32} {ka_behind : Nat → Int32} {ba_less : Nat → Int32} {ba_full : Nat → Int32} {post : Int32 → (Int32) → (Int32) → (Int32) → (Int32) → (Nat → Int32) → (Nat → Int32) → (Nat → Int32) → (Nat → Int32) → (Nat → Int32) → Prop} {x1 : Int32} {x2 : Int32} {x3 : Int32} {x4 : Int32} {ls : Array Slot} {H : Heap} {locs : List Loc}
    (zc : zC p s m args meth c cX10_state 5 RX10 (some .int))
    (hK : zK E s)
    (hM : wxW E qx ta_tape tf_length tf_fault tf_place ta_counts tl0f_huts tl0f_singers tl0f_villages tl0f_dams tl0f_echoes tl0f_deep tl0f_slide tl0a_heights tl0a_ladders tl0a_minutes tl0a_echoFrom tl0a_echoTo tl0a_homes tl0a_talls tl0a_known tl1f_huts tl1f_singers tl1f_villages tl1f_dams tl1f_echoes tl1f_deep tl1f_slide tl1a_heights tl1a_ladders tl1a_minutes tl1a_echoFrom tl1a_echoTo tl1a_homes tl1a_talls tl1a_known tv0f_deeds tv0a_kinds tv0a_firsts tv0a_seconds tv1f_deeds tv1a_kinds tv1a_firsts tv1a_seconds ts0f_facts ts0a_heard ts0a_huts ts0a_minutes ts1f_facts ts1a_heard ts1a_huts ts1a_minutes tc0f_voices tc0f_step tc0a_parts tc0a_heights tc1f_voices tc1f_step tc1a_parts tc1a_heights m_images rlf_huts rlf_singers rlf_villages rlf_dams rlf_echoes rlf_deep rlf_slide rla_heights rla_ladders rla_minutes rla_echoFrom rla_echoTo rla_homes rla_talls rla_known rvf_deeds rva_kinds rva_firsts rva_seconds rsf_facts rsa_heard rsa_huts rsa_minutes rcf_voices rcf_step rca_parts rca_heights rf_fault rf_faultPlace ra_numbers ra_tape rf_length rf_behind rf_kind rf_first rf_value rf_hutsToldOf rf_singersToldOf nf_minute nf_avalanches nf_begun nf_climbed nf_seed na_huts na_known na_levels na_snow na_open pa_heard pa_walked pa_total pa_longest pa_next pa_cover pa_now pa_then ko_stands ka_gaps ka_behind ba_less ba_full H)
    (hS : va_S (wxA qx) s.heap H locs)
    (hl : lv_has ls 5 [(0, .ref qx), (1, .int x1), (2, .int x2), (3, .int x3), (4, .int x4)])
    (hw : q_wx_X10_state_0 ta_counts tl0f_huts tl0f_singers tl0f_dams tl0f_echoes tl0f_deep tl0a_heights tl0a_ladders tl0a_minutes tl0a_echoFrom tl0a_echoTo tl0a_homes tl0a_talls tl0a_known tl1f_huts tl1f_singers tl1f_dams tl1f_echoes tl1f_deep tl1a_heights tl1a_ladders tl1a_minutes tl1a_echoFrom tl1a_echoTo tl1a_homes tl1a_talls tl1a_known tv0f_deeds tv0a_kinds tv0a_firsts tv0a_seconds tv1f_deeds tv1a_kinds tv1a_firsts tv1a_seconds nf_minute nf_avalanches nf_begun nf_climbed na_huts na_known na_levels na_snow na_open x1 x2 x3 x4 post) :
    W p l e rm_wx_X10_state s m args below meth c H locs 0 0 (MQ below (zQi (S := (Int32) × (Int32) × (Int32) × (Int32) × (Nat → Int32) × (Nat → Int32) × (Nat → Int32) × (Nat → Int32) × (Nat → Int32)) (fun r u => post r u.1 u.2.1 u.2.2.1 u.2.2.2.1 u.2.2.2.2.1 u.2.2.2.2.2.1 u.2.2.2.2.2.2.1 u.2.2.2.2.2.2.2.1 u.2.2.2.2.2.2.2.2) (fun u H => wxW E qx ta_tape tf_length tf_fault tf_place ta_counts tl0f_huts tl0f_singers tl0f_villages tl0f_dams tl0f_echoes tl0f_deep tl0f_slide tl0a_heights tl0a_ladders tl0a_minutes tl0a_echoFrom tl0a_echoTo tl0a_homes tl0a_talls tl0a_known tl1f_huts tl1f_singers tl1f_villages tl1f_dams tl1f_echoes tl1f_deep tl1f_slide tl1a_heights tl1a_ladders tl1a_minutes tl1a_echoFrom tl1a_echoTo tl1a_homes tl1a_talls tl1a_known tv0f_deeds tv0a_kinds tv0a_firsts tv0a_seconds tv1f_deeds tv1a_kinds tv1a_firsts tv1a_seconds ts0f_facts ts0a_heard ts0a_huts ts0a_minutes ts1f_facts ts1a_heard ts1a_huts ts1a_minutes tc0f_voices tc0f_step tc0a_parts tc0a_heights tc1f_voices tc1f_step tc1a_parts tc1a_heights m_images rlf_huts rlf_singers rlf_villages rlf_dams rlf_echoes rlf_deep rlf_slide rla_heights rla_ladders rla_minutes rla_echoFrom rla_echoTo rla_homes rla_talls rla_known rvf_deeds rva_kinds rva_firsts rva_seconds rsf_facts rsa_heard rsa_huts rsa_minutes rcf_voices rcf_step rca_parts rca_heights rf_fault rf_faultPlace ra_numbers ra_tape rf_length rf_behind rf_kind rf_first rf_value rf_hutsToldOf rf_singersToldOf u.1 u.2.1 u.2.2.1 u.2.2.2.1 nf_seed u.2.2.2.2.1 u.2.2.2.2.2.1 u.2.2.2.2.2.2.1 u.2.2.2.2.2.2.2.1 u.2.2.2.2.2.2.2.2 pa_heard pa_walked pa_total pa_longest pa_next pa_cover pa_now pa_then ko_stands ka_gaps ka_behind ba_less ba_full H) (wxA qx)) args s 0 0 (wxA qx)) (F0 m 0 ls []) := by
  have hx := zc.1
  have hb := zc.2.1
  refine lv_aload_n hx hb dX10_state_0 rfl (lv_at hl 0 rfl) ?_
  refine lv_iload_n hx hb dX10_state_1 rfl (lv_at hl 1 rfl) ?_
  refine lv_iload_n hx hb dX10_state_2 rfl (lv_at hl 2 rfl) ?_
  refine lv_iload_n hx hb dX10_state_3 rfl (lv_at hl 3 rfl) ?_
  refine zVw_i [.int x1, .int x2, .int x3] [] zc ky_X10_reachState kz_X10_reachState km_10_124 (c_wx_X10_reachState l hw) (wxPreV0 hK hM) hS rfl rfl hl.1 (Nat.le_of_ble_eq_true rfl) ⟨rfl, rfl⟩ ⟨Nat.le_of_ble_eq_true rfl, Nat.le_of_ble_eq_true rfl⟩ ⟨(Nat.zero_le _), (Nat.zero_le _)⟩ dX10_state_4 (fun r_1 u H locs hw hM hS => ?_)
  obtain ⟨nf_minute_1, nf_avalanches_1, nf_begun_1, nf_climbed_1, na_huts_1, na_known_1, na_levels_1, na_snow_1⟩ := u
  refine lv_if_eq (tgt := 31) hx hb dX10_state_7 (by decide) (fun hc => ?_) (fun hc => ?_)
  · have hw := hw.1 hc
    refine lv_sipush (v := (-1000 : Int32)) hx hb dX10_state_31 (by decide) ?_
    exact zret_iw ⟨nf_minute_1, nf_avalanches_1, nf_begun_1, nf_climbed_1, na_huts_1, na_known_1, na_levels_1, na_snow_1, na_open⟩ zc hS hw hM dX10_state_34
  · have hw := hw.2 hc
    refine lv_aload_n hx hb dX10_state_10 rfl (lv_at hl 0 rfl) ?_
    refine wxg_10_30_0 zc hK hM dX10_state_11 ?_
    refine lv_aload_n hx hb dX10_state_14 rfl (lv_at hl 0 rfl) ?_
    refine wxg_10_10_0 zc hK hM dX10_state_15 ?_
    refine wxg_10_128_1 zc hK hM dX10_state_18 ?_
    refine lv_iload_n hx hb dX10_state_21 rfl (lv_at hl 1 rfl) ?_
    have hin := hw.1
    by_cases hc : x1 = 0
    · have hw9 := hw.2.1 hc
      have hM9 := hM
      subst hc
      have hw := hw9
      have hM := hM9
      refine va_aldq hx hb hK.1 hM 4 4 rfl rfl hin dX10_state_22 ?_
      refine W.eq (g2 := F0 m 23 ls (.ref (qx + 5) :: .ref (qx + 72) :: [])) rfl ?_
      refine lv_iload hx hb dX10_state_23 (lv_at hl 4 rfl) ?_
      refine zVx_i [.ref (qx + 5), .int x4] [] zc ky_X3_look kz_X3_look km_10_132 (c_wn_X3_look_6 l hw) (wnPreV0 hK (pj_wx_wn_72_5_24 hM)) hS (sb_wx_wn_72_5_24) rfl rfl hl.1 (Nat.le_of_ble_eq_true rfl) ⟨rfl, rfl⟩ ⟨Nat.le_of_ble_eq_true rfl, Nat.le_of_ble_eq_true rfl⟩ ⟨(Nat.zero_le _), (Nat.zero_le _)⟩ dX10_state_25 (fun r_2 na_open_1 H1 locs1 hw hM1 hk hS => ?_)
      have hM := jn_wx_wn_72_5_24 hM hM1 hk
      refine lv_goto (tgt := 34) hx hb dX10_state_28 (by decide) ?_
      exact zret_iw ⟨nf_minute_1, nf_avalanches_1, nf_begun_1, nf_climbed_1, na_huts_1, na_known_1, na_levels_1, na_snow_1, na_open_1⟩ zc hS hw hM dX10_state_34
    · have hw9 := hw.2.2 hc
      have hc := zin2 hin hc
      have hM9 := hM
      subst hc
      have hw := hw9
      have hM := hM9
      refine va_aldq hx hb hK.1 hM 4 4 rfl rfl hin dX10_state_22 ?_
      refine W.eq (g2 := F0 m 23 ls (.ref (qx + 14) :: .ref (qx + 72) :: [])) rfl ?_
      refine lv_iload hx hb dX10_state_23 (lv_at hl 4 rfl) ?_
      refine zVx_i [.ref (qx + 14), .int x4] [] zc ky_X3_look kz_X3_look km_10_132 (c_wn_X3_look_6 l hw) (wnPreV0 hK (pj_wx_wn_72_14_24 hM)) hS (sb_wx_wn_72_14_24) rfl rfl hl.1 (Nat.le_of_ble_eq_true rfl) ⟨rfl, rfl⟩ ⟨Nat.le_of_ble_eq_true rfl, Nat.le_of_ble_eq_true rfl⟩ ⟨(Nat.zero_le _), (Nat.zero_le _)⟩ dX10_state_25 (fun r_3 na_open_2 H1 locs1 hw hM1 hk hS => ?_)
      have hM := jn_wx_wn_72_14_24 hM hM1 hk
      refine lv_goto (tgt := 34) hx hb dX10_state_28 (by decide) ?_
      exact zret_iw ⟨nf_minute_1, nf_avalanches_1, nf_begun_1, nf_climbed_1, na_huts_1, na_known_1, na_levels_1, na_snow_1, na_open_2⟩ zc hS hw hM dX10_state_34
set_option maxRecDepth 20000 in
theorem c_wx_X10_state (l : Launch) {E : zE} {qx : Nat} {ta_tape : Nat → Int32} {tf_length : Int32} {tf_fault : Int32} {tf_place : Int32} {ta_counts : Nat → Int32} {tl0f_huts : Int32} {tl0f_singers : Int32} {tl0f_villages : Int32} {tl0f_dams : Int32} {tl0f_echoes : Int32} {tl0f_deep : Int32} {tl0f_slide : Int32} {tl0a_heights : Nat → Int32} {tl0a_ladders : Nat → Int32} {tl0a_minutes : Nat → Int32} {tl0a_echoFrom : Nat → Int32} {tl0a_echoTo : Nat → Int32} {tl0a_homes : Nat → Int32} {tl0a_talls : Nat → Int32} {tl0a_known : Nat → Int32} {tl1f_huts : Int32} {tl1f_singers : Int32} {tl1f_villages : Int32} {tl1f_dams : Int32} {tl1f_echoes : Int32} {tl1f_deep : Int32} {tl1f_slide : Int32} {tl1a_heights : Nat → Int32} {tl1a_ladders : Nat → Int32} {tl1a_minutes : Nat → Int32} {tl1a_echoFrom : Nat → Int32} {tl1a_echoTo : Nat → Int32} {tl1a_homes : Nat → Int32} {tl1a_talls : Nat → Int32} {tl1a_known : Nat → Int32} {tv0f_deeds : Int32} {tv0a_kinds : Nat → Int32} {tv0a_firsts : Nat → Int32} {tv0a_seconds : Nat → Int32} {tv1f_deeds : Int32} {tv1a_kinds : Nat → Int32} {tv1a_firsts : Nat → Int32} {tv1a_seconds : Nat → Int32} {ts0f_facts : Int32} {ts0a_heard : Nat → Int32} {ts0a_huts : Nat → Int32} {ts0a_minutes : Nat → Int32} {ts1f_facts : Int32} {ts1a_heard : Nat → Int32} {ts1a_huts : Nat → Int32} {ts1a_minutes : Nat → Int32} {tc0f_voices : Int32} {tc0f_step : Int32} {tc0a_parts : Nat → Int32} {tc0a_heights : Nat → Int32} {tc1f_voices : Int32} {tc1f_step : Int32} {tc1a_parts : Nat → Int32} {tc1a_heights : Nat → Int32} {m_images : Nat → Option Nat} {rlf_huts : Int32} {rlf_singers : Int32} {rlf_villages : Int32} {rlf_dams : Int32} {rlf_echoes : Int32} {rlf_deep : Int32} {rlf_slide : Int32} {rla_heights : Nat → Int32} {rla_ladders : Nat → Int32} {rla_minutes : Nat → Int32} {rla_echoFrom : Nat → Int32} {rla_echoTo : Nat → Int32} {rla_homes : Nat → Int32} {rla_talls : Nat → Int32} {rla_known : Nat → Int32} {rvf_deeds : Int32} {rva_kinds : Nat → Int32} {rva_firsts : Nat → Int32} {rva_seconds : Nat → Int32} {rsf_facts : Int32} {rsa_heard : Nat → Int32} {rsa_huts : Nat → Int32} {rsa_minutes : Nat → Int32} {rcf_voices : Int32} {rcf_step : Int32} {rca_parts : Nat → Int32} {rca_heights : Nat → Int32} {rf_fault : Int32} {rf_faultPlace : Int32} {ra_numbers : Nat → Int32} {ra_tape : Nat → Int32} {rf_length : Int32} {rf_behind : Int32} {rf_kind : Int32} {rf_first : Int32} {rf_value : Int32} {rf_hutsToldOf : Int32} {rf_singersToldOf : Int32} {nf_minute : Int32} {nf_avalanches : Int32} {nf_begun : Int32} {nf_climbed : Int32} {nf_seed : Int32} {na_huts : Nat → Int32} {na_known : Nat → Int32} {na_levels : Nat → Int32} {na_snow : Nat → Int32} {na_open : Nat → Int32} {pa_heard : Nat → Int32} {pa_walked : Nat → Int32} {pa_total : Nat → Int32} {pa_longest : Nat → Int32} {pa_next : Nat → Int32} {pa_cover : Nat → Int32} {pa_now : Nat → Int32} {pa_then : Nat → Int32} {ko_stands : Option Nat} {ka_gaps : Nat → Int32} {ka_behind : Nat → Int32} {ba_less : Nat → Int32} {ba_full : Nat → Int32} {x1 : Int32} {x2 : Int32} {x3 : Int32} {x4 : Int32} {post : Int32 → (Int32) → (Int32) → (Int32) → (Int32) → (Nat → Int32) → (Nat → Int32) → (Nat → Int32) → (Nat → Int32) → (Nat → Int32) → Prop} (hw : q_wx_X10_state_0 ta_counts tl0f_huts tl0f_singers tl0f_dams tl0f_echoes tl0f_deep tl0a_heights tl0a_ladders tl0a_minutes tl0a_echoFrom tl0a_echoTo tl0a_homes tl0a_talls tl0a_known tl1f_huts tl1f_singers tl1f_dams tl1f_echoes tl1f_deep tl1a_heights tl1a_ladders tl1a_minutes tl1a_echoFrom tl1a_echoTo tl1a_homes tl1a_talls tl1a_known tv0f_deeds tv0a_kinds tv0a_firsts tv0a_seconds tv1f_deeds tv1a_kinds tv1a_firsts tv1a_seconds nf_minute nf_avalanches nf_begun nf_climbed na_huts na_known na_levels na_snow na_open x1 x2 x3 x4 post) : Met l yX10_state (Cond.code yX10_state cX10_state 5 (some .int) :: zb) rm_wx_X10_state (va_Pc [.ref qx, .int x1, .int x2, .int x3, .int x4] (fun U => wxW E qx ta_tape tf_length tf_fault tf_place ta_counts tl0f_huts tl0f_singers tl0f_villages tl0f_dams tl0f_echoes tl0f_deep tl0f_slide tl0a_heights tl0a_ladders tl0a_minutes tl0a_echoFrom tl0a_echoTo tl0a_homes tl0a_talls tl0a_known tl1f_huts tl1f_singers tl1f_villages tl1f_dams tl1f_echoes tl1f_deep tl1f_slide tl1a_heights tl1a_ladders tl1a_minutes tl1a_echoFrom tl1a_echoTo tl1a_homes tl1a_talls tl1a_known tv0f_deeds tv0a_kinds tv0a_firsts tv0a_seconds tv1f_deeds tv1a_kinds tv1a_firsts tv1a_seconds ts0f_facts ts0a_heard ts0a_huts ts0a_minutes ts1f_facts ts1a_heard ts1a_huts ts1a_minutes tc0f_voices tc0f_step tc0a_parts tc0a_heights tc1f_voices tc1f_step tc1a_parts tc1a_heights m_images rlf_huts rlf_singers rlf_villages rlf_dams rlf_echoes rlf_deep rlf_slide rla_heights rla_ladders rla_minutes rla_echoFrom rla_echoTo rla_homes rla_talls rla_known rvf_deeds rva_kinds rva_firsts rva_seconds rsf_facts rsa_heard rsa_huts rsa_minutes rcf_voices rcf_step rca_parts rca_heights rf_fault rf_faultPlace ra_numbers ra_tape rf_length rf_behind rf_kind rf_first rf_value rf_hutsToldOf rf_singersToldOf nf_minute nf_avalanches nf_begun nf_climbed nf_seed na_huts na_known na_levels na_snow na_open pa_heard pa_walked pa_total pa_longest pa_next pa_cover pa_now pa_then ko_stands ka_gaps ka_behind ba_less ba_full U.heap ∧ zK E U)) (zQi (S := (Int32) × (Int32) × (Int32) × (Int32) × (Nat → Int32) × (Nat → Int32) × (Nat → Int32) × (Nat → Int32) × (Nat → Int32)) (fun r u => post r u.1 u.2.1 u.2.2.1 u.2.2.2.1 u.2.2.2.2.1 u.2.2.2.2.2.1 u.2.2.2.2.2.2.1 u.2.2.2.2.2.2.2.1 u.2.2.2.2.2.2.2.2) (fun u H => wxW E qx ta_tape tf_length tf_fault tf_place ta_counts tl0f_huts tl0f_singers tl0f_villages tl0f_dams tl0f_echoes tl0f_deep tl0f_slide tl0a_heights tl0a_ladders tl0a_minutes tl0a_echoFrom tl0a_echoTo tl0a_homes tl0a_talls tl0a_known tl1f_huts tl1f_singers tl1f_villages tl1f_dams tl1f_echoes tl1f_deep tl1f_slide tl1a_heights tl1a_ladders tl1a_minutes tl1a_echoFrom tl1a_echoTo tl1a_homes tl1a_talls tl1a_known tv0f_deeds tv0a_kinds tv0a_firsts tv0a_seconds tv1f_deeds tv1a_kinds tv1a_firsts tv1a_seconds ts0f_facts ts0a_heard ts0a_huts ts0a_minutes ts1f_facts ts1a_heard ts1a_huts ts1a_minutes tc0f_voices tc0f_step tc0a_parts tc0a_heights tc1f_voices tc1f_step tc1a_parts tc1a_heights m_images rlf_huts rlf_singers rlf_villages rlf_dams rlf_echoes rlf_deep rlf_slide rla_heights rla_ladders rla_minutes rla_echoFrom rla_echoTo rla_homes rla_talls rla_known rvf_deeds rva_kinds rva_firsts rva_seconds rsf_facts rsa_heard rsa_huts rsa_minutes rcf_voices rcf_step rca_parts rca_heights rf_fault rf_faultPlace ra_numbers ra_tape rf_length rf_behind rf_kind rf_first rf_value rf_hutsToldOf rf_singersToldOf u.1 u.2.1 u.2.2.1 u.2.2.2.1 nf_seed u.2.2.2.2.1 u.2.2.2.2.2.1 u.2.2.2.2.2.2.1 u.2.2.2.2.2.2.2.1 u.2.2.2.2.2.2.2.2 pa_heard pa_walked pa_total pa_longest pa_next pa_cover pa_now pa_then ko_stands ka_gaps ka_behind ba_less ba_full H) (wxA qx)) 0 0 (wxA qx) := by
  refine Met.ofW (cc := cX10_state) (maxL := 5) (ret := (some .int)) (by decide) rfl ?_
  intro p e s m args below meth c s₁ B hml hv
  obtain ⟨rfl, hM, hK⟩ := hv
  have zc := zc_of B hml
  have hl := lv_entry ([.ref qx, .int x1, .int x2, .int x3, .int x4]) (n := 5) (Nat.le_of_ble_eq_true rfl)
  rw [lg_entry_eq]
  generalize (lg_sl ([.ref qx, .int x1, .int x2, .int x3, .int x4]) ++ List.replicate (5 - (lg_sl ([.ref qx, .int x1, .int x2, .int x3, .int x4])).length) Slot.unset).toArray = ls at hl ⊢
  have hl : lv_has ls 5 [(0, .ref qx), (1, .int x1), (2, .int x2), (3, .int x3), (4, .int x4)] := hl
  exact t_wx_X10_state_0 zc hK hM va_S.rf (lv_sub hl [0, 1, 2, 3, 4] rfl) hw
-- wx_X10_comes
abbrev rm_wx_X10_comes : Room := { frames := 3, cells := 0, slots := 0, locals := 67 }
def q_wx_X10_comes_0 (ta_counts : Nat → Int32) (tl0f_huts : Int32) (tl0f_dams : Int32) (tl0f_echoes : Int32) (tl0a_heights : Nat → Int32) (tl0a_minutes : Nat → Int32) (tl0a_echoFrom : Nat → Int32) (tl0a_echoTo : Nat → Int32) (tl1f_huts : Int32) (tl1f_dams : Int32) (tl1f_echoes : Int32) (tl1a_heights : Nat → Int32) (tl1a_minutes : Nat → Int32) (tl1a_echoFrom : Nat → Int32) (tl1a_echoTo : Nat → Int32) (pa_heard : Nat → Int32) (x1 : Int32) (x2 : Int32) (x3 : Int32) (post : Int32 → (Nat → Int32) → Prop) : Prop :=
  q_wx_X10_landAt_0 ta_counts x1 (fun r_1 => (r_1 = 0 → (post (-1 : Int32) pa_heard)) ∧ (r_1 = 1 → (q_wl_X2_hasHut_0 tl1f_huts x2 (fun r_2 => (r_2 = 0 → (post (-1 : Int32) pa_heard)) ∧ (¬ r_2 = 0 → (q_wl_X2_hasHut_0 tl1f_huts x3 (fun r_3 => (¬ r_3 = 0 → (q_wp_X7_hear_9_0 pa_heard tl1f_huts tl1f_dams tl1f_echoes tl1a_heights tl1a_minutes tl1a_echoFrom tl1a_echoTo (fun pa_heard_1 => vp_in ((x2 * (9 : Int32)) + x3) 81 ∧ (q_z_X10_nearOrNone_0 (pa_heard_1 (Int32.toNatClampNeg ((x2 * (9 : Int32)) + x3))) (fun r_4 => post r_4 pa_heard_1))))) ∧ (r_3 = 0 → (post (-1 : Int32) pa_heard)))))))) ∧ (¬ r_1 = 0 → ¬ r_1 = 1 → (q_wl_X2_hasHut_0 tl0f_huts x2 (fun r_5 => (r_5 = 0 → (post (-1 : Int32) pa_heard)) ∧ (¬ r_5 = 0 → (q_wl_X2_hasHut_0 tl0f_huts x3 (fun r_6 => (¬ r_6 = 0 → (q_wp_X7_hear_9_0 pa_heard tl0f_huts tl0f_dams tl0f_echoes tl0a_heights tl0a_minutes tl0a_echoFrom tl0a_echoTo (fun pa_heard_2 => vp_in ((x2 * (9 : Int32)) + x3) 81 ∧ (q_z_X10_nearOrNone_0 (pa_heard_2 (Int32.toNatClampNeg ((x2 * (9 : Int32)) + x3))) (fun r_7 => post r_7 pa_heard_2))))) ∧ (r_6 = 0 → (post (-1 : Int32) pa_heard)))))))))
set_option maxRecDepth 20000 in
theorem t_wx_X10_comes_0 {p : Program} {l : Launch} {e : Env} {s : State} {m : MethodId} {args : Array Value} {below : List Frame} {meth : Method} {c : Code} {E : zE} {qx : Nat} {ta_tape : Nat → Int32} {tf_length : Int32} {tf_fault : Int32} {tf_place : Int32} {ta_counts : Nat → Int32} {tl0f_huts : Int32} {tl0f_singers : Int32} {tl0f_villages : Int32} {tl0f_dams : Int32} {tl0f_echoes : Int32} {tl0f_deep : Int32} {tl0f_slide : Int32} {tl0a_heights : Nat → Int32} {tl0a_ladders : Nat → Int32} {tl0a_minutes : Nat → Int32} {tl0a_echoFrom : Nat → Int32} {tl0a_echoTo : Nat → Int32} {tl0a_homes : Nat → Int32} {tl0a_talls : Nat → Int32} {tl0a_known : Nat → Int32} {tl1f_huts : Int32} {tl1f_singers : Int32} {tl1f_villages : Int32} {tl1f_dams : Int32} {tl1f_echoes : Int32} {tl1f_deep : Int32} {tl1f_slide : Int32} {tl1a_heights : Nat → Int32} {tl1a_ladders : Nat → Int32} {tl1a_minutes : Nat → Int32} {tl1a_echoFrom : Nat → Int32} {tl1a_echoTo : Nat → Int32} {tl1a_homes : Nat → Int32} {tl1a_talls : Nat → Int32} {tl1a_known : Nat → Int32} {tv0f_deeds : Int32} {tv0a_kinds : Nat → Int32} {tv0a_firsts : Nat → Int32} {tv0a_seconds : Nat → Int32} {tv1f_deeds : Int32} {tv1a_kinds : Nat → Int32} {tv1a_firsts : Nat → Int32} {tv1a_seconds : Nat → Int32} {ts0f_facts : Int32} {ts0a_heard : Nat → Int32} {ts0a_huts : Nat → Int32} {ts0a_minutes : Nat → Int32} {ts1f_facts : Int32} {ts1a_heard : Nat → Int32} {ts1a_huts : Nat → Int32} {ts1a_minutes : Nat → Int32} {tc0f_voices : Int32} {tc0f_step : Int32} {tc0a_parts : Nat → Int32} {tc0a_heights : Nat → Int32} {tc1f_voices : Int32} {tc1f_step : Int32} {tc1a_parts : Nat → Int32} {tc1a_heights : Nat → Int32} {m_images : Nat → Option Nat} {rlf_huts : Int32} {rlf_singers : Int32} {rlf_villages : Int32} {rlf_dams : Int32} {rlf_echoes : Int32} {rlf_deep : Int32} {rlf_slide : Int32} {rla_heights : Nat → Int32} {rla_ladders : Nat → Int32} {rla_minutes : Nat → Int32} {rla_echoFrom : Nat → Int32} {rla_echoTo : Nat → Int32} {rla_homes : Nat → Int32} {rla_talls : Nat → Int32} {rla_known : Nat → Int32} {rvf_deeds : Int32} {rva_kinds : Nat → Int32} {rva_firsts : Nat → Int32} {rva_seconds : Nat → Int32} {rsf_facts : Int32} {rsa_heard : Nat → Int32} {rsa_huts : Nat → Int32} {rsa_minutes : Nat → Int32} {rcf_voices : Int32} {rcf_step : Int32} {rca_parts : Nat → Int32} {rca_heights : Nat → Int32} {rf_fault : Int32} {rf_faultPlace : Int32} {ra_numbers : Nat → Int32} {ra_tape : Nat → Int32} {rf_length : Int32} {rf_behind : Int32} {rf_kind : Int32} {rf_first : Int32} {rf_value : Int32} {rf_hutsToldOf : Int32} {rf_singersToldOf : Int32} {nf_minute : Int32} {nf_avalanches : Int32} {nf_begun : Int32} {nf_climbed : Int32} {nf_seed : Int32} {na_huts : Nat → Int32} {na_known : Nat → Int32} {na_levels : Nat → Int32} {na_snow : Nat → Int32} {na_open : Nat → Int32} {pa_heard : Nat → Int32} {pa_walked : Nat → Int32} {pa_total : Nat → Int32} {pa_longest : Nat → Int32} {pa_next : Nat → Int32} {pa_cover : Nat → Int32} {pa_now : Nat → Int32} {pa_then : Nat → Int32} {ko_stands : Option Nat} {ka_gaps : Nat → Int32} {ka_behind : Nat → Int32} {ba_less : Nat → Int32} {ba_full : Nat → Int32} {post : Int32 → (Nat → Int32) → Prop} {x1 : Int32} {x2 : Int32} {x3 : Int32} {ls : Array Slot} {H : Heap} {locs : List Loc}
    (zc : zC p s m args meth c cX10_comes 5 RX10 (some .int))
    (hK : zK E s)
    (hM : wxW E qx ta_tape tf_length tf_fault tf_place ta_counts tl0f_huts tl0f_singers tl0f_villages tl0f_dams tl0f_echoes tl0f_deep tl0f_slide tl0a_heights tl0a_ladders tl0a_minutes tl0a_echoFrom tl0a_echoTo tl0a_homes tl0a_talls tl0a_known tl1f_huts tl1f_singers tl1f_villages tl1f_dams tl1f_echoes tl1f_deep tl1f_slide tl1a_heights tl1a_ladders tl1a_minutes tl1a_echoFrom tl1a_echoTo tl1a_homes tl1a_talls tl1a_known tv0f_deeds tv0a_kinds tv0a_firsts tv0a_seconds tv1f_deeds tv1a_kinds tv1a_firsts tv1a_seconds ts0f_facts ts0a_heard ts0a_huts ts0a_minutes ts1f_facts ts1a_heard ts1a_huts ts1a_minutes tc0f_voices tc0f_step tc0a_parts tc0a_heights tc1f_voices tc1f_step tc1a_parts tc1a_heights m_images rlf_huts rlf_singers rlf_villages rlf_dams rlf_echoes rlf_deep rlf_slide rla_heights rla_ladders rla_minutes rla_echoFrom rla_echoTo rla_homes rla_talls rla_known rvf_deeds rva_kinds rva_firsts rva_seconds rsf_facts rsa_heard rsa_huts rsa_minutes rcf_voices rcf_step rca_parts rca_heights rf_fault rf_faultPlace ra_numbers ra_tape rf_length rf_behind rf_kind rf_first rf_value rf_hutsToldOf rf_singersToldOf nf_minute nf_avalanches nf_begun nf_climbed nf_seed na_huts na_known na_levels na_snow na_open pa_heard pa_walked pa_total pa_longest pa_next pa_cover pa_now pa_then ko_stands ka_gaps ka_behind ba_less ba_full H)
    (hS : va_S (wxA qx) s.heap H locs)
    (hl : lv_has ls 5 [(0, .ref qx), (1, .int x1), (2, .int x2), (3, .int x3)])
    (hw : q_wx_X10_comes_0 ta_counts tl0f_huts tl0f_dams tl0f_echoes tl0a_heights tl0a_minutes tl0a_echoFrom tl0a_echoTo tl1f_huts tl1f_dams tl1f_echoes tl1a_heights tl1a_minutes tl1a_echoFrom tl1a_echoTo pa_heard x1 x2 x3 post) :
    W p l e rm_wx_X10_comes s m args below meth c H locs 0 0 (MQ below (zQi (S := (Nat → Int32)) (fun r u => post r u) (fun u H => wxW E qx ta_tape tf_length tf_fault tf_place ta_counts tl0f_huts tl0f_singers tl0f_villages tl0f_dams tl0f_echoes tl0f_deep tl0f_slide tl0a_heights tl0a_ladders tl0a_minutes tl0a_echoFrom tl0a_echoTo tl0a_homes tl0a_talls tl0a_known tl1f_huts tl1f_singers tl1f_villages tl1f_dams tl1f_echoes tl1f_deep tl1f_slide tl1a_heights tl1a_ladders tl1a_minutes tl1a_echoFrom tl1a_echoTo tl1a_homes tl1a_talls tl1a_known tv0f_deeds tv0a_kinds tv0a_firsts tv0a_seconds tv1f_deeds tv1a_kinds tv1a_firsts tv1a_seconds ts0f_facts ts0a_heard ts0a_huts ts0a_minutes ts1f_facts ts1a_heard ts1a_huts ts1a_minutes tc0f_voices tc0f_step tc0a_parts tc0a_heights tc1f_voices tc1f_step tc1a_parts tc1a_heights m_images rlf_huts rlf_singers rlf_villages rlf_dams rlf_echoes rlf_deep rlf_slide rla_heights rla_ladders rla_minutes rla_echoFrom rla_echoTo rla_homes rla_talls rla_known rvf_deeds rva_kinds rva_firsts rva_seconds rsf_facts rsa_heard rsa_huts rsa_minutes rcf_voices rcf_step rca_parts rca_heights rf_fault rf_faultPlace ra_numbers ra_tape rf_length rf_behind rf_kind rf_first rf_value rf_hutsToldOf rf_singersToldOf nf_minute nf_avalanches nf_begun nf_climbed nf_seed na_huts na_known na_levels na_snow na_open u pa_walked pa_total pa_longest pa_next pa_cover pa_now pa_then ko_stands ka_gaps ka_behind ba_less ba_full H) (wxA qx)) args s 0 0 (wxA qx)) (F0 m 0 ls []) := by
  have hx := zc.1
  have hb := zc.2.1
  refine lv_aload_n hx hb dX10_comes_0 rfl (lv_at hl 0 rfl) ?_
  refine lv_iload_n hx hb dX10_comes_1 rfl (lv_at hl 1 rfl) ?_
  refine zV_r [.int x1] [] zc ky_X10_landAt kz_X10_landAt km_10_89 (c_wx_X10_landAt l hw) (wxPreV0 hK hM) rfl rfl hl.1 (Nat.le_of_ble_eq_true rfl) ⟨rfl, rfl⟩ ⟨Nat.le_of_ble_eq_true rfl, Nat.le_of_ble_eq_true rfl⟩ ⟨(Nat.zero_le _), (Nat.zero_le _)⟩ dX10_comes_2 (fun r_1 hw => ?_)
  by_cases hc0 : r_1 = 0
  · have hw := hw.1 hc0
    refine W.eq (g2 := F0 m 5 ls (.null :: [])) (by simp [hc0]) ?_
    refine lv_astoreN (lv' := [(4, .null), (0, .ref qx), (1, .int x1), (2, .int x2), (3, .int x3)]) hx hb dX10_comes_5 hl (by decide) rfl (fun ls hl => ?_)
    refine lv_aloadN hx hb dX10_comes_7 (lv_at hl 0 rfl) ?_
    refine lv_ifnullN (tgt := 30) hx hb dX10_comes_9 (by decide) ?_
    refine lv_iconst (v := (-1 : Int32)) hx hb dX10_comes_30 (by decide) ?_
    exact zret_iw pa_heard zc hS hw hM dX10_comes_31
  by_cases hc1 : r_1 = 1
  · have hw := hw.2.1 hc1
    refine W.eq (g2 := F0 m 5 ls (.ref (qx + 14) :: [])) (by simp [hc0, hc1]) ?_
    refine lv_astore (lv' := [(4, .ref (qx + 14)), (0, .ref qx), (1, .int x1), (2, .int x2), (3, .int x3)]) hx hb dX10_comes_5 hl (by decide) rfl (fun ls hl => ?_)
    refine lv_aload hx hb dX10_comes_7 (lv_at hl 0 rfl) ?_
    refine lv_ifnull hx hb dX10_comes_9 ?_
    refine lv_aload hx hb dX10_comes_12 (lv_at hl 0 rfl) ?_
    refine lv_iload_n hx hb dX10_comes_14 rfl (lv_at hl 3 rfl) ?_
    refine zV_i [.int x2] [] zc ky_X2_hasHut kz_X2_hasHut km_10_135 (c_wl_X2_hasHut l hw) (wlPreV0 hK (pj_wx_wl_14 hM)) rfl rfl hl.1 (Nat.le_of_ble_eq_true rfl) ⟨rfl, rfl⟩ ⟨Nat.le_of_ble_eq_true rfl, Nat.le_of_ble_eq_true rfl⟩ ⟨(Nat.zero_le _), (Nat.zero_le _)⟩ dX10_comes_15 (fun r_2 hw => ?_)
    refine lv_if_eq (tgt := 30) hx hb dX10_comes_18 (by decide) (fun hc => ?_) (fun hc => ?_)
    · have hw := hw.1 hc
      refine lv_iconst (v := (-1 : Int32)) hx hb dX10_comes_30 (by decide) ?_
      exact zret_iw pa_heard zc hS hw hM dX10_comes_31
    · have hw := hw.2 hc
      refine lv_aload hx hb dX10_comes_21 (lv_at hl 0 rfl) ?_
      refine lv_iload_n hx hb dX10_comes_23 rfl (lv_at hl 4 rfl) ?_
      refine zV_i [.int x3] [] zc ky_X2_hasHut kz_X2_hasHut km_10_135 (c_wl_X2_hasHut l hw) (wlPreV0 hK (pj_wx_wl_14 hM)) rfl rfl hl.1 (Nat.le_of_ble_eq_true rfl) ⟨rfl, rfl⟩ ⟨Nat.le_of_ble_eq_true rfl, Nat.le_of_ble_eq_true rfl⟩ ⟨(Nat.zero_le _), (Nat.zero_le _)⟩ dX10_comes_24 (fun r_3 hw => ?_)
      refine lv_if_ne (tgt := 32) hx hb dX10_comes_27 (by decide) (fun hc => ?_) (fun hc => ?_)
      · have hw := hw.1 hc
        refine lv_aload_n hx hb dX10_comes_32 rfl (lv_at hl 1 rfl) ?_
        refine wxg_10_37_0 zc hK hM dX10_comes_33 ?_
        refine lv_aload hx hb dX10_comes_36 (lv_at hl 0 rfl) ?_
        refine zVx_v [.ref (qx + 14)] [] zc ky_X7_hear kz_X7_hear km_10_139 (c_wp_X7_hear_9 l hw) (wpPreV0 hK (pj_wx_wp_78_14_33 hM)) hS (sb_wx_wp_78_14_33) rfl rfl hl.1 (Nat.le_of_ble_eq_true rfl) ⟨rfl, rfl⟩ ⟨Nat.le_of_ble_eq_true rfl, Nat.le_of_ble_eq_true rfl⟩ ⟨(Nat.zero_le _), (Nat.zero_le _)⟩ dX10_comes_38 (fun pa_heard_1 H1 locs1 hw hM1 hk hS => ?_)
        have hM := jn_wx_wp_78_14_33 hM hM1 hk
        refine lv_aload_n hx hb dX10_comes_41 rfl (lv_at hl 1 rfl) ?_
        refine wxg_10_37_0 zc hK hM dX10_comes_42 ?_
        refine wxg_10_143_78 zc hK hM dX10_comes_45 ?_
        refine lv_iload_n hx hb dX10_comes_48 rfl (lv_at hl 3 rfl) ?_
        refine lv_bipush (v := (9 : Int32)) hx hb dX10_comes_49 (by decide) ?_
        refine lv_imul hx hb dX10_comes_51 ?_
        refine lv_iload_n hx hb dX10_comes_52 rfl (lv_at hl 4 rfl) ?_
        refine lv_iadd hx hb dX10_comes_53 ?_
        refine wxld_79 zc hK hM hw.1 dX10_comes_54 ?_
        have hw := hw.2
        refine zS_i [.int (pa_heard_1 (Int32.toNatClampNeg ((x2 * (9 : Int32)) + x3)))] [] zc ky_X10_nearOrNone kz_X10_nearOrNone km_10_146 (c_z_X10_nearOrNone l hw) (zPre0 _) rfl rfl hl.1 (Nat.le_of_ble_eq_true rfl) ⟨rfl, rfl⟩ ⟨Nat.le_of_ble_eq_true rfl, Nat.le_of_ble_eq_true rfl⟩ ⟨(Nat.zero_le _), (Nat.zero_le _)⟩ dX10_comes_55 (fun r_4 hw => ?_)
        exact zret_iw pa_heard_1 zc hS hw hM dX10_comes_58
      · have hw := hw.2 hc
        refine lv_iconst (v := (-1 : Int32)) hx hb dX10_comes_30 (by decide) ?_
        exact zret_iw pa_heard zc hS hw hM dX10_comes_31
  have hw := hw.2.2 hc0 hc1
  refine W.eq (g2 := F0 m 5 ls (.ref (qx + 5) :: [])) (by simp [hc0, hc1]) ?_
  refine lv_astore (lv' := [(4, .ref (qx + 5)), (0, .ref qx), (1, .int x1), (2, .int x2), (3, .int x3)]) hx hb dX10_comes_5 hl (by decide) rfl (fun ls hl => ?_)
  refine lv_aload hx hb dX10_comes_7 (lv_at hl 0 rfl) ?_
  refine lv_ifnull hx hb dX10_comes_9 ?_
  refine lv_aload hx hb dX10_comes_12 (lv_at hl 0 rfl) ?_
  refine lv_iload_n hx hb dX10_comes_14 rfl (lv_at hl 3 rfl) ?_
  refine zV_i [.int x2] [] zc ky_X2_hasHut kz_X2_hasHut km_10_135 (c_wl_X2_hasHut l hw) (wlPreV0 hK (pj_wx_wl_5 hM)) rfl rfl hl.1 (Nat.le_of_ble_eq_true rfl) ⟨rfl, rfl⟩ ⟨Nat.le_of_ble_eq_true rfl, Nat.le_of_ble_eq_true rfl⟩ ⟨(Nat.zero_le _), (Nat.zero_le _)⟩ dX10_comes_15 (fun r_5 hw => ?_)
  refine lv_if_eq (tgt := 30) hx hb dX10_comes_18 (by decide) (fun hc => ?_) (fun hc => ?_)
  · have hw := hw.1 hc
    refine lv_iconst (v := (-1 : Int32)) hx hb dX10_comes_30 (by decide) ?_
    exact zret_iw pa_heard zc hS hw hM dX10_comes_31
  · have hw := hw.2 hc
    refine lv_aload hx hb dX10_comes_21 (lv_at hl 0 rfl) ?_
    refine lv_iload_n hx hb dX10_comes_23 rfl (lv_at hl 4 rfl) ?_
    refine zV_i [.int x3] [] zc ky_X2_hasHut kz_X2_hasHut km_10_135 (c_wl_X2_hasHut l hw) (wlPreV0 hK (pj_wx_wl_5 hM)) rfl rfl hl.1 (Nat.le_of_ble_eq_true rfl) ⟨rfl, rfl⟩ ⟨Nat.le_of_ble_eq_true rfl, Nat.le_of_ble_eq_true rfl⟩ ⟨(Nat.zero_le _), (Nat.zero_le _)⟩ dX10_comes_24 (fun r_6 hw => ?_)
    refine lv_if_ne (tgt := 32) hx hb dX10_comes_27 (by decide) (fun hc => ?_) (fun hc => ?_)
    · have hw := hw.1 hc
      refine lv_aload_n hx hb dX10_comes_32 rfl (lv_at hl 1 rfl) ?_
      refine wxg_10_37_0 zc hK hM dX10_comes_33 ?_
      refine lv_aload hx hb dX10_comes_36 (lv_at hl 0 rfl) ?_
      refine zVx_v [.ref (qx + 5)] [] zc ky_X7_hear kz_X7_hear km_10_139 (c_wp_X7_hear_9 l hw) (wpPreV0 hK (pj_wx_wp_78_5_33 hM)) hS (sb_wx_wp_78_5_33) rfl rfl hl.1 (Nat.le_of_ble_eq_true rfl) ⟨rfl, rfl⟩ ⟨Nat.le_of_ble_eq_true rfl, Nat.le_of_ble_eq_true rfl⟩ ⟨(Nat.zero_le _), (Nat.zero_le _)⟩ dX10_comes_38 (fun pa_heard_2 H1 locs1 hw hM1 hk hS => ?_)
      have hM := jn_wx_wp_78_5_33 hM hM1 hk
      refine lv_aload_n hx hb dX10_comes_41 rfl (lv_at hl 1 rfl) ?_
      refine wxg_10_37_0 zc hK hM dX10_comes_42 ?_
      refine wxg_10_143_78 zc hK hM dX10_comes_45 ?_
      refine lv_iload_n hx hb dX10_comes_48 rfl (lv_at hl 3 rfl) ?_
      refine lv_bipush (v := (9 : Int32)) hx hb dX10_comes_49 (by decide) ?_
      refine lv_imul hx hb dX10_comes_51 ?_
      refine lv_iload_n hx hb dX10_comes_52 rfl (lv_at hl 4 rfl) ?_
      refine lv_iadd hx hb dX10_comes_53 ?_
      refine wxld_79 zc hK hM hw.1 dX10_comes_54 ?_
      have hw := hw.2
      refine zS_i [.int (pa_heard_2 (Int32.toNatClampNeg ((x2 * (9 : Int32)) + x3)))] [] zc ky_X10_nearOrNone kz_X10_nearOrNone km_10_146 (c_z_X10_nearOrNone l hw) (zPre0 _) rfl rfl hl.1 (Nat.le_of_ble_eq_true rfl) ⟨rfl, rfl⟩ ⟨Nat.le_of_ble_eq_true rfl, Nat.le_of_ble_eq_true rfl⟩ ⟨(Nat.zero_le _), (Nat.zero_le _)⟩ dX10_comes_55 (fun r_7 hw => ?_)
      exact zret_iw pa_heard_2 zc hS hw hM dX10_comes_58
    · have hw := hw.2 hc
      refine lv_iconst (v := (-1 : Int32)) hx hb dX10_comes_30 (by decide) ?_
      exact zret_iw pa_heard zc hS hw hM dX10_comes_31
set_option maxRecDepth 20000 in
theorem c_wx_X10_comes (l : Launch) {E : zE} {qx : Nat} {ta_tape : Nat → Int32} {tf_length : Int32} {tf_fault : Int32} {tf_place : Int32} {ta_counts : Nat → Int32} {tl0f_huts : Int32} {tl0f_singers : Int32} {tl0f_villages : Int32} {tl0f_dams : Int32} {tl0f_echoes : Int32} {tl0f_deep : Int32} {tl0f_slide : Int32} {tl0a_heights : Nat → Int32} {tl0a_ladders : Nat → Int32} {tl0a_minutes : Nat → Int32} {tl0a_echoFrom : Nat → Int32} {tl0a_echoTo : Nat → Int32} {tl0a_homes : Nat → Int32} {tl0a_talls : Nat → Int32} {tl0a_known : Nat → Int32} {tl1f_huts : Int32} {tl1f_singers : Int32} {tl1f_villages : Int32} {tl1f_dams : Int32} {tl1f_echoes : Int32} {tl1f_deep : Int32} {tl1f_slide : Int32} {tl1a_heights : Nat → Int32} {tl1a_ladders : Nat → Int32} {tl1a_minutes : Nat → Int32} {tl1a_echoFrom : Nat → Int32} {tl1a_echoTo : Nat → Int32} {tl1a_homes : Nat → Int32} {tl1a_talls : Nat → Int32} {tl1a_known : Nat → Int32} {tv0f_deeds : Int32} {tv0a_kinds : Nat → Int32} {tv0a_firsts : Nat → Int32} {tv0a_seconds : Nat → Int32} {tv1f_deeds : Int32} {tv1a_kinds : Nat → Int32} {tv1a_firsts : Nat → Int32} {tv1a_seconds : Nat → Int32} {ts0f_facts : Int32} {ts0a_heard : Nat → Int32} {ts0a_huts : Nat → Int32} {ts0a_minutes : Nat → Int32} {ts1f_facts : Int32} {ts1a_heard : Nat → Int32} {ts1a_huts : Nat → Int32} {ts1a_minutes : Nat → Int32} {tc0f_voices : Int32} {tc0f_step : Int32} {tc0a_parts : Nat → Int32} {tc0a_heights : Nat → Int32} {tc1f_voices : Int32} {tc1f_step : Int32} {tc1a_parts : Nat → Int32} {tc1a_heights : Nat → Int32} {m_images : Nat → Option Nat} {rlf_huts : Int32} {rlf_singers : Int32} {rlf_villages : Int32} {rlf_dams : Int32} {rlf_echoes : Int32} {rlf_deep : Int32} {rlf_slide : Int32} {rla_heights : Nat → Int32} {rla_ladders : Nat → Int32} {rla_minutes : Nat → Int32} {rla_echoFrom : Nat → Int32} {rla_echoTo : Nat → Int32} {rla_homes : Nat → Int32} {rla_talls : Nat → Int32} {rla_known : Nat → Int32} {rvf_deeds : Int32} {rva_kinds : Nat → Int32} {rva_firsts : Nat → Int32} {rva_seconds : Nat → Int32} {rsf_facts : Int32} {rsa_heard : Nat → Int32} {rsa_huts : Nat → Int32} {rsa_minutes : Nat → Int32} {rcf_voices : Int32} {rcf_step : Int32} {rca_parts : Nat → Int32} {rca_heights : Nat → Int32} {rf_fault : Int32} {rf_faultPlace : Int32} {ra_numbers : Nat → Int32} {ra_tape : Nat → Int32} {rf_length : Int32} {rf_behind : Int32} {rf_kind : Int32} {rf_first : Int32} {rf_value : Int32} {rf_hutsToldOf : Int32} {rf_singersToldOf : Int32} {nf_minute : Int32} {nf_avalanches : Int32} {nf_begun : Int32} {nf_climbed : Int32} {nf_seed : Int32} {na_huts : Nat → Int32} {na_known : Nat → Int32} {na_levels : Nat → Int32} {na_snow : Nat → Int32} {na_open : Nat → Int32} {pa_heard : Nat → Int32} {pa_walked : Nat → Int32} {pa_total : Nat → Int32} {pa_longest : Nat → Int32} {pa_next : Nat → Int32} {pa_cover : Nat → Int32} {pa_now : Nat → Int32} {pa_then : Nat → Int32} {ko_stands : Option Nat} {ka_gaps : Nat → Int32} {ka_behind : Nat → Int32} {ba_less : Nat → Int32} {ba_full : Nat → Int32} {x1 : Int32} {x2 : Int32} {x3 : Int32} {post : Int32 → (Nat → Int32) → Prop} (hw : q_wx_X10_comes_0 ta_counts tl0f_huts tl0f_dams tl0f_echoes tl0a_heights tl0a_minutes tl0a_echoFrom tl0a_echoTo tl1f_huts tl1f_dams tl1f_echoes tl1a_heights tl1a_minutes tl1a_echoFrom tl1a_echoTo pa_heard x1 x2 x3 post) : Met l yX10_comes (Cond.code yX10_comes cX10_comes 5 (some .int) :: zb) rm_wx_X10_comes (va_Pc [.ref qx, .int x1, .int x2, .int x3] (fun U => wxW E qx ta_tape tf_length tf_fault tf_place ta_counts tl0f_huts tl0f_singers tl0f_villages tl0f_dams tl0f_echoes tl0f_deep tl0f_slide tl0a_heights tl0a_ladders tl0a_minutes tl0a_echoFrom tl0a_echoTo tl0a_homes tl0a_talls tl0a_known tl1f_huts tl1f_singers tl1f_villages tl1f_dams tl1f_echoes tl1f_deep tl1f_slide tl1a_heights tl1a_ladders tl1a_minutes tl1a_echoFrom tl1a_echoTo tl1a_homes tl1a_talls tl1a_known tv0f_deeds tv0a_kinds tv0a_firsts tv0a_seconds tv1f_deeds tv1a_kinds tv1a_firsts tv1a_seconds ts0f_facts ts0a_heard ts0a_huts ts0a_minutes ts1f_facts ts1a_heard ts1a_huts ts1a_minutes tc0f_voices tc0f_step tc0a_parts tc0a_heights tc1f_voices tc1f_step tc1a_parts tc1a_heights m_images rlf_huts rlf_singers rlf_villages rlf_dams rlf_echoes rlf_deep rlf_slide rla_heights rla_ladders rla_minutes rla_echoFrom rla_echoTo rla_homes rla_talls rla_known rvf_deeds rva_kinds rva_firsts rva_seconds rsf_facts rsa_heard rsa_huts rsa_minutes rcf_voices rcf_step rca_parts rca_heights rf_fault rf_faultPlace ra_numbers ra_tape rf_length rf_behind rf_kind rf_first rf_value rf_hutsToldOf rf_singersToldOf nf_minute nf_avalanches nf_begun nf_climbed nf_seed na_huts na_known na_levels na_snow na_open pa_heard pa_walked pa_total pa_longest pa_next pa_cover pa_now pa_then ko_stands ka_gaps ka_behind ba_less ba_full U.heap ∧ zK E U)) (zQi (S := (Nat → Int32)) (fun r u => post r u) (fun u H => wxW E qx ta_tape tf_length tf_fault tf_place ta_counts tl0f_huts tl0f_singers tl0f_villages tl0f_dams tl0f_echoes tl0f_deep tl0f_slide tl0a_heights tl0a_ladders tl0a_minutes tl0a_echoFrom tl0a_echoTo tl0a_homes tl0a_talls tl0a_known tl1f_huts tl1f_singers tl1f_villages tl1f_dams tl1f_echoes tl1f_deep tl1f_slide tl1a_heights tl1a_ladders tl1a_minutes tl1a_echoFrom tl1a_echoTo tl1a_homes tl1a_talls tl1a_known tv0f_deeds tv0a_kinds tv0a_firsts tv0a_seconds tv1f_deeds tv1a_kinds tv1a_firsts tv1a_seconds ts0f_facts ts0a_heard ts0a_huts ts0a_minutes ts1f_facts ts1a_heard ts1a_huts ts1a_minutes tc0f_voices tc0f_step tc0a_parts tc0a_heights tc1f_voices tc1f_step tc1a_parts tc1a_heights m_images rlf_huts rlf_singers rlf_villages rlf_dams rlf_echoes rlf_deep rlf_slide rla_heights rla_ladders rla_minutes rla_echoFrom rla_echoTo rla_homes rla_talls rla_known rvf_deeds rva_kinds rva_firsts rva_seconds rsf_facts rsa_heard rsa_huts rsa_minutes rcf_voices rcf_step rca_parts rca_heights rf_fault rf_faultPlace ra_numbers ra_tape rf_length rf_behind rf_kind rf_first rf_value rf_hutsToldOf rf_singersToldOf nf_minute nf_avalanches nf_begun nf_climbed nf_seed na_huts na_known na_levels na_snow na_open u pa_walked pa_total pa_longest pa_next pa_cover pa_now pa_then ko_stands ka_gaps ka_behind ba_less ba_full H) (wxA qx)) 0 0 (wxA qx) := by
  refine Met.ofW (cc := cX10_comes) (maxL := 5) (ret := (some .int)) (by decide) rfl ?_
  intro p e s m args below meth c s₁ B hml hv
  obtain ⟨rfl, hM, hK⟩ := hv
  have zc := zc_of B hml
  have hl := lv_entry ([.ref qx, .int x1, .int x2, .int x3]) (n := 5) (Nat.le_of_ble_eq_true rfl)
  rw [lg_entry_eq]
  generalize (lg_sl ([.ref qx, .int x1, .int x2, .int x3]) ++ List.replicate (5 - (lg_sl ([.ref qx, .int x1, .int x2, .int x3])).length) Slot.unset).toArray = ls at hl ⊢
  have hl : lv_has ls 5 [(0, .ref qx), (1, .int x1), (2, .int x2), (3, .int x3)] := hl
  exact t_wx_X10_comes_0 zc hK hM va_S.rf (lv_sub hl [0, 1, 2, 3] rfl) hw
-- wx_X10_villages
abbrev rm_wx_X10_villages : Room := { frames := 4, cells := 0, slots := 0, locals := 92 }
def q_wx_X10_villages_0 (ta_counts : Nat → Int32) (tl0f_huts : Int32) (tl0f_villages : Int32) (tl0f_dams : Int32) (tl0f_echoes : Int32) (tl0a_heights : Nat → Int32) (tl0a_minutes : Nat → Int32) (tl0a_echoFrom : Nat → Int32) (tl0a_echoTo : Nat → Int32) (tl1f_huts : Int32) (tl1f_villages : Int32) (tl1f_dams : Int32) (tl1f_echoes : Int32) (tl1a_heights : Nat → Int32) (tl1a_minutes : Nat → Int32) (tl1a_echoFrom : Nat → Int32) (tl1a_echoTo : Nat → Int32) (pa_heard : Nat → Int32) (pa_cover : Nat → Int32) (x1 : Int32) (x2 : Int32) (x3 : Int32) (post : Int32 → (Nat → Int32) → (Nat → Int32) → Prop) : Prop :=
  q_wx_X10_landAt_0 ta_counts x1 (fun r_1 => (r_1 = 0 → (post (-2 : Int32) pa_heard pa_cover)) ∧ (r_1 = 1 → ((x2 < 0 → (post (-2 : Int32) pa_heard pa_cover)) ∧ (¬ x2 < 0 → (((99 : Int32) < x2 → (post (-2 : Int32) pa_heard pa_cover)) ∧ (¬ (99 : Int32) < x2 → ((x3 < 0 → (post (-2 : Int32) pa_heard pa_cover)) ∧ (¬ x3 < 0 → ((x3 ≤ (1 : Int32) → (q_wp_X7_hear_9_0 pa_heard tl1f_huts tl1f_dams tl1f_echoes tl1a_heights tl1a_minutes tl1a_echoFrom tl1a_echoTo (fun pa_heard_1 => (¬ x3 = 0 → (q_wp_X7_crewBy_9_0 pa_heard_1 pa_cover tl1f_huts tl1f_villages x2 (fun r_2 pa_cover_1 => post r_2 pa_heard_1 pa_cover_1))) ∧ (x3 = 0 → (q_wp_X7_allBy_9_0 pa_heard_1 tl1f_huts tl1f_villages tl1f_dams x2 (fun r_3 => post r_3 pa_heard_1 pa_cover)))))) ∧ (¬ x3 ≤ (1 : Int32) → (post (-2 : Int32) pa_heard pa_cover)))))))))) ∧ (¬ r_1 = 0 → ¬ r_1 = 1 → ((x2 < 0 → (post (-2 : Int32) pa_heard pa_cover)) ∧ (¬ x2 < 0 → (((99 : Int32) < x2 → (post (-2 : Int32) pa_heard pa_cover)) ∧ (¬ (99 : Int32) < x2 → ((x3 < 0 → (post (-2 : Int32) pa_heard pa_cover)) ∧ (¬ x3 < 0 → ((x3 ≤ (1 : Int32) → (q_wp_X7_hear_9_0 pa_heard tl0f_huts tl0f_dams tl0f_echoes tl0a_heights tl0a_minutes tl0a_echoFrom tl0a_echoTo (fun pa_heard_2 => (¬ x3 = 0 → (q_wp_X7_crewBy_9_0 pa_heard_2 pa_cover tl0f_huts tl0f_villages x2 (fun r_4 pa_cover_2 => post r_4 pa_heard_2 pa_cover_2))) ∧ (x3 = 0 → (q_wp_X7_allBy_9_0 pa_heard_2 tl0f_huts tl0f_villages tl0f_dams x2 (fun r_5 => post r_5 pa_heard_2 pa_cover)))))) ∧ (¬ x3 ≤ (1 : Int32) → (post (-2 : Int32) pa_heard pa_cover)))))))))))
set_option maxRecDepth 20000 in
theorem t_wx_X10_villages_0 {p : Program} {l : Launch} {e : Env} {s : State} {m : MethodId} {args : Array Value} {below : List Frame} {meth : Method} {c : Code} {E : zE} {qx : Nat} {ta_tape : Nat → Int32} {tf_length : Int32} {tf_fault : Int32} {tf_place : Int32} {ta_counts : Nat → Int32} {tl0f_huts : Int32} {tl0f_singers : Int32} {tl0f_villages : Int32} {tl0f_dams : Int32} {tl0f_echoes : Int32} {tl0f_deep : Int32} {tl0f_slide : Int32} {tl0a_heights : Nat → Int32} {tl0a_ladders : Nat → Int32} {tl0a_minutes : Nat → Int32} {tl0a_echoFrom : Nat → Int32} {tl0a_echoTo : Nat → Int32} {tl0a_homes : Nat → Int32} {tl0a_talls : Nat → Int32} {tl0a_known : Nat → Int32} {tl1f_huts : Int32} {tl1f_singers : Int32} {tl1f_villages : Int32} {tl1f_dams : Int32} {tl1f_echoes : Int32} {tl1f_deep : Int32} {tl1f_slide : Int32} {tl1a_heights : Nat → Int32} {tl1a_ladders : Nat → Int32} {tl1a_minutes : Nat → Int32} {tl1a_echoFrom : Nat → Int32} {tl1a_echoTo : Nat → Int32} {tl1a_homes : Nat → Int32} {tl1a_talls : Nat → Int32} {tl1a_known : Nat → Int32} {tv0f_deeds : Int32} {tv0a_kinds : Nat → Int32} {tv0a_firsts : Nat → Int32} {tv0a_seconds : Nat → Int32} {tv1f_deeds : Int32} {tv1a_kinds : Nat → Int32} {tv1a_firsts : Nat → Int32} {tv1a_seconds : Nat → Int32} {ts0f_facts : Int32} {ts0a_heard : Nat → Int32} {ts0a_huts : Nat → Int32} {ts0a_minutes : Nat → Int32} {ts1f_facts : Int32} {ts1a_heard : Nat → Int32} {ts1a_huts : Nat → Int32} {ts1a_minutes : Nat → Int32} {tc0f_voices : Int32} {tc0f_step : Int32} {tc0a_parts : Nat → Int32} {tc0a_heights : Nat → Int32} {tc1f_voices : Int32} {tc1f_step : Int32} {tc1a_parts : Nat → Int32} {tc1a_heights : Nat → Int32} {m_images : Nat → Option Nat} {rlf_huts : Int32} {rlf_singers : Int32} {rlf_villages : Int32} {rlf_dams : Int32} {rlf_echoes : Int32} {rlf_deep : Int32} {rlf_slide : Int32} {rla_heights : Nat → Int32} {rla_ladders : Nat → Int32} {rla_minutes : Nat → Int32} {rla_echoFrom : Nat → Int32} {rla_echoTo : Nat → Int32} {rla_homes : Nat → Int32} {rla_talls : Nat → Int32} {rla_known : Nat → Int32} {rvf_deeds : Int32} {rva_kinds : Nat → Int32} {rva_firsts : Nat → Int32} {rva_seconds : Nat → Int32} {rsf_facts : Int32} {rsa_heard : Nat → Int32} {rsa_huts : Nat → Int32} {rsa_minutes : Nat → Int32} {rcf_voices : Int32} {rcf_step : Int32} {rca_parts : Nat → Int32} {rca_heights : Nat → Int32} {rf_fault : Int32} {rf_faultPlace : Int32} {ra_numbers : Nat → Int32} {ra_tape : Nat → Int32} {rf_length : Int32} {rf_behind : Int32} {rf_kind : Int32} {rf_first : Int32} {rf_value : Int32} {rf_hutsToldOf : Int32} {rf_singersToldOf : Int32} {nf_minute : Int32} {nf_avalanches : Int32} {nf_begun : Int32} {nf_climbed : Int32} {nf_seed : Int32} {na_huts : Nat → Int32} {na_known : Nat → Int32} {na_levels : Nat → Int32} {na_snow : Nat → Int32} {na_open : Nat → Int32} {pa_heard : Nat → Int32} {pa_walked : Nat → Int32} {pa_total : Nat → Int32} {pa_longest : Nat → Int32} {pa_next : Nat → Int32} {pa_cover : Nat → Int32} {pa_now : Nat → Int32} {pa_then : Nat → Int32} {ko_stands : Option Nat} {ka_gaps : Nat → Int32} {ka_behind : Nat → Int32} {ba_less : Nat → Int32} {ba_full : Nat → Int32} {post : Int32 → (Nat → Int32) → (Nat → Int32) → Prop} {x1 : Int32} {x2 : Int32} {x3 : Int32} {ls : Array Slot} {H : Heap} {locs : List Loc}
    (zc : zC p s m args meth c cX10_villages 5 RX10 (some .int))
    (hK : zK E s)
    (hM : wxW E qx ta_tape tf_length tf_fault tf_place ta_counts tl0f_huts tl0f_singers tl0f_villages tl0f_dams tl0f_echoes tl0f_deep tl0f_slide tl0a_heights tl0a_ladders tl0a_minutes tl0a_echoFrom tl0a_echoTo tl0a_homes tl0a_talls tl0a_known tl1f_huts tl1f_singers tl1f_villages tl1f_dams tl1f_echoes tl1f_deep tl1f_slide tl1a_heights tl1a_ladders tl1a_minutes tl1a_echoFrom tl1a_echoTo tl1a_homes tl1a_talls tl1a_known tv0f_deeds tv0a_kinds tv0a_firsts tv0a_seconds tv1f_deeds tv1a_kinds tv1a_firsts tv1a_seconds ts0f_facts ts0a_heard ts0a_huts ts0a_minutes ts1f_facts ts1a_heard ts1a_huts ts1a_minutes tc0f_voices tc0f_step tc0a_parts tc0a_heights tc1f_voices tc1f_step tc1a_parts tc1a_heights m_images rlf_huts rlf_singers rlf_villages rlf_dams rlf_echoes rlf_deep rlf_slide rla_heights rla_ladders rla_minutes rla_echoFrom rla_echoTo rla_homes rla_talls rla_known rvf_deeds rva_kinds rva_firsts rva_seconds rsf_facts rsa_heard rsa_huts rsa_minutes rcf_voices rcf_step rca_parts rca_heights rf_fault rf_faultPlace ra_numbers ra_tape rf_length rf_behind rf_kind rf_first rf_value rf_hutsToldOf rf_singersToldOf nf_minute nf_avalanches nf_begun nf_climbed nf_seed na_huts na_known na_levels na_snow na_open pa_heard pa_walked pa_total pa_longest pa_next pa_cover pa_now pa_then ko_stands ka_gaps ka_behind ba_less ba_full H)
    (hS : va_S (wxA qx) s.heap H locs)
    (hl : lv_has ls 5 [(0, .ref qx), (1, .int x1), (2, .int x2), (3, .int x3)])
    (hw : q_wx_X10_villages_0 ta_counts tl0f_huts tl0f_villages tl0f_dams tl0f_echoes tl0a_heights tl0a_minutes tl0a_echoFrom tl0a_echoTo tl1f_huts tl1f_villages tl1f_dams tl1f_echoes tl1a_heights tl1a_minutes tl1a_echoFrom tl1a_echoTo pa_heard pa_cover x1 x2 x3 post) :
    W p l e rm_wx_X10_villages s m args below meth c H locs 0 0 (MQ below (zQi (S := (Nat → Int32) × (Nat → Int32)) (fun r u => post r u.1 u.2) (fun u H => wxW E qx ta_tape tf_length tf_fault tf_place ta_counts tl0f_huts tl0f_singers tl0f_villages tl0f_dams tl0f_echoes tl0f_deep tl0f_slide tl0a_heights tl0a_ladders tl0a_minutes tl0a_echoFrom tl0a_echoTo tl0a_homes tl0a_talls tl0a_known tl1f_huts tl1f_singers tl1f_villages tl1f_dams tl1f_echoes tl1f_deep tl1f_slide tl1a_heights tl1a_ladders tl1a_minutes tl1a_echoFrom tl1a_echoTo tl1a_homes tl1a_talls tl1a_known tv0f_deeds tv0a_kinds tv0a_firsts tv0a_seconds tv1f_deeds tv1a_kinds tv1a_firsts tv1a_seconds ts0f_facts ts0a_heard ts0a_huts ts0a_minutes ts1f_facts ts1a_heard ts1a_huts ts1a_minutes tc0f_voices tc0f_step tc0a_parts tc0a_heights tc1f_voices tc1f_step tc1a_parts tc1a_heights m_images rlf_huts rlf_singers rlf_villages rlf_dams rlf_echoes rlf_deep rlf_slide rla_heights rla_ladders rla_minutes rla_echoFrom rla_echoTo rla_homes rla_talls rla_known rvf_deeds rva_kinds rva_firsts rva_seconds rsf_facts rsa_heard rsa_huts rsa_minutes rcf_voices rcf_step rca_parts rca_heights rf_fault rf_faultPlace ra_numbers ra_tape rf_length rf_behind rf_kind rf_first rf_value rf_hutsToldOf rf_singersToldOf nf_minute nf_avalanches nf_begun nf_climbed nf_seed na_huts na_known na_levels na_snow na_open u.1 pa_walked pa_total pa_longest pa_next u.2 pa_now pa_then ko_stands ka_gaps ka_behind ba_less ba_full H) (wxA qx)) args s 0 0 (wxA qx)) (F0 m 0 ls []) := by
  have hx := zc.1
  have hb := zc.2.1
  refine lv_aload_n hx hb dX10_villages_0 rfl (lv_at hl 0 rfl) ?_
  refine lv_iload_n hx hb dX10_villages_1 rfl (lv_at hl 1 rfl) ?_
  refine zV_r [.int x1] [] zc ky_X10_landAt kz_X10_landAt km_10_89 (c_wx_X10_landAt l hw) (wxPreV0 hK hM) rfl rfl hl.1 (Nat.le_of_ble_eq_true rfl) ⟨rfl, rfl⟩ ⟨Nat.le_of_ble_eq_true rfl, Nat.le_of_ble_eq_true rfl⟩ ⟨(Nat.zero_le _), (Nat.zero_le _)⟩ dX10_villages_2 (fun r_1 hw => ?_)
  by_cases hc0 : r_1 = 0
  · have hw := hw.1 hc0
    refine W.eq (g2 := F0 m 5 ls (.null :: [])) (by simp [hc0]) ?_
    refine lv_astoreN (lv' := [(4, .null), (0, .ref qx), (1, .int x1), (2, .int x2), (3, .int x3)]) hx hb dX10_villages_5 hl (by decide) rfl (fun ls hl => ?_)
    refine lv_aloadN hx hb dX10_villages_7 (lv_at hl 0 rfl) ?_
    refine lv_ifnullN (tgt := 31) hx hb dX10_villages_9 (by decide) ?_
    refine lv_bipush (v := (-2 : Int32)) hx hb dX10_villages_31 (by decide) ?_
    exact zret_iw ⟨pa_heard, pa_cover⟩ zc hS hw hM dX10_villages_33
  by_cases hc1 : r_1 = 1
  · have hw := hw.2.1 hc1
    refine W.eq (g2 := F0 m 5 ls (.ref (qx + 14) :: [])) (by simp [hc0, hc1]) ?_
    refine lv_astore (lv' := [(4, .ref (qx + 14)), (0, .ref qx), (1, .int x1), (2, .int x2), (3, .int x3)]) hx hb dX10_villages_5 hl (by decide) rfl (fun ls hl => ?_)
    refine lv_aload hx hb dX10_villages_7 (lv_at hl 0 rfl) ?_
    refine lv_ifnull hx hb dX10_villages_9 ?_
    refine lv_iload_n hx hb dX10_villages_12 rfl (lv_at hl 3 rfl) ?_
    refine lv_if_lt (tgt := 31) hx hb dX10_villages_13 (by decide) (fun hc => ?_) (fun hc => ?_)
    · have hw := hw.1 hc
      refine lv_bipush (v := (-2 : Int32)) hx hb dX10_villages_31 (by decide) ?_
      exact zret_iw ⟨pa_heard, pa_cover⟩ zc hS hw hM dX10_villages_33
    · have hw := hw.2 hc
      refine lv_iload_n hx hb dX10_villages_16 rfl (lv_at hl 3 rfl) ?_
      refine lv_bipush (v := (99 : Int32)) hx hb dX10_villages_17 (by decide) ?_
      refine lv_icmp_gt (tgt := 31) hx hb dX10_villages_19 (by decide) (fun hc => ?_) (fun hc => ?_)
      · have hw := hw.1 hc
        refine lv_bipush (v := (-2 : Int32)) hx hb dX10_villages_31 (by decide) ?_
        exact zret_iw ⟨pa_heard, pa_cover⟩ zc hS hw hM dX10_villages_33
      · have hw := hw.2 hc
        refine lv_iload_n hx hb dX10_villages_22 rfl (lv_at hl 4 rfl) ?_
        refine lv_if_lt (tgt := 31) hx hb dX10_villages_23 (by decide) (fun hc => ?_) (fun hc => ?_)
        · have hw := hw.1 hc
          refine lv_bipush (v := (-2 : Int32)) hx hb dX10_villages_31 (by decide) ?_
          exact zret_iw ⟨pa_heard, pa_cover⟩ zc hS hw hM dX10_villages_33
        · have hw := hw.2 hc
          refine lv_iload_n hx hb dX10_villages_26 rfl (lv_at hl 4 rfl) ?_
          refine lv_iconst (v := (1 : Int32)) hx hb dX10_villages_27 (by decide) ?_
          refine lv_icmp_le (tgt := 34) hx hb dX10_villages_28 (by decide) (fun hc => ?_) (fun hc => ?_)
          · have hw := hw.1 hc
            refine lv_aload_n hx hb dX10_villages_34 rfl (lv_at hl 1 rfl) ?_
            refine wxg_10_37_0 zc hK hM dX10_villages_35 ?_
            refine lv_aload hx hb dX10_villages_38 (lv_at hl 0 rfl) ?_
            refine zVx_v [.ref (qx + 14)] [] zc ky_X7_hear kz_X7_hear km_10_139 (c_wp_X7_hear_9 l hw) (wpPreV0 hK (pj_wx_wp_78_14_33 hM)) hS (sb_wx_wp_78_14_33) rfl rfl hl.1 (Nat.le_of_ble_eq_true rfl) ⟨rfl, rfl⟩ ⟨Nat.le_of_ble_eq_true rfl, Nat.le_of_ble_eq_true rfl⟩ ⟨(Nat.zero_le _), (Nat.zero_le _)⟩ dX10_villages_40 (fun pa_heard_1 H1 locs1 hw hM1 hk hS => ?_)
            have hM := jn_wx_wp_78_14_33 hM hM1 hk
            refine lv_iload_n hx hb dX10_villages_43 rfl (lv_at hl 4 rfl) ?_
            refine lv_if_ne (tgt := 60) hx hb dX10_villages_44 (by decide) (fun hc => ?_) (fun hc => ?_)
            · have hw := hw.1 hc
              refine lv_aload_n hx hb dX10_villages_60 rfl (lv_at hl 1 rfl) ?_
              refine wxg_10_37_0 zc hK hM dX10_villages_61 ?_
              refine lv_aload hx hb dX10_villages_64 (lv_at hl 0 rfl) ?_
              refine lv_iload_n hx hb dX10_villages_66 rfl (lv_at hl 3 rfl) ?_
              refine zVx_i [.ref (qx + 14), .int x2] [] zc ky_X7_crewBy kz_X7_crewBy km_10_152 (c_wp_X7_crewBy_9 l hw) (wpPreV0 hK (pj_wx_wp_78_14_33 hM)) hS (sb_wx_wp_78_14_33) rfl rfl hl.1 (Nat.le_of_ble_eq_true rfl) ⟨rfl, rfl⟩ ⟨Nat.le_of_ble_eq_true rfl, Nat.le_of_ble_eq_true rfl⟩ ⟨(Nat.zero_le _), (Nat.zero_le _)⟩ dX10_villages_67 (fun r_2 pa_cover_1 H1 locs1 hw hM1 hk hS => ?_)
              have hM := jn_wx_wp_78_14_33 hM hM1 hk
              exact zret_iw ⟨pa_heard_1, pa_cover_1⟩ zc hS hw hM dX10_villages_70
            · have hw := hw.2 hc
              refine lv_aload_n hx hb dX10_villages_47 rfl (lv_at hl 1 rfl) ?_
              refine wxg_10_37_0 zc hK hM dX10_villages_48 ?_
              refine lv_aload hx hb dX10_villages_51 (lv_at hl 0 rfl) ?_
              refine lv_iload_n hx hb dX10_villages_53 rfl (lv_at hl 3 rfl) ?_
              refine zV_i [.ref (qx + 14), .int x2] [] zc ky_X7_allBy kz_X7_allBy km_10_149 (c_wp_X7_allBy_9 l hw) (wpPreV0 hK (pj_wx_wp_78_14_33 hM)) rfl rfl hl.1 (Nat.le_of_ble_eq_true rfl) ⟨rfl, rfl⟩ ⟨Nat.le_of_ble_eq_true rfl, Nat.le_of_ble_eq_true rfl⟩ ⟨(Nat.zero_le _), (Nat.zero_le _)⟩ dX10_villages_54 (fun r_3 hw => ?_)
              refine lv_goto (tgt := 70) hx hb dX10_villages_57 (by decide) ?_
              exact zret_iw ⟨pa_heard_1, pa_cover⟩ zc hS hw hM dX10_villages_70
          · have hw := hw.2 hc
            refine lv_bipush (v := (-2 : Int32)) hx hb dX10_villages_31 (by decide) ?_
            exact zret_iw ⟨pa_heard, pa_cover⟩ zc hS hw hM dX10_villages_33
  have hw := hw.2.2 hc0 hc1
  refine W.eq (g2 := F0 m 5 ls (.ref (qx + 5) :: [])) (by simp [hc0, hc1]) ?_
  refine lv_astore (lv' := [(4, .ref (qx + 5)), (0, .ref qx), (1, .int x1), (2, .int x2), (3, .int x3)]) hx hb dX10_villages_5 hl (by decide) rfl (fun ls hl => ?_)
  refine lv_aload hx hb dX10_villages_7 (lv_at hl 0 rfl) ?_
  refine lv_ifnull hx hb dX10_villages_9 ?_
  refine lv_iload_n hx hb dX10_villages_12 rfl (lv_at hl 3 rfl) ?_
  refine lv_if_lt (tgt := 31) hx hb dX10_villages_13 (by decide) (fun hc => ?_) (fun hc => ?_)
  · have hw := hw.1 hc
    refine lv_bipush (v := (-2 : Int32)) hx hb dX10_villages_31 (by decide) ?_
    exact zret_iw ⟨pa_heard, pa_cover⟩ zc hS hw hM dX10_villages_33
  · have hw := hw.2 hc
    refine lv_iload_n hx hb dX10_villages_16 rfl (lv_at hl 3 rfl) ?_
    refine lv_bipush (v := (99 : Int32)) hx hb dX10_villages_17 (by decide) ?_
    refine lv_icmp_gt (tgt := 31) hx hb dX10_villages_19 (by decide) (fun hc => ?_) (fun hc => ?_)
    · have hw := hw.1 hc
      refine lv_bipush (v := (-2 : Int32)) hx hb dX10_villages_31 (by decide) ?_
      exact zret_iw ⟨pa_heard, pa_cover⟩ zc hS hw hM dX10_villages_33
    · have hw := hw.2 hc
      refine lv_iload_n hx hb dX10_villages_22 rfl (lv_at hl 4 rfl) ?_
      refine lv_if_lt (tgt := 31) hx hb dX10_villages_23 (by decide) (fun hc => ?_) (fun hc => ?_)
      · have hw := hw.1 hc
        refine lv_bipush (v := (-2 : Int32)) hx hb dX10_villages_31 (by decide) ?_
        exact zret_iw ⟨pa_heard, pa_cover⟩ zc hS hw hM dX10_villages_33
      · have hw := hw.2 hc
        refine lv_iload_n hx hb dX10_villages_26 rfl (lv_at hl 4 rfl) ?_
        refine lv_iconst (v := (1 : Int32)) hx hb dX10_villages_27 (by decide) ?_
        refine lv_icmp_le (tgt := 34) hx hb dX10_villages_28 (by decide) (fun hc => ?_) (fun hc => ?_)
        · have hw := hw.1 hc
          refine lv_aload_n hx hb dX10_villages_34 rfl (lv_at hl 1 rfl) ?_
          refine wxg_10_37_0 zc hK hM dX10_villages_35 ?_
          refine lv_aload hx hb dX10_villages_38 (lv_at hl 0 rfl) ?_
          refine zVx_v [.ref (qx + 5)] [] zc ky_X7_hear kz_X7_hear km_10_139 (c_wp_X7_hear_9 l hw) (wpPreV0 hK (pj_wx_wp_78_5_33 hM)) hS (sb_wx_wp_78_5_33) rfl rfl hl.1 (Nat.le_of_ble_eq_true rfl) ⟨rfl, rfl⟩ ⟨Nat.le_of_ble_eq_true rfl, Nat.le_of_ble_eq_true rfl⟩ ⟨(Nat.zero_le _), (Nat.zero_le _)⟩ dX10_villages_40 (fun pa_heard_2 H1 locs1 hw hM1 hk hS => ?_)
          have hM := jn_wx_wp_78_5_33 hM hM1 hk
          refine lv_iload_n hx hb dX10_villages_43 rfl (lv_at hl 4 rfl) ?_
          refine lv_if_ne (tgt := 60) hx hb dX10_villages_44 (by decide) (fun hc => ?_) (fun hc => ?_)
          · have hw := hw.1 hc
            refine lv_aload_n hx hb dX10_villages_60 rfl (lv_at hl 1 rfl) ?_
            refine wxg_10_37_0 zc hK hM dX10_villages_61 ?_
            refine lv_aload hx hb dX10_villages_64 (lv_at hl 0 rfl) ?_
            refine lv_iload_n hx hb dX10_villages_66 rfl (lv_at hl 3 rfl) ?_
            refine zVx_i [.ref (qx + 5), .int x2] [] zc ky_X7_crewBy kz_X7_crewBy km_10_152 (c_wp_X7_crewBy_9 l hw) (wpPreV0 hK (pj_wx_wp_78_5_33 hM)) hS (sb_wx_wp_78_5_33) rfl rfl hl.1 (Nat.le_of_ble_eq_true rfl) ⟨rfl, rfl⟩ ⟨Nat.le_of_ble_eq_true rfl, Nat.le_of_ble_eq_true rfl⟩ ⟨(Nat.zero_le _), (Nat.zero_le _)⟩ dX10_villages_67 (fun r_4 pa_cover_2 H1 locs1 hw hM1 hk hS => ?_)
            have hM := jn_wx_wp_78_5_33 hM hM1 hk
            exact zret_iw ⟨pa_heard_2, pa_cover_2⟩ zc hS hw hM dX10_villages_70
          · have hw := hw.2 hc
            refine lv_aload_n hx hb dX10_villages_47 rfl (lv_at hl 1 rfl) ?_
            refine wxg_10_37_0 zc hK hM dX10_villages_48 ?_
            refine lv_aload hx hb dX10_villages_51 (lv_at hl 0 rfl) ?_
            refine lv_iload_n hx hb dX10_villages_53 rfl (lv_at hl 3 rfl) ?_
            refine zV_i [.ref (qx + 5), .int x2] [] zc ky_X7_allBy kz_X7_allBy km_10_149 (c_wp_X7_allBy_9 l hw) (wpPreV0 hK (pj_wx_wp_78_5_33 hM)) rfl rfl hl.1 (Nat.le_of_ble_eq_true rfl) ⟨rfl, rfl⟩ ⟨Nat.le_of_ble_eq_true rfl, Nat.le_of_ble_eq_true rfl⟩ ⟨(Nat.zero_le _), (Nat.zero_le _)⟩ dX10_villages_54 (fun r_5 hw => ?_)
            refine lv_goto (tgt := 70) hx hb dX10_villages_57 (by decide) ?_
            exact zret_iw ⟨pa_heard_2, pa_cover⟩ zc hS hw hM dX10_villages_70
        · have hw := hw.2 hc
          refine lv_bipush (v := (-2 : Int32)) hx hb dX10_villages_31 (by decide) ?_
          exact zret_iw ⟨pa_heard, pa_cover⟩ zc hS hw hM dX10_villages_33
set_option maxRecDepth 20000 in
theorem c_wx_X10_villages (l : Launch) {E : zE} {qx : Nat} {ta_tape : Nat → Int32} {tf_length : Int32} {tf_fault : Int32} {tf_place : Int32} {ta_counts : Nat → Int32} {tl0f_huts : Int32} {tl0f_singers : Int32} {tl0f_villages : Int32} {tl0f_dams : Int32} {tl0f_echoes : Int32} {tl0f_deep : Int32} {tl0f_slide : Int32} {tl0a_heights : Nat → Int32} {tl0a_ladders : Nat → Int32} {tl0a_minutes : Nat → Int32} {tl0a_echoFrom : Nat → Int32} {tl0a_echoTo : Nat → Int32} {tl0a_homes : Nat → Int32} {tl0a_talls : Nat → Int32} {tl0a_known : Nat → Int32} {tl1f_huts : Int32} {tl1f_singers : Int32} {tl1f_villages : Int32} {tl1f_dams : Int32} {tl1f_echoes : Int32} {tl1f_deep : Int32} {tl1f_slide : Int32} {tl1a_heights : Nat → Int32} {tl1a_ladders : Nat → Int32} {tl1a_minutes : Nat → Int32} {tl1a_echoFrom : Nat → Int32} {tl1a_echoTo : Nat → Int32} {tl1a_homes : Nat → Int32} {tl1a_talls : Nat → Int32} {tl1a_known : Nat → Int32} {tv0f_deeds : Int32} {tv0a_kinds : Nat → Int32} {tv0a_firsts : Nat → Int32} {tv0a_seconds : Nat → Int32} {tv1f_deeds : Int32} {tv1a_kinds : Nat → Int32} {tv1a_firsts : Nat → Int32} {tv1a_seconds : Nat → Int32} {ts0f_facts : Int32} {ts0a_heard : Nat → Int32} {ts0a_huts : Nat → Int32} {ts0a_minutes : Nat → Int32} {ts1f_facts : Int32} {ts1a_heard : Nat → Int32} {ts1a_huts : Nat → Int32} {ts1a_minutes : Nat → Int32} {tc0f_voices : Int32} {tc0f_step : Int32} {tc0a_parts : Nat → Int32} {tc0a_heights : Nat → Int32} {tc1f_voices : Int32} {tc1f_step : Int32} {tc1a_parts : Nat → Int32} {tc1a_heights : Nat → Int32} {m_images : Nat → Option Nat} {rlf_huts : Int32} {rlf_singers : Int32} {rlf_villages : Int32} {rlf_dams : Int32} {rlf_echoes : Int32} {rlf_deep : Int32} {rlf_slide : Int32} {rla_heights : Nat → Int32} {rla_ladders : Nat → Int32} {rla_minutes : Nat → Int32} {rla_echoFrom : Nat → Int32} {rla_echoTo : Nat → Int32} {rla_homes : Nat → Int32} {rla_talls : Nat → Int32} {rla_known : Nat → Int32} {rvf_deeds : Int32} {rva_kinds : Nat → Int32} {rva_firsts : Nat → Int32} {rva_seconds : Nat → Int32} {rsf_facts : Int32} {rsa_heard : Nat → Int32} {rsa_huts : Nat → Int32} {rsa_minutes : Nat → Int32} {rcf_voices : Int32} {rcf_step : Int32} {rca_parts : Nat → Int32} {rca_heights : Nat → Int32} {rf_fault : Int32} {rf_faultPlace : Int32} {ra_numbers : Nat → Int32} {ra_tape : Nat → Int32} {rf_length : Int32} {rf_behind : Int32} {rf_kind : Int32} {rf_first : Int32} {rf_value : Int32} {rf_hutsToldOf : Int32} {rf_singersToldOf : Int32} {nf_minute : Int32} {nf_avalanches : Int32} {nf_begun : Int32} {nf_climbed : Int32} {nf_seed : Int32} {na_huts : Nat → Int32} {na_known : Nat → Int32} {na_levels : Nat → Int32} {na_snow : Nat → Int32} {na_open : Nat → Int32} {pa_heard : Nat → Int32} {pa_walked : Nat → Int32} {pa_total : Nat → Int32} {pa_longest : Nat → Int32} {pa_next : Nat → Int32} {pa_cover : Nat → Int32} {pa_now : Nat → Int32} {pa_then : Nat → Int32} {ko_stands : Option Nat} {ka_gaps : Nat → Int32} {ka_behind : Nat → Int32} {ba_less : Nat → Int32} {ba_full : Nat → Int32} {x1 : Int32} {x2 : Int32} {x3 : Int32} {post : Int32 → (Nat → Int32) → (Nat → Int32) → Prop} (hw : q_wx_X10_villages_0 ta_counts tl0f_huts tl0f_villages tl0f_dams tl0f_echoes tl0a_heights tl0a_minutes tl0a_echoFrom tl0a_echoTo tl1f_huts tl1f_villages tl1f_dams tl1f_echoes tl1a_heights tl1a_minutes tl1a_echoFrom tl1a_echoTo pa_heard pa_cover x1 x2 x3 post) : Met l yX10_villages (Cond.code yX10_villages cX10_villages 5 (some .int) :: zb) rm_wx_X10_villages (va_Pc [.ref qx, .int x1, .int x2, .int x3] (fun U => wxW E qx ta_tape tf_length tf_fault tf_place ta_counts tl0f_huts tl0f_singers tl0f_villages tl0f_dams tl0f_echoes tl0f_deep tl0f_slide tl0a_heights tl0a_ladders tl0a_minutes tl0a_echoFrom tl0a_echoTo tl0a_homes tl0a_talls tl0a_known tl1f_huts tl1f_singers tl1f_villages tl1f_dams tl1f_echoes tl1f_deep tl1f_slide tl1a_heights tl1a_ladders tl1a_minutes tl1a_echoFrom tl1a_echoTo tl1a_homes tl1a_talls tl1a_known tv0f_deeds tv0a_kinds tv0a_firsts tv0a_seconds tv1f_deeds tv1a_kinds tv1a_firsts tv1a_seconds ts0f_facts ts0a_heard ts0a_huts ts0a_minutes ts1f_facts ts1a_heard ts1a_huts ts1a_minutes tc0f_voices tc0f_step tc0a_parts tc0a_heights tc1f_voices tc1f_step tc1a_parts tc1a_heights m_images rlf_huts rlf_singers rlf_villages rlf_dams rlf_echoes rlf_deep rlf_slide rla_heights rla_ladders rla_minutes rla_echoFrom rla_echoTo rla_homes rla_talls rla_known rvf_deeds rva_kinds rva_firsts rva_seconds rsf_facts rsa_heard rsa_huts rsa_minutes rcf_voices rcf_step rca_parts rca_heights rf_fault rf_faultPlace ra_numbers ra_tape rf_length rf_behind rf_kind rf_first rf_value rf_hutsToldOf rf_singersToldOf nf_minute nf_avalanches nf_begun nf_climbed nf_seed na_huts na_known na_levels na_snow na_open pa_heard pa_walked pa_total pa_longest pa_next pa_cover pa_now pa_then ko_stands ka_gaps ka_behind ba_less ba_full U.heap ∧ zK E U)) (zQi (S := (Nat → Int32) × (Nat → Int32)) (fun r u => post r u.1 u.2) (fun u H => wxW E qx ta_tape tf_length tf_fault tf_place ta_counts tl0f_huts tl0f_singers tl0f_villages tl0f_dams tl0f_echoes tl0f_deep tl0f_slide tl0a_heights tl0a_ladders tl0a_minutes tl0a_echoFrom tl0a_echoTo tl0a_homes tl0a_talls tl0a_known tl1f_huts tl1f_singers tl1f_villages tl1f_dams tl1f_echoes tl1f_deep tl1f_slide tl1a_heights tl1a_ladders tl1a_minutes tl1a_echoFrom tl1a_echoTo tl1a_homes tl1a_talls tl1a_known tv0f_deeds tv0a_kinds tv0a_firsts tv0a_seconds tv1f_deeds tv1a_kinds tv1a_firsts tv1a_seconds ts0f_facts ts0a_heard ts0a_huts ts0a_minutes ts1f_facts ts1a_heard ts1a_huts ts1a_minutes tc0f_voices tc0f_step tc0a_parts tc0a_heights tc1f_voices tc1f_step tc1a_parts tc1a_heights m_images rlf_huts rlf_singers rlf_villages rlf_dams rlf_echoes rlf_deep rlf_slide rla_heights rla_ladders rla_minutes rla_echoFrom rla_echoTo rla_homes rla_talls rla_known rvf_deeds rva_kinds rva_firsts rva_seconds rsf_facts rsa_heard rsa_huts rsa_minutes rcf_voices rcf_step rca_parts rca_heights rf_fault rf_faultPlace ra_numbers ra_tape rf_length rf_behind rf_kind rf_first rf_value rf_hutsToldOf rf_singersToldOf nf_minute nf_avalanches nf_begun nf_climbed nf_seed na_huts na_known na_levels na_snow na_open u.1 pa_walked pa_total pa_longest pa_next u.2 pa_now pa_then ko_stands ka_gaps ka_behind ba_less ba_full H) (wxA qx)) 0 0 (wxA qx) := by
  refine Met.ofW (cc := cX10_villages) (maxL := 5) (ret := (some .int)) (by decide) rfl ?_
  intro p e s m args below meth c s₁ B hml hv
  obtain ⟨rfl, hM, hK⟩ := hv
  have zc := zc_of B hml
  have hl := lv_entry ([.ref qx, .int x1, .int x2, .int x3]) (n := 5) (Nat.le_of_ble_eq_true rfl)
  rw [lg_entry_eq]
  generalize (lg_sl ([.ref qx, .int x1, .int x2, .int x3]) ++ List.replicate (5 - (lg_sl ([.ref qx, .int x1, .int x2, .int x3])).length) Slot.unset).toArray = ls at hl ⊢
  have hl : lv_has ls 5 [(0, .ref qx), (1, .int x1), (2, .int x2), (3, .int x3)] := hl
  exact t_wx_X10_villages_0 zc hK hM va_S.rf (lv_sub hl [0, 1, 2, 3] rfl) hw
-- wx_X10_best
abbrev rm_wx_X10_best : Room := { frames := 3, cells := 0, slots := 0, locals := 88 }
def q_wx_X10_best_40 (ta_counts : Nat → Int32) (tl0f_huts : Int32) (tl0f_villages : Int32) (tl0f_dams : Int32) (tl0f_echoes : Int32) (tl0a_heights : Nat → Int32) (tl0a_minutes : Nat → Int32) (tl0a_echoFrom : Nat → Int32) (tl0a_echoTo : Nat → Int32) (tl1f_huts : Int32) (tl1f_villages : Int32) (tl1f_dams : Int32) (tl1f_echoes : Int32) (tl1a_heights : Nat → Int32) (tl1a_minutes : Nat → Int32) (tl1a_echoFrom : Nat → Int32) (tl1a_echoTo : Nat → Int32) (pa_heard : Nat → Int32) (x4 : Int32) (post : Int32 → (Nat → Int32) → Prop) : Prop :=
  post x4 pa_heard
def q_wx_X10_best_0 (ta_counts : Nat → Int32) (tl0f_huts : Int32) (tl0f_villages : Int32) (tl0f_dams : Int32) (tl0f_echoes : Int32) (tl0a_heights : Nat → Int32) (tl0a_minutes : Nat → Int32) (tl0a_echoFrom : Nat → Int32) (tl0a_echoTo : Nat → Int32) (tl1f_huts : Int32) (tl1f_villages : Int32) (tl1f_dams : Int32) (tl1f_echoes : Int32) (tl1a_heights : Nat → Int32) (tl1a_minutes : Nat → Int32) (tl1a_echoFrom : Nat → Int32) (tl1a_echoTo : Nat → Int32) (pa_heard : Nat → Int32) (x1 : Int32) (x2 : Int32) (post : Int32 → (Nat → Int32) → Prop) : Prop :=
  q_wx_X10_landAt_0 ta_counts x1 (fun r_1 => (r_1 = 0 → (post (-1 : Int32) pa_heard)) ∧ (r_1 = 1 → (q_wp_X7_hear_9_0 pa_heard tl1f_huts tl1f_dams tl1f_echoes tl1a_heights tl1a_minutes tl1a_echoFrom tl1a_echoTo (fun pa_heard_1 => q_wp_X7_bestHut_9_0 pa_heard_1 tl1f_huts tl1f_villages tl1f_dams (fun r_2 => (r_2 = (-1 : Int32) → (q_wx_X10_best_40 ta_counts tl0f_huts tl0f_villages tl0f_dams tl0f_echoes tl0a_heights tl0a_minutes tl0a_echoFrom tl0a_echoTo tl1f_huts tl1f_villages tl1f_dams tl1f_echoes tl1a_heights tl1a_minutes tl1a_echoFrom tl1a_echoTo pa_heard_1 r_2 post)) ∧ (¬ r_2 = (-1 : Int32) → ((¬ x2 = 0 → (q_wp_X7_lastVillage_9_0 pa_heard_1 tl1f_huts tl1f_villages tl1f_dams r_2 (fun r_3 => post r_3 pa_heard_1))) ∧ (x2 = 0 → (q_wx_X10_best_40 ta_counts tl0f_huts tl0f_villages tl0f_dams tl0f_echoes tl0a_heights tl0a_minutes tl0a_echoFrom tl0a_echoTo tl1f_huts tl1f_villages tl1f_dams tl1f_echoes tl1a_heights tl1a_minutes tl1a_echoFrom tl1a_echoTo pa_heard_1 r_2 post)))))))) ∧ (¬ r_1 = 0 → ¬ r_1 = 1 → (q_wp_X7_hear_9_0 pa_heard tl0f_huts tl0f_dams tl0f_echoes tl0a_heights tl0a_minutes tl0a_echoFrom tl0a_echoTo (fun pa_heard_2 => q_wp_X7_bestHut_9_0 pa_heard_2 tl0f_huts tl0f_villages tl0f_dams (fun r_4 => (r_4 = (-1 : Int32) → (q_wx_X10_best_40 ta_counts tl0f_huts tl0f_villages tl0f_dams tl0f_echoes tl0a_heights tl0a_minutes tl0a_echoFrom tl0a_echoTo tl1f_huts tl1f_villages tl1f_dams tl1f_echoes tl1a_heights tl1a_minutes tl1a_echoFrom tl1a_echoTo pa_heard_2 r_4 post)) ∧ (¬ r_4 = (-1 : Int32) → ((¬ x2 = 0 → (q_wp_X7_lastVillage_9_0 pa_heard_2 tl0f_huts tl0f_villages tl0f_dams r_4 (fun r_5 => post r_5 pa_heard_2))) ∧ (x2 = 0 → (q_wx_X10_best_40 ta_counts tl0f_huts tl0f_villages tl0f_dams tl0f_echoes tl0a_heights tl0a_minutes tl0a_echoFrom tl0a_echoTo tl1f_huts tl1f_villages tl1f_dams tl1f_echoes tl1a_heights tl1a_minutes tl1a_echoFrom tl1a_echoTo pa_heard_2 r_4 post)))))))))
set_option maxRecDepth 20000 in
theorem t_wx_X10_best_40 {p : Program} {l : Launch} {e : Env} {s : State} {m : MethodId} {args : Array Value} {below : List Frame} {meth : Method} {c : Code} {E : zE} {qx : Nat} {ta_tape : Nat → Int32} {tf_length : Int32} {tf_fault : Int32} {tf_place : Int32} {ta_counts : Nat → Int32} {tl0f_huts : Int32} {tl0f_singers : Int32} {tl0f_villages : Int32} {tl0f_dams : Int32} {tl0f_echoes : Int32} {tl0f_deep : Int32} {tl0f_slide : Int32} {tl0a_heights : Nat → Int32} {tl0a_ladders : Nat → Int32} {tl0a_minutes : Nat → Int32} {tl0a_echoFrom : Nat → Int32} {tl0a_echoTo : Nat → Int32} {tl0a_homes : Nat → Int32} {tl0a_talls : Nat → Int32} {tl0a_known : Nat → Int32} {tl1f_huts : Int32} {tl1f_singers : Int32} {tl1f_villages : Int32} {tl1f_dams : Int32} {tl1f_echoes : Int32} {tl1f_deep : Int32} {tl1f_slide : Int32} {tl1a_heights : Nat → Int32} {tl1a_ladders : Nat → Int32} {tl1a_minutes : Nat → Int32} {tl1a_echoFrom : Nat → Int32} {tl1a_echoTo : Nat → Int32} {tl1a_homes : Nat → Int32} {tl1a_talls : Nat → Int32} {tl1a_known : Nat → Int32} {tv0f_deeds : Int32} {tv0a_kinds : Nat → Int32} {tv0a_firsts : Nat → Int32} {tv0a_seconds : Nat → Int32} {tv1f_deeds : Int32} {tv1a_kinds : Nat → Int32} {tv1a_firsts : Nat → Int32} {tv1a_seconds : Nat → Int32} {ts0f_facts : Int32} {ts0a_heard : Nat → Int32} {ts0a_huts : Nat → Int32} {ts0a_minutes : Nat → Int32} {ts1f_facts : Int32} {ts1a_heard : Nat → Int32} {ts1a_huts : Nat → Int32} {ts1a_minutes : Nat → Int32} {tc0f_voices : Int32} {tc0f_step : Int32} {tc0a_parts : Nat → Int32} {tc0a_heights : Nat → Int32} {tc1f_voices : Int32} {tc1f_step : Int32} {tc1a_parts : Nat → Int32} {tc1a_heights : Nat → Int32} {m_images : Nat → Option Nat} {rlf_huts : Int32} {rlf_singers : Int32} {rlf_villages : Int32} {rlf_dams : Int32} {rlf_echoes : Int32} {rlf_deep : Int32} {rlf_slide : Int32} {rla_heights : Nat → Int32} {rla_ladders : Nat → Int32} {rla_minutes : Nat → Int32} {rla_echoFrom : Nat → Int32} {rla_echoTo : Nat → Int32} {rla_homes : Nat → Int32} {rla_talls : Nat → Int32} {rla_known : Nat → Int32} {rvf_deeds : Int32} {rva_kinds : Nat → Int32} {rva_firsts : Nat → Int32} {rva_seconds : Nat → Int32} {rsf_facts : Int32} {rsa_heard : Nat → Int32} {rsa_huts : Nat → Int32} {rsa_minutes : Nat → Int32} {rcf_voices : Int32} {rcf_step : Int32} {rca_parts : Nat → Int32} {rca_heights : Nat → Int32} {rf_fault : Int32} {rf_faultPlace : Int32} {ra_numbers : Nat → Int32} {ra_tape : Nat → Int32} {rf_length : Int32} {rf_behind : Int32} {rf_kind : Int32} {rf_first : Int32} {rf_value : Int32} {rf_hutsToldOf : Int32} {rf_singersToldOf : Int32} {nf_minute : Int32} {nf_avalanches : Int32} {nf_begun : Int32} {nf_climbed : Int32} {nf_seed : Int32} {na_huts : Nat → Int32} {na_known : Nat → Int32} {na_levels : Nat → Int32} {na_snow : Nat → Int32} {na_open : Nat → Int32} {pa_heard : Nat → Int32} {pa_walked : Nat → Int32} {pa_total : Nat → Int32} {pa_longest : Nat → Int32} {pa_next : Nat → Int32} {pa_cover : Nat → Int32} {pa_now : Nat → Int32} {pa_then : Nat → Int32} {ko_stands : Option Nat} {ka_gaps : Nat → Int32} {ka_behind : Nat → Int32} {ba_less : Nat → Int32} {ba_full : Nat → Int32} {post : Int32 → (Nat → Int32) → Prop} {x4 : Int32} {ls : Array Slot} {H : Heap} {locs : List Loc}
    (zc : zC p s m args meth c cX10_best 5 RX10 (some .int))
    (hK : zK E s)
    (hM : wxW E qx ta_tape tf_length tf_fault tf_place ta_counts tl0f_huts tl0f_singers tl0f_villages tl0f_dams tl0f_echoes tl0f_deep tl0f_slide tl0a_heights tl0a_ladders tl0a_minutes tl0a_echoFrom tl0a_echoTo tl0a_homes tl0a_talls tl0a_known tl1f_huts tl1f_singers tl1f_villages tl1f_dams tl1f_echoes tl1f_deep tl1f_slide tl1a_heights tl1a_ladders tl1a_minutes tl1a_echoFrom tl1a_echoTo tl1a_homes tl1a_talls tl1a_known tv0f_deeds tv0a_kinds tv0a_firsts tv0a_seconds tv1f_deeds tv1a_kinds tv1a_firsts tv1a_seconds ts0f_facts ts0a_heard ts0a_huts ts0a_minutes ts1f_facts ts1a_heard ts1a_huts ts1a_minutes tc0f_voices tc0f_step tc0a_parts tc0a_heights tc1f_voices tc1f_step tc1a_parts tc1a_heights m_images rlf_huts rlf_singers rlf_villages rlf_dams rlf_echoes rlf_deep rlf_slide rla_heights rla_ladders rla_minutes rla_echoFrom rla_echoTo rla_homes rla_talls rla_known rvf_deeds rva_kinds rva_firsts rva_seconds rsf_facts rsa_heard rsa_huts rsa_minutes rcf_voices rcf_step rca_parts rca_heights rf_fault rf_faultPlace ra_numbers ra_tape rf_length rf_behind rf_kind rf_first rf_value rf_hutsToldOf rf_singersToldOf nf_minute nf_avalanches nf_begun nf_climbed nf_seed na_huts na_known na_levels na_snow na_open pa_heard pa_walked pa_total pa_longest pa_next pa_cover pa_now pa_then ko_stands ka_gaps ka_behind ba_less ba_full H)
    (hS : va_S (wxA qx) s.heap H locs)
    (hl : lv_has ls 5 [(4, .int x4)])
    (hw : q_wx_X10_best_40 ta_counts tl0f_huts tl0f_villages tl0f_dams tl0f_echoes tl0a_heights tl0a_minutes tl0a_echoFrom tl0a_echoTo tl1f_huts tl1f_villages tl1f_dams tl1f_echoes tl1a_heights tl1a_minutes tl1a_echoFrom tl1a_echoTo pa_heard x4 post) :
    W p l e rm_wx_X10_best s m args below meth c H locs 0 0 (MQ below (zQi (S := (Nat → Int32)) (fun r u => post r u) (fun u H => wxW E qx ta_tape tf_length tf_fault tf_place ta_counts tl0f_huts tl0f_singers tl0f_villages tl0f_dams tl0f_echoes tl0f_deep tl0f_slide tl0a_heights tl0a_ladders tl0a_minutes tl0a_echoFrom tl0a_echoTo tl0a_homes tl0a_talls tl0a_known tl1f_huts tl1f_singers tl1f_villages tl1f_dams tl1f_echoes tl1f_deep tl1f_slide tl1a_heights tl1a_ladders tl1a_minutes tl1a_echoFrom tl1a_echoTo tl1a_homes tl1a_talls tl1a_known tv0f_deeds tv0a_kinds tv0a_firsts tv0a_seconds tv1f_deeds tv1a_kinds tv1a_firsts tv1a_seconds ts0f_facts ts0a_heard ts0a_huts ts0a_minutes ts1f_facts ts1a_heard ts1a_huts ts1a_minutes tc0f_voices tc0f_step tc0a_parts tc0a_heights tc1f_voices tc1f_step tc1a_parts tc1a_heights m_images rlf_huts rlf_singers rlf_villages rlf_dams rlf_echoes rlf_deep rlf_slide rla_heights rla_ladders rla_minutes rla_echoFrom rla_echoTo rla_homes rla_talls rla_known rvf_deeds rva_kinds rva_firsts rva_seconds rsf_facts rsa_heard rsa_huts rsa_minutes rcf_voices rcf_step rca_parts rca_heights rf_fault rf_faultPlace ra_numbers ra_tape rf_length rf_behind rf_kind rf_first rf_value rf_hutsToldOf rf_singersToldOf nf_minute nf_avalanches nf_begun nf_climbed nf_seed na_huts na_known na_levels na_snow na_open u pa_walked pa_total pa_longest pa_next pa_cover pa_now pa_then ko_stands ka_gaps ka_behind ba_less ba_full H) (wxA qx)) args s 0 0 (wxA qx)) (F0 m 40 ls []) := by
  have hx := zc.1
  have hb := zc.2.1
  refine lv_iload hx hb dX10_best_40 (lv_at hl 0 rfl) ?_
  refine lv_goto (tgt := 55) hx hb dX10_best_42 (by decide) ?_
  exact zret_iw pa_heard zc hS hw hM dX10_best_55
set_option maxRecDepth 20000 in
theorem t_wx_X10_best_0 {p : Program} {l : Launch} {e : Env} {s : State} {m : MethodId} {args : Array Value} {below : List Frame} {meth : Method} {c : Code} {E : zE} {qx : Nat} {ta_tape : Nat → Int32} {tf_length : Int32} {tf_fault : Int32} {tf_place : Int32} {ta_counts : Nat → Int32} {tl0f_huts : Int32} {tl0f_singers : Int32} {tl0f_villages : Int32} {tl0f_dams : Int32} {tl0f_echoes : Int32} {tl0f_deep : Int32} {tl0f_slide : Int32} {tl0a_heights : Nat → Int32} {tl0a_ladders : Nat → Int32} {tl0a_minutes : Nat → Int32} {tl0a_echoFrom : Nat → Int32} {tl0a_echoTo : Nat → Int32} {tl0a_homes : Nat → Int32} {tl0a_talls : Nat → Int32} {tl0a_known : Nat → Int32} {tl1f_huts : Int32} {tl1f_singers : Int32} {tl1f_villages : Int32} {tl1f_dams : Int32} {tl1f_echoes : Int32} {tl1f_deep : Int32} {tl1f_slide : Int32} {tl1a_heights : Nat → Int32} {tl1a_ladders : Nat → Int32} {tl1a_minutes : Nat → Int32} {tl1a_echoFrom : Nat → Int32} {tl1a_echoTo : Nat → Int32} {tl1a_homes : Nat → Int32} {tl1a_talls : Nat → Int32} {tl1a_known : Nat → Int32} {tv0f_deeds : Int32} {tv0a_kinds : Nat → Int32} {tv0a_firsts : Nat → Int32} {tv0a_seconds : Nat → Int32} {tv1f_deeds : Int32} {tv1a_kinds : Nat → Int32} {tv1a_firsts : Nat → Int32} {tv1a_seconds : Nat → Int32} {ts0f_facts : Int32} {ts0a_heard : Nat → Int32} {ts0a_huts : Nat → Int32} {ts0a_minutes : Nat → Int32} {ts1f_facts : Int32} {ts1a_heard : Nat → Int32} {ts1a_huts : Nat → Int32} {ts1a_minutes : Nat → Int32} {tc0f_voices : Int32} {tc0f_step : Int32} {tc0a_parts : Nat → Int32} {tc0a_heights : Nat → Int32} {tc1f_voices : Int32} {tc1f_step : Int32} {tc1a_parts : Nat → Int32} {tc1a_heights : Nat → Int32} {m_images : Nat → Option Nat} {rlf_huts : Int32} {rlf_singers : Int32} {rlf_villages : Int32} {rlf_dams : Int32} {rlf_echoes : Int32} {rlf_deep : Int32} {rlf_slide : Int32} {rla_heights : Nat → Int32} {rla_ladders : Nat → Int32} {rla_minutes : Nat → Int32} {rla_echoFrom : Nat → Int32} {rla_echoTo : Nat → Int32} {rla_homes : Nat → Int32} {rla_talls : Nat → Int32} {rla_known : Nat → Int32} {rvf_deeds : Int32} {rva_kinds : Nat → Int32} {rva_firsts : Nat → Int32} {rva_seconds : Nat → Int32} {rsf_facts : Int32} {rsa_heard : Nat → Int32} {rsa_huts : Nat → Int32} {rsa_minutes : Nat → Int32} {rcf_voices : Int32} {rcf_step : Int32} {rca_parts : Nat → Int32} {rca_heights : Nat → Int32} {rf_fault : Int32} {rf_faultPlace : Int32} {ra_numbers : Nat → Int32} {ra_tape : Nat → Int32} {rf_length : Int32} {rf_behind : Int32} {rf_kind : Int32} {rf_first : Int32} {rf_value : Int32} {rf_hutsToldOf : Int32} {rf_singersToldOf : Int32} {nf_minute : Int32} {nf_avalanches : Int32} {nf_begun : Int32} {nf_climbed : Int32} {nf_seed : Int32} {na_huts : Nat → Int32} {na_known : Nat → Int32} {na_levels : Nat → Int32} {na_snow : Nat → Int32} {na_open : Nat → Int32} {pa_heard : Nat → Int32} {pa_walked : Nat → Int32} {pa_total : Nat → Int32} {pa_longest : Nat → Int32} {pa_next : Nat → Int32} {pa_cover : Nat → Int32} {pa_now : Nat → Int32} {pa_then : Nat → Int32} {ko_stands : Option Nat} {ka_gaps : Nat → Int32} {ka_behind : Nat → Int32} {ba_less : Nat → Int32} {ba_full : Nat → Int32} {post : Int32 → (Nat → Int32) → Prop} {x1 : Int32} {x2 : Int32} {ls : Array Slot} {H : Heap} {locs : List Loc}
    (zc : zC p s m args meth c cX10_best 5 RX10 (some .int))
    (hK : zK E s)
    (hM : wxW E qx ta_tape tf_length tf_fault tf_place ta_counts tl0f_huts tl0f_singers tl0f_villages tl0f_dams tl0f_echoes tl0f_deep tl0f_slide tl0a_heights tl0a_ladders tl0a_minutes tl0a_echoFrom tl0a_echoTo tl0a_homes tl0a_talls tl0a_known tl1f_huts tl1f_singers tl1f_villages tl1f_dams tl1f_echoes tl1f_deep tl1f_slide tl1a_heights tl1a_ladders tl1a_minutes tl1a_echoFrom tl1a_echoTo tl1a_homes tl1a_talls tl1a_known tv0f_deeds tv0a_kinds tv0a_firsts tv0a_seconds tv1f_deeds tv1a_kinds tv1a_firsts tv1a_seconds ts0f_facts ts0a_heard ts0a_huts ts0a_minutes ts1f_facts ts1a_heard ts1a_huts ts1a_minutes tc0f_voices tc0f_step tc0a_parts tc0a_heights tc1f_voices tc1f_step tc1a_parts tc1a_heights m_images rlf_huts rlf_singers rlf_villages rlf_dams rlf_echoes rlf_deep rlf_slide rla_heights rla_ladders rla_minutes rla_echoFrom rla_echoTo rla_homes rla_talls rla_known rvf_deeds rva_kinds rva_firsts rva_seconds rsf_facts rsa_heard rsa_huts rsa_minutes rcf_voices rcf_step rca_parts rca_heights rf_fault rf_faultPlace ra_numbers ra_tape rf_length rf_behind rf_kind rf_first rf_value rf_hutsToldOf rf_singersToldOf nf_minute nf_avalanches nf_begun nf_climbed nf_seed na_huts na_known na_levels na_snow na_open pa_heard pa_walked pa_total pa_longest pa_next pa_cover pa_now pa_then ko_stands ka_gaps ka_behind ba_less ba_full H)
    (hS : va_S (wxA qx) s.heap H locs)
    (hl : lv_has ls 5 [(0, .ref qx), (1, .int x1), (2, .int x2)])
    (hw : q_wx_X10_best_0 ta_counts tl0f_huts tl0f_villages tl0f_dams tl0f_echoes tl0a_heights tl0a_minutes tl0a_echoFrom tl0a_echoTo tl1f_huts tl1f_villages tl1f_dams tl1f_echoes tl1a_heights tl1a_minutes tl1a_echoFrom tl1a_echoTo pa_heard x1 x2 post) :
    W p l e rm_wx_X10_best s m args below meth c H locs 0 0 (MQ below (zQi (S := (Nat → Int32)) (fun r u => post r u) (fun u H => wxW E qx ta_tape tf_length tf_fault tf_place ta_counts tl0f_huts tl0f_singers tl0f_villages tl0f_dams tl0f_echoes tl0f_deep tl0f_slide tl0a_heights tl0a_ladders tl0a_minutes tl0a_echoFrom tl0a_echoTo tl0a_homes tl0a_talls tl0a_known tl1f_huts tl1f_singers tl1f_villages tl1f_dams tl1f_echoes tl1f_deep tl1f_slide tl1a_heights tl1a_ladders tl1a_minutes tl1a_echoFrom tl1a_echoTo tl1a_homes tl1a_talls tl1a_known tv0f_deeds tv0a_kinds tv0a_firsts tv0a_seconds tv1f_deeds tv1a_kinds tv1a_firsts tv1a_seconds ts0f_facts ts0a_heard ts0a_huts ts0a_minutes ts1f_facts ts1a_heard ts1a_huts ts1a_minutes tc0f_voices tc0f_step tc0a_parts tc0a_heights tc1f_voices tc1f_step tc1a_parts tc1a_heights m_images rlf_huts rlf_singers rlf_villages rlf_dams rlf_echoes rlf_deep rlf_slide rla_heights rla_ladders rla_minutes rla_echoFrom rla_echoTo rla_homes rla_talls rla_known rvf_deeds rva_kinds rva_firsts rva_seconds rsf_facts rsa_heard rsa_huts rsa_minutes rcf_voices rcf_step rca_parts rca_heights rf_fault rf_faultPlace ra_numbers ra_tape rf_length rf_behind rf_kind rf_first rf_value rf_hutsToldOf rf_singersToldOf nf_minute nf_avalanches nf_begun nf_climbed nf_seed na_huts na_known na_levels na_snow na_open u pa_walked pa_total pa_longest pa_next pa_cover pa_now pa_then ko_stands ka_gaps ka_behind ba_less ba_full H) (wxA qx)) args s 0 0 (wxA qx)) (F0 m 0 ls []) := by
  have hx := zc.1
  have hb := zc.2.1
  refine lv_aload_n hx hb dX10_best_0 rfl (lv_at hl 0 rfl) ?_
  refine lv_iload_n hx hb dX10_best_1 rfl (lv_at hl 1 rfl) ?_
  refine zV_r [.int x1] [] zc ky_X10_landAt kz_X10_landAt km_10_89 (c_wx_X10_landAt l hw) (wxPreV0 hK hM) rfl rfl hl.1 (Nat.le_of_ble_eq_true rfl) ⟨rfl, rfl⟩ ⟨Nat.le_of_ble_eq_true rfl, Nat.le_of_ble_eq_true rfl⟩ ⟨(Nat.zero_le _), (Nat.zero_le _)⟩ dX10_best_2 (fun r_1 hw => ?_)
  by_cases hc0 : r_1 = 0
  · have hw := hw.1 hc0
    refine W.eq (g2 := F0 m 5 ls (.null :: [])) (by simp [hc0]) ?_
    refine lv_astore_nN (lv' := [(3, .null), (0, .ref qx), (1, .int x1), (2, .int x2)]) hx hb dX10_best_5 rfl hl (by decide) rfl (fun ls hl => ?_)
    refine lv_aload_nN hx hb dX10_best_6 rfl (lv_at hl 0 rfl) ?_
    refine lv_ifnonnullN hx hb dX10_best_7 ?_
    refine lv_iconst (v := (-1 : Int32)) hx hb dX10_best_10 (by decide) ?_
    exact zret_iw pa_heard zc hS hw hM dX10_best_11
  by_cases hc1 : r_1 = 1
  · have hw := hw.2.1 hc1
    refine W.eq (g2 := F0 m 5 ls (.ref (qx + 14) :: [])) (by simp [hc0, hc1]) ?_
    refine lv_astore_n (lv' := [(3, .ref (qx + 14)), (0, .ref qx), (1, .int x1), (2, .int x2)]) hx hb dX10_best_5 rfl hl (by decide) rfl (fun ls hl => ?_)
    refine lv_aload_n hx hb dX10_best_6 rfl (lv_at hl 0 rfl) ?_
    refine lv_ifnonnull (tgt := 12) hx hb dX10_best_7 (by decide) ?_
    refine lv_aload_n hx hb dX10_best_12 rfl (lv_at hl 1 rfl) ?_
    refine wxg_10_37_0 zc hK hM dX10_best_13 ?_
    refine lv_aload_n hx hb dX10_best_16 rfl (lv_at hl 0 rfl) ?_
    refine zVx_v [.ref (qx + 14)] [] zc ky_X7_hear kz_X7_hear km_10_139 (c_wp_X7_hear_9 l hw) (wpPreV0 hK (pj_wx_wp_78_14_33 hM)) hS (sb_wx_wp_78_14_33) rfl rfl hl.1 (Nat.le_of_ble_eq_true rfl) ⟨rfl, rfl⟩ ⟨Nat.le_of_ble_eq_true rfl, Nat.le_of_ble_eq_true rfl⟩ ⟨(Nat.zero_le _), (Nat.zero_le _)⟩ dX10_best_17 (fun pa_heard_1 H1 locs1 hw hM1 hk hS => ?_)
    have hM := jn_wx_wp_78_14_33 hM hM1 hk
    refine lv_aload_n hx hb dX10_best_20 rfl (lv_at hl 1 rfl) ?_
    refine wxg_10_37_0 zc hK hM dX10_best_21 ?_
    refine lv_aload_n hx hb dX10_best_24 rfl (lv_at hl 0 rfl) ?_
    refine zV_i [.ref (qx + 14)] [] zc ky_X7_bestHut kz_X7_bestHut km_10_155 (c_wp_X7_bestHut_9 l hw) (wpPreV0 hK (pj_wx_wp_78_14_33 hM)) rfl rfl hl.1 (Nat.le_of_ble_eq_true rfl) ⟨rfl, rfl⟩ ⟨Nat.le_of_ble_eq_true rfl, Nat.le_of_ble_eq_true rfl⟩ ⟨(Nat.zero_le _), (Nat.zero_le _)⟩ dX10_best_25 (fun r_2 hw => ?_)
    refine lv_istore (lv' := [(4, .int r_2), (3, .ref (qx + 14)), (0, .ref qx), (1, .int x1), (2, .int x2)]) hx hb dX10_best_28 hl (by decide) rfl (fun ls hl => ?_)
    refine lv_iload hx hb dX10_best_30 (lv_at hl 0 rfl) ?_
    refine lv_iconst (v := (-1 : Int32)) hx hb dX10_best_32 (by decide) ?_
    refine lv_icmp_eq (tgt := 40) hx hb dX10_best_33 (by decide) (fun hc => ?_) (fun hc => ?_)
    · have hw := hw.1 hc
      exact t_wx_X10_best_40 zc hK hM hS  (lv_sub hl [0] rfl) hw
    · have hw := hw.2 hc
      refine lv_iload_n hx hb dX10_best_36 rfl (lv_at hl 4 rfl) ?_
      refine lv_if_ne (tgt := 45) hx hb dX10_best_37 (by decide) (fun hc => ?_) (fun hc => ?_)
      · have hw := hw.1 hc
        refine lv_aload_n hx hb dX10_best_45 rfl (lv_at hl 2 rfl) ?_
        refine wxg_10_37_0 zc hK hM dX10_best_46 ?_
        refine lv_aload_n hx hb dX10_best_49 rfl (lv_at hl 1 rfl) ?_
        refine lv_iload hx hb dX10_best_50 (lv_at hl 0 rfl) ?_
        refine zV_i [.ref (qx + 14), .int r_2] [] zc ky_X7_lastVillage kz_X7_lastVillage km_10_159 (c_wp_X7_lastVillage_9 l hw) (wpPreV0 hK (pj_wx_wp_78_14_33 hM)) rfl rfl hl.1 (Nat.le_of_ble_eq_true rfl) ⟨rfl, rfl⟩ ⟨Nat.le_of_ble_eq_true rfl, Nat.le_of_ble_eq_true rfl⟩ ⟨(Nat.zero_le _), (Nat.zero_le _)⟩ dX10_best_52 (fun r_3 hw => ?_)
        exact zret_iw pa_heard_1 zc hS hw hM dX10_best_55
      · have hw := hw.2 hc
        exact t_wx_X10_best_40 zc hK hM hS  (lv_sub hl [0] rfl) hw
  have hw := hw.2.2 hc0 hc1
  refine W.eq (g2 := F0 m 5 ls (.ref (qx + 5) :: [])) (by simp [hc0, hc1]) ?_
  refine lv_astore_n (lv' := [(3, .ref (qx + 5)), (0, .ref qx), (1, .int x1), (2, .int x2)]) hx hb dX10_best_5 rfl hl (by decide) rfl (fun ls hl => ?_)
  refine lv_aload_n hx hb dX10_best_6 rfl (lv_at hl 0 rfl) ?_
  refine lv_ifnonnull (tgt := 12) hx hb dX10_best_7 (by decide) ?_
  refine lv_aload_n hx hb dX10_best_12 rfl (lv_at hl 1 rfl) ?_
  refine wxg_10_37_0 zc hK hM dX10_best_13 ?_
  refine lv_aload_n hx hb dX10_best_16 rfl (lv_at hl 0 rfl) ?_
  refine zVx_v [.ref (qx + 5)] [] zc ky_X7_hear kz_X7_hear km_10_139 (c_wp_X7_hear_9 l hw) (wpPreV0 hK (pj_wx_wp_78_5_33 hM)) hS (sb_wx_wp_78_5_33) rfl rfl hl.1 (Nat.le_of_ble_eq_true rfl) ⟨rfl, rfl⟩ ⟨Nat.le_of_ble_eq_true rfl, Nat.le_of_ble_eq_true rfl⟩ ⟨(Nat.zero_le _), (Nat.zero_le _)⟩ dX10_best_17 (fun pa_heard_2 H1 locs1 hw hM1 hk hS => ?_)
  have hM := jn_wx_wp_78_5_33 hM hM1 hk
  refine lv_aload_n hx hb dX10_best_20 rfl (lv_at hl 1 rfl) ?_
  refine wxg_10_37_0 zc hK hM dX10_best_21 ?_
  refine lv_aload_n hx hb dX10_best_24 rfl (lv_at hl 0 rfl) ?_
  refine zV_i [.ref (qx + 5)] [] zc ky_X7_bestHut kz_X7_bestHut km_10_155 (c_wp_X7_bestHut_9 l hw) (wpPreV0 hK (pj_wx_wp_78_5_33 hM)) rfl rfl hl.1 (Nat.le_of_ble_eq_true rfl) ⟨rfl, rfl⟩ ⟨Nat.le_of_ble_eq_true rfl, Nat.le_of_ble_eq_true rfl⟩ ⟨(Nat.zero_le _), (Nat.zero_le _)⟩ dX10_best_25 (fun r_4 hw => ?_)
  refine lv_istore (lv' := [(4, .int r_4), (3, .ref (qx + 5)), (0, .ref qx), (1, .int x1), (2, .int x2)]) hx hb dX10_best_28 hl (by decide) rfl (fun ls hl => ?_)
  refine lv_iload hx hb dX10_best_30 (lv_at hl 0 rfl) ?_
  refine lv_iconst (v := (-1 : Int32)) hx hb dX10_best_32 (by decide) ?_
  refine lv_icmp_eq (tgt := 40) hx hb dX10_best_33 (by decide) (fun hc => ?_) (fun hc => ?_)
  · have hw := hw.1 hc
    exact t_wx_X10_best_40 zc hK hM hS  (lv_sub hl [0] rfl) hw
  · have hw := hw.2 hc
    refine lv_iload_n hx hb dX10_best_36 rfl (lv_at hl 4 rfl) ?_
    refine lv_if_ne (tgt := 45) hx hb dX10_best_37 (by decide) (fun hc => ?_) (fun hc => ?_)
    · have hw := hw.1 hc
      refine lv_aload_n hx hb dX10_best_45 rfl (lv_at hl 2 rfl) ?_
      refine wxg_10_37_0 zc hK hM dX10_best_46 ?_
      refine lv_aload_n hx hb dX10_best_49 rfl (lv_at hl 1 rfl) ?_
      refine lv_iload hx hb dX10_best_50 (lv_at hl 0 rfl) ?_
      refine zV_i [.ref (qx + 5), .int r_4] [] zc ky_X7_lastVillage kz_X7_lastVillage km_10_159 (c_wp_X7_lastVillage_9 l hw) (wpPreV0 hK (pj_wx_wp_78_5_33 hM)) rfl rfl hl.1 (Nat.le_of_ble_eq_true rfl) ⟨rfl, rfl⟩ ⟨Nat.le_of_ble_eq_true rfl, Nat.le_of_ble_eq_true rfl⟩ ⟨(Nat.zero_le _), (Nat.zero_le _)⟩ dX10_best_52 (fun r_5 hw => ?_)
      exact zret_iw pa_heard_2 zc hS hw hM dX10_best_55
    · have hw := hw.2 hc
      exact t_wx_X10_best_40 zc hK hM hS  (lv_sub hl [0] rfl) hw
set_option maxRecDepth 20000 in
theorem c_wx_X10_best (l : Launch) {E : zE} {qx : Nat} {ta_tape : Nat → Int32} {tf_length : Int32} {tf_fault : Int32} {tf_place : Int32} {ta_counts : Nat → Int32} {tl0f_huts : Int32} {tl0f_singers : Int32} {tl0f_villages : Int32} {tl0f_dams : Int32} {tl0f_echoes : Int32} {tl0f_deep : Int32} {tl0f_slide : Int32} {tl0a_heights : Nat → Int32} {tl0a_ladders : Nat → Int32} {tl0a_minutes : Nat → Int32} {tl0a_echoFrom : Nat → Int32} {tl0a_echoTo : Nat → Int32} {tl0a_homes : Nat → Int32} {tl0a_talls : Nat → Int32} {tl0a_known : Nat → Int32} {tl1f_huts : Int32} {tl1f_singers : Int32} {tl1f_villages : Int32} {tl1f_dams : Int32} {tl1f_echoes : Int32} {tl1f_deep : Int32} {tl1f_slide : Int32} {tl1a_heights : Nat → Int32} {tl1a_ladders : Nat → Int32} {tl1a_minutes : Nat → Int32} {tl1a_echoFrom : Nat → Int32} {tl1a_echoTo : Nat → Int32} {tl1a_homes : Nat → Int32} {tl1a_talls : Nat → Int32} {tl1a_known : Nat → Int32} {tv0f_deeds : Int32} {tv0a_kinds : Nat → Int32} {tv0a_firsts : Nat → Int32} {tv0a_seconds : Nat → Int32} {tv1f_deeds : Int32} {tv1a_kinds : Nat → Int32} {tv1a_firsts : Nat → Int32} {tv1a_seconds : Nat → Int32} {ts0f_facts : Int32} {ts0a_heard : Nat → Int32} {ts0a_huts : Nat → Int32} {ts0a_minutes : Nat → Int32} {ts1f_facts : Int32} {ts1a_heard : Nat → Int32} {ts1a_huts : Nat → Int32} {ts1a_minutes : Nat → Int32} {tc0f_voices : Int32} {tc0f_step : Int32} {tc0a_parts : Nat → Int32} {tc0a_heights : Nat → Int32} {tc1f_voices : Int32} {tc1f_step : Int32} {tc1a_parts : Nat → Int32} {tc1a_heights : Nat → Int32} {m_images : Nat → Option Nat} {rlf_huts : Int32} {rlf_singers : Int32} {rlf_villages : Int32} {rlf_dams : Int32} {rlf_echoes : Int32} {rlf_deep : Int32} {rlf_slide : Int32} {rla_heights : Nat → Int32} {rla_ladders : Nat → Int32} {rla_minutes : Nat → Int32} {rla_echoFrom : Nat → Int32} {rla_echoTo : Nat → Int32} {rla_homes : Nat → Int32} {rla_talls : Nat → Int32} {rla_known : Nat → Int32} {rvf_deeds : Int32} {rva_kinds : Nat → Int32} {rva_firsts : Nat → Int32} {rva_seconds : Nat → Int32} {rsf_facts : Int32} {rsa_heard : Nat → Int32} {rsa_huts : Nat → Int32} {rsa_minutes : Nat → Int32} {rcf_voices : Int32} {rcf_step : Int32} {rca_parts : Nat → Int32} {rca_heights : Nat → Int32} {rf_fault : Int32} {rf_faultPlace : Int32} {ra_numbers : Nat → Int32} {ra_tape : Nat → Int32} {rf_length : Int32} {rf_behind : Int32} {rf_kind : Int32} {rf_first : Int32} {rf_value : Int32} {rf_hutsToldOf : Int32} {rf_singersToldOf : Int32} {nf_minute : Int32} {nf_avalanches : Int32} {nf_begun : Int32} {nf_climbed : Int32} {nf_seed : Int32} {na_huts : Nat → Int32} {na_known : Nat → Int32} {na_levels : Nat → Int32} {na_snow : Nat → Int32} {na_open : Nat → Int32} {pa_heard : Nat → Int32} {pa_walked : Nat → Int32} {pa_total : Nat → Int32} {pa_longest : Nat → Int32} {pa_next : Nat → Int32} {pa_cover : Nat → Int32} {pa_now : Nat → Int32} {pa_then : Nat → Int32} {ko_stands : Option Nat} {ka_gaps : Nat → Int32} {ka_behind : Nat → Int32} {ba_less : Nat → Int32} {ba_full : Nat → Int32} {x1 : Int32} {x2 : Int32} {post : Int32 → (Nat → Int32) → Prop} (hw : q_wx_X10_best_0 ta_counts tl0f_huts tl0f_villages tl0f_dams tl0f_echoes tl0a_heights tl0a_minutes tl0a_echoFrom tl0a_echoTo tl1f_huts tl1f_villages tl1f_dams tl1f_echoes tl1a_heights tl1a_minutes tl1a_echoFrom tl1a_echoTo pa_heard x1 x2 post) : Met l yX10_best (Cond.code yX10_best cX10_best 5 (some .int) :: zb) rm_wx_X10_best (va_Pc [.ref qx, .int x1, .int x2] (fun U => wxW E qx ta_tape tf_length tf_fault tf_place ta_counts tl0f_huts tl0f_singers tl0f_villages tl0f_dams tl0f_echoes tl0f_deep tl0f_slide tl0a_heights tl0a_ladders tl0a_minutes tl0a_echoFrom tl0a_echoTo tl0a_homes tl0a_talls tl0a_known tl1f_huts tl1f_singers tl1f_villages tl1f_dams tl1f_echoes tl1f_deep tl1f_slide tl1a_heights tl1a_ladders tl1a_minutes tl1a_echoFrom tl1a_echoTo tl1a_homes tl1a_talls tl1a_known tv0f_deeds tv0a_kinds tv0a_firsts tv0a_seconds tv1f_deeds tv1a_kinds tv1a_firsts tv1a_seconds ts0f_facts ts0a_heard ts0a_huts ts0a_minutes ts1f_facts ts1a_heard ts1a_huts ts1a_minutes tc0f_voices tc0f_step tc0a_parts tc0a_heights tc1f_voices tc1f_step tc1a_parts tc1a_heights m_images rlf_huts rlf_singers rlf_villages rlf_dams rlf_echoes rlf_deep rlf_slide rla_heights rla_ladders rla_minutes rla_echoFrom rla_echoTo rla_homes rla_talls rla_known rvf_deeds rva_kinds rva_firsts rva_seconds rsf_facts rsa_heard rsa_huts rsa_minutes rcf_voices rcf_step rca_parts rca_heights rf_fault rf_faultPlace ra_numbers ra_tape rf_length rf_behind rf_kind rf_first rf_value rf_hutsToldOf rf_singersToldOf nf_minute nf_avalanches nf_begun nf_climbed nf_seed na_huts na_known na_levels na_snow na_open pa_heard pa_walked pa_total pa_longest pa_next pa_cover pa_now pa_then ko_stands ka_gaps ka_behind ba_less ba_full U.heap ∧ zK E U)) (zQi (S := (Nat → Int32)) (fun r u => post r u) (fun u H => wxW E qx ta_tape tf_length tf_fault tf_place ta_counts tl0f_huts tl0f_singers tl0f_villages tl0f_dams tl0f_echoes tl0f_deep tl0f_slide tl0a_heights tl0a_ladders tl0a_minutes tl0a_echoFrom tl0a_echoTo tl0a_homes tl0a_talls tl0a_known tl1f_huts tl1f_singers tl1f_villages tl1f_dams tl1f_echoes tl1f_deep tl1f_slide tl1a_heights tl1a_ladders tl1a_minutes tl1a_echoFrom tl1a_echoTo tl1a_homes tl1a_talls tl1a_known tv0f_deeds tv0a_kinds tv0a_firsts tv0a_seconds tv1f_deeds tv1a_kinds tv1a_firsts tv1a_seconds ts0f_facts ts0a_heard ts0a_huts ts0a_minutes ts1f_facts ts1a_heard ts1a_huts ts1a_minutes tc0f_voices tc0f_step tc0a_parts tc0a_heights tc1f_voices tc1f_step tc1a_parts tc1a_heights m_images rlf_huts rlf_singers rlf_villages rlf_dams rlf_echoes rlf_deep rlf_slide rla_heights rla_ladders rla_minutes rla_echoFrom rla_echoTo rla_homes rla_talls rla_known rvf_deeds rva_kinds rva_firsts rva_seconds rsf_facts rsa_heard rsa_huts rsa_minutes rcf_voices rcf_step rca_parts rca_heights rf_fault rf_faultPlace ra_numbers ra_tape rf_length rf_behind rf_kind rf_first rf_value rf_hutsToldOf rf_singersToldOf nf_minute nf_avalanches nf_begun nf_climbed nf_seed na_huts na_known na_levels na_snow na_open u pa_walked pa_total pa_longest pa_next pa_cover pa_now pa_then ko_stands ka_gaps ka_behind ba_less ba_full H) (wxA qx)) 0 0 (wxA qx) := by
  refine Met.ofW (cc := cX10_best) (maxL := 5) (ret := (some .int)) (by decide) rfl ?_
  intro p e s m args below meth c s₁ B hml hv
  obtain ⟨rfl, hM, hK⟩ := hv
  have zc := zc_of B hml
  have hl := lv_entry ([.ref qx, .int x1, .int x2]) (n := 5) (Nat.le_of_ble_eq_true rfl)
  rw [lg_entry_eq]
  generalize (lg_sl ([.ref qx, .int x1, .int x2]) ++ List.replicate (5 - (lg_sl ([.ref qx, .int x1, .int x2])).length) Slot.unset).toArray = ls at hl ⊢
  have hl : lv_has ls 5 [(0, .ref qx), (1, .int x1), (2, .int x2)] := hl
  exact t_wx_X10_best_0 zc hK hM va_S.rf (lv_sub hl [0, 1, 2] rfl) hw
-- wx_X10_routes
abbrev rm_wx_X10_routes : Room := { frames := 4, cells := 0, slots := 0, locals := 92 }
def q_wx_X10_routes_0 (ta_counts : Nat → Int32) (tl0f_huts : Int32) (tl0f_dams : Int32) (tl0a_heights : Nat → Int32) (tl0a_minutes : Nat → Int32) (tl1f_huts : Int32) (tl1f_dams : Int32) (tl1a_heights : Nat → Int32) (tl1a_minutes : Nat → Int32) (pa_total : Nat → Int32) (pa_longest : Nat → Int32) (pa_now : Nat → Int32) (pa_then : Nat → Int32) (x1 : Int32) (x2 : Int32) (x3 : Int32) (x4 : Int32) (post : Int32 → (Nat → Int32) → (Nat → Int32) → (Nat → Int32) → (Nat → Int32) → Prop) : Prop :=
  q_wx_X10_landAt_0 ta_counts x1 (fun r_1 => (r_1 = 0 → (post (-2 : Int32) pa_total pa_longest pa_now pa_then)) ∧ (r_1 = 1 → (q_wl_X2_hasHut_0 tl1f_huts x2 (fun r_2 => (r_2 = 0 → (post (-2 : Int32) pa_total pa_longest pa_now pa_then)) ∧ (¬ r_2 = 0 → (q_wl_X2_hasHut_0 tl1f_huts x3 (fun r_3 => (r_3 = 0 → (post (-2 : Int32) pa_total pa_longest pa_now pa_then)) ∧ (¬ r_3 = 0 → ((x2 = x3 → (post (-2 : Int32) pa_total pa_longest pa_now pa_then)) ∧ (¬ x2 = x3 → ((x4 < 0 → (post (-2 : Int32) pa_total pa_longest pa_now pa_then)) ∧ (¬ x4 < 0 → ((x4 ≤ (2 : Int32) → (q_wp_X7_trace_9_0 pa_total pa_longest pa_now pa_then tl1f_huts tl1f_dams tl1a_heights tl1a_minutes x2 (fun pa_total_1 pa_longest_1 pa_now_1 pa_then_1 => (¬ x4 = 0 → (vp_in x3 9 ∧ ((¬ (pa_total_1 (Int32.toNatClampNeg x3)) = 0 → ((¬ x4 = (1 : Int32) → (q_wp_X7_steepest_9_0 pa_now_1 tl1f_huts tl1f_dams tl1a_heights tl1a_minutes x2 x3 (fun r_4 pa_now_2 => post r_4 pa_total_1 pa_longest_1 pa_now_2 pa_then_1))) ∧ (x4 = (1 : Int32) → (vp_in x3 9 ∧ (post (pa_longest_1 (Int32.toNatClampNeg x3)) pa_total_1 pa_longest_1 pa_now_1 pa_then_1))))) ∧ ((pa_total_1 (Int32.toNatClampNeg x3)) = 0 → (post (-1 : Int32) pa_total_1 pa_longest_1 pa_now_1 pa_then_1))))) ∧ (x4 = 0 → (vp_in x3 9 ∧ (post (pa_total_1 (Int32.toNatClampNeg x3)) pa_total_1 pa_longest_1 pa_now_1 pa_then_1)))))) ∧ (¬ x4 ≤ (2 : Int32) → (post (-2 : Int32) pa_total pa_longest pa_now pa_then)))))))))))))) ∧ (¬ r_1 = 0 → ¬ r_1 = 1 → (q_wl_X2_hasHut_0 tl0f_huts x2 (fun r_5 => (r_5 = 0 → (post (-2 : Int32) pa_total pa_longest pa_now pa_then)) ∧ (¬ r_5 = 0 → (q_wl_X2_hasHut_0 tl0f_huts x3 (fun r_6 => (r_6 = 0 → (post (-2 : Int32) pa_total pa_longest pa_now pa_then)) ∧ (¬ r_6 = 0 → ((x2 = x3 → (post (-2 : Int32) pa_total pa_longest pa_now pa_then)) ∧ (¬ x2 = x3 → ((x4 < 0 → (post (-2 : Int32) pa_total pa_longest pa_now pa_then)) ∧ (¬ x4 < 0 → ((x4 ≤ (2 : Int32) → (q_wp_X7_trace_9_0 pa_total pa_longest pa_now pa_then tl0f_huts tl0f_dams tl0a_heights tl0a_minutes x2 (fun pa_total_2 pa_longest_2 pa_now_3 pa_then_2 => (¬ x4 = 0 → (vp_in x3 9 ∧ ((¬ (pa_total_2 (Int32.toNatClampNeg x3)) = 0 → ((¬ x4 = (1 : Int32) → (q_wp_X7_steepest_9_0 pa_now_3 tl0f_huts tl0f_dams tl0a_heights tl0a_minutes x2 x3 (fun r_7 pa_now_4 => post r_7 pa_total_2 pa_longest_2 pa_now_4 pa_then_2))) ∧ (x4 = (1 : Int32) → (vp_in x3 9 ∧ (post (pa_longest_2 (Int32.toNatClampNeg x3)) pa_total_2 pa_longest_2 pa_now_3 pa_then_2))))) ∧ ((pa_total_2 (Int32.toNatClampNeg x3)) = 0 → (post (-1 : Int32) pa_total_2 pa_longest_2 pa_now_3 pa_then_2))))) ∧ (x4 = 0 → (vp_in x3 9 ∧ (post (pa_total_2 (Int32.toNatClampNeg x3)) pa_total_2 pa_longest_2 pa_now_3 pa_then_2)))))) ∧ (¬ x4 ≤ (2 : Int32) → (post (-2 : Int32) pa_total pa_longest pa_now pa_then)))))))))))))))
set_option maxRecDepth 20000 in
theorem t_wx_X10_routes_0 {p : Program} {l : Launch} {e : Env} {s : State} {m : MethodId} {args : Array Value} {below : List Frame} {meth : Method} {c : Code} {E : zE} {qx : Nat} {ta_tape : Nat → Int32} {tf_length : Int32} {tf_fault : Int32} {tf_place : Int32} {ta_counts : Nat → Int32} {tl0f_huts : Int32} {tl0f_singers : Int32} {tl0f_villages : Int32} {tl0f_dams : Int32} {tl0f_echoes : Int32} {tl0f_deep : Int32} {tl0f_slide : Int32} {tl0a_heights : Nat → Int32} {tl0a_ladders : Nat → Int32} {tl0a_minutes : Nat → Int32} {tl0a_echoFrom : Nat → Int32} {tl0a_echoTo : Nat → Int32} {tl0a_homes : Nat → Int32} {tl0a_talls : Nat → Int32} {tl0a_known : Nat → Int32} {tl1f_huts : Int32} {tl1f_singers : Int32} {tl1f_villages : Int32} {tl1f_dams : Int32} {tl1f_echoes : Int32} {tl1f_deep : Int32} {tl1f_slide : Int32} {tl1a_heights : Nat → Int32} {tl1a_ladders : Nat → Int32} {tl1a_minutes : Nat → Int32} {tl1a_echoFrom : Nat → Int32} {tl1a_echoTo : Nat → Int32} {tl1a_homes : Nat → Int32} {tl1a_talls : Nat → Int32} {tl1a_known : Nat → Int32} {tv0f_deeds : Int32} {tv0a_kinds : Nat → Int32} {tv0a_firsts : Nat → Int32} {tv0a_seconds : Nat → Int32} {tv1f_deeds : Int32} {tv1a_kinds : Nat → Int32} {tv1a_firsts : Nat → Int32} {tv1a_seconds : Nat → Int32} {ts0f_facts : Int32} {ts0a_heard : Nat → Int32} {ts0a_huts : Nat → Int32} {ts0a_minutes : Nat → Int32} {ts1f_facts : Int32} {ts1a_heard : Nat → Int32} {ts1a_huts : Nat → Int32} {ts1a_minutes : Nat → Int32} {tc0f_voices : Int32} {tc0f_step : Int32} {tc0a_parts : Nat → Int32} {tc0a_heights : Nat → Int32} {tc1f_voices : Int32} {tc1f_step : Int32} {tc1a_parts : Nat → Int32} {tc1a_heights : Nat → Int32} {m_images : Nat → Option Nat} {rlf_huts : Int32} {rlf_singers : Int32} {rlf_villages : Int32} {rlf_dams : Int32} {rlf_echoes : Int32} {rlf_deep : Int32} {rlf_slide : Int32} {rla_heights : Nat → Int32} {rla_ladders : Nat → Int32} {rla_minutes : Nat → Int32} {rla_echoFrom : Nat → Int32} {rla_echoTo : Nat → Int32} {rla_homes : Nat → Int32} {rla_talls : Nat → Int32} {rla_known : Nat → Int32} {rvf_deeds : Int32} {rva_kinds : Nat → Int32} {rva_firsts : Nat → Int32} {rva_seconds : Nat → Int32} {rsf_facts : Int32} {rsa_heard : Nat → Int32} {rsa_huts : Nat → Int32} {rsa_minutes : Nat → Int32} {rcf_voices : Int32} {rcf_step : Int32} {rca_parts : Nat → Int32} {rca_heights : Nat → Int32} {rf_fault : Int32} {rf_faultPlace : Int32} {ra_numbers : Nat → Int32} {ra_tape : Nat → Int32} {rf_length : Int32} {rf_behind : Int32} {rf_kind : Int32} {rf_first : Int32} {rf_value : Int32} {rf_hutsToldOf : Int32} {rf_singersToldOf : Int32} {nf_minute : Int32} {nf_avalanches : Int32} {nf_begun : Int32} {nf_climbed : Int32} {nf_seed : Int32} {na_huts : Nat → Int32} {na_known : Nat → Int32} {na_levels : Nat → Int32} {na_snow : Nat → Int32} {na_open : Nat → Int32} {pa_heard : Nat → Int32} {pa_walked : Nat → Int32} {pa_total : Nat → Int32} {pa_longest : Nat → Int32} {pa_next : Nat → Int32} {pa_cover : Nat → Int32} {pa_now : Nat → Int32} {pa_then : Nat → Int32} {ko_stands : Option Nat} {ka_gaps : Nat → Int32} {ka_behind : Nat → Int32} {ba_less : Nat → Int32} {ba_full : Nat → Int32} {post : Int32 → (Nat → Int32) → (Nat → Int32) → (Nat → Int32) → (Nat → Int32) → Prop} {x1 : Int32} {x2 : Int32} {x3 : Int32} {x4 : Int32} {ls : Array Slot} {H : Heap} {locs : List Loc}
    (zc : zC p s m args meth c cX10_routes 6 RX10 (some .int))
    (hK : zK E s)
    (hM : wxW E qx ta_tape tf_length tf_fault tf_place ta_counts tl0f_huts tl0f_singers tl0f_villages tl0f_dams tl0f_echoes tl0f_deep tl0f_slide tl0a_heights tl0a_ladders tl0a_minutes tl0a_echoFrom tl0a_echoTo tl0a_homes tl0a_talls tl0a_known tl1f_huts tl1f_singers tl1f_villages tl1f_dams tl1f_echoes tl1f_deep tl1f_slide tl1a_heights tl1a_ladders tl1a_minutes tl1a_echoFrom tl1a_echoTo tl1a_homes tl1a_talls tl1a_known tv0f_deeds tv0a_kinds tv0a_firsts tv0a_seconds tv1f_deeds tv1a_kinds tv1a_firsts tv1a_seconds ts0f_facts ts0a_heard ts0a_huts ts0a_minutes ts1f_facts ts1a_heard ts1a_huts ts1a_minutes tc0f_voices tc0f_step tc0a_parts tc0a_heights tc1f_voices tc1f_step tc1a_parts tc1a_heights m_images rlf_huts rlf_singers rlf_villages rlf_dams rlf_echoes rlf_deep rlf_slide rla_heights rla_ladders rla_minutes rla_echoFrom rla_echoTo rla_homes rla_talls rla_known rvf_deeds rva_kinds rva_firsts rva_seconds rsf_facts rsa_heard rsa_huts rsa_minutes rcf_voices rcf_step rca_parts rca_heights rf_fault rf_faultPlace ra_numbers ra_tape rf_length rf_behind rf_kind rf_first rf_value rf_hutsToldOf rf_singersToldOf nf_minute nf_avalanches nf_begun nf_climbed nf_seed na_huts na_known na_levels na_snow na_open pa_heard pa_walked pa_total pa_longest pa_next pa_cover pa_now pa_then ko_stands ka_gaps ka_behind ba_less ba_full H)
    (hS : va_S (wxA qx) s.heap H locs)
    (hl : lv_has ls 6 [(0, .ref qx), (1, .int x1), (2, .int x2), (3, .int x3), (4, .int x4)])
    (hw : q_wx_X10_routes_0 ta_counts tl0f_huts tl0f_dams tl0a_heights tl0a_minutes tl1f_huts tl1f_dams tl1a_heights tl1a_minutes pa_total pa_longest pa_now pa_then x1 x2 x3 x4 post) :
    W p l e rm_wx_X10_routes s m args below meth c H locs 0 0 (MQ below (zQi (S := (Nat → Int32) × (Nat → Int32) × (Nat → Int32) × (Nat → Int32)) (fun r u => post r u.1 u.2.1 u.2.2.1 u.2.2.2) (fun u H => wxW E qx ta_tape tf_length tf_fault tf_place ta_counts tl0f_huts tl0f_singers tl0f_villages tl0f_dams tl0f_echoes tl0f_deep tl0f_slide tl0a_heights tl0a_ladders tl0a_minutes tl0a_echoFrom tl0a_echoTo tl0a_homes tl0a_talls tl0a_known tl1f_huts tl1f_singers tl1f_villages tl1f_dams tl1f_echoes tl1f_deep tl1f_slide tl1a_heights tl1a_ladders tl1a_minutes tl1a_echoFrom tl1a_echoTo tl1a_homes tl1a_talls tl1a_known tv0f_deeds tv0a_kinds tv0a_firsts tv0a_seconds tv1f_deeds tv1a_kinds tv1a_firsts tv1a_seconds ts0f_facts ts0a_heard ts0a_huts ts0a_minutes ts1f_facts ts1a_heard ts1a_huts ts1a_minutes tc0f_voices tc0f_step tc0a_parts tc0a_heights tc1f_voices tc1f_step tc1a_parts tc1a_heights m_images rlf_huts rlf_singers rlf_villages rlf_dams rlf_echoes rlf_deep rlf_slide rla_heights rla_ladders rla_minutes rla_echoFrom rla_echoTo rla_homes rla_talls rla_known rvf_deeds rva_kinds rva_firsts rva_seconds rsf_facts rsa_heard rsa_huts rsa_minutes rcf_voices rcf_step rca_parts rca_heights rf_fault rf_faultPlace ra_numbers ra_tape rf_length rf_behind rf_kind rf_first rf_value rf_hutsToldOf rf_singersToldOf nf_minute nf_avalanches nf_begun nf_climbed nf_seed na_huts na_known na_levels na_snow na_open pa_heard pa_walked u.1 u.2.1 pa_next pa_cover u.2.2.1 u.2.2.2 ko_stands ka_gaps ka_behind ba_less ba_full H) (wxA qx)) args s 0 0 (wxA qx)) (F0 m 0 ls []) := by
  have hx := zc.1
  have hb := zc.2.1
  refine lv_aload_n hx hb dX10_routes_0 rfl (lv_at hl 0 rfl) ?_
  refine lv_iload_n hx hb dX10_routes_1 rfl (lv_at hl 1 rfl) ?_
  refine zV_r [.int x1] [] zc ky_X10_landAt kz_X10_landAt km_10_89 (c_wx_X10_landAt l hw) (wxPreV0 hK hM) rfl rfl hl.1 (Nat.le_of_ble_eq_true rfl) ⟨rfl, rfl⟩ ⟨Nat.le_of_ble_eq_true rfl, Nat.le_of_ble_eq_true rfl⟩ ⟨(Nat.zero_le _), (Nat.zero_le _)⟩ dX10_routes_2 (fun r_1 hw => ?_)
  by_cases hc0 : r_1 = 0
  · have hw := hw.1 hc0
    refine W.eq (g2 := F0 m 5 ls (.null :: [])) (by simp [hc0]) ?_
    refine lv_astoreN (lv' := [(5, .null), (0, .ref qx), (1, .int x1), (2, .int x2), (3, .int x3), (4, .int x4)]) hx hb dX10_routes_5 hl (by decide) rfl (fun ls hl => ?_)
    refine lv_aloadN hx hb dX10_routes_7 (lv_at hl 0 rfl) ?_
    refine lv_ifnullN (tgt := 46) hx hb dX10_routes_9 (by decide) ?_
    refine lv_bipush (v := (-2 : Int32)) hx hb dX10_routes_46 (by decide) ?_
    exact zret_iw ⟨pa_total, pa_longest, pa_now, pa_then⟩ zc hS hw hM dX10_routes_48
  by_cases hc1 : r_1 = 1
  · have hw := hw.2.1 hc1
    refine W.eq (g2 := F0 m 5 ls (.ref (qx + 14) :: [])) (by simp [hc0, hc1]) ?_
    refine lv_astore (lv' := [(5, .ref (qx + 14)), (0, .ref qx), (1, .int x1), (2, .int x2), (3, .int x3), (4, .int x4)]) hx hb dX10_routes_5 hl (by decide) rfl (fun ls hl => ?_)
    refine lv_aload hx hb dX10_routes_7 (lv_at hl 0 rfl) ?_
    refine lv_ifnull hx hb dX10_routes_9 ?_
    refine lv_aload hx hb dX10_routes_12 (lv_at hl 0 rfl) ?_
    refine lv_iload_n hx hb dX10_routes_14 rfl (lv_at hl 3 rfl) ?_
    refine zV_i [.int x2] [] zc ky_X2_hasHut kz_X2_hasHut km_10_135 (c_wl_X2_hasHut l hw) (wlPreV0 hK (pj_wx_wl_14 hM)) rfl rfl hl.1 (Nat.le_of_ble_eq_true rfl) ⟨rfl, rfl⟩ ⟨Nat.le_of_ble_eq_true rfl, Nat.le_of_ble_eq_true rfl⟩ ⟨(Nat.zero_le _), (Nat.zero_le _)⟩ dX10_routes_15 (fun r_2 hw => ?_)
    refine lv_if_eq (tgt := 46) hx hb dX10_routes_18 (by decide) (fun hc => ?_) (fun hc => ?_)
    · have hw := hw.1 hc
      refine lv_bipush (v := (-2 : Int32)) hx hb dX10_routes_46 (by decide) ?_
      exact zret_iw ⟨pa_total, pa_longest, pa_now, pa_then⟩ zc hS hw hM dX10_routes_48
    · have hw := hw.2 hc
      refine lv_aload hx hb dX10_routes_21 (lv_at hl 0 rfl) ?_
      refine lv_iload_n hx hb dX10_routes_23 rfl (lv_at hl 4 rfl) ?_
      refine zV_i [.int x3] [] zc ky_X2_hasHut kz_X2_hasHut km_10_135 (c_wl_X2_hasHut l hw) (wlPreV0 hK (pj_wx_wl_14 hM)) rfl rfl hl.1 (Nat.le_of_ble_eq_true rfl) ⟨rfl, rfl⟩ ⟨Nat.le_of_ble_eq_true rfl, Nat.le_of_ble_eq_true rfl⟩ ⟨(Nat.zero_le _), (Nat.zero_le _)⟩ dX10_routes_24 (fun r_3 hw => ?_)
      refine lv_if_eq (tgt := 46) hx hb dX10_routes_27 (by decide) (fun hc => ?_) (fun hc => ?_)
      · have hw := hw.1 hc
        refine lv_bipush (v := (-2 : Int32)) hx hb dX10_routes_46 (by decide) ?_
        exact zret_iw ⟨pa_total, pa_longest, pa_now, pa_then⟩ zc hS hw hM dX10_routes_48
      · have hw := hw.2 hc
        refine lv_iload_n hx hb dX10_routes_30 rfl (lv_at hl 3 rfl) ?_
        refine lv_iload_n hx hb dX10_routes_31 rfl (lv_at hl 4 rfl) ?_
        refine lv_icmp_eq (tgt := 46) hx hb dX10_routes_32 (by decide) (fun hc => ?_) (fun hc => ?_)
        · have hw := hw.1 hc
          refine lv_bipush (v := (-2 : Int32)) hx hb dX10_routes_46 (by decide) ?_
          exact zret_iw ⟨pa_total, pa_longest, pa_now, pa_then⟩ zc hS hw hM dX10_routes_48
        · have hw := hw.2 hc
          refine lv_iload hx hb dX10_routes_35 (lv_at hl 5 rfl) ?_
          refine lv_if_lt (tgt := 46) hx hb dX10_routes_37 (by decide) (fun hc => ?_) (fun hc => ?_)
          · have hw := hw.1 hc
            refine lv_bipush (v := (-2 : Int32)) hx hb dX10_routes_46 (by decide) ?_
            exact zret_iw ⟨pa_total, pa_longest, pa_now, pa_then⟩ zc hS hw hM dX10_routes_48
          · have hw := hw.2 hc
            refine lv_iload hx hb dX10_routes_40 (lv_at hl 5 rfl) ?_
            refine lv_iconst (v := (2 : Int32)) hx hb dX10_routes_42 (by decide) ?_
            refine lv_icmp_le (tgt := 49) hx hb dX10_routes_43 (by decide) (fun hc => ?_) (fun hc => ?_)
            · have hw := hw.1 hc
              refine lv_aload_n hx hb dX10_routes_49 rfl (lv_at hl 1 rfl) ?_
              refine wxg_10_37_0 zc hK hM dX10_routes_50 ?_
              refine lv_aload hx hb dX10_routes_53 (lv_at hl 0 rfl) ?_
              refine lv_iload_n hx hb dX10_routes_55 rfl (lv_at hl 3 rfl) ?_
              refine zVx_v [.ref (qx + 14), .int x2] [] zc ky_X7_trace kz_X7_trace km_10_162 (c_wp_X7_trace_9 l hw) (wpPreV0 hK (pj_wx_wp_78_14_33 hM)) hS (sb_wx_wp_78_14_33) rfl rfl hl.1 (Nat.le_of_ble_eq_true rfl) ⟨rfl, rfl⟩ ⟨Nat.le_of_ble_eq_true rfl, Nat.le_of_ble_eq_true rfl⟩ ⟨(Nat.zero_le _), (Nat.zero_le _)⟩ dX10_routes_56 (fun u H1 locs1 hw hM1 hk hS => ?_)
              obtain ⟨pa_total_1, pa_longest_1, pa_now_1, pa_then_1⟩ := u
              have hM := jn_wx_wp_78_14_33 hM hM1 hk
              refine lv_iload hx hb dX10_routes_59 (lv_at hl 5 rfl) ?_
              refine lv_if_ne (tgt := 74) hx hb dX10_routes_61 (by decide) (fun hc => ?_) (fun hc => ?_)
              · have hw := hw.1 hc
                refine lv_aload_n hx hb dX10_routes_74 rfl (lv_at hl 1 rfl) ?_
                refine wxg_10_37_0 zc hK hM dX10_routes_75 ?_
                refine wxg_10_166_78 zc hK hM dX10_routes_78 ?_
                refine lv_iload_n hx hb dX10_routes_81 rfl (lv_at hl 4 rfl) ?_
                refine wxld_81 zc hK hM hw.1 dX10_routes_82 ?_
                have hw := hw.2
                refine lv_if_ne (tgt := 88) hx hb dX10_routes_83 (by decide) (fun hc => ?_) (fun hc => ?_)
                · have hw := hw.1 hc
                  refine lv_iload hx hb dX10_routes_88 (lv_at hl 5 rfl) ?_
                  refine lv_iconst (v := (1 : Int32)) hx hb dX10_routes_90 (by decide) ?_
                  refine lv_icmp_ne (tgt := 106) hx hb dX10_routes_91 (by decide) (fun hc => ?_) (fun hc => ?_)
                  · have hw := hw.1 hc
                    refine lv_aload_n hx hb dX10_routes_106 rfl (lv_at hl 1 rfl) ?_
                    refine wxg_10_37_0 zc hK hM dX10_routes_107 ?_
                    refine lv_aload hx hb dX10_routes_110 (lv_at hl 0 rfl) ?_
                    refine lv_iload_n hx hb dX10_routes_112 rfl (lv_at hl 3 rfl) ?_
                    refine lv_iload_n hx hb dX10_routes_113 rfl (lv_at hl 4 rfl) ?_
                    refine zVx_i [.ref (qx + 14), .int x2, .int x3] [] zc ky_X7_steepest kz_X7_steepest km_10_172 (c_wp_X7_steepest_9 l hw) (wpPreV0 hK (pj_wx_wp_78_14_33 hM)) hS (sb_wx_wp_78_14_33) rfl rfl hl.1 (Nat.le_of_ble_eq_true rfl) ⟨rfl, rfl⟩ ⟨Nat.le_of_ble_eq_true rfl, Nat.le_of_ble_eq_true rfl⟩ ⟨(Nat.zero_le _), (Nat.zero_le _)⟩ dX10_routes_114 (fun r_4 pa_now_2 H1 locs1 hw hM1 hk hS => ?_)
                    have hM := jn_wx_wp_78_14_33 hM hM1 hk
                    exact zret_iw ⟨pa_total_1, pa_longest_1, pa_now_2, pa_then_1⟩ zc hS hw hM dX10_routes_117
                  · have hw := hw.2 hc
                    refine lv_aload_n hx hb dX10_routes_94 rfl (lv_at hl 1 rfl) ?_
                    refine wxg_10_37_0 zc hK hM dX10_routes_95 ?_
                    refine wxg_10_169_78 zc hK hM dX10_routes_98 ?_
                    refine lv_iload_n hx hb dX10_routes_101 rfl (lv_at hl 4 rfl) ?_
                    refine wxld_82 zc hK hM hw.1 dX10_routes_102 ?_
                    have hw := hw.2
                    refine lv_goto (tgt := 117) hx hb dX10_routes_103 (by decide) ?_
                    exact zret_iw ⟨pa_total_1, pa_longest_1, pa_now_1, pa_then_1⟩ zc hS hw hM dX10_routes_117
                · have hw := hw.2 hc
                  refine lv_iconst (v := (-1 : Int32)) hx hb dX10_routes_86 (by decide) ?_
                  exact zret_iw ⟨pa_total_1, pa_longest_1, pa_now_1, pa_then_1⟩ zc hS hw hM dX10_routes_87
              · have hw := hw.2 hc
                refine lv_aload_n hx hb dX10_routes_64 rfl (lv_at hl 1 rfl) ?_
                refine wxg_10_37_0 zc hK hM dX10_routes_65 ?_
                refine wxg_10_166_78 zc hK hM dX10_routes_68 ?_
                refine lv_iload_n hx hb dX10_routes_71 rfl (lv_at hl 4 rfl) ?_
                refine wxld_81 zc hK hM hw.1 dX10_routes_72 ?_
                have hw := hw.2
                exact zret_iw ⟨pa_total_1, pa_longest_1, pa_now_1, pa_then_1⟩ zc hS hw hM dX10_routes_73
            · have hw := hw.2 hc
              refine lv_bipush (v := (-2 : Int32)) hx hb dX10_routes_46 (by decide) ?_
              exact zret_iw ⟨pa_total, pa_longest, pa_now, pa_then⟩ zc hS hw hM dX10_routes_48
  have hw := hw.2.2 hc0 hc1
  refine W.eq (g2 := F0 m 5 ls (.ref (qx + 5) :: [])) (by simp [hc0, hc1]) ?_
  refine lv_astore (lv' := [(5, .ref (qx + 5)), (0, .ref qx), (1, .int x1), (2, .int x2), (3, .int x3), (4, .int x4)]) hx hb dX10_routes_5 hl (by decide) rfl (fun ls hl => ?_)
  refine lv_aload hx hb dX10_routes_7 (lv_at hl 0 rfl) ?_
  refine lv_ifnull hx hb dX10_routes_9 ?_
  refine lv_aload hx hb dX10_routes_12 (lv_at hl 0 rfl) ?_
  refine lv_iload_n hx hb dX10_routes_14 rfl (lv_at hl 3 rfl) ?_
  refine zV_i [.int x2] [] zc ky_X2_hasHut kz_X2_hasHut km_10_135 (c_wl_X2_hasHut l hw) (wlPreV0 hK (pj_wx_wl_5 hM)) rfl rfl hl.1 (Nat.le_of_ble_eq_true rfl) ⟨rfl, rfl⟩ ⟨Nat.le_of_ble_eq_true rfl, Nat.le_of_ble_eq_true rfl⟩ ⟨(Nat.zero_le _), (Nat.zero_le _)⟩ dX10_routes_15 (fun r_5 hw => ?_)
  refine lv_if_eq (tgt := 46) hx hb dX10_routes_18 (by decide) (fun hc => ?_) (fun hc => ?_)
  · have hw := hw.1 hc
    refine lv_bipush (v := (-2 : Int32)) hx hb dX10_routes_46 (by decide) ?_
    exact zret_iw ⟨pa_total, pa_longest, pa_now, pa_then⟩ zc hS hw hM dX10_routes_48
  · have hw := hw.2 hc
    refine lv_aload hx hb dX10_routes_21 (lv_at hl 0 rfl) ?_
    refine lv_iload_n hx hb dX10_routes_23 rfl (lv_at hl 4 rfl) ?_
    refine zV_i [.int x3] [] zc ky_X2_hasHut kz_X2_hasHut km_10_135 (c_wl_X2_hasHut l hw) (wlPreV0 hK (pj_wx_wl_5 hM)) rfl rfl hl.1 (Nat.le_of_ble_eq_true rfl) ⟨rfl, rfl⟩ ⟨Nat.le_of_ble_eq_true rfl, Nat.le_of_ble_eq_true rfl⟩ ⟨(Nat.zero_le _), (Nat.zero_le _)⟩ dX10_routes_24 (fun r_6 hw => ?_)
    refine lv_if_eq (tgt := 46) hx hb dX10_routes_27 (by decide) (fun hc => ?_) (fun hc => ?_)
    · have hw := hw.1 hc
      refine lv_bipush (v := (-2 : Int32)) hx hb dX10_routes_46 (by decide) ?_
      exact zret_iw ⟨pa_total, pa_longest, pa_now, pa_then⟩ zc hS hw hM dX10_routes_48
    · have hw := hw.2 hc
      refine lv_iload_n hx hb dX10_routes_30 rfl (lv_at hl 3 rfl) ?_
      refine lv_iload_n hx hb dX10_routes_31 rfl (lv_at hl 4 rfl) ?_
      refine lv_icmp_eq (tgt := 46) hx hb dX10_routes_32 (by decide) (fun hc => ?_) (fun hc => ?_)
      · have hw := hw.1 hc
        refine lv_bipush (v := (-2 : Int32)) hx hb dX10_routes_46 (by decide) ?_
        exact zret_iw ⟨pa_total, pa_longest, pa_now, pa_then⟩ zc hS hw hM dX10_routes_48
      · have hw := hw.2 hc
        refine lv_iload hx hb dX10_routes_35 (lv_at hl 5 rfl) ?_
        refine lv_if_lt (tgt := 46) hx hb dX10_routes_37 (by decide) (fun hc => ?_) (fun hc => ?_)
        · have hw := hw.1 hc
          refine lv_bipush (v := (-2 : Int32)) hx hb dX10_routes_46 (by decide) ?_
          exact zret_iw ⟨pa_total, pa_longest, pa_now, pa_then⟩ zc hS hw hM dX10_routes_48
        · have hw := hw.2 hc
          refine lv_iload hx hb dX10_routes_40 (lv_at hl 5 rfl) ?_
          refine lv_iconst (v := (2 : Int32)) hx hb dX10_routes_42 (by decide) ?_
          refine lv_icmp_le (tgt := 49) hx hb dX10_routes_43 (by decide) (fun hc => ?_) (fun hc => ?_)
          · have hw := hw.1 hc
            refine lv_aload_n hx hb dX10_routes_49 rfl (lv_at hl 1 rfl) ?_
            refine wxg_10_37_0 zc hK hM dX10_routes_50 ?_
            refine lv_aload hx hb dX10_routes_53 (lv_at hl 0 rfl) ?_
            refine lv_iload_n hx hb dX10_routes_55 rfl (lv_at hl 3 rfl) ?_
            refine zVx_v [.ref (qx + 5), .int x2] [] zc ky_X7_trace kz_X7_trace km_10_162 (c_wp_X7_trace_9 l hw) (wpPreV0 hK (pj_wx_wp_78_5_33 hM)) hS (sb_wx_wp_78_5_33) rfl rfl hl.1 (Nat.le_of_ble_eq_true rfl) ⟨rfl, rfl⟩ ⟨Nat.le_of_ble_eq_true rfl, Nat.le_of_ble_eq_true rfl⟩ ⟨(Nat.zero_le _), (Nat.zero_le _)⟩ dX10_routes_56 (fun u H1 locs1 hw hM1 hk hS => ?_)
            obtain ⟨pa_total_2, pa_longest_2, pa_now_3, pa_then_2⟩ := u
            have hM := jn_wx_wp_78_5_33 hM hM1 hk
            refine lv_iload hx hb dX10_routes_59 (lv_at hl 5 rfl) ?_
            refine lv_if_ne (tgt := 74) hx hb dX10_routes_61 (by decide) (fun hc => ?_) (fun hc => ?_)
            · have hw := hw.1 hc
              refine lv_aload_n hx hb dX10_routes_74 rfl (lv_at hl 1 rfl) ?_
              refine wxg_10_37_0 zc hK hM dX10_routes_75 ?_
              refine wxg_10_166_78 zc hK hM dX10_routes_78 ?_
              refine lv_iload_n hx hb dX10_routes_81 rfl (lv_at hl 4 rfl) ?_
              refine wxld_81 zc hK hM hw.1 dX10_routes_82 ?_
              have hw := hw.2
              refine lv_if_ne (tgt := 88) hx hb dX10_routes_83 (by decide) (fun hc => ?_) (fun hc => ?_)
              · have hw := hw.1 hc
                refine lv_iload hx hb dX10_routes_88 (lv_at hl 5 rfl) ?_
                refine lv_iconst (v := (1 : Int32)) hx hb dX10_routes_90 (by decide) ?_
                refine lv_icmp_ne (tgt := 106) hx hb dX10_routes_91 (by decide) (fun hc => ?_) (fun hc => ?_)
                · have hw := hw.1 hc
                  refine lv_aload_n hx hb dX10_routes_106 rfl (lv_at hl 1 rfl) ?_
                  refine wxg_10_37_0 zc hK hM dX10_routes_107 ?_
                  refine lv_aload hx hb dX10_routes_110 (lv_at hl 0 rfl) ?_
                  refine lv_iload_n hx hb dX10_routes_112 rfl (lv_at hl 3 rfl) ?_
                  refine lv_iload_n hx hb dX10_routes_113 rfl (lv_at hl 4 rfl) ?_
                  refine zVx_i [.ref (qx + 5), .int x2, .int x3] [] zc ky_X7_steepest kz_X7_steepest km_10_172 (c_wp_X7_steepest_9 l hw) (wpPreV0 hK (pj_wx_wp_78_5_33 hM)) hS (sb_wx_wp_78_5_33) rfl rfl hl.1 (Nat.le_of_ble_eq_true rfl) ⟨rfl, rfl⟩ ⟨Nat.le_of_ble_eq_true rfl, Nat.le_of_ble_eq_true rfl⟩ ⟨(Nat.zero_le _), (Nat.zero_le _)⟩ dX10_routes_114 (fun r_7 pa_now_4 H1 locs1 hw hM1 hk hS => ?_)
                  have hM := jn_wx_wp_78_5_33 hM hM1 hk
                  exact zret_iw ⟨pa_total_2, pa_longest_2, pa_now_4, pa_then_2⟩ zc hS hw hM dX10_routes_117
                · have hw := hw.2 hc
                  refine lv_aload_n hx hb dX10_routes_94 rfl (lv_at hl 1 rfl) ?_
                  refine wxg_10_37_0 zc hK hM dX10_routes_95 ?_
                  refine wxg_10_169_78 zc hK hM dX10_routes_98 ?_
                  refine lv_iload_n hx hb dX10_routes_101 rfl (lv_at hl 4 rfl) ?_
                  refine wxld_82 zc hK hM hw.1 dX10_routes_102 ?_
                  have hw := hw.2
                  refine lv_goto (tgt := 117) hx hb dX10_routes_103 (by decide) ?_
                  exact zret_iw ⟨pa_total_2, pa_longest_2, pa_now_3, pa_then_2⟩ zc hS hw hM dX10_routes_117
              · have hw := hw.2 hc
                refine lv_iconst (v := (-1 : Int32)) hx hb dX10_routes_86 (by decide) ?_
                exact zret_iw ⟨pa_total_2, pa_longest_2, pa_now_3, pa_then_2⟩ zc hS hw hM dX10_routes_87
            · have hw := hw.2 hc
              refine lv_aload_n hx hb dX10_routes_64 rfl (lv_at hl 1 rfl) ?_
              refine wxg_10_37_0 zc hK hM dX10_routes_65 ?_
              refine wxg_10_166_78 zc hK hM dX10_routes_68 ?_
              refine lv_iload_n hx hb dX10_routes_71 rfl (lv_at hl 4 rfl) ?_
              refine wxld_81 zc hK hM hw.1 dX10_routes_72 ?_
              have hw := hw.2
              exact zret_iw ⟨pa_total_2, pa_longest_2, pa_now_3, pa_then_2⟩ zc hS hw hM dX10_routes_73
          · have hw := hw.2 hc
            refine lv_bipush (v := (-2 : Int32)) hx hb dX10_routes_46 (by decide) ?_
            exact zret_iw ⟨pa_total, pa_longest, pa_now, pa_then⟩ zc hS hw hM dX10_routes_48
set_option maxRecDepth 20000 in
theorem c_wx_X10_routes (l : Launch) {E : zE} {qx : Nat} {ta_tape : Nat → Int32} {tf_length : Int32} {tf_fault : Int32} {tf_place : Int32} {ta_counts : Nat → Int32} {tl0f_huts : Int32} {tl0f_singers : Int32} {tl0f_villages : Int32} {tl0f_dams : Int32} {tl0f_echoes : Int32} {tl0f_deep : Int32} {tl0f_slide : Int32} {tl0a_heights : Nat → Int32} {tl0a_ladders : Nat → Int32} {tl0a_minutes : Nat → Int32} {tl0a_echoFrom : Nat → Int32} {tl0a_echoTo : Nat → Int32} {tl0a_homes : Nat → Int32} {tl0a_talls : Nat → Int32} {tl0a_known : Nat → Int32} {tl1f_huts : Int32} {tl1f_singers : Int32} {tl1f_villages : Int32} {tl1f_dams : Int32} {tl1f_echoes : Int32} {tl1f_deep : Int32} {tl1f_slide : Int32} {tl1a_heights : Nat → Int32} {tl1a_ladders : Nat → Int32} {tl1a_minutes : Nat → Int32} {tl1a_echoFrom : Nat → Int32} {tl1a_echoTo : Nat → Int32} {tl1a_homes : Nat → Int32} {tl1a_talls : Nat → Int32} {tl1a_known : Nat → Int32} {tv0f_deeds : Int32} {tv0a_kinds : Nat → Int32} {tv0a_firsts : Nat → Int32} {tv0a_seconds : Nat → Int32} {tv1f_deeds : Int32} {tv1a_kinds : Nat → Int32} {tv1a_firsts : Nat → Int32} {tv1a_seconds : Nat → Int32} {ts0f_facts : Int32} {ts0a_heard : Nat → Int32} {ts0a_huts : Nat → Int32} {ts0a_minutes : Nat → Int32} {ts1f_facts : Int32} {ts1a_heard : Nat → Int32} {ts1a_huts : Nat → Int32} {ts1a_minutes : Nat → Int32} {tc0f_voices : Int32} {tc0f_step : Int32} {tc0a_parts : Nat → Int32} {tc0a_heights : Nat → Int32} {tc1f_voices : Int32} {tc1f_step : Int32} {tc1a_parts : Nat → Int32} {tc1a_heights : Nat → Int32} {m_images : Nat → Option Nat} {rlf_huts : Int32} {rlf_singers : Int32} {rlf_villages : Int32} {rlf_dams : Int32} {rlf_echoes : Int32} {rlf_deep : Int32} {rlf_slide : Int32} {rla_heights : Nat → Int32} {rla_ladders : Nat → Int32} {rla_minutes : Nat → Int32} {rla_echoFrom : Nat → Int32} {rla_echoTo : Nat → Int32} {rla_homes : Nat → Int32} {rla_talls : Nat → Int32} {rla_known : Nat → Int32} {rvf_deeds : Int32} {rva_kinds : Nat → Int32} {rva_firsts : Nat → Int32} {rva_seconds : Nat → Int32} {rsf_facts : Int32} {rsa_heard : Nat → Int32} {rsa_huts : Nat → Int32} {rsa_minutes : Nat → Int32} {rcf_voices : Int32} {rcf_step : Int32} {rca_parts : Nat → Int32} {rca_heights : Nat → Int32} {rf_fault : Int32} {rf_faultPlace : Int32} {ra_numbers : Nat → Int32} {ra_tape : Nat → Int32} {rf_length : Int32} {rf_behind : Int32} {rf_kind : Int32} {rf_first : Int32} {rf_value : Int32} {rf_hutsToldOf : Int32} {rf_singersToldOf : Int32} {nf_minute : Int32} {nf_avalanches : Int32} {nf_begun : Int32} {nf_climbed : Int32} {nf_seed : Int32} {na_huts : Nat → Int32} {na_known : Nat → Int32} {na_levels : Nat → Int32} {na_snow : Nat → Int32} {na_open : Nat → Int32} {pa_heard : Nat → Int32} {pa_walked : Nat → Int32} {pa_total : Nat → Int32} {pa_longest : Nat → Int32} {pa_next : Nat → Int32} {pa_cover : Nat → Int32} {pa_now : Nat → Int32} {pa_then : Nat → Int32} {ko_stands : Option Nat} {ka_gaps : Nat → Int32} {ka_behind : Nat → Int32} {ba_less : Nat → Int32} {ba_full : Nat → Int32} {x1 : Int32} {x2 : Int32} {x3 : Int32} {x4 : Int32} {post : Int32 → (Nat → Int32) → (Nat → Int32) → (Nat → Int32) → (Nat → Int32) → Prop} (hw : q_wx_X10_routes_0 ta_counts tl0f_huts tl0f_dams tl0a_heights tl0a_minutes tl1f_huts tl1f_dams tl1a_heights tl1a_minutes pa_total pa_longest pa_now pa_then x1 x2 x3 x4 post) : Met l yX10_routes (Cond.code yX10_routes cX10_routes 6 (some .int) :: zb) rm_wx_X10_routes (va_Pc [.ref qx, .int x1, .int x2, .int x3, .int x4] (fun U => wxW E qx ta_tape tf_length tf_fault tf_place ta_counts tl0f_huts tl0f_singers tl0f_villages tl0f_dams tl0f_echoes tl0f_deep tl0f_slide tl0a_heights tl0a_ladders tl0a_minutes tl0a_echoFrom tl0a_echoTo tl0a_homes tl0a_talls tl0a_known tl1f_huts tl1f_singers tl1f_villages tl1f_dams tl1f_echoes tl1f_deep tl1f_slide tl1a_heights tl1a_ladders tl1a_minutes tl1a_echoFrom tl1a_echoTo tl1a_homes tl1a_talls tl1a_known tv0f_deeds tv0a_kinds tv0a_firsts tv0a_seconds tv1f_deeds tv1a_kinds tv1a_firsts tv1a_seconds ts0f_facts ts0a_heard ts0a_huts ts0a_minutes ts1f_facts ts1a_heard ts1a_huts ts1a_minutes tc0f_voices tc0f_step tc0a_parts tc0a_heights tc1f_voices tc1f_step tc1a_parts tc1a_heights m_images rlf_huts rlf_singers rlf_villages rlf_dams rlf_echoes rlf_deep rlf_slide rla_heights rla_ladders rla_minutes rla_echoFrom rla_echoTo rla_homes rla_talls rla_known rvf_deeds rva_kinds rva_firsts rva_seconds rsf_facts rsa_heard rsa_huts rsa_minutes rcf_voices rcf_step rca_parts rca_heights rf_fault rf_faultPlace ra_numbers ra_tape rf_length rf_behind rf_kind rf_first rf_value rf_hutsToldOf rf_singersToldOf nf_minute nf_avalanches nf_begun nf_climbed nf_seed na_huts na_known na_levels na_snow na_open pa_heard pa_walked pa_total pa_longest pa_next pa_cover pa_now pa_then ko_stands ka_gaps ka_behind ba_less ba_full U.heap ∧ zK E U)) (zQi (S := (Nat → Int32) × (Nat → Int32) × (Nat → Int32) × (Nat → Int32)) (fun r u => post r u.1 u.2.1 u.2.2.1 u.2.2.2) (fun u H => wxW E qx ta_tape tf_length tf_fault tf_place ta_counts tl0f_huts tl0f_singers tl0f_villages tl0f_dams tl0f_echoes tl0f_deep tl0f_slide tl0a_heights tl0a_ladders tl0a_minutes tl0a_echoFrom tl0a_echoTo tl0a_homes tl0a_talls tl0a_known tl1f_huts tl1f_singers tl1f_villages tl1f_dams tl1f_echoes tl1f_deep tl1f_slide tl1a_heights tl1a_ladders tl1a_minutes tl1a_echoFrom tl1a_echoTo tl1a_homes tl1a_talls tl1a_known tv0f_deeds tv0a_kinds tv0a_firsts tv0a_seconds tv1f_deeds tv1a_kinds tv1a_firsts tv1a_seconds ts0f_facts ts0a_heard ts0a_huts ts0a_minutes ts1f_facts ts1a_heard ts1a_huts ts1a_minutes tc0f_voices tc0f_step tc0a_parts tc0a_heights tc1f_voices tc1f_step tc1a_parts tc1a_heights m_images rlf_huts rlf_singers rlf_villages rlf_dams rlf_echoes rlf_deep rlf_slide rla_heights rla_ladders rla_minutes rla_echoFrom rla_echoTo rla_homes rla_talls rla_known rvf_deeds rva_kinds rva_firsts rva_seconds rsf_facts rsa_heard rsa_huts rsa_minutes rcf_voices rcf_step rca_parts rca_heights rf_fault rf_faultPlace ra_numbers ra_tape rf_length rf_behind rf_kind rf_first rf_value rf_hutsToldOf rf_singersToldOf nf_minute nf_avalanches nf_begun nf_climbed nf_seed na_huts na_known na_levels na_snow na_open pa_heard pa_walked u.1 u.2.1 pa_next pa_cover u.2.2.1 u.2.2.2 ko_stands ka_gaps ka_behind ba_less ba_full H) (wxA qx)) 0 0 (wxA qx) := by
  refine Met.ofW (cc := cX10_routes) (maxL := 6) (ret := (some .int)) (by decide) rfl ?_
  intro p e s m args below meth c s₁ B hml hv
  obtain ⟨rfl, hM, hK⟩ := hv
  have zc := zc_of B hml
  have hl := lv_entry ([.ref qx, .int x1, .int x2, .int x3, .int x4]) (n := 6) (Nat.le_of_ble_eq_true rfl)
  rw [lg_entry_eq]
  generalize (lg_sl ([.ref qx, .int x1, .int x2, .int x3, .int x4]) ++ List.replicate (6 - (lg_sl ([.ref qx, .int x1, .int x2, .int x3, .int x4])).length) Slot.unset).toArray = ls at hl ⊢
  have hl : lv_has ls 6 [(0, .ref qx), (1, .int x1), (2, .int x2), (3, .int x3), (4, .int x4)] := hl
  exact t_wx_X10_routes_0 zc hK hM va_S.rf (lv_sub hl [0, 1, 2, 3, 4] rfl) hw
-- wx_X10_mutes
abbrev rm_wx_X10_mutes : Room := { frames := 4, cells := 0, slots := 0, locals := 96 }
def q_wx_X10_mutes_46k1 (ta_counts : Nat → Int32) (tl0f_huts : Int32) (tl0f_dams : Int32) (tl0f_echoes : Int32) (tl0a_heights : Nat → Int32) (tl0a_minutes : Nat → Int32) (tl0a_echoFrom : Nat → Int32) (tl0a_echoTo : Nat → Int32) (tl1f_huts : Int32) (tl1f_dams : Int32) (tl1f_echoes : Int32) (tl1a_heights : Nat → Int32) (tl1a_minutes : Nat → Int32) (tl1a_echoFrom : Nat → Int32) (tl1a_echoTo : Nat → Int32) (pa_next : Nat → Int32) (x2 : Int32) (x3 : Int32) (post : Int32 → (Nat → Int32) → Prop) : Prop :=
  q_wp_X7_link_9_0 pa_next tl1f_huts tl1f_dams tl1f_echoes tl1a_heights tl1a_minutes tl1a_echoFrom tl1a_echoTo (fun pa_next_1 => (¬ x3 = (-1 : Int32) → (q_wp_X7_muted_0 pa_next_1 x2 x3 (fun r_1 => post r_1 pa_next_1))) ∧ (x3 = (-1 : Int32) → (q_wp_X7_worst_9_0 pa_next_1 tl1f_huts tl1f_dams x2 (fun r_2 => post r_2 pa_next_1))))
def q_wx_X10_mutes_46k0 (ta_counts : Nat → Int32) (tl0f_huts : Int32) (tl0f_dams : Int32) (tl0f_echoes : Int32) (tl0a_heights : Nat → Int32) (tl0a_minutes : Nat → Int32) (tl0a_echoFrom : Nat → Int32) (tl0a_echoTo : Nat → Int32) (tl1f_huts : Int32) (tl1f_dams : Int32) (tl1f_echoes : Int32) (tl1a_heights : Nat → Int32) (tl1a_minutes : Nat → Int32) (tl1a_echoFrom : Nat → Int32) (tl1a_echoTo : Nat → Int32) (pa_next : Nat → Int32) (x2 : Int32) (x3 : Int32) (post : Int32 → (Nat → Int32) → Prop) : Prop :=
  q_wp_X7_link_9_0 pa_next tl0f_huts tl0f_dams tl0f_echoes tl0a_heights tl0a_minutes tl0a_echoFrom tl0a_echoTo (fun pa_next_1 => (¬ x3 = (-1 : Int32) → (q_wp_X7_muted_0 pa_next_1 x2 x3 (fun r_1 => post r_1 pa_next_1))) ∧ (x3 = (-1 : Int32) → (q_wp_X7_worst_9_0 pa_next_1 tl0f_huts tl0f_dams x2 (fun r_2 => post r_2 pa_next_1))))
def q_wx_X10_mutes_0 (ta_counts : Nat → Int32) (tl0f_huts : Int32) (tl0f_dams : Int32) (tl0f_echoes : Int32) (tl0a_heights : Nat → Int32) (tl0a_minutes : Nat → Int32) (tl0a_echoFrom : Nat → Int32) (tl0a_echoTo : Nat → Int32) (tl1f_huts : Int32) (tl1f_dams : Int32) (tl1f_echoes : Int32) (tl1a_heights : Nat → Int32) (tl1a_minutes : Nat → Int32) (tl1a_echoFrom : Nat → Int32) (tl1a_echoTo : Nat → Int32) (pa_next : Nat → Int32) (x1 : Int32) (x2 : Int32) (x3 : Int32) (post : Int32 → (Nat → Int32) → Prop) : Prop :=
  q_wx_X10_landAt_0 ta_counts x1 (fun r_1 => (r_1 = 0 → (post (-2 : Int32) pa_next)) ∧ (r_1 = 1 → (q_wl_X2_isOpen_0 tl1f_huts tl1f_dams x2 (fun r_2 => (¬ r_2 = 0 → ((x3 = (-1 : Int32) → (q_wx_X10_mutes_46k1 ta_counts tl0f_huts tl0f_dams tl0f_echoes tl0a_heights tl0a_minutes tl0a_echoFrom tl0a_echoTo tl1f_huts tl1f_dams tl1f_echoes tl1a_heights tl1a_minutes tl1a_echoFrom tl1a_echoTo pa_next x2 x3 post)) ∧ (¬ x3 = (-1 : Int32) → (q_wl_X2_isOpen_0 tl1f_huts tl1f_dams x3 (fun r_3 => (r_3 = 0 → (post (-2 : Int32) pa_next)) ∧ (¬ r_3 = 0 → ((¬ x3 = x2 → (q_wx_X10_mutes_46k1 ta_counts tl0f_huts tl0f_dams tl0f_echoes tl0a_heights tl0a_minutes tl0a_echoFrom tl0a_echoTo tl1f_huts tl1f_dams tl1f_echoes tl1a_heights tl1a_minutes tl1a_echoFrom tl1a_echoTo pa_next x2 x3 post)) ∧ (x3 = x2 → (post (-2 : Int32) pa_next))))))))) ∧ (r_2 = 0 → (post (-2 : Int32) pa_next))))) ∧ (¬ r_1 = 0 → ¬ r_1 = 1 → (q_wl_X2_isOpen_0 tl0f_huts tl0f_dams x2 (fun r_4 => (¬ r_4 = 0 → ((x3 = (-1 : Int32) → (q_wx_X10_mutes_46k0 ta_counts tl0f_huts tl0f_dams tl0f_echoes tl0a_heights tl0a_minutes tl0a_echoFrom tl0a_echoTo tl1f_huts tl1f_dams tl1f_echoes tl1a_heights tl1a_minutes tl1a_echoFrom tl1a_echoTo pa_next x2 x3 post)) ∧ (¬ x3 = (-1 : Int32) → (q_wl_X2_isOpen_0 tl0f_huts tl0f_dams x3 (fun r_5 => (r_5 = 0 → (post (-2 : Int32) pa_next)) ∧ (¬ r_5 = 0 → ((¬ x3 = x2 → (q_wx_X10_mutes_46k0 ta_counts tl0f_huts tl0f_dams tl0f_echoes tl0a_heights tl0a_minutes tl0a_echoFrom tl0a_echoTo tl1f_huts tl1f_dams tl1f_echoes tl1a_heights tl1a_minutes tl1a_echoFrom tl1a_echoTo pa_next x2 x3 post)) ∧ (x3 = x2 → (post (-2 : Int32) pa_next))))))))) ∧ (r_4 = 0 → (post (-2 : Int32) pa_next))))))
set_option maxRecDepth 20000 in
theorem t_wx_X10_mutes_46k1 {p : Program} {l : Launch} {e : Env} {s : State} {m : MethodId} {args : Array Value} {below : List Frame} {meth : Method} {c : Code} {E : zE} {qx : Nat} {ta_tape : Nat → Int32} {tf_length : Int32} {tf_fault : Int32} {tf_place : Int32} {ta_counts : Nat → Int32} {tl0f_huts : Int32} {tl0f_singers : Int32} {tl0f_villages : Int32} {tl0f_dams : Int32} {tl0f_echoes : Int32} {tl0f_deep : Int32} {tl0f_slide : Int32} {tl0a_heights : Nat → Int32} {tl0a_ladders : Nat → Int32} {tl0a_minutes : Nat → Int32} {tl0a_echoFrom : Nat → Int32} {tl0a_echoTo : Nat → Int32} {tl0a_homes : Nat → Int32} {tl0a_talls : Nat → Int32} {tl0a_known : Nat → Int32} {tl1f_huts : Int32} {tl1f_singers : Int32} {tl1f_villages : Int32} {tl1f_dams : Int32} {tl1f_echoes : Int32} {tl1f_deep : Int32} {tl1f_slide : Int32} {tl1a_heights : Nat → Int32} {tl1a_ladders : Nat → Int32} {tl1a_minutes : Nat → Int32} {tl1a_echoFrom : Nat → Int32} {tl1a_echoTo : Nat → Int32} {tl1a_homes : Nat → Int32} {tl1a_talls : Nat → Int32} {tl1a_known : Nat → Int32} {tv0f_deeds : Int32} {tv0a_kinds : Nat → Int32} {tv0a_firsts : Nat → Int32} {tv0a_seconds : Nat → Int32} {tv1f_deeds : Int32} {tv1a_kinds : Nat → Int32} {tv1a_firsts : Nat → Int32} {tv1a_seconds : Nat → Int32} {ts0f_facts : Int32} {ts0a_heard : Nat → Int32} {ts0a_huts : Nat → Int32} {ts0a_minutes : Nat → Int32} {ts1f_facts : Int32} {ts1a_heard : Nat → Int32} {ts1a_huts : Nat → Int32} {ts1a_minutes : Nat → Int32} {tc0f_voices : Int32} {tc0f_step : Int32} {tc0a_parts : Nat → Int32} {tc0a_heights : Nat → Int32} {tc1f_voices : Int32} {tc1f_step : Int32} {tc1a_parts : Nat → Int32} {tc1a_heights : Nat → Int32} {m_images : Nat → Option Nat} {rlf_huts : Int32} {rlf_singers : Int32} {rlf_villages : Int32} {rlf_dams : Int32} {rlf_echoes : Int32} {rlf_deep : Int32} {rlf_slide : Int32} {rla_heights : Nat → Int32} {rla_ladders : Nat → Int32} {rla_minutes : Nat → Int32} {rla_echoFrom : Nat → Int32} {rla_echoTo : Nat → Int32} {rla_homes : Nat → Int32} {rla_talls : Nat → Int32} {rla_known : Nat → Int32} {rvf_deeds : Int32} {rva_kinds : Nat → Int32} {rva_firsts : Nat → Int32} {rva_seconds : Nat → Int32} {rsf_facts : Int32} {rsa_heard : Nat → Int32} {rsa_huts : Nat → Int32} {rsa_minutes : Nat → Int32} {rcf_voices : Int32} {rcf_step : Int32} {rca_parts : Nat → Int32} {rca_heights : Nat → Int32} {rf_fault : Int32} {rf_faultPlace : Int32} {ra_numbers : Nat → Int32} {ra_tape : Nat → Int32} {rf_length : Int32} {rf_behind : Int32} {rf_kind : Int32} {rf_first : Int32} {rf_value : Int32} {rf_hutsToldOf : Int32} {rf_singersToldOf : Int32} {nf_minute : Int32} {nf_avalanches : Int32} {nf_begun : Int32} {nf_climbed : Int32} {nf_seed : Int32} {na_huts : Nat → Int32} {na_known : Nat → Int32} {na_levels : Nat → Int32} {na_snow : Nat → Int32} {na_open : Nat → Int32} {pa_heard : Nat → Int32} {pa_walked : Nat → Int32} {pa_total : Nat → Int32} {pa_longest : Nat → Int32} {pa_next : Nat → Int32} {pa_cover : Nat → Int32} {pa_now : Nat → Int32} {pa_then : Nat → Int32} {ko_stands : Option Nat} {ka_gaps : Nat → Int32} {ka_behind : Nat → Int32} {ba_less : Nat → Int32} {ba_full : Nat → Int32} {post : Int32 → (Nat → Int32) → Prop} {x2 : Int32} {x3 : Int32} {ls : Array Slot} {H : Heap} {locs : List Loc}
    (zc : zC p s m args meth c cX10_mutes 5 RX10 (some .int))
    (hK : zK E s)
    (hM : wxW E qx ta_tape tf_length tf_fault tf_place ta_counts tl0f_huts tl0f_singers tl0f_villages tl0f_dams tl0f_echoes tl0f_deep tl0f_slide tl0a_heights tl0a_ladders tl0a_minutes tl0a_echoFrom tl0a_echoTo tl0a_homes tl0a_talls tl0a_known tl1f_huts tl1f_singers tl1f_villages tl1f_dams tl1f_echoes tl1f_deep tl1f_slide tl1a_heights tl1a_ladders tl1a_minutes tl1a_echoFrom tl1a_echoTo tl1a_homes tl1a_talls tl1a_known tv0f_deeds tv0a_kinds tv0a_firsts tv0a_seconds tv1f_deeds tv1a_kinds tv1a_firsts tv1a_seconds ts0f_facts ts0a_heard ts0a_huts ts0a_minutes ts1f_facts ts1a_heard ts1a_huts ts1a_minutes tc0f_voices tc0f_step tc0a_parts tc0a_heights tc1f_voices tc1f_step tc1a_parts tc1a_heights m_images rlf_huts rlf_singers rlf_villages rlf_dams rlf_echoes rlf_deep rlf_slide rla_heights rla_ladders rla_minutes rla_echoFrom rla_echoTo rla_homes rla_talls rla_known rvf_deeds rva_kinds rva_firsts rva_seconds rsf_facts rsa_heard rsa_huts rsa_minutes rcf_voices rcf_step rca_parts rca_heights rf_fault rf_faultPlace ra_numbers ra_tape rf_length rf_behind rf_kind rf_first rf_value rf_hutsToldOf rf_singersToldOf nf_minute nf_avalanches nf_begun nf_climbed nf_seed na_huts na_known na_levels na_snow na_open pa_heard pa_walked pa_total pa_longest pa_next pa_cover pa_now pa_then ko_stands ka_gaps ka_behind ba_less ba_full H)
    (hS : va_S (wxA qx) s.heap H locs)
    (hl : lv_has ls 5 [(0, .ref qx), (2, .int x2), (3, .int x3), (4, .ref (qx + 14))])
    (hw : q_wx_X10_mutes_46k1 ta_counts tl0f_huts tl0f_dams tl0f_echoes tl0a_heights tl0a_minutes tl0a_echoFrom tl0a_echoTo tl1f_huts tl1f_dams tl1f_echoes tl1a_heights tl1a_minutes tl1a_echoFrom tl1a_echoTo pa_next x2 x3 post) :
    W p l e rm_wx_X10_mutes s m args below meth c H locs 0 0 (MQ below (zQi (S := (Nat → Int32)) (fun r u => post r u) (fun u H => wxW E qx ta_tape tf_length tf_fault tf_place ta_counts tl0f_huts tl0f_singers tl0f_villages tl0f_dams tl0f_echoes tl0f_deep tl0f_slide tl0a_heights tl0a_ladders tl0a_minutes tl0a_echoFrom tl0a_echoTo tl0a_homes tl0a_talls tl0a_known tl1f_huts tl1f_singers tl1f_villages tl1f_dams tl1f_echoes tl1f_deep tl1f_slide tl1a_heights tl1a_ladders tl1a_minutes tl1a_echoFrom tl1a_echoTo tl1a_homes tl1a_talls tl1a_known tv0f_deeds tv0a_kinds tv0a_firsts tv0a_seconds tv1f_deeds tv1a_kinds tv1a_firsts tv1a_seconds ts0f_facts ts0a_heard ts0a_huts ts0a_minutes ts1f_facts ts1a_heard ts1a_huts ts1a_minutes tc0f_voices tc0f_step tc0a_parts tc0a_heights tc1f_voices tc1f_step tc1a_parts tc1a_heights m_images rlf_huts rlf_singers rlf_villages rlf_dams rlf_echoes rlf_deep rlf_slide rla_heights rla_ladders rla_minutes rla_echoFrom rla_echoTo rla_homes rla_talls rla_known rvf_deeds rva_kinds rva_firsts rva_seconds rsf_facts rsa_heard rsa_huts rsa_minutes rcf_voices rcf_step rca_parts rca_heights rf_fault rf_faultPlace ra_numbers ra_tape rf_length rf_behind rf_kind rf_first rf_value rf_hutsToldOf rf_singersToldOf nf_minute nf_avalanches nf_begun nf_climbed nf_seed na_huts na_known na_levels na_snow na_open pa_heard pa_walked pa_total pa_longest u pa_cover pa_now pa_then ko_stands ka_gaps ka_behind ba_less ba_full H) (wxA qx)) args s 0 0 (wxA qx)) (F0 m 46 ls []) := by
  have hx := zc.1
  have hb := zc.2.1
  refine lv_aload_n hx hb dX10_mutes_46 rfl (lv_at hl 0 rfl) ?_
  refine wxg_10_37_0 zc hK hM dX10_mutes_47 ?_
  refine lv_aload hx hb dX10_mutes_50 (lv_at hl 3 rfl) ?_
  refine zVx_v [.ref (qx + 14)] [] zc ky_X7_link kz_X7_link km_10_179 (c_wp_X7_link_9 l hw) (wpPreV0 hK (pj_wx_wp_78_14_33 hM)) hS (sb_wx_wp_78_14_33) rfl rfl hl.1 (Nat.le_of_ble_eq_true rfl) ⟨rfl, rfl⟩ ⟨Nat.le_of_ble_eq_true rfl, Nat.le_of_ble_eq_true rfl⟩ ⟨(Nat.zero_le _), (Nat.zero_le _)⟩ dX10_mutes_52 (fun pa_next_1 H1 locs1 hw hM1 hk hS => ?_)
  have hM := jn_wx_wp_78_14_33 hM hM1 hk
  refine lv_iload_n hx hb dX10_mutes_55 rfl (lv_at hl 2 rfl) ?_
  refine lv_iconst (v := (-1 : Int32)) hx hb dX10_mutes_56 (by decide) ?_
  refine lv_icmp_ne (tgt := 73) hx hb dX10_mutes_57 (by decide) (fun hc => ?_) (fun hc => ?_)
  · have hw := hw.1 hc
    refine lv_aload_n hx hb dX10_mutes_73 rfl (lv_at hl 0 rfl) ?_
    refine wxg_10_37_0 zc hK hM dX10_mutes_74 ?_
    refine lv_iload_n hx hb dX10_mutes_77 rfl (lv_at hl 1 rfl) ?_
    refine lv_iload_n hx hb dX10_mutes_78 rfl (lv_at hl 2 rfl) ?_
    refine zV_i [.int x2, .int x3] [] zc ky_X7_muted kz_X7_muted km_10_185 (c_wp_X7_muted l hw) (wpPreV0 hK (pj_wx_wp_78_5_33 hM)) rfl rfl hl.1 (Nat.le_of_ble_eq_true rfl) ⟨rfl, rfl⟩ ⟨Nat.le_of_ble_eq_true rfl, Nat.le_of_ble_eq_true rfl⟩ ⟨(Nat.zero_le _), (Nat.zero_le _)⟩ dX10_mutes_79 (fun r_1 hw => ?_)
    exact zret_iw pa_next_1 zc hS hw hM dX10_mutes_82
  · have hw := hw.2 hc
    refine lv_aload_n hx hb dX10_mutes_60 rfl (lv_at hl 0 rfl) ?_
    refine wxg_10_37_0 zc hK hM dX10_mutes_61 ?_
    refine lv_aload hx hb dX10_mutes_64 (lv_at hl 3 rfl) ?_
    refine lv_iload_n hx hb dX10_mutes_66 rfl (lv_at hl 1 rfl) ?_
    refine zV_i [.ref (qx + 14), .int x2] [] zc ky_X7_worst kz_X7_worst km_10_182 (c_wp_X7_worst_9 l hw) (wpPreV0 hK (pj_wx_wp_78_14_33 hM)) rfl rfl hl.1 (Nat.le_of_ble_eq_true rfl) ⟨rfl, rfl⟩ ⟨Nat.le_of_ble_eq_true rfl, Nat.le_of_ble_eq_true rfl⟩ ⟨(Nat.zero_le _), (Nat.zero_le _)⟩ dX10_mutes_67 (fun r_2 hw => ?_)
    refine lv_goto (tgt := 82) hx hb dX10_mutes_70 (by decide) ?_
    exact zret_iw pa_next_1 zc hS hw hM dX10_mutes_82
set_option maxRecDepth 20000 in
theorem t_wx_X10_mutes_46k0 {p : Program} {l : Launch} {e : Env} {s : State} {m : MethodId} {args : Array Value} {below : List Frame} {meth : Method} {c : Code} {E : zE} {qx : Nat} {ta_tape : Nat → Int32} {tf_length : Int32} {tf_fault : Int32} {tf_place : Int32} {ta_counts : Nat → Int32} {tl0f_huts : Int32} {tl0f_singers : Int32} {tl0f_villages : Int32} {tl0f_dams : Int32} {tl0f_echoes : Int32} {tl0f_deep : Int32} {tl0f_slide : Int32} {tl0a_heights : Nat → Int32} {tl0a_ladders : Nat → Int32} {tl0a_minutes : Nat → Int32} {tl0a_echoFrom : Nat → Int32} {tl0a_echoTo : Nat → Int32} {tl0a_homes : Nat → Int32} {tl0a_talls : Nat → Int32} {tl0a_known : Nat → Int32} {tl1f_huts : Int32} {tl1f_singers : Int32} {tl1f_villages : Int32} {tl1f_dams : Int32} {tl1f_echoes : Int32} {tl1f_deep : Int32} {tl1f_slide : Int32} {tl1a_heights : Nat → Int32} {tl1a_ladders : Nat → Int32} {tl1a_minutes : Nat → Int32} {tl1a_echoFrom : Nat → Int32} {tl1a_echoTo : Nat → Int32} {tl1a_homes : Nat → Int32} {tl1a_talls : Nat → Int32} {tl1a_known : Nat → Int32} {tv0f_deeds : Int32} {tv0a_kinds : Nat → Int32} {tv0a_firsts : Nat → Int32} {tv0a_seconds : Nat → Int32} {tv1f_deeds : Int32} {tv1a_kinds : Nat → Int32} {tv1a_firsts : Nat → Int32} {tv1a_seconds : Nat → Int32} {ts0f_facts : Int32} {ts0a_heard : Nat → Int32} {ts0a_huts : Nat → Int32} {ts0a_minutes : Nat → Int32} {ts1f_facts : Int32} {ts1a_heard : Nat → Int32} {ts1a_huts : Nat → Int32} {ts1a_minutes : Nat → Int32} {tc0f_voices : Int32} {tc0f_step : Int32} {tc0a_parts : Nat → Int32} {tc0a_heights : Nat → Int32} {tc1f_voices : Int32} {tc1f_step : Int32} {tc1a_parts : Nat → Int32} {tc1a_heights : Nat → Int32} {m_images : Nat → Option Nat} {rlf_huts : Int32} {rlf_singers : Int32} {rlf_villages : Int32} {rlf_dams : Int32} {rlf_echoes : Int32} {rlf_deep : Int32} {rlf_slide : Int32} {rla_heights : Nat → Int32} {rla_ladders : Nat → Int32} {rla_minutes : Nat → Int32} {rla_echoFrom : Nat → Int32} {rla_echoTo : Nat → Int32} {rla_homes : Nat → Int32} {rla_talls : Nat → Int32} {rla_known : Nat → Int32} {rvf_deeds : Int32} {rva_kinds : Nat → Int32} {rva_firsts : Nat → Int32} {rva_seconds : Nat → Int32} {rsf_facts : Int32} {rsa_heard : Nat → Int32} {rsa_huts : Nat → Int32} {rsa_minutes : Nat → Int32} {rcf_voices : Int32} {rcf_step : Int32} {rca_parts : Nat → Int32} {rca_heights : Nat → Int32} {rf_fault : Int32} {rf_faultPlace : Int32} {ra_numbers : Nat → Int32} {ra_tape : Nat → Int32} {rf_length : Int32} {rf_behind : Int32} {rf_kind : Int32} {rf_first : Int32} {rf_value : Int32} {rf_hutsToldOf : Int32} {rf_singersToldOf : Int32} {nf_minute : Int32} {nf_avalanches : Int32} {nf_begun : Int32} {nf_climbed : Int32} {nf_seed : Int32} {na_huts : Nat → Int32} {na_known : Nat → Int32} {na_levels : Nat → Int32} {na_snow : Nat → Int32} {na_open : Nat → Int32} {pa_heard : Nat → Int32} {pa_walked : Nat → Int32} {pa_total : Nat → Int32} {pa_longest : Nat → Int32} {pa_next : Nat → Int32} {pa_cover : Nat → Int32} {pa_now : Nat → Int32} {pa_then : Nat → Int32} {ko_stands : Option Nat} {ka_gaps : Nat → Int32} {ka_behind : Nat → Int32} {ba_less : Nat → Int32} {ba_full : Nat → Int32} {post : Int32 → (Nat → Int32) → Prop} {x2 : Int32} {x3 : Int32} {ls : Array Slot} {H : Heap} {locs : List Loc}
    (zc : zC p s m args meth c cX10_mutes 5 RX10 (some .int))
    (hK : zK E s)
    (hM : wxW E qx ta_tape tf_length tf_fault tf_place ta_counts tl0f_huts tl0f_singers tl0f_villages tl0f_dams tl0f_echoes tl0f_deep tl0f_slide tl0a_heights tl0a_ladders tl0a_minutes tl0a_echoFrom tl0a_echoTo tl0a_homes tl0a_talls tl0a_known tl1f_huts tl1f_singers tl1f_villages tl1f_dams tl1f_echoes tl1f_deep tl1f_slide tl1a_heights tl1a_ladders tl1a_minutes tl1a_echoFrom tl1a_echoTo tl1a_homes tl1a_talls tl1a_known tv0f_deeds tv0a_kinds tv0a_firsts tv0a_seconds tv1f_deeds tv1a_kinds tv1a_firsts tv1a_seconds ts0f_facts ts0a_heard ts0a_huts ts0a_minutes ts1f_facts ts1a_heard ts1a_huts ts1a_minutes tc0f_voices tc0f_step tc0a_parts tc0a_heights tc1f_voices tc1f_step tc1a_parts tc1a_heights m_images rlf_huts rlf_singers rlf_villages rlf_dams rlf_echoes rlf_deep rlf_slide rla_heights rla_ladders rla_minutes rla_echoFrom rla_echoTo rla_homes rla_talls rla_known rvf_deeds rva_kinds rva_firsts rva_seconds rsf_facts rsa_heard rsa_huts rsa_minutes rcf_voices rcf_step rca_parts rca_heights rf_fault rf_faultPlace ra_numbers ra_tape rf_length rf_behind rf_kind rf_first rf_value rf_hutsToldOf rf_singersToldOf nf_minute nf_avalanches nf_begun nf_climbed nf_seed na_huts na_known na_levels na_snow na_open pa_heard pa_walked pa_total pa_longest pa_next pa_cover pa_now pa_then ko_stands ka_gaps ka_behind ba_less ba_full H)
    (hS : va_S (wxA qx) s.heap H locs)
    (hl : lv_has ls 5 [(0, .ref qx), (2, .int x2), (3, .int x3), (4, .ref (qx + 5))])
    (hw : q_wx_X10_mutes_46k0 ta_counts tl0f_huts tl0f_dams tl0f_echoes tl0a_heights tl0a_minutes tl0a_echoFrom tl0a_echoTo tl1f_huts tl1f_dams tl1f_echoes tl1a_heights tl1a_minutes tl1a_echoFrom tl1a_echoTo pa_next x2 x3 post) :
    W p l e rm_wx_X10_mutes s m args below meth c H locs 0 0 (MQ below (zQi (S := (Nat → Int32)) (fun r u => post r u) (fun u H => wxW E qx ta_tape tf_length tf_fault tf_place ta_counts tl0f_huts tl0f_singers tl0f_villages tl0f_dams tl0f_echoes tl0f_deep tl0f_slide tl0a_heights tl0a_ladders tl0a_minutes tl0a_echoFrom tl0a_echoTo tl0a_homes tl0a_talls tl0a_known tl1f_huts tl1f_singers tl1f_villages tl1f_dams tl1f_echoes tl1f_deep tl1f_slide tl1a_heights tl1a_ladders tl1a_minutes tl1a_echoFrom tl1a_echoTo tl1a_homes tl1a_talls tl1a_known tv0f_deeds tv0a_kinds tv0a_firsts tv0a_seconds tv1f_deeds tv1a_kinds tv1a_firsts tv1a_seconds ts0f_facts ts0a_heard ts0a_huts ts0a_minutes ts1f_facts ts1a_heard ts1a_huts ts1a_minutes tc0f_voices tc0f_step tc0a_parts tc0a_heights tc1f_voices tc1f_step tc1a_parts tc1a_heights m_images rlf_huts rlf_singers rlf_villages rlf_dams rlf_echoes rlf_deep rlf_slide rla_heights rla_ladders rla_minutes rla_echoFrom rla_echoTo rla_homes rla_talls rla_known rvf_deeds rva_kinds rva_firsts rva_seconds rsf_facts rsa_heard rsa_huts rsa_minutes rcf_voices rcf_step rca_parts rca_heights rf_fault rf_faultPlace ra_numbers ra_tape rf_length rf_behind rf_kind rf_first rf_value rf_hutsToldOf rf_singersToldOf nf_minute nf_avalanches nf_begun nf_climbed nf_seed na_huts na_known na_levels na_snow na_open pa_heard pa_walked pa_total pa_longest u pa_cover pa_now pa_then ko_stands ka_gaps ka_behind ba_less ba_full H) (wxA qx)) args s 0 0 (wxA qx)) (F0 m 46 ls []) := by
  have hx := zc.1
  have hb := zc.2.1
  refine lv_aload_n hx hb dX10_mutes_46 rfl (lv_at hl 0 rfl) ?_
  refine wxg_10_37_0 zc hK hM dX10_mutes_47 ?_
  refine lv_aload hx hb dX10_mutes_50 (lv_at hl 3 rfl) ?_
  refine zVx_v [.ref (qx + 5)] [] zc ky_X7_link kz_X7_link km_10_179 (c_wp_X7_link_9 l hw) (wpPreV0 hK (pj_wx_wp_78_5_33 hM)) hS (sb_wx_wp_78_5_33) rfl rfl hl.1 (Nat.le_of_ble_eq_true rfl) ⟨rfl, rfl⟩ ⟨Nat.le_of_ble_eq_true rfl, Nat.le_of_ble_eq_true rfl⟩ ⟨(Nat.zero_le _), (Nat.zero_le _)⟩ dX10_mutes_52 (fun pa_next_1 H1 locs1 hw hM1 hk hS => ?_)
  have hM := jn_wx_wp_78_5_33 hM hM1 hk
  refine lv_iload_n hx hb dX10_mutes_55 rfl (lv_at hl 2 rfl) ?_
  refine lv_iconst (v := (-1 : Int32)) hx hb dX10_mutes_56 (by decide) ?_
  refine lv_icmp_ne (tgt := 73) hx hb dX10_mutes_57 (by decide) (fun hc => ?_) (fun hc => ?_)
  · have hw := hw.1 hc
    refine lv_aload_n hx hb dX10_mutes_73 rfl (lv_at hl 0 rfl) ?_
    refine wxg_10_37_0 zc hK hM dX10_mutes_74 ?_
    refine lv_iload_n hx hb dX10_mutes_77 rfl (lv_at hl 1 rfl) ?_
    refine lv_iload_n hx hb dX10_mutes_78 rfl (lv_at hl 2 rfl) ?_
    refine zV_i [.int x2, .int x3] [] zc ky_X7_muted kz_X7_muted km_10_185 (c_wp_X7_muted l hw) (wpPreV0 hK (pj_wx_wp_78_5_33 hM)) rfl rfl hl.1 (Nat.le_of_ble_eq_true rfl) ⟨rfl, rfl⟩ ⟨Nat.le_of_ble_eq_true rfl, Nat.le_of_ble_eq_true rfl⟩ ⟨(Nat.zero_le _), (Nat.zero_le _)⟩ dX10_mutes_79 (fun r_1 hw => ?_)
    exact zret_iw pa_next_1 zc hS hw hM dX10_mutes_82
  · have hw := hw.2 hc
    refine lv_aload_n hx hb dX10_mutes_60 rfl (lv_at hl 0 rfl) ?_
    refine wxg_10_37_0 zc hK hM dX10_mutes_61 ?_
    refine lv_aload hx hb dX10_mutes_64 (lv_at hl 3 rfl) ?_
    refine lv_iload_n hx hb dX10_mutes_66 rfl (lv_at hl 1 rfl) ?_
    refine zV_i [.ref (qx + 5), .int x2] [] zc ky_X7_worst kz_X7_worst km_10_182 (c_wp_X7_worst_9 l hw) (wpPreV0 hK (pj_wx_wp_78_5_33 hM)) rfl rfl hl.1 (Nat.le_of_ble_eq_true rfl) ⟨rfl, rfl⟩ ⟨Nat.le_of_ble_eq_true rfl, Nat.le_of_ble_eq_true rfl⟩ ⟨(Nat.zero_le _), (Nat.zero_le _)⟩ dX10_mutes_67 (fun r_2 hw => ?_)
    refine lv_goto (tgt := 82) hx hb dX10_mutes_70 (by decide) ?_
    exact zret_iw pa_next_1 zc hS hw hM dX10_mutes_82
set_option maxRecDepth 20000 in
theorem t_wx_X10_mutes_0 {p : Program} {l : Launch} {e : Env} {s : State} {m : MethodId} {args : Array Value} {below : List Frame} {meth : Method} {c : Code} {E : zE} {qx : Nat} {ta_tape : Nat → Int32} {tf_length : Int32} {tf_fault : Int32} {tf_place : Int32} {ta_counts : Nat → Int32} {tl0f_huts : Int32} {tl0f_singers : Int32} {tl0f_villages : Int32} {tl0f_dams : Int32} {tl0f_echoes : Int32} {tl0f_deep : Int32} {tl0f_slide : Int32} {tl0a_heights : Nat → Int32} {tl0a_ladders : Nat → Int32} {tl0a_minutes : Nat → Int32} {tl0a_echoFrom : Nat → Int32} {tl0a_echoTo : Nat → Int32} {tl0a_homes : Nat → Int32} {tl0a_talls : Nat → Int32} {tl0a_known : Nat → Int32} {tl1f_huts : Int32} {tl1f_singers : Int32} {tl1f_villages : Int32} {tl1f_dams : Int32} {tl1f_echoes : Int32} {tl1f_deep : Int32} {tl1f_slide : Int32} {tl1a_heights : Nat → Int32} {tl1a_ladders : Nat → Int32} {tl1a_minutes : Nat → Int32} {tl1a_echoFrom : Nat → Int32} {tl1a_echoTo : Nat → Int32} {tl1a_homes : Nat → Int32} {tl1a_talls : Nat → Int32} {tl1a_known : Nat → Int32} {tv0f_deeds : Int32} {tv0a_kinds : Nat → Int32} {tv0a_firsts : Nat → Int32} {tv0a_seconds : Nat → Int32} {tv1f_deeds : Int32} {tv1a_kinds : Nat → Int32} {tv1a_firsts : Nat → Int32} {tv1a_seconds : Nat → Int32} {ts0f_facts : Int32} {ts0a_heard : Nat → Int32} {ts0a_huts : Nat → Int32} {ts0a_minutes : Nat → Int32} {ts1f_facts : Int32} {ts1a_heard : Nat → Int32} {ts1a_huts : Nat → Int32} {ts1a_minutes : Nat → Int32} {tc0f_voices : Int32} {tc0f_step : Int32} {tc0a_parts : Nat → Int32} {tc0a_heights : Nat → Int32} {tc1f_voices : Int32} {tc1f_step : Int32} {tc1a_parts : Nat → Int32} {tc1a_heights : Nat → Int32} {m_images : Nat → Option Nat} {rlf_huts : Int32} {rlf_singers : Int32} {rlf_villages : Int32} {rlf_dams : Int32} {rlf_echoes : Int32} {rlf_deep : Int32} {rlf_slide : Int32} {rla_heights : Nat → Int32} {rla_ladders : Nat → Int32} {rla_minutes : Nat → Int32} {rla_echoFrom : Nat → Int32} {rla_echoTo : Nat → Int32} {rla_homes : Nat → Int32} {rla_talls : Nat → Int32} {rla_known : Nat → Int32} {rvf_deeds : Int32} {rva_kinds : Nat → Int32} {rva_firsts : Nat → Int32} {rva_seconds : Nat → Int32} {rsf_facts : Int32} {rsa_heard : Nat → Int32} {rsa_huts : Nat → Int32} {rsa_minutes : Nat → Int32} {rcf_voices : Int32} {rcf_step : Int32} {rca_parts : Nat → Int32} {rca_heights : Nat → Int32} {rf_fault : Int32} {rf_faultPlace : Int32} {ra_numbers : Nat → Int32} {ra_tape : Nat → Int32} {rf_length : Int32} {rf_behind : Int32} {rf_kind : Int32} {rf_first : Int32} {rf_value : Int32} {rf_hutsToldOf : Int32} {rf_singersToldOf : Int32} {nf_minute : Int32} {nf_avalanches : Int32} {nf_begun : Int32} {nf_climbed : Int32} {nf_seed : Int32} {na_huts : Nat → Int32} {na_known : Nat → Int32} {na_levels : Nat → Int32} {na_snow : Nat → Int32} {na_open : Nat → Int32} {pa_heard : Nat → Int32} {pa_walked : Nat → Int32} {pa_total : Nat → Int32} {pa_longest : Nat → Int32} {pa_next : Nat → Int32} {pa_cover : Nat → Int32} {pa_now : Nat → Int32} {pa_then : Nat → Int32} {ko_stands : Option Nat} {ka_gaps : Nat → Int32} {ka_behind : Nat → Int32} {ba_less : Nat → Int32} {ba_full : Nat → Int32} {post : Int32 → (Nat → Int32) → Prop} {x1 : Int32} {x2 : Int32} {x3 : Int32} {ls : Array Slot} {H : Heap} {locs : List Loc}
    (zc : zC p s m args meth c cX10_mutes 5 RX10 (some .int))
    (hK : zK E s)
    (hM : wxW E qx ta_tape tf_length tf_fault tf_place ta_counts tl0f_huts tl0f_singers tl0f_villages tl0f_dams tl0f_echoes tl0f_deep tl0f_slide tl0a_heights tl0a_ladders tl0a_minutes tl0a_echoFrom tl0a_echoTo tl0a_homes tl0a_talls tl0a_known tl1f_huts tl1f_singers tl1f_villages tl1f_dams tl1f_echoes tl1f_deep tl1f_slide tl1a_heights tl1a_ladders tl1a_minutes tl1a_echoFrom tl1a_echoTo tl1a_homes tl1a_talls tl1a_known tv0f_deeds tv0a_kinds tv0a_firsts tv0a_seconds tv1f_deeds tv1a_kinds tv1a_firsts tv1a_seconds ts0f_facts ts0a_heard ts0a_huts ts0a_minutes ts1f_facts ts1a_heard ts1a_huts ts1a_minutes tc0f_voices tc0f_step tc0a_parts tc0a_heights tc1f_voices tc1f_step tc1a_parts tc1a_heights m_images rlf_huts rlf_singers rlf_villages rlf_dams rlf_echoes rlf_deep rlf_slide rla_heights rla_ladders rla_minutes rla_echoFrom rla_echoTo rla_homes rla_talls rla_known rvf_deeds rva_kinds rva_firsts rva_seconds rsf_facts rsa_heard rsa_huts rsa_minutes rcf_voices rcf_step rca_parts rca_heights rf_fault rf_faultPlace ra_numbers ra_tape rf_length rf_behind rf_kind rf_first rf_value rf_hutsToldOf rf_singersToldOf nf_minute nf_avalanches nf_begun nf_climbed nf_seed na_huts na_known na_levels na_snow na_open pa_heard pa_walked pa_total pa_longest pa_next pa_cover pa_now pa_then ko_stands ka_gaps ka_behind ba_less ba_full H)
    (hS : va_S (wxA qx) s.heap H locs)
    (hl : lv_has ls 5 [(0, .ref qx), (1, .int x1), (2, .int x2), (3, .int x3)])
    (hw : q_wx_X10_mutes_0 ta_counts tl0f_huts tl0f_dams tl0f_echoes tl0a_heights tl0a_minutes tl0a_echoFrom tl0a_echoTo tl1f_huts tl1f_dams tl1f_echoes tl1a_heights tl1a_minutes tl1a_echoFrom tl1a_echoTo pa_next x1 x2 x3 post) :
    W p l e rm_wx_X10_mutes s m args below meth c H locs 0 0 (MQ below (zQi (S := (Nat → Int32)) (fun r u => post r u) (fun u H => wxW E qx ta_tape tf_length tf_fault tf_place ta_counts tl0f_huts tl0f_singers tl0f_villages tl0f_dams tl0f_echoes tl0f_deep tl0f_slide tl0a_heights tl0a_ladders tl0a_minutes tl0a_echoFrom tl0a_echoTo tl0a_homes tl0a_talls tl0a_known tl1f_huts tl1f_singers tl1f_villages tl1f_dams tl1f_echoes tl1f_deep tl1f_slide tl1a_heights tl1a_ladders tl1a_minutes tl1a_echoFrom tl1a_echoTo tl1a_homes tl1a_talls tl1a_known tv0f_deeds tv0a_kinds tv0a_firsts tv0a_seconds tv1f_deeds tv1a_kinds tv1a_firsts tv1a_seconds ts0f_facts ts0a_heard ts0a_huts ts0a_minutes ts1f_facts ts1a_heard ts1a_huts ts1a_minutes tc0f_voices tc0f_step tc0a_parts tc0a_heights tc1f_voices tc1f_step tc1a_parts tc1a_heights m_images rlf_huts rlf_singers rlf_villages rlf_dams rlf_echoes rlf_deep rlf_slide rla_heights rla_ladders rla_minutes rla_echoFrom rla_echoTo rla_homes rla_talls rla_known rvf_deeds rva_kinds rva_firsts rva_seconds rsf_facts rsa_heard rsa_huts rsa_minutes rcf_voices rcf_step rca_parts rca_heights rf_fault rf_faultPlace ra_numbers ra_tape rf_length rf_behind rf_kind rf_first rf_value rf_hutsToldOf rf_singersToldOf nf_minute nf_avalanches nf_begun nf_climbed nf_seed na_huts na_known na_levels na_snow na_open pa_heard pa_walked pa_total pa_longest u pa_cover pa_now pa_then ko_stands ka_gaps ka_behind ba_less ba_full H) (wxA qx)) args s 0 0 (wxA qx)) (F0 m 0 ls []) := by
  have hx := zc.1
  have hb := zc.2.1
  refine lv_aload_n hx hb dX10_mutes_0 rfl (lv_at hl 0 rfl) ?_
  refine lv_iload_n hx hb dX10_mutes_1 rfl (lv_at hl 1 rfl) ?_
  refine zV_r [.int x1] [] zc ky_X10_landAt kz_X10_landAt km_10_89 (c_wx_X10_landAt l hw) (wxPreV0 hK hM) rfl rfl hl.1 (Nat.le_of_ble_eq_true rfl) ⟨rfl, rfl⟩ ⟨Nat.le_of_ble_eq_true rfl, Nat.le_of_ble_eq_true rfl⟩ ⟨(Nat.zero_le _), (Nat.zero_le _)⟩ dX10_mutes_2 (fun r_1 hw => ?_)
  by_cases hc0 : r_1 = 0
  · have hw := hw.1 hc0
    refine W.eq (g2 := F0 m 5 ls (.null :: [])) (by simp [hc0]) ?_
    refine lv_astoreN (lv' := [(4, .null), (0, .ref qx), (1, .int x1), (2, .int x2), (3, .int x3)]) hx hb dX10_mutes_5 hl (by decide) rfl (fun ls hl => ?_)
    refine lv_aloadN hx hb dX10_mutes_7 (lv_at hl 0 rfl) ?_
    refine lv_ifnullN (tgt := 21) hx hb dX10_mutes_9 (by decide) ?_
    refine lv_bipush (v := (-2 : Int32)) hx hb dX10_mutes_21 (by decide) ?_
    exact zret_iw pa_next zc hS hw hM dX10_mutes_23
  by_cases hc1 : r_1 = 1
  · have hw := hw.2.1 hc1
    refine W.eq (g2 := F0 m 5 ls (.ref (qx + 14) :: [])) (by simp [hc0, hc1]) ?_
    refine lv_astore (lv' := [(4, .ref (qx + 14)), (0, .ref qx), (1, .int x1), (2, .int x2), (3, .int x3)]) hx hb dX10_mutes_5 hl (by decide) rfl (fun ls hl => ?_)
    refine lv_aload hx hb dX10_mutes_7 (lv_at hl 0 rfl) ?_
    refine lv_ifnull hx hb dX10_mutes_9 ?_
    refine lv_aload hx hb dX10_mutes_12 (lv_at hl 0 rfl) ?_
    refine lv_iload_n hx hb dX10_mutes_14 rfl (lv_at hl 3 rfl) ?_
    refine zV_i [.int x2] [] zc ky_X2_isOpen kz_X2_isOpen km_10_176 (c_wl_X2_isOpen l hw) (wlPreV0 hK (pj_wx_wl_14 hM)) rfl rfl hl.1 (Nat.le_of_ble_eq_true rfl) ⟨rfl, rfl⟩ ⟨Nat.le_of_ble_eq_true rfl, Nat.le_of_ble_eq_true rfl⟩ ⟨(Nat.zero_le _), (Nat.zero_le _)⟩ dX10_mutes_15 (fun r_2 hw => ?_)
    refine lv_if_ne (tgt := 24) hx hb dX10_mutes_18 (by decide) (fun hc => ?_) (fun hc => ?_)
    · have hw := hw.1 hc
      refine lv_iload_n hx hb dX10_mutes_24 rfl (lv_at hl 4 rfl) ?_
      refine lv_iconst (v := (-1 : Int32)) hx hb dX10_mutes_25 (by decide) ?_
      refine lv_icmp_eq (tgt := 46) hx hb dX10_mutes_26 (by decide) (fun hc => ?_) (fun hc => ?_)
      · have hw := hw.1 hc
        exact t_wx_X10_mutes_46k1 zc hK hM hS  (lv_sub hl [1, 3, 4, 0] rfl) hw
      · have hw := hw.2 hc
        refine lv_aload hx hb dX10_mutes_29 (lv_at hl 0 rfl) ?_
        refine lv_iload_n hx hb dX10_mutes_31 rfl (lv_at hl 4 rfl) ?_
        refine zV_i [.int x3] [] zc ky_X2_isOpen kz_X2_isOpen km_10_176 (c_wl_X2_isOpen l hw) (wlPreV0 hK (pj_wx_wl_14 hM)) rfl rfl hl.1 (Nat.le_of_ble_eq_true rfl) ⟨rfl, rfl⟩ ⟨Nat.le_of_ble_eq_true rfl, Nat.le_of_ble_eq_true rfl⟩ ⟨(Nat.zero_le _), (Nat.zero_le _)⟩ dX10_mutes_32 (fun r_3 hw => ?_)
        refine lv_if_eq (tgt := 43) hx hb dX10_mutes_35 (by decide) (fun hc => ?_) (fun hc => ?_)
        · have hw := hw.1 hc
          refine lv_bipush (v := (-2 : Int32)) hx hb dX10_mutes_43 (by decide) ?_
          exact zret_iw pa_next zc hS hw hM dX10_mutes_45
        · have hw := hw.2 hc
          refine lv_iload_n hx hb dX10_mutes_38 rfl (lv_at hl 4 rfl) ?_
          refine lv_iload_n hx hb dX10_mutes_39 rfl (lv_at hl 3 rfl) ?_
          refine lv_icmp_ne (tgt := 46) hx hb dX10_mutes_40 (by decide) (fun hc => ?_) (fun hc => ?_)
          · have hw := hw.1 hc
            exact t_wx_X10_mutes_46k1 zc hK hM hS  (lv_sub hl [1, 3, 4, 0] rfl) hw
          · have hw := hw.2 hc
            refine lv_bipush (v := (-2 : Int32)) hx hb dX10_mutes_43 (by decide) ?_
            exact zret_iw pa_next zc hS hw hM dX10_mutes_45
    · have hw := hw.2 hc
      refine lv_bipush (v := (-2 : Int32)) hx hb dX10_mutes_21 (by decide) ?_
      exact zret_iw pa_next zc hS hw hM dX10_mutes_23
  have hw := hw.2.2 hc0 hc1
  refine W.eq (g2 := F0 m 5 ls (.ref (qx + 5) :: [])) (by simp [hc0, hc1]) ?_
  refine lv_astore (lv' := [(4, .ref (qx + 5)), (0, .ref qx), (1, .int x1), (2, .int x2), (3, .int x3)]) hx hb dX10_mutes_5 hl (by decide) rfl (fun ls hl => ?_)
  refine lv_aload hx hb dX10_mutes_7 (lv_at hl 0 rfl) ?_
  refine lv_ifnull hx hb dX10_mutes_9 ?_
  refine lv_aload hx hb dX10_mutes_12 (lv_at hl 0 rfl) ?_
  refine lv_iload_n hx hb dX10_mutes_14 rfl (lv_at hl 3 rfl) ?_
  refine zV_i [.int x2] [] zc ky_X2_isOpen kz_X2_isOpen km_10_176 (c_wl_X2_isOpen l hw) (wlPreV0 hK (pj_wx_wl_5 hM)) rfl rfl hl.1 (Nat.le_of_ble_eq_true rfl) ⟨rfl, rfl⟩ ⟨Nat.le_of_ble_eq_true rfl, Nat.le_of_ble_eq_true rfl⟩ ⟨(Nat.zero_le _), (Nat.zero_le _)⟩ dX10_mutes_15 (fun r_4 hw => ?_)
  refine lv_if_ne (tgt := 24) hx hb dX10_mutes_18 (by decide) (fun hc => ?_) (fun hc => ?_)
  · have hw := hw.1 hc
    refine lv_iload_n hx hb dX10_mutes_24 rfl (lv_at hl 4 rfl) ?_
    refine lv_iconst (v := (-1 : Int32)) hx hb dX10_mutes_25 (by decide) ?_
    refine lv_icmp_eq (tgt := 46) hx hb dX10_mutes_26 (by decide) (fun hc => ?_) (fun hc => ?_)
    · have hw := hw.1 hc
      exact t_wx_X10_mutes_46k0 zc hK hM hS  (lv_sub hl [1, 3, 4, 0] rfl) hw
    · have hw := hw.2 hc
      refine lv_aload hx hb dX10_mutes_29 (lv_at hl 0 rfl) ?_
      refine lv_iload_n hx hb dX10_mutes_31 rfl (lv_at hl 4 rfl) ?_
      refine zV_i [.int x3] [] zc ky_X2_isOpen kz_X2_isOpen km_10_176 (c_wl_X2_isOpen l hw) (wlPreV0 hK (pj_wx_wl_5 hM)) rfl rfl hl.1 (Nat.le_of_ble_eq_true rfl) ⟨rfl, rfl⟩ ⟨Nat.le_of_ble_eq_true rfl, Nat.le_of_ble_eq_true rfl⟩ ⟨(Nat.zero_le _), (Nat.zero_le _)⟩ dX10_mutes_32 (fun r_5 hw => ?_)
      refine lv_if_eq (tgt := 43) hx hb dX10_mutes_35 (by decide) (fun hc => ?_) (fun hc => ?_)
      · have hw := hw.1 hc
        refine lv_bipush (v := (-2 : Int32)) hx hb dX10_mutes_43 (by decide) ?_
        exact zret_iw pa_next zc hS hw hM dX10_mutes_45
      · have hw := hw.2 hc
        refine lv_iload_n hx hb dX10_mutes_38 rfl (lv_at hl 4 rfl) ?_
        refine lv_iload_n hx hb dX10_mutes_39 rfl (lv_at hl 3 rfl) ?_
        refine lv_icmp_ne (tgt := 46) hx hb dX10_mutes_40 (by decide) (fun hc => ?_) (fun hc => ?_)
        · have hw := hw.1 hc
          exact t_wx_X10_mutes_46k0 zc hK hM hS  (lv_sub hl [1, 3, 4, 0] rfl) hw
        · have hw := hw.2 hc
          refine lv_bipush (v := (-2 : Int32)) hx hb dX10_mutes_43 (by decide) ?_
          exact zret_iw pa_next zc hS hw hM dX10_mutes_45
  · have hw := hw.2 hc
    refine lv_bipush (v := (-2 : Int32)) hx hb dX10_mutes_21 (by decide) ?_
    exact zret_iw pa_next zc hS hw hM dX10_mutes_23
set_option maxRecDepth 20000 in
theorem c_wx_X10_mutes (l : Launch) {E : zE} {qx : Nat} {ta_tape : Nat → Int32} {tf_length : Int32} {tf_fault : Int32} {tf_place : Int32} {ta_counts : Nat → Int32} {tl0f_huts : Int32} {tl0f_singers : Int32} {tl0f_villages : Int32} {tl0f_dams : Int32} {tl0f_echoes : Int32} {tl0f_deep : Int32} {tl0f_slide : Int32} {tl0a_heights : Nat → Int32} {tl0a_ladders : Nat → Int32} {tl0a_minutes : Nat → Int32} {tl0a_echoFrom : Nat → Int32} {tl0a_echoTo : Nat → Int32} {tl0a_homes : Nat → Int32} {tl0a_talls : Nat → Int32} {tl0a_known : Nat → Int32} {tl1f_huts : Int32} {tl1f_singers : Int32} {tl1f_villages : Int32} {tl1f_dams : Int32} {tl1f_echoes : Int32} {tl1f_deep : Int32} {tl1f_slide : Int32} {tl1a_heights : Nat → Int32} {tl1a_ladders : Nat → Int32} {tl1a_minutes : Nat → Int32} {tl1a_echoFrom : Nat → Int32} {tl1a_echoTo : Nat → Int32} {tl1a_homes : Nat → Int32} {tl1a_talls : Nat → Int32} {tl1a_known : Nat → Int32} {tv0f_deeds : Int32} {tv0a_kinds : Nat → Int32} {tv0a_firsts : Nat → Int32} {tv0a_seconds : Nat → Int32} {tv1f_deeds : Int32} {tv1a_kinds : Nat → Int32} {tv1a_firsts : Nat → Int32} {tv1a_seconds : Nat → Int32} {ts0f_facts : Int32} {ts0a_heard : Nat → Int32} {ts0a_huts : Nat → Int32} {ts0a_minutes : Nat → Int32} {ts1f_facts : Int32} {ts1a_heard : Nat → Int32} {ts1a_huts : Nat → Int32} {ts1a_minutes : Nat → Int32} {tc0f_voices : Int32} {tc0f_step : Int32} {tc0a_parts : Nat → Int32} {tc0a_heights : Nat → Int32} {tc1f_voices : Int32} {tc1f_step : Int32} {tc1a_parts : Nat → Int32} {tc1a_heights : Nat → Int32} {m_images : Nat → Option Nat} {rlf_huts : Int32} {rlf_singers : Int32} {rlf_villages : Int32} {rlf_dams : Int32} {rlf_echoes : Int32} {rlf_deep : Int32} {rlf_slide : Int32} {rla_heights : Nat → Int32} {rla_ladders : Nat → Int32} {rla_minutes : Nat → Int32} {rla_echoFrom : Nat → Int32} {rla_echoTo : Nat → Int32} {rla_homes : Nat → Int32} {rla_talls : Nat → Int32} {rla_known : Nat → Int32} {rvf_deeds : Int32} {rva_kinds : Nat → Int32} {rva_firsts : Nat → Int32} {rva_seconds : Nat → Int32} {rsf_facts : Int32} {rsa_heard : Nat → Int32} {rsa_huts : Nat → Int32} {rsa_minutes : Nat → Int32} {rcf_voices : Int32} {rcf_step : Int32} {rca_parts : Nat → Int32} {rca_heights : Nat → Int32} {rf_fault : Int32} {rf_faultPlace : Int32} {ra_numbers : Nat → Int32} {ra_tape : Nat → Int32} {rf_length : Int32} {rf_behind : Int32} {rf_kind : Int32} {rf_first : Int32} {rf_value : Int32} {rf_hutsToldOf : Int32} {rf_singersToldOf : Int32} {nf_minute : Int32} {nf_avalanches : Int32} {nf_begun : Int32} {nf_climbed : Int32} {nf_seed : Int32} {na_huts : Nat → Int32} {na_known : Nat → Int32} {na_levels : Nat → Int32} {na_snow : Nat → Int32} {na_open : Nat → Int32} {pa_heard : Nat → Int32} {pa_walked : Nat → Int32} {pa_total : Nat → Int32} {pa_longest : Nat → Int32} {pa_next : Nat → Int32} {pa_cover : Nat → Int32} {pa_now : Nat → Int32} {pa_then : Nat → Int32} {ko_stands : Option Nat} {ka_gaps : Nat → Int32} {ka_behind : Nat → Int32} {ba_less : Nat → Int32} {ba_full : Nat → Int32} {x1 : Int32} {x2 : Int32} {x3 : Int32} {post : Int32 → (Nat → Int32) → Prop} (hw : q_wx_X10_mutes_0 ta_counts tl0f_huts tl0f_dams tl0f_echoes tl0a_heights tl0a_minutes tl0a_echoFrom tl0a_echoTo tl1f_huts tl1f_dams tl1f_echoes tl1a_heights tl1a_minutes tl1a_echoFrom tl1a_echoTo pa_next x1 x2 x3 post) : Met l yX10_mutes (Cond.code yX10_mutes cX10_mutes 5 (some .int) :: zb) rm_wx_X10_mutes (va_Pc [.ref qx, .int x1, .int x2, .int x3] (fun U => wxW E qx ta_tape tf_length tf_fault tf_place ta_counts tl0f_huts tl0f_singers tl0f_villages tl0f_dams tl0f_echoes tl0f_deep tl0f_slide tl0a_heights tl0a_ladders tl0a_minutes tl0a_echoFrom tl0a_echoTo tl0a_homes tl0a_talls tl0a_known tl1f_huts tl1f_singers tl1f_villages tl1f_dams tl1f_echoes tl1f_deep tl1f_slide tl1a_heights tl1a_ladders tl1a_minutes tl1a_echoFrom tl1a_echoTo tl1a_homes tl1a_talls tl1a_known tv0f_deeds tv0a_kinds tv0a_firsts tv0a_seconds tv1f_deeds tv1a_kinds tv1a_firsts tv1a_seconds ts0f_facts ts0a_heard ts0a_huts ts0a_minutes ts1f_facts ts1a_heard ts1a_huts ts1a_minutes tc0f_voices tc0f_step tc0a_parts tc0a_heights tc1f_voices tc1f_step tc1a_parts tc1a_heights m_images rlf_huts rlf_singers rlf_villages rlf_dams rlf_echoes rlf_deep rlf_slide rla_heights rla_ladders rla_minutes rla_echoFrom rla_echoTo rla_homes rla_talls rla_known rvf_deeds rva_kinds rva_firsts rva_seconds rsf_facts rsa_heard rsa_huts rsa_minutes rcf_voices rcf_step rca_parts rca_heights rf_fault rf_faultPlace ra_numbers ra_tape rf_length rf_behind rf_kind rf_first rf_value rf_hutsToldOf rf_singersToldOf nf_minute nf_avalanches nf_begun nf_climbed nf_seed na_huts na_known na_levels na_snow na_open pa_heard pa_walked pa_total pa_longest pa_next pa_cover pa_now pa_then ko_stands ka_gaps ka_behind ba_less ba_full U.heap ∧ zK E U)) (zQi (S := (Nat → Int32)) (fun r u => post r u) (fun u H => wxW E qx ta_tape tf_length tf_fault tf_place ta_counts tl0f_huts tl0f_singers tl0f_villages tl0f_dams tl0f_echoes tl0f_deep tl0f_slide tl0a_heights tl0a_ladders tl0a_minutes tl0a_echoFrom tl0a_echoTo tl0a_homes tl0a_talls tl0a_known tl1f_huts tl1f_singers tl1f_villages tl1f_dams tl1f_echoes tl1f_deep tl1f_slide tl1a_heights tl1a_ladders tl1a_minutes tl1a_echoFrom tl1a_echoTo tl1a_homes tl1a_talls tl1a_known tv0f_deeds tv0a_kinds tv0a_firsts tv0a_seconds tv1f_deeds tv1a_kinds tv1a_firsts tv1a_seconds ts0f_facts ts0a_heard ts0a_huts ts0a_minutes ts1f_facts ts1a_heard ts1a_huts ts1a_minutes tc0f_voices tc0f_step tc0a_parts tc0a_heights tc1f_voices tc1f_step tc1a_parts tc1a_heights m_images rlf_huts rlf_singers rlf_villages rlf_dams rlf_echoes rlf_deep rlf_slide rla_heights rla_ladders rla_minutes rla_echoFrom rla_echoTo rla_homes rla_talls rla_known rvf_deeds rva_kinds rva_firsts rva_seconds rsf_facts rsa_heard rsa_huts rsa_minutes rcf_voices rcf_step rca_parts rca_heights rf_fault rf_faultPlace ra_numbers ra_tape rf_length rf_behind rf_kind rf_first rf_value rf_hutsToldOf rf_singersToldOf nf_minute nf_avalanches nf_begun nf_climbed nf_seed na_huts na_known na_levels na_snow na_open pa_heard pa_walked pa_total pa_longest u pa_cover pa_now pa_then ko_stands ka_gaps ka_behind ba_less ba_full H) (wxA qx)) 0 0 (wxA qx) := by
  refine Met.ofW (cc := cX10_mutes) (maxL := 5) (ret := (some .int)) (by decide) rfl ?_
  intro p e s m args below meth c s₁ B hml hv
  obtain ⟨rfl, hM, hK⟩ := hv
  have zc := zc_of B hml
  have hl := lv_entry ([.ref qx, .int x1, .int x2, .int x3]) (n := 5) (Nat.le_of_ble_eq_true rfl)
  rw [lg_entry_eq]
  generalize (lg_sl ([.ref qx, .int x1, .int x2, .int x3]) ++ List.replicate (5 - (lg_sl ([.ref qx, .int x1, .int x2, .int x3])).length) Slot.unset).toArray = ls at hl ⊢
  have hl : lv_has ls 5 [(0, .ref qx), (1, .int x1), (2, .int x2), (3, .int x3)] := hl
  exact t_wx_X10_mutes_0 zc hK hM va_S.rf (lv_sub hl [0, 1, 2, 3] rfl) hw
-- wx_X10_masses
abbrev rm_wx_X10_masses : Room := { frames := 4, cells := 0, slots := 0, locals := 92 }
def q_wx_X10_masses_0 (ta_counts : Nat → Int32) (tl0f_huts : Int32) (tl0f_villages : Int32) (tl0a_minutes : Nat → Int32) (tl1f_huts : Int32) (tl1f_villages : Int32) (tl1a_minutes : Nat → Int32) (pa_walked : Nat → Int32) (pa_cover : Nat → Int32) (x1 : Int32) (x2 : Int32) (x3 : Int32) (post : Int32 → (Nat → Int32) → (Nat → Int32) → Prop) : Prop :=
  q_wx_X10_landAt_0 ta_counts x1 (fun r_1 => (r_1 = 0 → (post (-1 : Int32) pa_walked pa_cover)) ∧ (r_1 = 1 → ((x2 < 0 → (post (-1 : Int32) pa_walked pa_cover)) ∧ (¬ x2 < 0 → ((x2 ≤ (99 : Int32) → (q_wp_X7_massesWithin_9_0 pa_walked pa_cover tl1f_huts tl1f_villages tl1a_minutes x2 (fun r_2 pa_walked_1 pa_cover_1 => (x3 = 0 → (q_z_J6_bitCount_0f7a4_0 r_2 (fun r_3 => post r_3 pa_walked_1 pa_cover_1))) ∧ (¬ x3 = 0 → (post r_2 pa_walked_1 pa_cover_1))))) ∧ (¬ x2 ≤ (99 : Int32) → (post (-1 : Int32) pa_walked pa_cover)))))) ∧ (¬ r_1 = 0 → ¬ r_1 = 1 → ((x2 < 0 → (post (-1 : Int32) pa_walked pa_cover)) ∧ (¬ x2 < 0 → ((x2 ≤ (99 : Int32) → (q_wp_X7_massesWithin_9_0 pa_walked pa_cover tl0f_huts tl0f_villages tl0a_minutes x2 (fun r_4 pa_walked_2 pa_cover_2 => (x3 = 0 → (q_z_J6_bitCount_0f7a4_0 r_4 (fun r_5 => post r_5 pa_walked_2 pa_cover_2))) ∧ (¬ x3 = 0 → (post r_4 pa_walked_2 pa_cover_2))))) ∧ (¬ x2 ≤ (99 : Int32) → (post (-1 : Int32) pa_walked pa_cover)))))))
set_option maxRecDepth 20000 in
theorem t_wx_X10_masses_0 {p : Program} {l : Launch} {e : Env} {s : State} {m : MethodId} {args : Array Value} {below : List Frame} {meth : Method} {c : Code} {E : zE} {qx : Nat} {ta_tape : Nat → Int32} {tf_length : Int32} {tf_fault : Int32} {tf_place : Int32} {ta_counts : Nat → Int32} {tl0f_huts : Int32} {tl0f_singers : Int32} {tl0f_villages : Int32} {tl0f_dams : Int32} {tl0f_echoes : Int32} {tl0f_deep : Int32} {tl0f_slide : Int32} {tl0a_heights : Nat → Int32} {tl0a_ladders : Nat → Int32} {tl0a_minutes : Nat → Int32} {tl0a_echoFrom : Nat → Int32} {tl0a_echoTo : Nat → Int32} {tl0a_homes : Nat → Int32} {tl0a_talls : Nat → Int32} {tl0a_known : Nat → Int32} {tl1f_huts : Int32} {tl1f_singers : Int32} {tl1f_villages : Int32} {tl1f_dams : Int32} {tl1f_echoes : Int32} {tl1f_deep : Int32} {tl1f_slide : Int32} {tl1a_heights : Nat → Int32} {tl1a_ladders : Nat → Int32} {tl1a_minutes : Nat → Int32} {tl1a_echoFrom : Nat → Int32} {tl1a_echoTo : Nat → Int32} {tl1a_homes : Nat → Int32} {tl1a_talls : Nat → Int32} {tl1a_known : Nat → Int32} {tv0f_deeds : Int32} {tv0a_kinds : Nat → Int32} {tv0a_firsts : Nat → Int32} {tv0a_seconds : Nat → Int32} {tv1f_deeds : Int32} {tv1a_kinds : Nat → Int32} {tv1a_firsts : Nat → Int32} {tv1a_seconds : Nat → Int32} {ts0f_facts : Int32} {ts0a_heard : Nat → Int32} {ts0a_huts : Nat → Int32} {ts0a_minutes : Nat → Int32} {ts1f_facts : Int32} {ts1a_heard : Nat → Int32} {ts1a_huts : Nat → Int32} {ts1a_minutes : Nat → Int32} {tc0f_voices : Int32} {tc0f_step : Int32} {tc0a_parts : Nat → Int32} {tc0a_heights : Nat → Int32} {tc1f_voices : Int32} {tc1f_step : Int32} {tc1a_parts : Nat → Int32} {tc1a_heights : Nat → Int32} {m_images : Nat → Option Nat} {rlf_huts : Int32} {rlf_singers : Int32} {rlf_villages : Int32} {rlf_dams : Int32} {rlf_echoes : Int32} {rlf_deep : Int32} {rlf_slide : Int32} {rla_heights : Nat → Int32} {rla_ladders : Nat → Int32} {rla_minutes : Nat → Int32} {rla_echoFrom : Nat → Int32} {rla_echoTo : Nat → Int32} {rla_homes : Nat → Int32} {rla_talls : Nat → Int32} {rla_known : Nat → Int32} {rvf_deeds : Int32} {rva_kinds : Nat → Int32} {rva_firsts : Nat → Int32} {rva_seconds : Nat → Int32} {rsf_facts : Int32} {rsa_heard : Nat → Int32} {rsa_huts : Nat → Int32} {rsa_minutes : Nat → Int32} {rcf_voices : Int32} {rcf_step : Int32} {rca_parts : Nat → Int32} {rca_heights : Nat → Int32} {rf_fault : Int32} {rf_faultPlace : Int32} {ra_numbers : Nat → Int32} {ra_tape : Nat → Int32} {rf_length : Int32} {rf_behind : Int32} {rf_kind : Int32} {rf_first : Int32} {rf_value : Int32} {rf_hutsToldOf : Int32} {rf_singersToldOf : Int32} {nf_minute : Int32} {nf_avalanches : Int32} {nf_begun : Int32} {nf_climbed : Int32} {nf_seed : Int32} {na_huts : Nat → Int32} {na_known : Nat → Int32} {na_levels : Nat → Int32} {na_snow : Nat → Int32} {na_open : Nat → Int32} {pa_heard : Nat → Int32} {pa_walked : Nat → Int32} {pa_total : Nat → Int32} {pa_longest : Nat → Int32} {pa_next : Nat → Int32} {pa_cover : Nat → Int32} {pa_now : Nat → Int32} {pa_then : Nat → Int32} {ko_stands : Option Nat} {ka_gaps : Nat → Int32} {ka_behind : Nat → Int32} {ba_less : Nat → Int32} {ba_full : Nat → Int32} {post : Int32 → (Nat → Int32) → (Nat → Int32) → Prop} {x1 : Int32} {x2 : Int32} {x3 : Int32} {ls : Array Slot} {H : Heap} {locs : List Loc}
    (zc : zC p s m args meth c cX10_masses 6 RX10 (some .int))
    (hK : zK E s)
    (hM : wxW E qx ta_tape tf_length tf_fault tf_place ta_counts tl0f_huts tl0f_singers tl0f_villages tl0f_dams tl0f_echoes tl0f_deep tl0f_slide tl0a_heights tl0a_ladders tl0a_minutes tl0a_echoFrom tl0a_echoTo tl0a_homes tl0a_talls tl0a_known tl1f_huts tl1f_singers tl1f_villages tl1f_dams tl1f_echoes tl1f_deep tl1f_slide tl1a_heights tl1a_ladders tl1a_minutes tl1a_echoFrom tl1a_echoTo tl1a_homes tl1a_talls tl1a_known tv0f_deeds tv0a_kinds tv0a_firsts tv0a_seconds tv1f_deeds tv1a_kinds tv1a_firsts tv1a_seconds ts0f_facts ts0a_heard ts0a_huts ts0a_minutes ts1f_facts ts1a_heard ts1a_huts ts1a_minutes tc0f_voices tc0f_step tc0a_parts tc0a_heights tc1f_voices tc1f_step tc1a_parts tc1a_heights m_images rlf_huts rlf_singers rlf_villages rlf_dams rlf_echoes rlf_deep rlf_slide rla_heights rla_ladders rla_minutes rla_echoFrom rla_echoTo rla_homes rla_talls rla_known rvf_deeds rva_kinds rva_firsts rva_seconds rsf_facts rsa_heard rsa_huts rsa_minutes rcf_voices rcf_step rca_parts rca_heights rf_fault rf_faultPlace ra_numbers ra_tape rf_length rf_behind rf_kind rf_first rf_value rf_hutsToldOf rf_singersToldOf nf_minute nf_avalanches nf_begun nf_climbed nf_seed na_huts na_known na_levels na_snow na_open pa_heard pa_walked pa_total pa_longest pa_next pa_cover pa_now pa_then ko_stands ka_gaps ka_behind ba_less ba_full H)
    (hS : va_S (wxA qx) s.heap H locs)
    (hl : lv_has ls 6 [(0, .ref qx), (1, .int x1), (2, .int x2), (3, .int x3)])
    (hw : q_wx_X10_masses_0 ta_counts tl0f_huts tl0f_villages tl0a_minutes tl1f_huts tl1f_villages tl1a_minutes pa_walked pa_cover x1 x2 x3 post) :
    W p l e rm_wx_X10_masses s m args below meth c H locs 0 0 (MQ below (zQi (S := (Nat → Int32) × (Nat → Int32)) (fun r u => post r u.1 u.2) (fun u H => wxW E qx ta_tape tf_length tf_fault tf_place ta_counts tl0f_huts tl0f_singers tl0f_villages tl0f_dams tl0f_echoes tl0f_deep tl0f_slide tl0a_heights tl0a_ladders tl0a_minutes tl0a_echoFrom tl0a_echoTo tl0a_homes tl0a_talls tl0a_known tl1f_huts tl1f_singers tl1f_villages tl1f_dams tl1f_echoes tl1f_deep tl1f_slide tl1a_heights tl1a_ladders tl1a_minutes tl1a_echoFrom tl1a_echoTo tl1a_homes tl1a_talls tl1a_known tv0f_deeds tv0a_kinds tv0a_firsts tv0a_seconds tv1f_deeds tv1a_kinds tv1a_firsts tv1a_seconds ts0f_facts ts0a_heard ts0a_huts ts0a_minutes ts1f_facts ts1a_heard ts1a_huts ts1a_minutes tc0f_voices tc0f_step tc0a_parts tc0a_heights tc1f_voices tc1f_step tc1a_parts tc1a_heights m_images rlf_huts rlf_singers rlf_villages rlf_dams rlf_echoes rlf_deep rlf_slide rla_heights rla_ladders rla_minutes rla_echoFrom rla_echoTo rla_homes rla_talls rla_known rvf_deeds rva_kinds rva_firsts rva_seconds rsf_facts rsa_heard rsa_huts rsa_minutes rcf_voices rcf_step rca_parts rca_heights rf_fault rf_faultPlace ra_numbers ra_tape rf_length rf_behind rf_kind rf_first rf_value rf_hutsToldOf rf_singersToldOf nf_minute nf_avalanches nf_begun nf_climbed nf_seed na_huts na_known na_levels na_snow na_open pa_heard u.1 pa_total pa_longest pa_next u.2 pa_now pa_then ko_stands ka_gaps ka_behind ba_less ba_full H) (wxA qx)) args s 0 0 (wxA qx)) (F0 m 0 ls []) := by
  have hx := zc.1
  have hb := zc.2.1
  refine lv_aload_n hx hb dX10_masses_0 rfl (lv_at hl 0 rfl) ?_
  refine lv_iload_n hx hb dX10_masses_1 rfl (lv_at hl 1 rfl) ?_
  refine zV_r [.int x1] [] zc ky_X10_landAt kz_X10_landAt km_10_89 (c_wx_X10_landAt l hw) (wxPreV0 hK hM) rfl rfl hl.1 (Nat.le_of_ble_eq_true rfl) ⟨rfl, rfl⟩ ⟨Nat.le_of_ble_eq_true rfl, Nat.le_of_ble_eq_true rfl⟩ ⟨(Nat.zero_le _), (Nat.zero_le _)⟩ dX10_masses_2 (fun r_1 hw => ?_)
  by_cases hc0 : r_1 = 0
  · have hw := hw.1 hc0
    refine W.eq (g2 := F0 m 5 ls (.null :: [])) (by simp [hc0]) ?_
    refine lv_astoreN (lv' := [(4, .null), (0, .ref qx), (1, .int x1), (2, .int x2), (3, .int x3)]) hx hb dX10_masses_5 hl (by decide) rfl (fun ls hl => ?_)
    refine lv_aloadN hx hb dX10_masses_7 (lv_at hl 0 rfl) ?_
    refine lv_ifnullN (tgt := 22) hx hb dX10_masses_9 (by decide) ?_
    refine lv_iconst (v := (-1 : Int32)) hx hb dX10_masses_22 (by decide) ?_
    exact zret_iw ⟨pa_walked, pa_cover⟩ zc hS hw hM dX10_masses_23
  by_cases hc1 : r_1 = 1
  · have hw := hw.2.1 hc1
    refine W.eq (g2 := F0 m 5 ls (.ref (qx + 14) :: [])) (by simp [hc0, hc1]) ?_
    refine lv_astore (lv' := [(4, .ref (qx + 14)), (0, .ref qx), (1, .int x1), (2, .int x2), (3, .int x3)]) hx hb dX10_masses_5 hl (by decide) rfl (fun ls hl => ?_)
    refine lv_aload hx hb dX10_masses_7 (lv_at hl 0 rfl) ?_
    refine lv_ifnull hx hb dX10_masses_9 ?_
    refine lv_iload_n hx hb dX10_masses_12 rfl (lv_at hl 3 rfl) ?_
    refine lv_if_lt (tgt := 22) hx hb dX10_masses_13 (by decide) (fun hc => ?_) (fun hc => ?_)
    · have hw := hw.1 hc
      refine lv_iconst (v := (-1 : Int32)) hx hb dX10_masses_22 (by decide) ?_
      exact zret_iw ⟨pa_walked, pa_cover⟩ zc hS hw hM dX10_masses_23
    · have hw := hw.2 hc
      refine lv_iload_n hx hb dX10_masses_16 rfl (lv_at hl 3 rfl) ?_
      refine lv_bipush (v := (99 : Int32)) hx hb dX10_masses_17 (by decide) ?_
      refine lv_icmp_le (tgt := 24) hx hb dX10_masses_19 (by decide) (fun hc => ?_) (fun hc => ?_)
      · have hw := hw.1 hc
        refine lv_aload_n hx hb dX10_masses_24 rfl (lv_at hl 1 rfl) ?_
        refine wxg_10_37_0 zc hK hM dX10_masses_25 ?_
        refine lv_aload hx hb dX10_masses_28 (lv_at hl 0 rfl) ?_
        refine lv_iload_n hx hb dX10_masses_30 rfl (lv_at hl 3 rfl) ?_
        refine zVx_i [.ref (qx + 14), .int x2] [] zc ky_X7_massesWithin kz_X7_massesWithin km_10_188 (c_wp_X7_massesWithin_9 l hw) (wpPreV0 hK (pj_wx_wp_78_14_33 hM)) hS (sb_wx_wp_78_14_33) rfl rfl hl.1 (Nat.le_of_ble_eq_true rfl) ⟨rfl, rfl⟩ ⟨Nat.le_of_ble_eq_true rfl, Nat.le_of_ble_eq_true rfl⟩ ⟨(Nat.zero_le _), (Nat.zero_le _)⟩ dX10_masses_31 (fun r_2 u H1 locs1 hw hM1 hk hS => ?_)
        obtain ⟨pa_walked_1, pa_cover_1⟩ := u
        have hM := jn_wx_wp_78_14_33 hM hM1 hk
        refine lv_istore (lv' := [(5, .int r_2), (4, .ref (qx + 14)), (0, .ref qx), (1, .int x1), (2, .int x2), (3, .int x3)]) hx hb dX10_masses_34 hl (by decide) rfl (fun ls hl => ?_)
        refine lv_iload_n hx hb dX10_masses_36 rfl (lv_at hl 5 rfl) ?_
        refine lv_if_eq (tgt := 45) hx hb dX10_masses_37 (by decide) (fun hc => ?_) (fun hc => ?_)
        · have hw := hw.1 hc
          refine lv_iload hx hb dX10_masses_45 (lv_at hl 0 rfl) ?_
          refine zS_i [.int r_2] [] zc ky_J6_bitCount_0f7a4 kz_J6_bitCount_0f7a4 km_10_191 (c_z_J6_bitCount_0f7a4 l hw) (zPre0 _) rfl rfl hl.1 (Nat.le_of_ble_eq_true rfl) ⟨rfl, rfl⟩ ⟨Nat.le_of_ble_eq_true rfl, Nat.le_of_ble_eq_true rfl⟩ ⟨(Nat.zero_le _), (Nat.zero_le _)⟩ dX10_masses_47 (fun r_3 hw => ?_)
          exact zret_iw ⟨pa_walked_1, pa_cover_1⟩ zc hS hw hM dX10_masses_50
        · have hw := hw.2 hc
          refine lv_iload hx hb dX10_masses_40 (lv_at hl 0 rfl) ?_
          refine lv_goto (tgt := 50) hx hb dX10_masses_42 (by decide) ?_
          exact zret_iw ⟨pa_walked_1, pa_cover_1⟩ zc hS hw hM dX10_masses_50
      · have hw := hw.2 hc
        refine lv_iconst (v := (-1 : Int32)) hx hb dX10_masses_22 (by decide) ?_
        exact zret_iw ⟨pa_walked, pa_cover⟩ zc hS hw hM dX10_masses_23
  have hw := hw.2.2 hc0 hc1
  refine W.eq (g2 := F0 m 5 ls (.ref (qx + 5) :: [])) (by simp [hc0, hc1]) ?_
  refine lv_astore (lv' := [(4, .ref (qx + 5)), (0, .ref qx), (1, .int x1), (2, .int x2), (3, .int x3)]) hx hb dX10_masses_5 hl (by decide) rfl (fun ls hl => ?_)
  refine lv_aload hx hb dX10_masses_7 (lv_at hl 0 rfl) ?_
  refine lv_ifnull hx hb dX10_masses_9 ?_
  refine lv_iload_n hx hb dX10_masses_12 rfl (lv_at hl 3 rfl) ?_
  refine lv_if_lt (tgt := 22) hx hb dX10_masses_13 (by decide) (fun hc => ?_) (fun hc => ?_)
  · have hw := hw.1 hc
    refine lv_iconst (v := (-1 : Int32)) hx hb dX10_masses_22 (by decide) ?_
    exact zret_iw ⟨pa_walked, pa_cover⟩ zc hS hw hM dX10_masses_23
  · have hw := hw.2 hc
    refine lv_iload_n hx hb dX10_masses_16 rfl (lv_at hl 3 rfl) ?_
    refine lv_bipush (v := (99 : Int32)) hx hb dX10_masses_17 (by decide) ?_
    refine lv_icmp_le (tgt := 24) hx hb dX10_masses_19 (by decide) (fun hc => ?_) (fun hc => ?_)
    · have hw := hw.1 hc
      refine lv_aload_n hx hb dX10_masses_24 rfl (lv_at hl 1 rfl) ?_
      refine wxg_10_37_0 zc hK hM dX10_masses_25 ?_
      refine lv_aload hx hb dX10_masses_28 (lv_at hl 0 rfl) ?_
      refine lv_iload_n hx hb dX10_masses_30 rfl (lv_at hl 3 rfl) ?_
      refine zVx_i [.ref (qx + 5), .int x2] [] zc ky_X7_massesWithin kz_X7_massesWithin km_10_188 (c_wp_X7_massesWithin_9 l hw) (wpPreV0 hK (pj_wx_wp_78_5_33 hM)) hS (sb_wx_wp_78_5_33) rfl rfl hl.1 (Nat.le_of_ble_eq_true rfl) ⟨rfl, rfl⟩ ⟨Nat.le_of_ble_eq_true rfl, Nat.le_of_ble_eq_true rfl⟩ ⟨(Nat.zero_le _), (Nat.zero_le _)⟩ dX10_masses_31 (fun r_4 u H1 locs1 hw hM1 hk hS => ?_)
      obtain ⟨pa_walked_2, pa_cover_2⟩ := u
      have hM := jn_wx_wp_78_5_33 hM hM1 hk
      refine lv_istore (lv' := [(5, .int r_4), (4, .ref (qx + 5)), (0, .ref qx), (1, .int x1), (2, .int x2), (3, .int x3)]) hx hb dX10_masses_34 hl (by decide) rfl (fun ls hl => ?_)
      refine lv_iload_n hx hb dX10_masses_36 rfl (lv_at hl 5 rfl) ?_
      refine lv_if_eq (tgt := 45) hx hb dX10_masses_37 (by decide) (fun hc => ?_) (fun hc => ?_)
      · have hw := hw.1 hc
        refine lv_iload hx hb dX10_masses_45 (lv_at hl 0 rfl) ?_
        refine zS_i [.int r_4] [] zc ky_J6_bitCount_0f7a4 kz_J6_bitCount_0f7a4 km_10_191 (c_z_J6_bitCount_0f7a4 l hw) (zPre0 _) rfl rfl hl.1 (Nat.le_of_ble_eq_true rfl) ⟨rfl, rfl⟩ ⟨Nat.le_of_ble_eq_true rfl, Nat.le_of_ble_eq_true rfl⟩ ⟨(Nat.zero_le _), (Nat.zero_le _)⟩ dX10_masses_47 (fun r_5 hw => ?_)
        exact zret_iw ⟨pa_walked_2, pa_cover_2⟩ zc hS hw hM dX10_masses_50
      · have hw := hw.2 hc
        refine lv_iload hx hb dX10_masses_40 (lv_at hl 0 rfl) ?_
        refine lv_goto (tgt := 50) hx hb dX10_masses_42 (by decide) ?_
        exact zret_iw ⟨pa_walked_2, pa_cover_2⟩ zc hS hw hM dX10_masses_50
    · have hw := hw.2 hc
      refine lv_iconst (v := (-1 : Int32)) hx hb dX10_masses_22 (by decide) ?_
      exact zret_iw ⟨pa_walked, pa_cover⟩ zc hS hw hM dX10_masses_23
set_option maxRecDepth 20000 in
theorem c_wx_X10_masses (l : Launch) {E : zE} {qx : Nat} {ta_tape : Nat → Int32} {tf_length : Int32} {tf_fault : Int32} {tf_place : Int32} {ta_counts : Nat → Int32} {tl0f_huts : Int32} {tl0f_singers : Int32} {tl0f_villages : Int32} {tl0f_dams : Int32} {tl0f_echoes : Int32} {tl0f_deep : Int32} {tl0f_slide : Int32} {tl0a_heights : Nat → Int32} {tl0a_ladders : Nat → Int32} {tl0a_minutes : Nat → Int32} {tl0a_echoFrom : Nat → Int32} {tl0a_echoTo : Nat → Int32} {tl0a_homes : Nat → Int32} {tl0a_talls : Nat → Int32} {tl0a_known : Nat → Int32} {tl1f_huts : Int32} {tl1f_singers : Int32} {tl1f_villages : Int32} {tl1f_dams : Int32} {tl1f_echoes : Int32} {tl1f_deep : Int32} {tl1f_slide : Int32} {tl1a_heights : Nat → Int32} {tl1a_ladders : Nat → Int32} {tl1a_minutes : Nat → Int32} {tl1a_echoFrom : Nat → Int32} {tl1a_echoTo : Nat → Int32} {tl1a_homes : Nat → Int32} {tl1a_talls : Nat → Int32} {tl1a_known : Nat → Int32} {tv0f_deeds : Int32} {tv0a_kinds : Nat → Int32} {tv0a_firsts : Nat → Int32} {tv0a_seconds : Nat → Int32} {tv1f_deeds : Int32} {tv1a_kinds : Nat → Int32} {tv1a_firsts : Nat → Int32} {tv1a_seconds : Nat → Int32} {ts0f_facts : Int32} {ts0a_heard : Nat → Int32} {ts0a_huts : Nat → Int32} {ts0a_minutes : Nat → Int32} {ts1f_facts : Int32} {ts1a_heard : Nat → Int32} {ts1a_huts : Nat → Int32} {ts1a_minutes : Nat → Int32} {tc0f_voices : Int32} {tc0f_step : Int32} {tc0a_parts : Nat → Int32} {tc0a_heights : Nat → Int32} {tc1f_voices : Int32} {tc1f_step : Int32} {tc1a_parts : Nat → Int32} {tc1a_heights : Nat → Int32} {m_images : Nat → Option Nat} {rlf_huts : Int32} {rlf_singers : Int32} {rlf_villages : Int32} {rlf_dams : Int32} {rlf_echoes : Int32} {rlf_deep : Int32} {rlf_slide : Int32} {rla_heights : Nat → Int32} {rla_ladders : Nat → Int32} {rla_minutes : Nat → Int32} {rla_echoFrom : Nat → Int32} {rla_echoTo : Nat → Int32} {rla_homes : Nat → Int32} {rla_talls : Nat → Int32} {rla_known : Nat → Int32} {rvf_deeds : Int32} {rva_kinds : Nat → Int32} {rva_firsts : Nat → Int32} {rva_seconds : Nat → Int32} {rsf_facts : Int32} {rsa_heard : Nat → Int32} {rsa_huts : Nat → Int32} {rsa_minutes : Nat → Int32} {rcf_voices : Int32} {rcf_step : Int32} {rca_parts : Nat → Int32} {rca_heights : Nat → Int32} {rf_fault : Int32} {rf_faultPlace : Int32} {ra_numbers : Nat → Int32} {ra_tape : Nat → Int32} {rf_length : Int32} {rf_behind : Int32} {rf_kind : Int32} {rf_first : Int32} {rf_value : Int32} {rf_hutsToldOf : Int32} {rf_singersToldOf : Int32} {nf_minute : Int32} {nf_avalanches : Int32} {nf_begun : Int32} {nf_climbed : Int32} {nf_seed : Int32} {na_huts : Nat → Int32} {na_known : Nat → Int32} {na_levels : Nat → Int32} {na_snow : Nat → Int32} {na_open : Nat → Int32} {pa_heard : Nat → Int32} {pa_walked : Nat → Int32} {pa_total : Nat → Int32} {pa_longest : Nat → Int32} {pa_next : Nat → Int32} {pa_cover : Nat → Int32} {pa_now : Nat → Int32} {pa_then : Nat → Int32} {ko_stands : Option Nat} {ka_gaps : Nat → Int32} {ka_behind : Nat → Int32} {ba_less : Nat → Int32} {ba_full : Nat → Int32} {x1 : Int32} {x2 : Int32} {x3 : Int32} {post : Int32 → (Nat → Int32) → (Nat → Int32) → Prop} (hw : q_wx_X10_masses_0 ta_counts tl0f_huts tl0f_villages tl0a_minutes tl1f_huts tl1f_villages tl1a_minutes pa_walked pa_cover x1 x2 x3 post) : Met l yX10_masses (Cond.code yX10_masses cX10_masses 6 (some .int) :: zb) rm_wx_X10_masses (va_Pc [.ref qx, .int x1, .int x2, .int x3] (fun U => wxW E qx ta_tape tf_length tf_fault tf_place ta_counts tl0f_huts tl0f_singers tl0f_villages tl0f_dams tl0f_echoes tl0f_deep tl0f_slide tl0a_heights tl0a_ladders tl0a_minutes tl0a_echoFrom tl0a_echoTo tl0a_homes tl0a_talls tl0a_known tl1f_huts tl1f_singers tl1f_villages tl1f_dams tl1f_echoes tl1f_deep tl1f_slide tl1a_heights tl1a_ladders tl1a_minutes tl1a_echoFrom tl1a_echoTo tl1a_homes tl1a_talls tl1a_known tv0f_deeds tv0a_kinds tv0a_firsts tv0a_seconds tv1f_deeds tv1a_kinds tv1a_firsts tv1a_seconds ts0f_facts ts0a_heard ts0a_huts ts0a_minutes ts1f_facts ts1a_heard ts1a_huts ts1a_minutes tc0f_voices tc0f_step tc0a_parts tc0a_heights tc1f_voices tc1f_step tc1a_parts tc1a_heights m_images rlf_huts rlf_singers rlf_villages rlf_dams rlf_echoes rlf_deep rlf_slide rla_heights rla_ladders rla_minutes rla_echoFrom rla_echoTo rla_homes rla_talls rla_known rvf_deeds rva_kinds rva_firsts rva_seconds rsf_facts rsa_heard rsa_huts rsa_minutes rcf_voices rcf_step rca_parts rca_heights rf_fault rf_faultPlace ra_numbers ra_tape rf_length rf_behind rf_kind rf_first rf_value rf_hutsToldOf rf_singersToldOf nf_minute nf_avalanches nf_begun nf_climbed nf_seed na_huts na_known na_levels na_snow na_open pa_heard pa_walked pa_total pa_longest pa_next pa_cover pa_now pa_then ko_stands ka_gaps ka_behind ba_less ba_full U.heap ∧ zK E U)) (zQi (S := (Nat → Int32) × (Nat → Int32)) (fun r u => post r u.1 u.2) (fun u H => wxW E qx ta_tape tf_length tf_fault tf_place ta_counts tl0f_huts tl0f_singers tl0f_villages tl0f_dams tl0f_echoes tl0f_deep tl0f_slide tl0a_heights tl0a_ladders tl0a_minutes tl0a_echoFrom tl0a_echoTo tl0a_homes tl0a_talls tl0a_known tl1f_huts tl1f_singers tl1f_villages tl1f_dams tl1f_echoes tl1f_deep tl1f_slide tl1a_heights tl1a_ladders tl1a_minutes tl1a_echoFrom tl1a_echoTo tl1a_homes tl1a_talls tl1a_known tv0f_deeds tv0a_kinds tv0a_firsts tv0a_seconds tv1f_deeds tv1a_kinds tv1a_firsts tv1a_seconds ts0f_facts ts0a_heard ts0a_huts ts0a_minutes ts1f_facts ts1a_heard ts1a_huts ts1a_minutes tc0f_voices tc0f_step tc0a_parts tc0a_heights tc1f_voices tc1f_step tc1a_parts tc1a_heights m_images rlf_huts rlf_singers rlf_villages rlf_dams rlf_echoes rlf_deep rlf_slide rla_heights rla_ladders rla_minutes rla_echoFrom rla_echoTo rla_homes rla_talls rla_known rvf_deeds rva_kinds rva_firsts rva_seconds rsf_facts rsa_heard rsa_huts rsa_minutes rcf_voices rcf_step rca_parts rca_heights rf_fault rf_faultPlace ra_numbers ra_tape rf_length rf_behind rf_kind rf_first rf_value rf_hutsToldOf rf_singersToldOf nf_minute nf_avalanches nf_begun nf_climbed nf_seed na_huts na_known na_levels na_snow na_open pa_heard u.1 pa_total pa_longest pa_next u.2 pa_now pa_then ko_stands ka_gaps ka_behind ba_less ba_full H) (wxA qx)) 0 0 (wxA qx) := by
  refine Met.ofW (cc := cX10_masses) (maxL := 6) (ret := (some .int)) (by decide) rfl ?_
  intro p e s m args below meth c s₁ B hml hv
  obtain ⟨rfl, hM, hK⟩ := hv
  have zc := zc_of B hml
  have hl := lv_entry ([.ref qx, .int x1, .int x2, .int x3]) (n := 6) (Nat.le_of_ble_eq_true rfl)
  rw [lg_entry_eq]
  generalize (lg_sl ([.ref qx, .int x1, .int x2, .int x3]) ++ List.replicate (6 - (lg_sl ([.ref qx, .int x1, .int x2, .int x3])).length) Slot.unset).toArray = ls at hl ⊢
  have hl : lv_has ls 6 [(0, .ref qx), (1, .int x1), (2, .int x2), (3, .int x3)] := hl
  exact t_wx_X10_masses_0 zc hK hM va_S.rf (lv_sub hl [0, 1, 2, 3] rfl) hw
-- wx_X10_sightAt
abbrev rm_wx_X10_sightAt : Room := { frames := 0, cells := 0, slots := 0, locals := 0 }
def q_wx_X10_sightAt_0 (ta_counts : Nat → Int32) (x1 : Int32) (post : Nat → Prop) : Prop :=
  (x1 < 0 → (post 0)) ∧ (¬ x1 < 0 → (((ta_counts (Int32.toNatClampNeg (2 : Int32))) ≤ x1 → (post 0)) ∧ (¬ (ta_counts (Int32.toNatClampNeg (2 : Int32))) ≤ x1 → (vp_in x1 2 ∧ (x1 = 0 → (post 2)) ∧ (¬ x1 = 0 → (post 1))))))
set_option maxRecDepth 20000 in
theorem t_wx_X10_sightAt_0 {p : Program} {l : Launch} {e : Env} {s : State} {m : MethodId} {args : Array Value} {below : List Frame} {meth : Method} {c : Code} {E : zE} {qx : Nat} {ta_tape : Nat → Int32} {tf_length : Int32} {tf_fault : Int32} {tf_place : Int32} {ta_counts : Nat → Int32} {tl0f_huts : Int32} {tl0f_singers : Int32} {tl0f_villages : Int32} {tl0f_dams : Int32} {tl0f_echoes : Int32} {tl0f_deep : Int32} {tl0f_slide : Int32} {tl0a_heights : Nat → Int32} {tl0a_ladders : Nat → Int32} {tl0a_minutes : Nat → Int32} {tl0a_echoFrom : Nat → Int32} {tl0a_echoTo : Nat → Int32} {tl0a_homes : Nat → Int32} {tl0a_talls : Nat → Int32} {tl0a_known : Nat → Int32} {tl1f_huts : Int32} {tl1f_singers : Int32} {tl1f_villages : Int32} {tl1f_dams : Int32} {tl1f_echoes : Int32} {tl1f_deep : Int32} {tl1f_slide : Int32} {tl1a_heights : Nat → Int32} {tl1a_ladders : Nat → Int32} {tl1a_minutes : Nat → Int32} {tl1a_echoFrom : Nat → Int32} {tl1a_echoTo : Nat → Int32} {tl1a_homes : Nat → Int32} {tl1a_talls : Nat → Int32} {tl1a_known : Nat → Int32} {tv0f_deeds : Int32} {tv0a_kinds : Nat → Int32} {tv0a_firsts : Nat → Int32} {tv0a_seconds : Nat → Int32} {tv1f_deeds : Int32} {tv1a_kinds : Nat → Int32} {tv1a_firsts : Nat → Int32} {tv1a_seconds : Nat → Int32} {ts0f_facts : Int32} {ts0a_heard : Nat → Int32} {ts0a_huts : Nat → Int32} {ts0a_minutes : Nat → Int32} {ts1f_facts : Int32} {ts1a_heard : Nat → Int32} {ts1a_huts : Nat → Int32} {ts1a_minutes : Nat → Int32} {tc0f_voices : Int32} {tc0f_step : Int32} {tc0a_parts : Nat → Int32} {tc0a_heights : Nat → Int32} {tc1f_voices : Int32} {tc1f_step : Int32} {tc1a_parts : Nat → Int32} {tc1a_heights : Nat → Int32} {m_images : Nat → Option Nat} {rlf_huts : Int32} {rlf_singers : Int32} {rlf_villages : Int32} {rlf_dams : Int32} {rlf_echoes : Int32} {rlf_deep : Int32} {rlf_slide : Int32} {rla_heights : Nat → Int32} {rla_ladders : Nat → Int32} {rla_minutes : Nat → Int32} {rla_echoFrom : Nat → Int32} {rla_echoTo : Nat → Int32} {rla_homes : Nat → Int32} {rla_talls : Nat → Int32} {rla_known : Nat → Int32} {rvf_deeds : Int32} {rva_kinds : Nat → Int32} {rva_firsts : Nat → Int32} {rva_seconds : Nat → Int32} {rsf_facts : Int32} {rsa_heard : Nat → Int32} {rsa_huts : Nat → Int32} {rsa_minutes : Nat → Int32} {rcf_voices : Int32} {rcf_step : Int32} {rca_parts : Nat → Int32} {rca_heights : Nat → Int32} {rf_fault : Int32} {rf_faultPlace : Int32} {ra_numbers : Nat → Int32} {ra_tape : Nat → Int32} {rf_length : Int32} {rf_behind : Int32} {rf_kind : Int32} {rf_first : Int32} {rf_value : Int32} {rf_hutsToldOf : Int32} {rf_singersToldOf : Int32} {nf_minute : Int32} {nf_avalanches : Int32} {nf_begun : Int32} {nf_climbed : Int32} {nf_seed : Int32} {na_huts : Nat → Int32} {na_known : Nat → Int32} {na_levels : Nat → Int32} {na_snow : Nat → Int32} {na_open : Nat → Int32} {pa_heard : Nat → Int32} {pa_walked : Nat → Int32} {pa_total : Nat → Int32} {pa_longest : Nat → Int32} {pa_next : Nat → Int32} {pa_cover : Nat → Int32} {pa_now : Nat → Int32} {pa_then : Nat → Int32} {ko_stands : Option Nat} {ka_gaps : Nat → Int32} {ka_behind : Nat → Int32} {ba_less : Nat → Int32} {ba_full : Nat → Int32} {post : Nat → Prop} {x1 : Int32} {ls : Array Slot}
    (zc : zC p s m args meth c cX10_sightAt 2 RX10 (some (.object "DownhillSong$Sight")))
    (hK : zK E s)
    (hM : wxW E qx ta_tape tf_length tf_fault tf_place ta_counts tl0f_huts tl0f_singers tl0f_villages tl0f_dams tl0f_echoes tl0f_deep tl0f_slide tl0a_heights tl0a_ladders tl0a_minutes tl0a_echoFrom tl0a_echoTo tl0a_homes tl0a_talls tl0a_known tl1f_huts tl1f_singers tl1f_villages tl1f_dams tl1f_echoes tl1f_deep tl1f_slide tl1a_heights tl1a_ladders tl1a_minutes tl1a_echoFrom tl1a_echoTo tl1a_homes tl1a_talls tl1a_known tv0f_deeds tv0a_kinds tv0a_firsts tv0a_seconds tv1f_deeds tv1a_kinds tv1a_firsts tv1a_seconds ts0f_facts ts0a_heard ts0a_huts ts0a_minutes ts1f_facts ts1a_heard ts1a_huts ts1a_minutes tc0f_voices tc0f_step tc0a_parts tc0a_heights tc1f_voices tc1f_step tc1a_parts tc1a_heights m_images rlf_huts rlf_singers rlf_villages rlf_dams rlf_echoes rlf_deep rlf_slide rla_heights rla_ladders rla_minutes rla_echoFrom rla_echoTo rla_homes rla_talls rla_known rvf_deeds rva_kinds rva_firsts rva_seconds rsf_facts rsa_heard rsa_huts rsa_minutes rcf_voices rcf_step rca_parts rca_heights rf_fault rf_faultPlace ra_numbers ra_tape rf_length rf_behind rf_kind rf_first rf_value rf_hutsToldOf rf_singersToldOf nf_minute nf_avalanches nf_begun nf_climbed nf_seed na_huts na_known na_levels na_snow na_open pa_heard pa_walked pa_total pa_longest pa_next pa_cover pa_now pa_then ko_stands ka_gaps ka_behind ba_less ba_full s.heap)
    (hl : lv_has ls 2 [(0, .ref qx), (1, .int x1)])
    (hw : q_wx_X10_sightAt_0 ta_counts x1 post) :
    W p l e rm_wx_X10_sightAt s m args below meth c s.heap [] 0 0 (MQ below (va_Sr post (fun k => if k = 0 then Value.null else if k = 1 then Value.ref (qx + 37) else Value.ref (qx + 33))) args s 0 0 (fun _ => False)) (F0 m 0 ls []) := by
  have hx := zc.1
  have hb := zc.2.1
  refine lv_iload_n hx hb dX10_sightAt_0 rfl (lv_at hl 1 rfl) ?_
  refine lv_if_lt (tgt := 29) hx hb dX10_sightAt_1 (by decide) (fun hc => ?_) (fun hc => ?_)
  · have hw := hw.1 hc
    refine lv_null hx hb dX10_sightAt_29 ?_
    exact zret_r (k := 0) zc (Or.inl rfl) hw dX10_sightAt_30
  · have hw := hw.2 hc
    refine lv_iload_n hx hb dX10_sightAt_4 rfl (lv_at hl 1 rfl) ?_
    refine lv_aload_n hx hb dX10_sightAt_5 rfl (lv_at hl 0 rfl) ?_
    refine wxg_10_10_0 zc hK hM dX10_sightAt_6 ?_
    refine wxg_10_320_1 zc hK hM dX10_sightAt_9 ?_
    refine lv_iconst (v := (2 : Int32)) hx hb dX10_sightAt_12 (by decide) ?_
    refine wxld_3 zc hK hM (by unfold vp_in; decide) dX10_sightAt_13 ?_
    refine lv_icmp_ge (tgt := 29) hx hb dX10_sightAt_14 (by decide) (fun hc => ?_) (fun hc => ?_)
    · have hw := hw.1 hc
      refine lv_null hx hb dX10_sightAt_29 ?_
      exact zret_r (k := 0) zc (Or.inl rfl) hw dX10_sightAt_30
    · have hw := hw.2 hc
      refine lv_aload_n hx hb dX10_sightAt_17 rfl (lv_at hl 0 rfl) ?_
      refine wxg_10_10_0 zc hK hM dX10_sightAt_18 ?_
      refine wxg_10_344_1 zc hK hM dX10_sightAt_21 ?_
      refine lv_iload_n hx hb dX10_sightAt_24 rfl (lv_at hl 1 rfl) ?_
      have hin := hw.1
      by_cases hc : x1 = 0
      · have hw9 := hw.2.1 hc
        have hM9 := hM
        subst hc
        have hw := hw9
        have hM := hM9
        refine va_aldq hx hb hK.1 hM 32 6 rfl rfl hin dX10_sightAt_25 ?_
        refine W.eq (g2 := F0 m 26 ls (.ref (qx + 33) :: [])) rfl ?_
        refine lv_goto (tgt := 30) hx hb dX10_sightAt_26 (by decide) ?_
        exact zret_r (k := 2) zc (Or.inr ⟨_, rfl⟩) hw dX10_sightAt_30
      · have hw9 := hw.2.2 hc
        have hc := zin2 hin hc
        have hM9 := hM
        subst hc
        have hw := hw9
        have hM := hM9
        refine va_aldq hx hb hK.1 hM 32 6 rfl rfl hin dX10_sightAt_25 ?_
        refine W.eq (g2 := F0 m 26 ls (.ref (qx + 37) :: [])) rfl ?_
        refine lv_goto (tgt := 30) hx hb dX10_sightAt_26 (by decide) ?_
        exact zret_r (k := 1) zc (Or.inr ⟨_, rfl⟩) hw dX10_sightAt_30
set_option maxRecDepth 20000 in
theorem c_wx_X10_sightAt (l : Launch) {E : zE} {qx : Nat} {ta_tape : Nat → Int32} {tf_length : Int32} {tf_fault : Int32} {tf_place : Int32} {ta_counts : Nat → Int32} {tl0f_huts : Int32} {tl0f_singers : Int32} {tl0f_villages : Int32} {tl0f_dams : Int32} {tl0f_echoes : Int32} {tl0f_deep : Int32} {tl0f_slide : Int32} {tl0a_heights : Nat → Int32} {tl0a_ladders : Nat → Int32} {tl0a_minutes : Nat → Int32} {tl0a_echoFrom : Nat → Int32} {tl0a_echoTo : Nat → Int32} {tl0a_homes : Nat → Int32} {tl0a_talls : Nat → Int32} {tl0a_known : Nat → Int32} {tl1f_huts : Int32} {tl1f_singers : Int32} {tl1f_villages : Int32} {tl1f_dams : Int32} {tl1f_echoes : Int32} {tl1f_deep : Int32} {tl1f_slide : Int32} {tl1a_heights : Nat → Int32} {tl1a_ladders : Nat → Int32} {tl1a_minutes : Nat → Int32} {tl1a_echoFrom : Nat → Int32} {tl1a_echoTo : Nat → Int32} {tl1a_homes : Nat → Int32} {tl1a_talls : Nat → Int32} {tl1a_known : Nat → Int32} {tv0f_deeds : Int32} {tv0a_kinds : Nat → Int32} {tv0a_firsts : Nat → Int32} {tv0a_seconds : Nat → Int32} {tv1f_deeds : Int32} {tv1a_kinds : Nat → Int32} {tv1a_firsts : Nat → Int32} {tv1a_seconds : Nat → Int32} {ts0f_facts : Int32} {ts0a_heard : Nat → Int32} {ts0a_huts : Nat → Int32} {ts0a_minutes : Nat → Int32} {ts1f_facts : Int32} {ts1a_heard : Nat → Int32} {ts1a_huts : Nat → Int32} {ts1a_minutes : Nat → Int32} {tc0f_voices : Int32} {tc0f_step : Int32} {tc0a_parts : Nat → Int32} {tc0a_heights : Nat → Int32} {tc1f_voices : Int32} {tc1f_step : Int32} {tc1a_parts : Nat → Int32} {tc1a_heights : Nat → Int32} {m_images : Nat → Option Nat} {rlf_huts : Int32} {rlf_singers : Int32} {rlf_villages : Int32} {rlf_dams : Int32} {rlf_echoes : Int32} {rlf_deep : Int32} {rlf_slide : Int32} {rla_heights : Nat → Int32} {rla_ladders : Nat → Int32} {rla_minutes : Nat → Int32} {rla_echoFrom : Nat → Int32} {rla_echoTo : Nat → Int32} {rla_homes : Nat → Int32} {rla_talls : Nat → Int32} {rla_known : Nat → Int32} {rvf_deeds : Int32} {rva_kinds : Nat → Int32} {rva_firsts : Nat → Int32} {rva_seconds : Nat → Int32} {rsf_facts : Int32} {rsa_heard : Nat → Int32} {rsa_huts : Nat → Int32} {rsa_minutes : Nat → Int32} {rcf_voices : Int32} {rcf_step : Int32} {rca_parts : Nat → Int32} {rca_heights : Nat → Int32} {rf_fault : Int32} {rf_faultPlace : Int32} {ra_numbers : Nat → Int32} {ra_tape : Nat → Int32} {rf_length : Int32} {rf_behind : Int32} {rf_kind : Int32} {rf_first : Int32} {rf_value : Int32} {rf_hutsToldOf : Int32} {rf_singersToldOf : Int32} {nf_minute : Int32} {nf_avalanches : Int32} {nf_begun : Int32} {nf_climbed : Int32} {nf_seed : Int32} {na_huts : Nat → Int32} {na_known : Nat → Int32} {na_levels : Nat → Int32} {na_snow : Nat → Int32} {na_open : Nat → Int32} {pa_heard : Nat → Int32} {pa_walked : Nat → Int32} {pa_total : Nat → Int32} {pa_longest : Nat → Int32} {pa_next : Nat → Int32} {pa_cover : Nat → Int32} {pa_now : Nat → Int32} {pa_then : Nat → Int32} {ko_stands : Option Nat} {ka_gaps : Nat → Int32} {ka_behind : Nat → Int32} {ba_less : Nat → Int32} {ba_full : Nat → Int32} {x1 : Int32} {post : Nat → Prop} (hw : q_wx_X10_sightAt_0 ta_counts x1 post) : Met l yX10_sightAt (Cond.code yX10_sightAt cX10_sightAt 2 (some (.object "DownhillSong$Sight")) :: zb) rm_wx_X10_sightAt (va_Pc [.ref qx, .int x1] (fun U => wxW E qx ta_tape tf_length tf_fault tf_place ta_counts tl0f_huts tl0f_singers tl0f_villages tl0f_dams tl0f_echoes tl0f_deep tl0f_slide tl0a_heights tl0a_ladders tl0a_minutes tl0a_echoFrom tl0a_echoTo tl0a_homes tl0a_talls tl0a_known tl1f_huts tl1f_singers tl1f_villages tl1f_dams tl1f_echoes tl1f_deep tl1f_slide tl1a_heights tl1a_ladders tl1a_minutes tl1a_echoFrom tl1a_echoTo tl1a_homes tl1a_talls tl1a_known tv0f_deeds tv0a_kinds tv0a_firsts tv0a_seconds tv1f_deeds tv1a_kinds tv1a_firsts tv1a_seconds ts0f_facts ts0a_heard ts0a_huts ts0a_minutes ts1f_facts ts1a_heard ts1a_huts ts1a_minutes tc0f_voices tc0f_step tc0a_parts tc0a_heights tc1f_voices tc1f_step tc1a_parts tc1a_heights m_images rlf_huts rlf_singers rlf_villages rlf_dams rlf_echoes rlf_deep rlf_slide rla_heights rla_ladders rla_minutes rla_echoFrom rla_echoTo rla_homes rla_talls rla_known rvf_deeds rva_kinds rva_firsts rva_seconds rsf_facts rsa_heard rsa_huts rsa_minutes rcf_voices rcf_step rca_parts rca_heights rf_fault rf_faultPlace ra_numbers ra_tape rf_length rf_behind rf_kind rf_first rf_value rf_hutsToldOf rf_singersToldOf nf_minute nf_avalanches nf_begun nf_climbed nf_seed na_huts na_known na_levels na_snow na_open pa_heard pa_walked pa_total pa_longest pa_next pa_cover pa_now pa_then ko_stands ka_gaps ka_behind ba_less ba_full U.heap ∧ zK E U)) (va_Sr post (fun k => if k = 0 then Value.null else if k = 1 then Value.ref (qx + 37) else Value.ref (qx + 33))) 0 0 (fun _ => False) := by
  refine Met.ofW (cc := cX10_sightAt) (maxL := 2) (ret := (some (.object "DownhillSong$Sight"))) (by decide) rfl ?_
  intro p e s m args below meth c s₁ B hml hv
  obtain ⟨rfl, hM, hK⟩ := hv
  have zc := zc_of B hml
  have hl := lv_entry ([.ref qx, .int x1]) (n := 2) (Nat.le_of_ble_eq_true rfl)
  rw [lg_entry_eq]
  generalize (lg_sl ([.ref qx, .int x1]) ++ List.replicate (2 - (lg_sl ([.ref qx, .int x1])).length) Slot.unset).toArray = ls at hl ⊢
  have hl : lv_has ls 2 [(0, .ref qx), (1, .int x1)] := hl
  exact t_wx_X10_sightAt_0 zc hK hM (lv_sub hl [0, 1] rfl) hw
-- wx_X10_fact
abbrev rm_wx_X10_fact : Room := { frames := 1, cells := 0, slots := 0, locals := 22 }
def q_wx_X10_fact_43 (ta_counts : Nat → Int32) (ts0f_facts : Int32) (ts0a_heard : Nat → Int32) (ts0a_huts : Nat → Int32) (ts0a_minutes : Nat → Int32) (ts1f_facts : Int32) (ts1a_heard : Nat → Int32) (ts1a_huts : Nat → Int32) (ts1a_minutes : Nat → Int32) (post : Int32 → Prop) : Prop :=
  post (-2 : Int32)
def q_wx_X10_fact_30k0 (ta_counts : Nat → Int32) (ts0f_facts : Int32) (ts0a_heard : Nat → Int32) (ts0a_huts : Nat → Int32) (ts0a_minutes : Nat → Int32) (ts1f_facts : Int32) (ts1a_heard : Nat → Int32) (ts1a_huts : Nat → Int32) (ts1a_minutes : Nat → Int32) (x2 : Int32) (x3 : Int32) (post : Int32 → Prop) : Prop :=
  (x2 < 0 → (q_wx_X10_fact_43 ta_counts ts0f_facts ts0a_heard ts0a_huts ts0a_minutes ts1f_facts ts1a_heard ts1a_huts ts1a_minutes post)) ∧ (¬ x2 < 0 → ((x2 < ts0f_facts → (q_ws_X6_look_0 ts0a_heard ts0a_huts ts0a_minutes x2 x3 (fun r_1 => post r_1))) ∧ (¬ x2 < ts0f_facts → (q_wx_X10_fact_43 ta_counts ts0f_facts ts0a_heard ts0a_huts ts0a_minutes ts1f_facts ts1a_heard ts1a_huts ts1a_minutes post))))
def q_wx_X10_fact_30k1 (ta_counts : Nat → Int32) (ts0f_facts : Int32) (ts0a_heard : Nat → Int32) (ts0a_huts : Nat → Int32) (ts0a_minutes : Nat → Int32) (ts1f_facts : Int32) (ts1a_heard : Nat → Int32) (ts1a_huts : Nat → Int32) (ts1a_minutes : Nat → Int32) (x2 : Int32) (x3 : Int32) (post : Int32 → Prop) : Prop :=
  (x2 < 0 → (q_wx_X10_fact_43 ta_counts ts0f_facts ts0a_heard ts0a_huts ts0a_minutes ts1f_facts ts1a_heard ts1a_huts ts1a_minutes post)) ∧ (¬ x2 < 0 → ((x2 < ts1f_facts → (q_ws_X6_look_0 ts1a_heard ts1a_huts ts1a_minutes x2 x3 (fun r_1 => post r_1))) ∧ (¬ x2 < ts1f_facts → (q_wx_X10_fact_43 ta_counts ts0f_facts ts0a_heard ts0a_huts ts0a_minutes ts1f_facts ts1a_heard ts1a_huts ts1a_minutes post))))
def q_wx_X10_fact_0 (ta_counts : Nat → Int32) (ts0f_facts : Int32) (ts0a_heard : Nat → Int32) (ts0a_huts : Nat → Int32) (ts0a_minutes : Nat → Int32) (ts1f_facts : Int32) (ts1a_heard : Nat → Int32) (ts1a_huts : Nat → Int32) (ts1a_minutes : Nat → Int32) (x1 : Int32) (x2 : Int32) (x3 : Int32) (post : Int32 → Prop) : Prop :=
  q_wx_X10_sightAt_0 ta_counts x1 (fun r_1 => (r_1 = 0 → (post (-2 : Int32))) ∧ (r_1 = 1 → ((¬ x2 = (-1 : Int32) → (q_wx_X10_fact_30k1 ta_counts ts0f_facts ts0a_heard ts0a_huts ts0a_minutes ts1f_facts ts1a_heard ts1a_huts ts1a_minutes x2 x3 post)) ∧ (x2 = (-1 : Int32) → ((¬ x3 = 0 → (q_wx_X10_fact_30k1 ta_counts ts0f_facts ts0a_heard ts0a_huts ts0a_minutes ts1f_facts ts1a_heard ts1a_huts ts1a_minutes x2 x3 post)) ∧ (x3 = 0 → (post ts1f_facts)))))) ∧ (¬ r_1 = 0 → ¬ r_1 = 1 → ((¬ x2 = (-1 : Int32) → (q_wx_X10_fact_30k0 ta_counts ts0f_facts ts0a_heard ts0a_huts ts0a_minutes ts1f_facts ts1a_heard ts1a_huts ts1a_minutes x2 x3 post)) ∧ (x2 = (-1 : Int32) → ((¬ x3 = 0 → (q_wx_X10_fact_30k0 ta_counts ts0f_facts ts0a_heard ts0a_huts ts0a_minutes ts1f_facts ts1a_heard ts1a_huts ts1a_minutes x2 x3 post)) ∧ (x3 = 0 → (post ts0f_facts)))))))
set_option maxRecDepth 20000 in
theorem t_wx_X10_fact_43 {p : Program} {l : Launch} {e : Env} {s : State} {m : MethodId} {args : Array Value} {below : List Frame} {meth : Method} {c : Code} {E : zE} {qx : Nat} {ta_tape : Nat → Int32} {tf_length : Int32} {tf_fault : Int32} {tf_place : Int32} {ta_counts : Nat → Int32} {tl0f_huts : Int32} {tl0f_singers : Int32} {tl0f_villages : Int32} {tl0f_dams : Int32} {tl0f_echoes : Int32} {tl0f_deep : Int32} {tl0f_slide : Int32} {tl0a_heights : Nat → Int32} {tl0a_ladders : Nat → Int32} {tl0a_minutes : Nat → Int32} {tl0a_echoFrom : Nat → Int32} {tl0a_echoTo : Nat → Int32} {tl0a_homes : Nat → Int32} {tl0a_talls : Nat → Int32} {tl0a_known : Nat → Int32} {tl1f_huts : Int32} {tl1f_singers : Int32} {tl1f_villages : Int32} {tl1f_dams : Int32} {tl1f_echoes : Int32} {tl1f_deep : Int32} {tl1f_slide : Int32} {tl1a_heights : Nat → Int32} {tl1a_ladders : Nat → Int32} {tl1a_minutes : Nat → Int32} {tl1a_echoFrom : Nat → Int32} {tl1a_echoTo : Nat → Int32} {tl1a_homes : Nat → Int32} {tl1a_talls : Nat → Int32} {tl1a_known : Nat → Int32} {tv0f_deeds : Int32} {tv0a_kinds : Nat → Int32} {tv0a_firsts : Nat → Int32} {tv0a_seconds : Nat → Int32} {tv1f_deeds : Int32} {tv1a_kinds : Nat → Int32} {tv1a_firsts : Nat → Int32} {tv1a_seconds : Nat → Int32} {ts0f_facts : Int32} {ts0a_heard : Nat → Int32} {ts0a_huts : Nat → Int32} {ts0a_minutes : Nat → Int32} {ts1f_facts : Int32} {ts1a_heard : Nat → Int32} {ts1a_huts : Nat → Int32} {ts1a_minutes : Nat → Int32} {tc0f_voices : Int32} {tc0f_step : Int32} {tc0a_parts : Nat → Int32} {tc0a_heights : Nat → Int32} {tc1f_voices : Int32} {tc1f_step : Int32} {tc1a_parts : Nat → Int32} {tc1a_heights : Nat → Int32} {m_images : Nat → Option Nat} {rlf_huts : Int32} {rlf_singers : Int32} {rlf_villages : Int32} {rlf_dams : Int32} {rlf_echoes : Int32} {rlf_deep : Int32} {rlf_slide : Int32} {rla_heights : Nat → Int32} {rla_ladders : Nat → Int32} {rla_minutes : Nat → Int32} {rla_echoFrom : Nat → Int32} {rla_echoTo : Nat → Int32} {rla_homes : Nat → Int32} {rla_talls : Nat → Int32} {rla_known : Nat → Int32} {rvf_deeds : Int32} {rva_kinds : Nat → Int32} {rva_firsts : Nat → Int32} {rva_seconds : Nat → Int32} {rsf_facts : Int32} {rsa_heard : Nat → Int32} {rsa_huts : Nat → Int32} {rsa_minutes : Nat → Int32} {rcf_voices : Int32} {rcf_step : Int32} {rca_parts : Nat → Int32} {rca_heights : Nat → Int32} {rf_fault : Int32} {rf_faultPlace : Int32} {ra_numbers : Nat → Int32} {ra_tape : Nat → Int32} {rf_length : Int32} {rf_behind : Int32} {rf_kind : Int32} {rf_first : Int32} {rf_value : Int32} {rf_hutsToldOf : Int32} {rf_singersToldOf : Int32} {nf_minute : Int32} {nf_avalanches : Int32} {nf_begun : Int32} {nf_climbed : Int32} {nf_seed : Int32} {na_huts : Nat → Int32} {na_known : Nat → Int32} {na_levels : Nat → Int32} {na_snow : Nat → Int32} {na_open : Nat → Int32} {pa_heard : Nat → Int32} {pa_walked : Nat → Int32} {pa_total : Nat → Int32} {pa_longest : Nat → Int32} {pa_next : Nat → Int32} {pa_cover : Nat → Int32} {pa_now : Nat → Int32} {pa_then : Nat → Int32} {ko_stands : Option Nat} {ka_gaps : Nat → Int32} {ka_behind : Nat → Int32} {ba_less : Nat → Int32} {ba_full : Nat → Int32} {post : Int32 → Prop} {ls : Array Slot}
    (zc : zC p s m args meth c cX10_fact 5 RX10 (some .int))
    (hK : zK E s)
    (hM : wxW E qx ta_tape tf_length tf_fault tf_place ta_counts tl0f_huts tl0f_singers tl0f_villages tl0f_dams tl0f_echoes tl0f_deep tl0f_slide tl0a_heights tl0a_ladders tl0a_minutes tl0a_echoFrom tl0a_echoTo tl0a_homes tl0a_talls tl0a_known tl1f_huts tl1f_singers tl1f_villages tl1f_dams tl1f_echoes tl1f_deep tl1f_slide tl1a_heights tl1a_ladders tl1a_minutes tl1a_echoFrom tl1a_echoTo tl1a_homes tl1a_talls tl1a_known tv0f_deeds tv0a_kinds tv0a_firsts tv0a_seconds tv1f_deeds tv1a_kinds tv1a_firsts tv1a_seconds ts0f_facts ts0a_heard ts0a_huts ts0a_minutes ts1f_facts ts1a_heard ts1a_huts ts1a_minutes tc0f_voices tc0f_step tc0a_parts tc0a_heights tc1f_voices tc1f_step tc1a_parts tc1a_heights m_images rlf_huts rlf_singers rlf_villages rlf_dams rlf_echoes rlf_deep rlf_slide rla_heights rla_ladders rla_minutes rla_echoFrom rla_echoTo rla_homes rla_talls rla_known rvf_deeds rva_kinds rva_firsts rva_seconds rsf_facts rsa_heard rsa_huts rsa_minutes rcf_voices rcf_step rca_parts rca_heights rf_fault rf_faultPlace ra_numbers ra_tape rf_length rf_behind rf_kind rf_first rf_value rf_hutsToldOf rf_singersToldOf nf_minute nf_avalanches nf_begun nf_climbed nf_seed na_huts na_known na_levels na_snow na_open pa_heard pa_walked pa_total pa_longest pa_next pa_cover pa_now pa_then ko_stands ka_gaps ka_behind ba_less ba_full s.heap)
    (hl : lv_has ls 5 [])
    (hw : q_wx_X10_fact_43 ta_counts ts0f_facts ts0a_heard ts0a_huts ts0a_minutes ts1f_facts ts1a_heard ts1a_huts ts1a_minutes post) :
    W p l e rm_wx_X10_fact s m args below meth c s.heap [] 0 0 (MQ below (vp_Si post) args s 0 0 (fun _ => False)) (F0 m 43 ls []) := by
  have hx := zc.1
  have hb := zc.2.1
  refine lv_bipush (v := (-2 : Int32)) hx hb dX10_fact_43 (by decide) ?_
  refine lv_goto (tgt := 55) hx hb dX10_fact_45 (by decide) ?_
  exact zret_i zc hw dX10_fact_55
set_option maxRecDepth 20000 in
theorem t_wx_X10_fact_30k0 {p : Program} {l : Launch} {e : Env} {s : State} {m : MethodId} {args : Array Value} {below : List Frame} {meth : Method} {c : Code} {E : zE} {qx : Nat} {ta_tape : Nat → Int32} {tf_length : Int32} {tf_fault : Int32} {tf_place : Int32} {ta_counts : Nat → Int32} {tl0f_huts : Int32} {tl0f_singers : Int32} {tl0f_villages : Int32} {tl0f_dams : Int32} {tl0f_echoes : Int32} {tl0f_deep : Int32} {tl0f_slide : Int32} {tl0a_heights : Nat → Int32} {tl0a_ladders : Nat → Int32} {tl0a_minutes : Nat → Int32} {tl0a_echoFrom : Nat → Int32} {tl0a_echoTo : Nat → Int32} {tl0a_homes : Nat → Int32} {tl0a_talls : Nat → Int32} {tl0a_known : Nat → Int32} {tl1f_huts : Int32} {tl1f_singers : Int32} {tl1f_villages : Int32} {tl1f_dams : Int32} {tl1f_echoes : Int32} {tl1f_deep : Int32} {tl1f_slide : Int32} {tl1a_heights : Nat → Int32} {tl1a_ladders : Nat → Int32} {tl1a_minutes : Nat → Int32} {tl1a_echoFrom : Nat → Int32} {tl1a_echoTo : Nat → Int32} {tl1a_homes : Nat → Int32} {tl1a_talls : Nat → Int32} {tl1a_known : Nat → Int32} {tv0f_deeds : Int32} {tv0a_kinds : Nat → Int32} {tv0a_firsts : Nat → Int32} {tv0a_seconds : Nat → Int32} {tv1f_deeds : Int32} {tv1a_kinds : Nat → Int32} {tv1a_firsts : Nat → Int32} {tv1a_seconds : Nat → Int32} {ts0f_facts : Int32} {ts0a_heard : Nat → Int32} {ts0a_huts : Nat → Int32} {ts0a_minutes : Nat → Int32} {ts1f_facts : Int32} {ts1a_heard : Nat → Int32} {ts1a_huts : Nat → Int32} {ts1a_minutes : Nat → Int32} {tc0f_voices : Int32} {tc0f_step : Int32} {tc0a_parts : Nat → Int32} {tc0a_heights : Nat → Int32} {tc1f_voices : Int32} {tc1f_step : Int32} {tc1a_parts : Nat → Int32} {tc1a_heights : Nat → Int32} {m_images : Nat → Option Nat} {rlf_huts : Int32} {rlf_singers : Int32} {rlf_villages : Int32} {rlf_dams : Int32} {rlf_echoes : Int32} {rlf_deep : Int32} {rlf_slide : Int32} {rla_heights : Nat → Int32} {rla_ladders : Nat → Int32} {rla_minutes : Nat → Int32} {rla_echoFrom : Nat → Int32} {rla_echoTo : Nat → Int32} {rla_homes : Nat → Int32} {rla_talls : Nat → Int32} {rla_known : Nat → Int32} {rvf_deeds : Int32} {rva_kinds : Nat → Int32} {rva_firsts : Nat → Int32} {rva_seconds : Nat → Int32} {rsf_facts : Int32} {rsa_heard : Nat → Int32} {rsa_huts : Nat → Int32} {rsa_minutes : Nat → Int32} {rcf_voices : Int32} {rcf_step : Int32} {rca_parts : Nat → Int32} {rca_heights : Nat → Int32} {rf_fault : Int32} {rf_faultPlace : Int32} {ra_numbers : Nat → Int32} {ra_tape : Nat → Int32} {rf_length : Int32} {rf_behind : Int32} {rf_kind : Int32} {rf_first : Int32} {rf_value : Int32} {rf_hutsToldOf : Int32} {rf_singersToldOf : Int32} {nf_minute : Int32} {nf_avalanches : Int32} {nf_begun : Int32} {nf_climbed : Int32} {nf_seed : Int32} {na_huts : Nat → Int32} {na_known : Nat → Int32} {na_levels : Nat → Int32} {na_snow : Nat → Int32} {na_open : Nat → Int32} {pa_heard : Nat → Int32} {pa_walked : Nat → Int32} {pa_total : Nat → Int32} {pa_longest : Nat → Int32} {pa_next : Nat → Int32} {pa_cover : Nat → Int32} {pa_now : Nat → Int32} {pa_then : Nat → Int32} {ko_stands : Option Nat} {ka_gaps : Nat → Int32} {ka_behind : Nat → Int32} {ba_less : Nat → Int32} {ba_full : Nat → Int32} {post : Int32 → Prop} {x2 : Int32} {x3 : Int32} {ls : Array Slot}
    (zc : zC p s m args meth c cX10_fact 5 RX10 (some .int))
    (hK : zK E s)
    (hM : wxW E qx ta_tape tf_length tf_fault tf_place ta_counts tl0f_huts tl0f_singers tl0f_villages tl0f_dams tl0f_echoes tl0f_deep tl0f_slide tl0a_heights tl0a_ladders tl0a_minutes tl0a_echoFrom tl0a_echoTo tl0a_homes tl0a_talls tl0a_known tl1f_huts tl1f_singers tl1f_villages tl1f_dams tl1f_echoes tl1f_deep tl1f_slide tl1a_heights tl1a_ladders tl1a_minutes tl1a_echoFrom tl1a_echoTo tl1a_homes tl1a_talls tl1a_known tv0f_deeds tv0a_kinds tv0a_firsts tv0a_seconds tv1f_deeds tv1a_kinds tv1a_firsts tv1a_seconds ts0f_facts ts0a_heard ts0a_huts ts0a_minutes ts1f_facts ts1a_heard ts1a_huts ts1a_minutes tc0f_voices tc0f_step tc0a_parts tc0a_heights tc1f_voices tc1f_step tc1a_parts tc1a_heights m_images rlf_huts rlf_singers rlf_villages rlf_dams rlf_echoes rlf_deep rlf_slide rla_heights rla_ladders rla_minutes rla_echoFrom rla_echoTo rla_homes rla_talls rla_known rvf_deeds rva_kinds rva_firsts rva_seconds rsf_facts rsa_heard rsa_huts rsa_minutes rcf_voices rcf_step rca_parts rca_heights rf_fault rf_faultPlace ra_numbers ra_tape rf_length rf_behind rf_kind rf_first rf_value rf_hutsToldOf rf_singersToldOf nf_minute nf_avalanches nf_begun nf_climbed nf_seed na_huts na_known na_levels na_snow na_open pa_heard pa_walked pa_total pa_longest pa_next pa_cover pa_now pa_then ko_stands ka_gaps ka_behind ba_less ba_full s.heap)
    (hl : lv_has ls 5 [(2, .int x2), (3, .int x3), (4, .ref (qx + 33))])
    (hw : q_wx_X10_fact_30k0 ta_counts ts0f_facts ts0a_heard ts0a_huts ts0a_minutes ts1f_facts ts1a_heard ts1a_huts ts1a_minutes x2 x3 post) :
    W p l e rm_wx_X10_fact s m args below meth c s.heap [] 0 0 (MQ below (vp_Si post) args s 0 0 (fun _ => False)) (F0 m 30 ls []) := by
  have hx := zc.1
  have hb := zc.2.1
  refine lv_iload_n hx hb dX10_fact_30 rfl (lv_at hl 0 rfl) ?_
  refine lv_if_lt (tgt := 43) hx hb dX10_fact_31 (by decide) (fun hc => ?_) (fun hc => ?_)
  · have hw := hw.1 hc
    exact t_wx_X10_fact_43 zc hK hM  (lv_sub hl [] rfl) hw
  · have hw := hw.2 hc
    refine lv_iload_n hx hb dX10_fact_34 rfl (lv_at hl 0 rfl) ?_
    refine lv_aload hx hb dX10_fact_35 (lv_at hl 2 rfl) ?_
    refine wxg_10_200_33 zc hK hM dX10_fact_37 ?_
    refine lv_icmp_lt (tgt := 48) hx hb dX10_fact_40 (by decide) (fun hc => ?_) (fun hc => ?_)
    · have hw := hw.1 hc
      refine lv_aload hx hb dX10_fact_48 (lv_at hl 2 rfl) ?_
      refine lv_iload_n hx hb dX10_fact_50 rfl (lv_at hl 0 rfl) ?_
      refine lv_iload_n hx hb dX10_fact_51 rfl (lv_at hl 1 rfl) ?_
      refine zV_i [.int x2, .int x3] [] zc ky_X6_look kz_X6_look km_10_205 (c_ws_X6_look l hw) (wsPreV0 hK (pj_wx_ws_33 hM)) rfl rfl hl.1 (Nat.le_of_ble_eq_true rfl) ⟨rfl, rfl⟩ ⟨Nat.le_of_ble_eq_true rfl, Nat.le_of_ble_eq_true rfl⟩ ⟨(Nat.zero_le _), (Nat.zero_le _)⟩ dX10_fact_52 (fun r_1 hw => ?_)
      exact zret_i zc hw dX10_fact_55
    · have hw := hw.2 hc
      exact t_wx_X10_fact_43 zc hK hM  (lv_sub hl [] rfl) hw
set_option maxRecDepth 20000 in
theorem t_wx_X10_fact_30k1 {p : Program} {l : Launch} {e : Env} {s : State} {m : MethodId} {args : Array Value} {below : List Frame} {meth : Method} {c : Code} {E : zE} {qx : Nat} {ta_tape : Nat → Int32} {tf_length : Int32} {tf_fault : Int32} {tf_place : Int32} {ta_counts : Nat → Int32} {tl0f_huts : Int32} {tl0f_singers : Int32} {tl0f_villages : Int32} {tl0f_dams : Int32} {tl0f_echoes : Int32} {tl0f_deep : Int32} {tl0f_slide : Int32} {tl0a_heights : Nat → Int32} {tl0a_ladders : Nat → Int32} {tl0a_minutes : Nat → Int32} {tl0a_echoFrom : Nat → Int32} {tl0a_echoTo : Nat → Int32} {tl0a_homes : Nat → Int32} {tl0a_talls : Nat → Int32} {tl0a_known : Nat → Int32} {tl1f_huts : Int32} {tl1f_singers : Int32} {tl1f_villages : Int32} {tl1f_dams : Int32} {tl1f_echoes : Int32} {tl1f_deep : Int32} {tl1f_slide : Int32} {tl1a_heights : Nat → Int32} {tl1a_ladders : Nat → Int32} {tl1a_minutes : Nat → Int32} {tl1a_echoFrom : Nat → Int32} {tl1a_echoTo : Nat → Int32} {tl1a_homes : Nat → Int32} {tl1a_talls : Nat → Int32} {tl1a_known : Nat → Int32} {tv0f_deeds : Int32} {tv0a_kinds : Nat → Int32} {tv0a_firsts : Nat → Int32} {tv0a_seconds : Nat → Int32} {tv1f_deeds : Int32} {tv1a_kinds : Nat → Int32} {tv1a_firsts : Nat → Int32} {tv1a_seconds : Nat → Int32} {ts0f_facts : Int32} {ts0a_heard : Nat → Int32} {ts0a_huts : Nat → Int32} {ts0a_minutes : Nat → Int32} {ts1f_facts : Int32} {ts1a_heard : Nat → Int32} {ts1a_huts : Nat → Int32} {ts1a_minutes : Nat → Int32} {tc0f_voices : Int32} {tc0f_step : Int32} {tc0a_parts : Nat → Int32} {tc0a_heights : Nat → Int32} {tc1f_voices : Int32} {tc1f_step : Int32} {tc1a_parts : Nat → Int32} {tc1a_heights : Nat → Int32} {m_images : Nat → Option Nat} {rlf_huts : Int32} {rlf_singers : Int32} {rlf_villages : Int32} {rlf_dams : Int32} {rlf_echoes : Int32} {rlf_deep : Int32} {rlf_slide : Int32} {rla_heights : Nat → Int32} {rla_ladders : Nat → Int32} {rla_minutes : Nat → Int32} {rla_echoFrom : Nat → Int32} {rla_echoTo : Nat → Int32} {rla_homes : Nat → Int32} {rla_talls : Nat → Int32} {rla_known : Nat → Int32} {rvf_deeds : Int32} {rva_kinds : Nat → Int32} {rva_firsts : Nat → Int32} {rva_seconds : Nat → Int32} {rsf_facts : Int32} {rsa_heard : Nat → Int32} {rsa_huts : Nat → Int32} {rsa_minutes : Nat → Int32} {rcf_voices : Int32} {rcf_step : Int32} {rca_parts : Nat → Int32} {rca_heights : Nat → Int32} {rf_fault : Int32} {rf_faultPlace : Int32} {ra_numbers : Nat → Int32} {ra_tape : Nat → Int32} {rf_length : Int32} {rf_behind : Int32} {rf_kind : Int32} {rf_first : Int32} {rf_value : Int32} {rf_hutsToldOf : Int32} {rf_singersToldOf : Int32} {nf_minute : Int32} {nf_avalanches : Int32} {nf_begun : Int32} {nf_climbed : Int32} {nf_seed : Int32} {na_huts : Nat → Int32} {na_known : Nat → Int32} {na_levels : Nat → Int32} {na_snow : Nat → Int32} {na_open : Nat → Int32} {pa_heard : Nat → Int32} {pa_walked : Nat → Int32} {pa_total : Nat → Int32} {pa_longest : Nat → Int32} {pa_next : Nat → Int32} {pa_cover : Nat → Int32} {pa_now : Nat → Int32} {pa_then : Nat → Int32} {ko_stands : Option Nat} {ka_gaps : Nat → Int32} {ka_behind : Nat → Int32} {ba_less : Nat → Int32} {ba_full : Nat → Int32} {post : Int32 → Prop} {x2 : Int32} {x3 : Int32} {ls : Array Slot}
    (zc : zC p s m args meth c cX10_fact 5 RX10 (some .int))
    (hK : zK E s)
    (hM : wxW E qx ta_tape tf_length tf_fault tf_place ta_counts tl0f_huts tl0f_singers tl0f_villages tl0f_dams tl0f_echoes tl0f_deep tl0f_slide tl0a_heights tl0a_ladders tl0a_minutes tl0a_echoFrom tl0a_echoTo tl0a_homes tl0a_talls tl0a_known tl1f_huts tl1f_singers tl1f_villages tl1f_dams tl1f_echoes tl1f_deep tl1f_slide tl1a_heights tl1a_ladders tl1a_minutes tl1a_echoFrom tl1a_echoTo tl1a_homes tl1a_talls tl1a_known tv0f_deeds tv0a_kinds tv0a_firsts tv0a_seconds tv1f_deeds tv1a_kinds tv1a_firsts tv1a_seconds ts0f_facts ts0a_heard ts0a_huts ts0a_minutes ts1f_facts ts1a_heard ts1a_huts ts1a_minutes tc0f_voices tc0f_step tc0a_parts tc0a_heights tc1f_voices tc1f_step tc1a_parts tc1a_heights m_images rlf_huts rlf_singers rlf_villages rlf_dams rlf_echoes rlf_deep rlf_slide rla_heights rla_ladders rla_minutes rla_echoFrom rla_echoTo rla_homes rla_talls rla_known rvf_deeds rva_kinds rva_firsts rva_seconds rsf_facts rsa_heard rsa_huts rsa_minutes rcf_voices rcf_step rca_parts rca_heights rf_fault rf_faultPlace ra_numbers ra_tape rf_length rf_behind rf_kind rf_first rf_value rf_hutsToldOf rf_singersToldOf nf_minute nf_avalanches nf_begun nf_climbed nf_seed na_huts na_known na_levels na_snow na_open pa_heard pa_walked pa_total pa_longest pa_next pa_cover pa_now pa_then ko_stands ka_gaps ka_behind ba_less ba_full s.heap)
    (hl : lv_has ls 5 [(2, .int x2), (3, .int x3), (4, .ref (qx + 37))])
    (hw : q_wx_X10_fact_30k1 ta_counts ts0f_facts ts0a_heard ts0a_huts ts0a_minutes ts1f_facts ts1a_heard ts1a_huts ts1a_minutes x2 x3 post) :
    W p l e rm_wx_X10_fact s m args below meth c s.heap [] 0 0 (MQ below (vp_Si post) args s 0 0 (fun _ => False)) (F0 m 30 ls []) := by
  have hx := zc.1
  have hb := zc.2.1
  refine lv_iload_n hx hb dX10_fact_30 rfl (lv_at hl 0 rfl) ?_
  refine lv_if_lt (tgt := 43) hx hb dX10_fact_31 (by decide) (fun hc => ?_) (fun hc => ?_)
  · have hw := hw.1 hc
    exact t_wx_X10_fact_43 zc hK hM  (lv_sub hl [] rfl) hw
  · have hw := hw.2 hc
    refine lv_iload_n hx hb dX10_fact_34 rfl (lv_at hl 0 rfl) ?_
    refine lv_aload hx hb dX10_fact_35 (lv_at hl 2 rfl) ?_
    refine wxg_10_200_37 zc hK hM dX10_fact_37 ?_
    refine lv_icmp_lt (tgt := 48) hx hb dX10_fact_40 (by decide) (fun hc => ?_) (fun hc => ?_)
    · have hw := hw.1 hc
      refine lv_aload hx hb dX10_fact_48 (lv_at hl 2 rfl) ?_
      refine lv_iload_n hx hb dX10_fact_50 rfl (lv_at hl 0 rfl) ?_
      refine lv_iload_n hx hb dX10_fact_51 rfl (lv_at hl 1 rfl) ?_
      refine zV_i [.int x2, .int x3] [] zc ky_X6_look kz_X6_look km_10_205 (c_ws_X6_look l hw) (wsPreV0 hK (pj_wx_ws_37 hM)) rfl rfl hl.1 (Nat.le_of_ble_eq_true rfl) ⟨rfl, rfl⟩ ⟨Nat.le_of_ble_eq_true rfl, Nat.le_of_ble_eq_true rfl⟩ ⟨(Nat.zero_le _), (Nat.zero_le _)⟩ dX10_fact_52 (fun r_1 hw => ?_)
      exact zret_i zc hw dX10_fact_55
    · have hw := hw.2 hc
      exact t_wx_X10_fact_43 zc hK hM  (lv_sub hl [] rfl) hw
set_option maxRecDepth 20000 in
theorem t_wx_X10_fact_0 {p : Program} {l : Launch} {e : Env} {s : State} {m : MethodId} {args : Array Value} {below : List Frame} {meth : Method} {c : Code} {E : zE} {qx : Nat} {ta_tape : Nat → Int32} {tf_length : Int32} {tf_fault : Int32} {tf_place : Int32} {ta_counts : Nat → Int32} {tl0f_huts : Int32} {tl0f_singers : Int32} {tl0f_villages : Int32} {tl0f_dams : Int32} {tl0f_echoes : Int32} {tl0f_deep : Int32} {tl0f_slide : Int32} {tl0a_heights : Nat → Int32} {tl0a_ladders : Nat → Int32} {tl0a_minutes : Nat → Int32} {tl0a_echoFrom : Nat → Int32} {tl0a_echoTo : Nat → Int32} {tl0a_homes : Nat → Int32} {tl0a_talls : Nat → Int32} {tl0a_known : Nat → Int32} {tl1f_huts : Int32} {tl1f_singers : Int32} {tl1f_villages : Int32} {tl1f_dams : Int32} {tl1f_echoes : Int32} {tl1f_deep : Int32} {tl1f_slide : Int32} {tl1a_heights : Nat → Int32} {tl1a_ladders : Nat → Int32} {tl1a_minutes : Nat → Int32} {tl1a_echoFrom : Nat → Int32} {tl1a_echoTo : Nat → Int32} {tl1a_homes : Nat → Int32} {tl1a_talls : Nat → Int32} {tl1a_known : Nat → Int32} {tv0f_deeds : Int32} {tv0a_kinds : Nat → Int32} {tv0a_firsts : Nat → Int32} {tv0a_seconds : Nat → Int32} {tv1f_deeds : Int32} {tv1a_kinds : Nat → Int32} {tv1a_firsts : Nat → Int32} {tv1a_seconds : Nat → Int32} {ts0f_facts : Int32} {ts0a_heard : Nat → Int32} {ts0a_huts : Nat → Int32} {ts0a_minutes : Nat → Int32} {ts1f_facts : Int32} {ts1a_heard : Nat → Int32} {ts1a_huts : Nat → Int32} {ts1a_minutes : Nat → Int32} {tc0f_voices : Int32} {tc0f_step : Int32} {tc0a_parts : Nat → Int32} {tc0a_heights : Nat → Int32} {tc1f_voices : Int32} {tc1f_step : Int32} {tc1a_parts : Nat → Int32} {tc1a_heights : Nat → Int32} {m_images : Nat → Option Nat} {rlf_huts : Int32} {rlf_singers : Int32} {rlf_villages : Int32} {rlf_dams : Int32} {rlf_echoes : Int32} {rlf_deep : Int32} {rlf_slide : Int32} {rla_heights : Nat → Int32} {rla_ladders : Nat → Int32} {rla_minutes : Nat → Int32} {rla_echoFrom : Nat → Int32} {rla_echoTo : Nat → Int32} {rla_homes : Nat → Int32} {rla_talls : Nat → Int32} {rla_known : Nat → Int32} {rvf_deeds : Int32} {rva_kinds : Nat → Int32} {rva_firsts : Nat → Int32} {rva_seconds : Nat → Int32} {rsf_facts : Int32} {rsa_heard : Nat → Int32} {rsa_huts : Nat → Int32} {rsa_minutes : Nat → Int32} {rcf_voices : Int32} {rcf_step : Int32} {rca_parts : Nat → Int32} {rca_heights : Nat → Int32} {rf_fault : Int32} {rf_faultPlace : Int32} {ra_numbers : Nat → Int32} {ra_tape : Nat → Int32} {rf_length : Int32} {rf_behind : Int32} {rf_kind : Int32} {rf_first : Int32} {rf_value : Int32} {rf_hutsToldOf : Int32} {rf_singersToldOf : Int32} {nf_minute : Int32} {nf_avalanches : Int32} {nf_begun : Int32} {nf_climbed : Int32} {nf_seed : Int32} {na_huts : Nat → Int32} {na_known : Nat → Int32} {na_levels : Nat → Int32} {na_snow : Nat → Int32} {na_open : Nat → Int32} {pa_heard : Nat → Int32} {pa_walked : Nat → Int32} {pa_total : Nat → Int32} {pa_longest : Nat → Int32} {pa_next : Nat → Int32} {pa_cover : Nat → Int32} {pa_now : Nat → Int32} {pa_then : Nat → Int32} {ko_stands : Option Nat} {ka_gaps : Nat → Int32} {ka_behind : Nat → Int32} {ba_less : Nat → Int32} {ba_full : Nat → Int32} {post : Int32 → Prop} {x1 : Int32} {x2 : Int32} {x3 : Int32} {ls : Array Slot}
    (zc : zC p s m args meth c cX10_fact 5 RX10 (some .int))
    (hK : zK E s)
    (hM : wxW E qx ta_tape tf_length tf_fault tf_place ta_counts tl0f_huts tl0f_singers tl0f_villages tl0f_dams tl0f_echoes tl0f_deep tl0f_slide tl0a_heights tl0a_ladders tl0a_minutes tl0a_echoFrom tl0a_echoTo tl0a_homes tl0a_talls tl0a_known tl1f_huts tl1f_singers tl1f_villages tl1f_dams tl1f_echoes tl1f_deep tl1f_slide tl1a_heights tl1a_ladders tl1a_minutes tl1a_echoFrom tl1a_echoTo tl1a_homes tl1a_talls tl1a_known tv0f_deeds tv0a_kinds tv0a_firsts tv0a_seconds tv1f_deeds tv1a_kinds tv1a_firsts tv1a_seconds ts0f_facts ts0a_heard ts0a_huts ts0a_minutes ts1f_facts ts1a_heard ts1a_huts ts1a_minutes tc0f_voices tc0f_step tc0a_parts tc0a_heights tc1f_voices tc1f_step tc1a_parts tc1a_heights m_images rlf_huts rlf_singers rlf_villages rlf_dams rlf_echoes rlf_deep rlf_slide rla_heights rla_ladders rla_minutes rla_echoFrom rla_echoTo rla_homes rla_talls rla_known rvf_deeds rva_kinds rva_firsts rva_seconds rsf_facts rsa_heard rsa_huts rsa_minutes rcf_voices rcf_step rca_parts rca_heights rf_fault rf_faultPlace ra_numbers ra_tape rf_length rf_behind rf_kind rf_first rf_value rf_hutsToldOf rf_singersToldOf nf_minute nf_avalanches nf_begun nf_climbed nf_seed na_huts na_known na_levels na_snow na_open pa_heard pa_walked pa_total pa_longest pa_next pa_cover pa_now pa_then ko_stands ka_gaps ka_behind ba_less ba_full s.heap)
    (hl : lv_has ls 5 [(0, .ref qx), (1, .int x1), (2, .int x2), (3, .int x3)])
    (hw : q_wx_X10_fact_0 ta_counts ts0f_facts ts0a_heard ts0a_huts ts0a_minutes ts1f_facts ts1a_heard ts1a_huts ts1a_minutes x1 x2 x3 post) :
    W p l e rm_wx_X10_fact s m args below meth c s.heap [] 0 0 (MQ below (vp_Si post) args s 0 0 (fun _ => False)) (F0 m 0 ls []) := by
  have hx := zc.1
  have hb := zc.2.1
  refine lv_aload_n hx hb dX10_fact_0 rfl (lv_at hl 0 rfl) ?_
  refine lv_iload_n hx hb dX10_fact_1 rfl (lv_at hl 1 rfl) ?_
  refine zV_r [.int x1] [] zc ky_X10_sightAt kz_X10_sightAt km_10_196 (c_wx_X10_sightAt l hw) (wxPreV0 hK hM) rfl rfl hl.1 (Nat.le_of_ble_eq_true rfl) ⟨rfl, rfl⟩ ⟨Nat.le_of_ble_eq_true rfl, Nat.le_of_ble_eq_true rfl⟩ ⟨(Nat.zero_le _), (Nat.zero_le _)⟩ dX10_fact_2 (fun r_1 hw => ?_)
  by_cases hc0 : r_1 = 0
  · have hw := hw.1 hc0
    refine W.eq (g2 := F0 m 5 ls (.null :: [])) (by simp [hc0]) ?_
    refine lv_astoreN (lv' := [(4, .null), (0, .ref qx), (1, .int x1), (2, .int x2), (3, .int x3)]) hx hb dX10_fact_5 hl (by decide) rfl (fun ls hl => ?_)
    refine lv_aloadN hx hb dX10_fact_7 (lv_at hl 0 rfl) ?_
    refine lv_ifnonnullN hx hb dX10_fact_9 ?_
    refine lv_bipush (v := (-2 : Int32)) hx hb dX10_fact_12 (by decide) ?_
    exact zret_i zc hw dX10_fact_14
  by_cases hc1 : r_1 = 1
  · have hw := hw.2.1 hc1
    refine W.eq (g2 := F0 m 5 ls (.ref (qx + 37) :: [])) (by simp [hc0, hc1]) ?_
    refine lv_astore (lv' := [(4, .ref (qx + 37)), (0, .ref qx), (1, .int x1), (2, .int x2), (3, .int x3)]) hx hb dX10_fact_5 hl (by decide) rfl (fun ls hl => ?_)
    refine lv_aload hx hb dX10_fact_7 (lv_at hl 0 rfl) ?_
    refine lv_ifnonnull (tgt := 15) hx hb dX10_fact_9 (by decide) ?_
    refine lv_iload_n hx hb dX10_fact_15 rfl (lv_at hl 3 rfl) ?_
    refine lv_iconst (v := (-1 : Int32)) hx hb dX10_fact_16 (by decide) ?_
    refine lv_icmp_ne (tgt := 30) hx hb dX10_fact_17 (by decide) (fun hc => ?_) (fun hc => ?_)
    · have hw := hw.1 hc
      exact t_wx_X10_fact_30k1 zc hK hM  (lv_sub hl [3, 4, 0] rfl) hw
    · have hw := hw.2 hc
      refine lv_iload_n hx hb dX10_fact_20 rfl (lv_at hl 4 rfl) ?_
      refine lv_if_ne (tgt := 30) hx hb dX10_fact_21 (by decide) (fun hc => ?_) (fun hc => ?_)
      · have hw := hw.1 hc
        exact t_wx_X10_fact_30k1 zc hK hM  (lv_sub hl [3, 4, 0] rfl) hw
      · have hw := hw.2 hc
        refine lv_aload hx hb dX10_fact_24 (lv_at hl 0 rfl) ?_
        refine wxg_10_200_37 zc hK hM dX10_fact_26 ?_
        exact zret_i zc hw dX10_fact_29
  have hw := hw.2.2 hc0 hc1
  refine W.eq (g2 := F0 m 5 ls (.ref (qx + 33) :: [])) (by simp [hc0, hc1]) ?_
  refine lv_astore (lv' := [(4, .ref (qx + 33)), (0, .ref qx), (1, .int x1), (2, .int x2), (3, .int x3)]) hx hb dX10_fact_5 hl (by decide) rfl (fun ls hl => ?_)
  refine lv_aload hx hb dX10_fact_7 (lv_at hl 0 rfl) ?_
  refine lv_ifnonnull (tgt := 15) hx hb dX10_fact_9 (by decide) ?_
  refine lv_iload_n hx hb dX10_fact_15 rfl (lv_at hl 3 rfl) ?_
  refine lv_iconst (v := (-1 : Int32)) hx hb dX10_fact_16 (by decide) ?_
  refine lv_icmp_ne (tgt := 30) hx hb dX10_fact_17 (by decide) (fun hc => ?_) (fun hc => ?_)
  · have hw := hw.1 hc
    exact t_wx_X10_fact_30k0 zc hK hM  (lv_sub hl [3, 4, 0] rfl) hw
  · have hw := hw.2 hc
    refine lv_iload_n hx hb dX10_fact_20 rfl (lv_at hl 4 rfl) ?_
    refine lv_if_ne (tgt := 30) hx hb dX10_fact_21 (by decide) (fun hc => ?_) (fun hc => ?_)
    · have hw := hw.1 hc
      exact t_wx_X10_fact_30k0 zc hK hM  (lv_sub hl [3, 4, 0] rfl) hw
    · have hw := hw.2 hc
      refine lv_aload hx hb dX10_fact_24 (lv_at hl 0 rfl) ?_
      refine wxg_10_200_33 zc hK hM dX10_fact_26 ?_
      exact zret_i zc hw dX10_fact_29
set_option maxRecDepth 20000 in
theorem c_wx_X10_fact (l : Launch) {E : zE} {qx : Nat} {ta_tape : Nat → Int32} {tf_length : Int32} {tf_fault : Int32} {tf_place : Int32} {ta_counts : Nat → Int32} {tl0f_huts : Int32} {tl0f_singers : Int32} {tl0f_villages : Int32} {tl0f_dams : Int32} {tl0f_echoes : Int32} {tl0f_deep : Int32} {tl0f_slide : Int32} {tl0a_heights : Nat → Int32} {tl0a_ladders : Nat → Int32} {tl0a_minutes : Nat → Int32} {tl0a_echoFrom : Nat → Int32} {tl0a_echoTo : Nat → Int32} {tl0a_homes : Nat → Int32} {tl0a_talls : Nat → Int32} {tl0a_known : Nat → Int32} {tl1f_huts : Int32} {tl1f_singers : Int32} {tl1f_villages : Int32} {tl1f_dams : Int32} {tl1f_echoes : Int32} {tl1f_deep : Int32} {tl1f_slide : Int32} {tl1a_heights : Nat → Int32} {tl1a_ladders : Nat → Int32} {tl1a_minutes : Nat → Int32} {tl1a_echoFrom : Nat → Int32} {tl1a_echoTo : Nat → Int32} {tl1a_homes : Nat → Int32} {tl1a_talls : Nat → Int32} {tl1a_known : Nat → Int32} {tv0f_deeds : Int32} {tv0a_kinds : Nat → Int32} {tv0a_firsts : Nat → Int32} {tv0a_seconds : Nat → Int32} {tv1f_deeds : Int32} {tv1a_kinds : Nat → Int32} {tv1a_firsts : Nat → Int32} {tv1a_seconds : Nat → Int32} {ts0f_facts : Int32} {ts0a_heard : Nat → Int32} {ts0a_huts : Nat → Int32} {ts0a_minutes : Nat → Int32} {ts1f_facts : Int32} {ts1a_heard : Nat → Int32} {ts1a_huts : Nat → Int32} {ts1a_minutes : Nat → Int32} {tc0f_voices : Int32} {tc0f_step : Int32} {tc0a_parts : Nat → Int32} {tc0a_heights : Nat → Int32} {tc1f_voices : Int32} {tc1f_step : Int32} {tc1a_parts : Nat → Int32} {tc1a_heights : Nat → Int32} {m_images : Nat → Option Nat} {rlf_huts : Int32} {rlf_singers : Int32} {rlf_villages : Int32} {rlf_dams : Int32} {rlf_echoes : Int32} {rlf_deep : Int32} {rlf_slide : Int32} {rla_heights : Nat → Int32} {rla_ladders : Nat → Int32} {rla_minutes : Nat → Int32} {rla_echoFrom : Nat → Int32} {rla_echoTo : Nat → Int32} {rla_homes : Nat → Int32} {rla_talls : Nat → Int32} {rla_known : Nat → Int32} {rvf_deeds : Int32} {rva_kinds : Nat → Int32} {rva_firsts : Nat → Int32} {rva_seconds : Nat → Int32} {rsf_facts : Int32} {rsa_heard : Nat → Int32} {rsa_huts : Nat → Int32} {rsa_minutes : Nat → Int32} {rcf_voices : Int32} {rcf_step : Int32} {rca_parts : Nat → Int32} {rca_heights : Nat → Int32} {rf_fault : Int32} {rf_faultPlace : Int32} {ra_numbers : Nat → Int32} {ra_tape : Nat → Int32} {rf_length : Int32} {rf_behind : Int32} {rf_kind : Int32} {rf_first : Int32} {rf_value : Int32} {rf_hutsToldOf : Int32} {rf_singersToldOf : Int32} {nf_minute : Int32} {nf_avalanches : Int32} {nf_begun : Int32} {nf_climbed : Int32} {nf_seed : Int32} {na_huts : Nat → Int32} {na_known : Nat → Int32} {na_levels : Nat → Int32} {na_snow : Nat → Int32} {na_open : Nat → Int32} {pa_heard : Nat → Int32} {pa_walked : Nat → Int32} {pa_total : Nat → Int32} {pa_longest : Nat → Int32} {pa_next : Nat → Int32} {pa_cover : Nat → Int32} {pa_now : Nat → Int32} {pa_then : Nat → Int32} {ko_stands : Option Nat} {ka_gaps : Nat → Int32} {ka_behind : Nat → Int32} {ba_less : Nat → Int32} {ba_full : Nat → Int32} {x1 : Int32} {x2 : Int32} {x3 : Int32} {post : Int32 → Prop} (hw : q_wx_X10_fact_0 ta_counts ts0f_facts ts0a_heard ts0a_huts ts0a_minutes ts1f_facts ts1a_heard ts1a_huts ts1a_minutes x1 x2 x3 post) : Met l yX10_fact (Cond.code yX10_fact cX10_fact 5 (some .int) :: zb) rm_wx_X10_fact (va_Pc [.ref qx, .int x1, .int x2, .int x3] (fun U => wxW E qx ta_tape tf_length tf_fault tf_place ta_counts tl0f_huts tl0f_singers tl0f_villages tl0f_dams tl0f_echoes tl0f_deep tl0f_slide tl0a_heights tl0a_ladders tl0a_minutes tl0a_echoFrom tl0a_echoTo tl0a_homes tl0a_talls tl0a_known tl1f_huts tl1f_singers tl1f_villages tl1f_dams tl1f_echoes tl1f_deep tl1f_slide tl1a_heights tl1a_ladders tl1a_minutes tl1a_echoFrom tl1a_echoTo tl1a_homes tl1a_talls tl1a_known tv0f_deeds tv0a_kinds tv0a_firsts tv0a_seconds tv1f_deeds tv1a_kinds tv1a_firsts tv1a_seconds ts0f_facts ts0a_heard ts0a_huts ts0a_minutes ts1f_facts ts1a_heard ts1a_huts ts1a_minutes tc0f_voices tc0f_step tc0a_parts tc0a_heights tc1f_voices tc1f_step tc1a_parts tc1a_heights m_images rlf_huts rlf_singers rlf_villages rlf_dams rlf_echoes rlf_deep rlf_slide rla_heights rla_ladders rla_minutes rla_echoFrom rla_echoTo rla_homes rla_talls rla_known rvf_deeds rva_kinds rva_firsts rva_seconds rsf_facts rsa_heard rsa_huts rsa_minutes rcf_voices rcf_step rca_parts rca_heights rf_fault rf_faultPlace ra_numbers ra_tape rf_length rf_behind rf_kind rf_first rf_value rf_hutsToldOf rf_singersToldOf nf_minute nf_avalanches nf_begun nf_climbed nf_seed na_huts na_known na_levels na_snow na_open pa_heard pa_walked pa_total pa_longest pa_next pa_cover pa_now pa_then ko_stands ka_gaps ka_behind ba_less ba_full U.heap ∧ zK E U)) (vp_Si post) 0 0 (fun _ => False) := by
  refine Met.ofW (cc := cX10_fact) (maxL := 5) (ret := (some .int)) (by decide) rfl ?_
  intro p e s m args below meth c s₁ B hml hv
  obtain ⟨rfl, hM, hK⟩ := hv
  have zc := zc_of B hml
  have hl := lv_entry ([.ref qx, .int x1, .int x2, .int x3]) (n := 5) (Nat.le_of_ble_eq_true rfl)
  rw [lg_entry_eq]
  generalize (lg_sl ([.ref qx, .int x1, .int x2, .int x3]) ++ List.replicate (5 - (lg_sl ([.ref qx, .int x1, .int x2, .int x3])).length) Slot.unset).toArray = ls at hl ⊢
  have hl : lv_has ls 5 [(0, .ref qx), (1, .int x1), (2, .int x2), (3, .int x3)] := hl
  exact t_wx_X10_fact_0 zc hK hM (lv_sub hl [0, 1, 2, 3] rfl) hw
-- wx_X10_fits
abbrev rm_wx_X10_fits : Room := { frames := 3, cells := 0, slots := 0, locals := 92 }
def q_wx_X10_fits_0 (ta_counts : Nat → Int32) (tl0f_huts : Int32) (tl0f_dams : Int32) (tl0f_echoes : Int32) (tl0a_heights : Nat → Int32) (tl0a_minutes : Nat → Int32) (tl0a_echoFrom : Nat → Int32) (tl0a_echoTo : Nat → Int32) (tl1f_huts : Int32) (tl1f_dams : Int32) (tl1f_echoes : Int32) (tl1a_heights : Nat → Int32) (tl1a_minutes : Nat → Int32) (tl1a_echoFrom : Nat → Int32) (tl1a_echoTo : Nat → Int32) (ts0f_facts : Int32) (ts0a_heard : Nat → Int32) (ts0a_huts : Nat → Int32) (ts0a_minutes : Nat → Int32) (ts1f_facts : Int32) (ts1a_heard : Nat → Int32) (ts1a_huts : Nat → Int32) (ts1a_minutes : Nat → Int32) (pa_heard : Nat → Int32) (x1 : Int32) (x2 : Int32) (x3 : Int32) (post : Int32 → (Nat → Int32) → Prop) : Prop :=
  q_wx_X10_landAt_0 ta_counts x1 (fun r_1 => (r_1 = 0 → (q_wx_X10_sightAt_0 ta_counts x2 (fun r_2 => (r_2 = 0 → (post (-2 : Int32) pa_heard)) ∧ (r_2 = 1 → (post (-2 : Int32) pa_heard)) ∧ (¬ r_2 = 0 → ¬ r_2 = 1 → (post (-2 : Int32) pa_heard))))) ∧ (r_1 = 1 → (q_wx_X10_sightAt_0 ta_counts x2 (fun r_3 => (r_3 = 0 → (post (-2 : Int32) pa_heard)) ∧ (r_3 = 1 → (q_ws_X6_staysWithin_0 ts1f_facts ts1a_huts tl1f_huts (fun r_4 => (¬ r_4 = 0 → (q_wp_X7_hear_9_0 pa_heard tl1f_huts tl1f_dams tl1f_echoes tl1a_heights tl1a_minutes tl1a_echoFrom tl1a_echoTo (fun pa_heard_1 => q_wp_X7_fitting_9_18_0 pa_heard_1 tl1f_huts tl1f_dams ts1f_facts ts1a_heard ts1a_huts ts1a_minutes (fun r_5 => (x3 = 0 → (post r_5 pa_heard_1)) ∧ (¬ x3 = 0 → (q_wp_X7_question_9_0 pa_heard_1 tl1f_huts r_5 (fun r_6 => post r_6 pa_heard_1))))))) ∧ (r_4 = 0 → (post (-2 : Int32) pa_heard))))) ∧ (¬ r_3 = 0 → ¬ r_3 = 1 → (q_ws_X6_staysWithin_0 ts0f_facts ts0a_huts tl1f_huts (fun r_7 => (¬ r_7 = 0 → (q_wp_X7_hear_9_0 pa_heard tl1f_huts tl1f_dams tl1f_echoes tl1a_heights tl1a_minutes tl1a_echoFrom tl1a_echoTo (fun pa_heard_2 => q_wp_X7_fitting_9_18_0 pa_heard_2 tl1f_huts tl1f_dams ts0f_facts ts0a_heard ts0a_huts ts0a_minutes (fun r_8 => (x3 = 0 → (post r_8 pa_heard_2)) ∧ (¬ x3 = 0 → (q_wp_X7_question_9_0 pa_heard_2 tl1f_huts r_8 (fun r_9 => post r_9 pa_heard_2))))))) ∧ (r_7 = 0 → (post (-2 : Int32) pa_heard)))))))) ∧ (¬ r_1 = 0 → ¬ r_1 = 1 → (q_wx_X10_sightAt_0 ta_counts x2 (fun r_10 => (r_10 = 0 → (post (-2 : Int32) pa_heard)) ∧ (r_10 = 1 → (q_ws_X6_staysWithin_0 ts1f_facts ts1a_huts tl0f_huts (fun r_11 => (¬ r_11 = 0 → (q_wp_X7_hear_9_0 pa_heard tl0f_huts tl0f_dams tl0f_echoes tl0a_heights tl0a_minutes tl0a_echoFrom tl0a_echoTo (fun pa_heard_3 => q_wp_X7_fitting_9_18_0 pa_heard_3 tl0f_huts tl0f_dams ts1f_facts ts1a_heard ts1a_huts ts1a_minutes (fun r_12 => (x3 = 0 → (post r_12 pa_heard_3)) ∧ (¬ x3 = 0 → (q_wp_X7_question_9_0 pa_heard_3 tl0f_huts r_12 (fun r_13 => post r_13 pa_heard_3))))))) ∧ (r_11 = 0 → (post (-2 : Int32) pa_heard))))) ∧ (¬ r_10 = 0 → ¬ r_10 = 1 → (q_ws_X6_staysWithin_0 ts0f_facts ts0a_huts tl0f_huts (fun r_14 => (¬ r_14 = 0 → (q_wp_X7_hear_9_0 pa_heard tl0f_huts tl0f_dams tl0f_echoes tl0a_heights tl0a_minutes tl0a_echoFrom tl0a_echoTo (fun pa_heard_4 => q_wp_X7_fitting_9_18_0 pa_heard_4 tl0f_huts tl0f_dams ts0f_facts ts0a_heard ts0a_huts ts0a_minutes (fun r_15 => (x3 = 0 → (post r_15 pa_heard_4)) ∧ (¬ x3 = 0 → (q_wp_X7_question_9_0 pa_heard_4 tl0f_huts r_15 (fun r_16 => post r_16 pa_heard_4))))))) ∧ (r_14 = 0 → (post (-2 : Int32) pa_heard)))))))))
set_option maxRecDepth 20000 in
theorem t_wx_X10_fits_0 {p : Program} {l : Launch} {e : Env} {s : State} {m : MethodId} {args : Array Value} {below : List Frame} {meth : Method} {c : Code} {E : zE} {qx : Nat} {ta_tape : Nat → Int32} {tf_length : Int32} {tf_fault : Int32} {tf_place : Int32} {ta_counts : Nat → Int32} {tl0f_huts : Int32} {tl0f_singers : Int32} {tl0f_villages : Int32} {tl0f_dams : Int32} {tl0f_echoes : Int32} {tl0f_deep : Int32} {tl0f_slide : Int32} {tl0a_heights : Nat → Int32} {tl0a_ladders : Nat → Int32} {tl0a_minutes : Nat → Int32} {tl0a_echoFrom : Nat → Int32} {tl0a_echoTo : Nat → Int32} {tl0a_homes : Nat → Int32} {tl0a_talls : Nat → Int32} {tl0a_known : Nat → Int32} {tl1f_huts : Int32} {tl1f_singers : Int32} {tl1f_villages : Int32} {tl1f_dams : Int32} {tl1f_echoes : Int32} {tl1f_deep : Int32} {tl1f_slide : Int32} {tl1a_heights : Nat → Int32} {tl1a_ladders : Nat → Int32} {tl1a_minutes : Nat → Int32} {tl1a_echoFrom : Nat → Int32} {tl1a_echoTo : Nat → Int32} {tl1a_homes : Nat → Int32} {tl1a_talls : Nat → Int32} {tl1a_known : Nat → Int32} {tv0f_deeds : Int32} {tv0a_kinds : Nat → Int32} {tv0a_firsts : Nat → Int32} {tv0a_seconds : Nat → Int32} {tv1f_deeds : Int32} {tv1a_kinds : Nat → Int32} {tv1a_firsts : Nat → Int32} {tv1a_seconds : Nat → Int32} {ts0f_facts : Int32} {ts0a_heard : Nat → Int32} {ts0a_huts : Nat → Int32} {ts0a_minutes : Nat → Int32} {ts1f_facts : Int32} {ts1a_heard : Nat → Int32} {ts1a_huts : Nat → Int32} {ts1a_minutes : Nat → Int32} {tc0f_voices : Int32} {tc0f_step : Int32} {tc0a_parts : Nat → Int32} {tc0a_heights : Nat → Int32} {tc1f_voices : Int32} {tc1f_step : Int32} {tc1a_parts : Nat → Int32} {tc1a_heights : Nat → Int32} {m_images : Nat → Option Nat} {rlf_huts : Int32} {rlf_singers : Int32} {rlf_villages : Int32} {rlf_dams : Int32} {rlf_echoes : Int32} {rlf_deep : Int32} {rlf_slide : Int32} {rla_heights : Nat → Int32} {rla_ladders : Nat → Int32} {rla_minutes : Nat → Int32} {rla_echoFrom : Nat → Int32} {rla_echoTo : Nat → Int32} {rla_homes : Nat → Int32} {rla_talls : Nat → Int32} {rla_known : Nat → Int32} {rvf_deeds : Int32} {rva_kinds : Nat → Int32} {rva_firsts : Nat → Int32} {rva_seconds : Nat → Int32} {rsf_facts : Int32} {rsa_heard : Nat → Int32} {rsa_huts : Nat → Int32} {rsa_minutes : Nat → Int32} {rcf_voices : Int32} {rcf_step : Int32} {rca_parts : Nat → Int32} {rca_heights : Nat → Int32} {rf_fault : Int32} {rf_faultPlace : Int32} {ra_numbers : Nat → Int32} {ra_tape : Nat → Int32} {rf_length : Int32} {rf_behind : Int32} {rf_kind : Int32} {rf_first : Int32} {rf_value : Int32} {rf_hutsToldOf : Int32} {rf_singersToldOf : Int32} {nf_minute : Int32} {nf_avalanches : Int32} {nf_begun : Int32} {nf_climbed : Int32} {nf_seed : Int32} {na_huts : Nat → Int32} {na_known : Nat → Int32} {na_levels : Nat → Int32} {na_snow : Nat → Int32} {na_open : Nat → Int32} {pa_heard : Nat → Int32} {pa_walked : Nat → Int32} {pa_total : Nat → Int32} {pa_longest : Nat → Int32} {pa_next : Nat → Int32} {pa_cover : Nat → Int32} {pa_now : Nat → Int32} {pa_then : Nat → Int32} {ko_stands : Option Nat} {ka_gaps : Nat → Int32} {ka_behind : Nat → Int32} {ba_less : Nat → Int32} {ba_full : Nat → Int32} {post : Int32 → (Nat → Int32) → Prop} {x1 : Int32} {x2 : Int32} {x3 : Int32} {ls : Array Slot} {H : Heap} {locs : List Loc}
    (zc : zC p s m args meth c cX10_fits 7 RX10 (some .int))
    (hK : zK E s)
    (hM : wxW E qx ta_tape tf_length tf_fault tf_place ta_counts tl0f_huts tl0f_singers tl0f_villages tl0f_dams tl0f_echoes tl0f_deep tl0f_slide tl0a_heights tl0a_ladders tl0a_minutes tl0a_echoFrom tl0a_echoTo tl0a_homes tl0a_talls tl0a_known tl1f_huts tl1f_singers tl1f_villages tl1f_dams tl1f_echoes tl1f_deep tl1f_slide tl1a_heights tl1a_ladders tl1a_minutes tl1a_echoFrom tl1a_echoTo tl1a_homes tl1a_talls tl1a_known tv0f_deeds tv0a_kinds tv0a_firsts tv0a_seconds tv1f_deeds tv1a_kinds tv1a_firsts tv1a_seconds ts0f_facts ts0a_heard ts0a_huts ts0a_minutes ts1f_facts ts1a_heard ts1a_huts ts1a_minutes tc0f_voices tc0f_step tc0a_parts tc0a_heights tc1f_voices tc1f_step tc1a_parts tc1a_heights m_images rlf_huts rlf_singers rlf_villages rlf_dams rlf_echoes rlf_deep rlf_slide rla_heights rla_ladders rla_minutes rla_echoFrom rla_echoTo rla_homes rla_talls rla_known rvf_deeds rva_kinds rva_firsts rva_seconds rsf_facts rsa_heard rsa_huts rsa_minutes rcf_voices rcf_step rca_parts rca_heights rf_fault rf_faultPlace ra_numbers ra_tape rf_length rf_behind rf_kind rf_first rf_value rf_hutsToldOf rf_singersToldOf nf_minute nf_avalanches nf_begun nf_climbed nf_seed na_huts na_known na_levels na_snow na_open pa_heard pa_walked pa_total pa_longest pa_next pa_cover pa_now pa_then ko_stands ka_gaps ka_behind ba_less ba_full H)
    (hS : va_S (wxA qx) s.heap H locs)
    (hl : lv_has ls 7 [(0, .ref qx), (1, .int x1), (2, .int x2), (3, .int x3)])
    (hw : q_wx_X10_fits_0 ta_counts tl0f_huts tl0f_dams tl0f_echoes tl0a_heights tl0a_minutes tl0a_echoFrom tl0a_echoTo tl1f_huts tl1f_dams tl1f_echoes tl1a_heights tl1a_minutes tl1a_echoFrom tl1a_echoTo ts0f_facts ts0a_heard ts0a_huts ts0a_minutes ts1f_facts ts1a_heard ts1a_huts ts1a_minutes pa_heard x1 x2 x3 post) :
    W p l e rm_wx_X10_fits s m args below meth c H locs 0 0 (MQ below (zQi (S := (Nat → Int32)) (fun r u => post r u) (fun u H => wxW E qx ta_tape tf_length tf_fault tf_place ta_counts tl0f_huts tl0f_singers tl0f_villages tl0f_dams tl0f_echoes tl0f_deep tl0f_slide tl0a_heights tl0a_ladders tl0a_minutes tl0a_echoFrom tl0a_echoTo tl0a_homes tl0a_talls tl0a_known tl1f_huts tl1f_singers tl1f_villages tl1f_dams tl1f_echoes tl1f_deep tl1f_slide tl1a_heights tl1a_ladders tl1a_minutes tl1a_echoFrom tl1a_echoTo tl1a_homes tl1a_talls tl1a_known tv0f_deeds tv0a_kinds tv0a_firsts tv0a_seconds tv1f_deeds tv1a_kinds tv1a_firsts tv1a_seconds ts0f_facts ts0a_heard ts0a_huts ts0a_minutes ts1f_facts ts1a_heard ts1a_huts ts1a_minutes tc0f_voices tc0f_step tc0a_parts tc0a_heights tc1f_voices tc1f_step tc1a_parts tc1a_heights m_images rlf_huts rlf_singers rlf_villages rlf_dams rlf_echoes rlf_deep rlf_slide rla_heights rla_ladders rla_minutes rla_echoFrom rla_echoTo rla_homes rla_talls rla_known rvf_deeds rva_kinds rva_firsts rva_seconds rsf_facts rsa_heard rsa_huts rsa_minutes rcf_voices rcf_step rca_parts rca_heights rf_fault rf_faultPlace ra_numbers ra_tape rf_length rf_behind rf_kind rf_first rf_value rf_hutsToldOf rf_singersToldOf nf_minute nf_avalanches nf_begun nf_climbed nf_seed na_huts na_known na_levels na_snow na_open u pa_walked pa_total pa_longest pa_next pa_cover pa_now pa_then ko_stands ka_gaps ka_behind ba_less ba_full H) (wxA qx)) args s 0 0 (wxA qx)) (F0 m 0 ls []) := by
  have hx := zc.1
  have hb := zc.2.1
  refine lv_aload_n hx hb dX10_fits_0 rfl (lv_at hl 0 rfl) ?_
  refine lv_iload_n hx hb dX10_fits_1 rfl (lv_at hl 1 rfl) ?_
  refine zV_r [.int x1] [] zc ky_X10_landAt kz_X10_landAt km_10_89 (c_wx_X10_landAt l hw) (wxPreV0 hK hM) rfl rfl hl.1 (Nat.le_of_ble_eq_true rfl) ⟨rfl, rfl⟩ ⟨Nat.le_of_ble_eq_true rfl, Nat.le_of_ble_eq_true rfl⟩ ⟨(Nat.zero_le _), (Nat.zero_le _)⟩ dX10_fits_2 (fun r_1 hw => ?_)
  by_cases hc0 : r_1 = 0
  · have hw := hw.1 hc0
    refine W.eq (g2 := F0 m 5 ls (.null :: [])) (by simp [hc0]) ?_
    refine lv_astoreN (lv' := [(4, .null), (0, .ref qx), (1, .int x1), (2, .int x2), (3, .int x3)]) hx hb dX10_fits_5 hl (by decide) rfl (fun ls hl => ?_)
    refine lv_aload_n hx hb dX10_fits_7 rfl (lv_at hl 1 rfl) ?_
    refine lv_iload_n hx hb dX10_fits_8 rfl (lv_at hl 3 rfl) ?_
    refine zV_r [.int x2] [] zc ky_X10_sightAt kz_X10_sightAt km_10_196 (c_wx_X10_sightAt l hw) (wxPreV0 hK hM) rfl rfl hl.1 (Nat.le_of_ble_eq_true rfl) ⟨rfl, rfl⟩ ⟨Nat.le_of_ble_eq_true rfl, Nat.le_of_ble_eq_true rfl⟩ ⟨(Nat.zero_le _), (Nat.zero_le _)⟩ dX10_fits_9 (fun r_2 hw => ?_)
    by_cases hc0 : r_2 = 0
    · have hw := hw.1 hc0
      refine W.eq (g2 := F0 m 12 ls (.null :: [])) (by simp [hc0]) ?_
      refine lv_astoreN (lv' := [(5, .null), (4, .null), (0, .ref qx), (1, .int x1), (2, .int x2), (3, .int x3)]) hx hb dX10_fits_12 hl (by decide) rfl (fun ls hl => ?_)
      refine lv_aloadN hx hb dX10_fits_14 (lv_at hl 1 rfl) ?_
      refine lv_ifnullN (tgt := 37) hx hb dX10_fits_16 (by decide) ?_
      refine lv_bipush (v := (-2 : Int32)) hx hb dX10_fits_37 (by decide) ?_
      exact zret_iw pa_heard zc hS hw hM dX10_fits_39
    by_cases hc1 : r_2 = 1
    · have hw := hw.2.1 hc1
      refine W.eq (g2 := F0 m 12 ls (.ref (qx + 37) :: [])) (by simp [hc0, hc1]) ?_
      refine lv_astore (lv' := [(5, .ref (qx + 37)), (4, .null), (0, .ref qx), (1, .int x1), (2, .int x2), (3, .int x3)]) hx hb dX10_fits_12 hl (by decide) rfl (fun ls hl => ?_)
      refine lv_aloadN hx hb dX10_fits_14 (lv_at hl 1 rfl) ?_
      refine lv_ifnullN (tgt := 37) hx hb dX10_fits_16 (by decide) ?_
      refine lv_bipush (v := (-2 : Int32)) hx hb dX10_fits_37 (by decide) ?_
      exact zret_iw pa_heard zc hS hw hM dX10_fits_39
    have hw := hw.2.2 hc0 hc1
    refine W.eq (g2 := F0 m 12 ls (.ref (qx + 33) :: [])) (by simp [hc0, hc1]) ?_
    refine lv_astore (lv' := [(5, .ref (qx + 33)), (4, .null), (0, .ref qx), (1, .int x1), (2, .int x2), (3, .int x3)]) hx hb dX10_fits_12 hl (by decide) rfl (fun ls hl => ?_)
    refine lv_aloadN hx hb dX10_fits_14 (lv_at hl 1 rfl) ?_
    refine lv_ifnullN (tgt := 37) hx hb dX10_fits_16 (by decide) ?_
    refine lv_bipush (v := (-2 : Int32)) hx hb dX10_fits_37 (by decide) ?_
    exact zret_iw pa_heard zc hS hw hM dX10_fits_39
  by_cases hc1 : r_1 = 1
  · have hw := hw.2.1 hc1
    refine W.eq (g2 := F0 m 5 ls (.ref (qx + 14) :: [])) (by simp [hc0, hc1]) ?_
    refine lv_astore (lv' := [(4, .ref (qx + 14)), (0, .ref qx), (1, .int x1), (2, .int x2), (3, .int x3)]) hx hb dX10_fits_5 hl (by decide) rfl (fun ls hl => ?_)
    refine lv_aload_n hx hb dX10_fits_7 rfl (lv_at hl 1 rfl) ?_
    refine lv_iload_n hx hb dX10_fits_8 rfl (lv_at hl 3 rfl) ?_
    refine zV_r [.int x2] [] zc ky_X10_sightAt kz_X10_sightAt km_10_196 (c_wx_X10_sightAt l hw) (wxPreV0 hK hM) rfl rfl hl.1 (Nat.le_of_ble_eq_true rfl) ⟨rfl, rfl⟩ ⟨Nat.le_of_ble_eq_true rfl, Nat.le_of_ble_eq_true rfl⟩ ⟨(Nat.zero_le _), (Nat.zero_le _)⟩ dX10_fits_9 (fun r_3 hw => ?_)
    by_cases hc0 : r_3 = 0
    · have hw := hw.1 hc0
      refine W.eq (g2 := F0 m 12 ls (.null :: [])) (by simp [hc0]) ?_
      refine lv_astoreN (lv' := [(5, .null), (4, .ref (qx + 14)), (0, .ref qx), (1, .int x1), (2, .int x2), (3, .int x3)]) hx hb dX10_fits_12 hl (by decide) rfl (fun ls hl => ?_)
      refine lv_aload hx hb dX10_fits_14 (lv_at hl 1 rfl) ?_
      refine lv_ifnull hx hb dX10_fits_16 ?_
      refine lv_aloadN hx hb dX10_fits_19 (lv_at hl 0 rfl) ?_
      refine lv_ifnullN (tgt := 37) hx hb dX10_fits_21 (by decide) ?_
      refine lv_bipush (v := (-2 : Int32)) hx hb dX10_fits_37 (by decide) ?_
      exact zret_iw pa_heard zc hS hw hM dX10_fits_39
    by_cases hc1 : r_3 = 1
    · have hw := hw.2.1 hc1
      refine W.eq (g2 := F0 m 12 ls (.ref (qx + 37) :: [])) (by simp [hc0, hc1]) ?_
      refine lv_astore (lv' := [(5, .ref (qx + 37)), (4, .ref (qx + 14)), (0, .ref qx), (1, .int x1), (2, .int x2), (3, .int x3)]) hx hb dX10_fits_12 hl (by decide) rfl (fun ls hl => ?_)
      refine lv_aload hx hb dX10_fits_14 (lv_at hl 1 rfl) ?_
      refine lv_ifnull hx hb dX10_fits_16 ?_
      refine lv_aload hx hb dX10_fits_19 (lv_at hl 0 rfl) ?_
      refine lv_ifnull hx hb dX10_fits_21 ?_
      refine lv_aload hx hb dX10_fits_24 (lv_at hl 0 rfl) ?_
      refine lv_aload hx hb dX10_fits_26 (lv_at hl 1 rfl) ?_
      refine wxg_10_206_14 zc hK hM dX10_fits_28 ?_
      refine zV_i [.int tl1f_huts] [] zc ky_X6_staysWithin kz_X6_staysWithin km_10_209 (c_ws_X6_staysWithin l hw) (wsPreV0 hK (pj_wx_ws_37 hM)) rfl rfl hl.1 (Nat.le_of_ble_eq_true rfl) ⟨rfl, rfl⟩ ⟨Nat.le_of_ble_eq_true rfl, Nat.le_of_ble_eq_true rfl⟩ ⟨(Nat.zero_le _), (Nat.zero_le _)⟩ dX10_fits_31 (fun r_4 hw => ?_)
      refine lv_if_ne (tgt := 40) hx hb dX10_fits_34 (by decide) (fun hc => ?_) (fun hc => ?_)
      · have hw := hw.1 hc
        refine lv_aload_n hx hb dX10_fits_40 rfl (lv_at hl 2 rfl) ?_
        refine wxg_10_37_0 zc hK hM dX10_fits_41 ?_
        refine lv_aload hx hb dX10_fits_44 (lv_at hl 1 rfl) ?_
        refine zVx_v [.ref (qx + 14)] [] zc ky_X7_hear kz_X7_hear km_10_139 (c_wp_X7_hear_9 l hw) (wpPreV0 hK (pj_wx_wp_78_14_33 hM)) hS (sb_wx_wp_78_14_33) rfl rfl hl.1 (Nat.le_of_ble_eq_true rfl) ⟨rfl, rfl⟩ ⟨Nat.le_of_ble_eq_true rfl, Nat.le_of_ble_eq_true rfl⟩ ⟨(Nat.zero_le _), (Nat.zero_le _)⟩ dX10_fits_46 (fun pa_heard_1 H1 locs1 hw hM1 hk hS => ?_)
        have hM := jn_wx_wp_78_14_33 hM hM1 hk
        refine lv_aload_n hx hb dX10_fits_49 rfl (lv_at hl 2 rfl) ?_
        refine wxg_10_37_0 zc hK hM dX10_fits_50 ?_
        refine lv_aload hx hb dX10_fits_53 (lv_at hl 1 rfl) ?_
        refine lv_aload hx hb dX10_fits_55 (lv_at hl 0 rfl) ?_
        refine zV_i [.ref (qx + 14), .ref (qx + 37)] [] zc ky_X7_fitting kz_X7_fitting km_10_212 (c_wp_X7_fitting_9_18 l hw) (wpPreV0 hK (pj_wx_wp_78_14_37 hM)) rfl rfl hl.1 (Nat.le_of_ble_eq_true rfl) ⟨rfl, rfl⟩ ⟨Nat.le_of_ble_eq_true rfl, Nat.le_of_ble_eq_true rfl⟩ ⟨(Nat.zero_le _), (Nat.zero_le _)⟩ dX10_fits_57 (fun r_5 hw => ?_)
        refine lv_istore (lv' := [(6, .int r_5), (5, .ref (qx + 37)), (4, .ref (qx + 14)), (0, .ref qx), (1, .int x1), (2, .int x2), (3, .int x3)]) hx hb dX10_fits_60 hl (by decide) rfl (fun ls hl => ?_)
        refine lv_iload_n hx hb dX10_fits_62 rfl (lv_at hl 6 rfl) ?_
        refine lv_if_eq (tgt := 80) hx hb dX10_fits_63 (by decide) (fun hc => ?_) (fun hc => ?_)
        · have hw := hw.1 hc
          refine lv_iload hx hb dX10_fits_80 (lv_at hl 0 rfl) ?_
          exact zret_iw pa_heard_1 zc hS hw hM dX10_fits_82
        · have hw := hw.2 hc
          refine lv_aload_n hx hb dX10_fits_66 rfl (lv_at hl 3 rfl) ?_
          refine wxg_10_37_0 zc hK hM dX10_fits_67 ?_
          refine lv_aload hx hb dX10_fits_70 (lv_at hl 2 rfl) ?_
          refine lv_iload hx hb dX10_fits_72 (lv_at hl 0 rfl) ?_
          refine zV_i [.ref (qx + 14), .int r_5] [] zc ky_X7_question kz_X7_question km_10_216 (c_wp_X7_question_9 l hw) (wpPreV0 hK (pj_wx_wp_78_14_33 hM)) rfl rfl hl.1 (Nat.le_of_ble_eq_true rfl) ⟨rfl, rfl⟩ ⟨Nat.le_of_ble_eq_true rfl, Nat.le_of_ble_eq_true rfl⟩ ⟨(Nat.zero_le _), (Nat.zero_le _)⟩ dX10_fits_74 (fun r_6 hw => ?_)
          refine lv_goto (tgt := 82) hx hb dX10_fits_77 (by decide) ?_
          exact zret_iw pa_heard_1 zc hS hw hM dX10_fits_82
      · have hw := hw.2 hc
        refine lv_bipush (v := (-2 : Int32)) hx hb dX10_fits_37 (by decide) ?_
        exact zret_iw pa_heard zc hS hw hM dX10_fits_39
    have hw := hw.2.2 hc0 hc1
    refine W.eq (g2 := F0 m 12 ls (.ref (qx + 33) :: [])) (by simp [hc0, hc1]) ?_
    refine lv_astore (lv' := [(5, .ref (qx + 33)), (4, .ref (qx + 14)), (0, .ref qx), (1, .int x1), (2, .int x2), (3, .int x3)]) hx hb dX10_fits_12 hl (by decide) rfl (fun ls hl => ?_)
    refine lv_aload hx hb dX10_fits_14 (lv_at hl 1 rfl) ?_
    refine lv_ifnull hx hb dX10_fits_16 ?_
    refine lv_aload hx hb dX10_fits_19 (lv_at hl 0 rfl) ?_
    refine lv_ifnull hx hb dX10_fits_21 ?_
    refine lv_aload hx hb dX10_fits_24 (lv_at hl 0 rfl) ?_
    refine lv_aload hx hb dX10_fits_26 (lv_at hl 1 rfl) ?_
    refine wxg_10_206_14 zc hK hM dX10_fits_28 ?_
    refine zV_i [.int tl1f_huts] [] zc ky_X6_staysWithin kz_X6_staysWithin km_10_209 (c_ws_X6_staysWithin l hw) (wsPreV0 hK (pj_wx_ws_33 hM)) rfl rfl hl.1 (Nat.le_of_ble_eq_true rfl) ⟨rfl, rfl⟩ ⟨Nat.le_of_ble_eq_true rfl, Nat.le_of_ble_eq_true rfl⟩ ⟨(Nat.zero_le _), (Nat.zero_le _)⟩ dX10_fits_31 (fun r_7 hw => ?_)
    refine lv_if_ne (tgt := 40) hx hb dX10_fits_34 (by decide) (fun hc => ?_) (fun hc => ?_)
    · have hw := hw.1 hc
      refine lv_aload_n hx hb dX10_fits_40 rfl (lv_at hl 2 rfl) ?_
      refine wxg_10_37_0 zc hK hM dX10_fits_41 ?_
      refine lv_aload hx hb dX10_fits_44 (lv_at hl 1 rfl) ?_
      refine zVx_v [.ref (qx + 14)] [] zc ky_X7_hear kz_X7_hear km_10_139 (c_wp_X7_hear_9 l hw) (wpPreV0 hK (pj_wx_wp_78_14_33 hM)) hS (sb_wx_wp_78_14_33) rfl rfl hl.1 (Nat.le_of_ble_eq_true rfl) ⟨rfl, rfl⟩ ⟨Nat.le_of_ble_eq_true rfl, Nat.le_of_ble_eq_true rfl⟩ ⟨(Nat.zero_le _), (Nat.zero_le _)⟩ dX10_fits_46 (fun pa_heard_2 H1 locs1 hw hM1 hk hS => ?_)
      have hM := jn_wx_wp_78_14_33 hM hM1 hk
      refine lv_aload_n hx hb dX10_fits_49 rfl (lv_at hl 2 rfl) ?_
      refine wxg_10_37_0 zc hK hM dX10_fits_50 ?_
      refine lv_aload hx hb dX10_fits_53 (lv_at hl 1 rfl) ?_
      refine lv_aload hx hb dX10_fits_55 (lv_at hl 0 rfl) ?_
      refine zV_i [.ref (qx + 14), .ref (qx + 33)] [] zc ky_X7_fitting kz_X7_fitting km_10_212 (c_wp_X7_fitting_9_18 l hw) (wpPreV0 hK (pj_wx_wp_78_14_33 hM)) rfl rfl hl.1 (Nat.le_of_ble_eq_true rfl) ⟨rfl, rfl⟩ ⟨Nat.le_of_ble_eq_true rfl, Nat.le_of_ble_eq_true rfl⟩ ⟨(Nat.zero_le _), (Nat.zero_le _)⟩ dX10_fits_57 (fun r_8 hw => ?_)
      refine lv_istore (lv' := [(6, .int r_8), (5, .ref (qx + 33)), (4, .ref (qx + 14)), (0, .ref qx), (1, .int x1), (2, .int x2), (3, .int x3)]) hx hb dX10_fits_60 hl (by decide) rfl (fun ls hl => ?_)
      refine lv_iload_n hx hb dX10_fits_62 rfl (lv_at hl 6 rfl) ?_
      refine lv_if_eq (tgt := 80) hx hb dX10_fits_63 (by decide) (fun hc => ?_) (fun hc => ?_)
      · have hw := hw.1 hc
        refine lv_iload hx hb dX10_fits_80 (lv_at hl 0 rfl) ?_
        exact zret_iw pa_heard_2 zc hS hw hM dX10_fits_82
      · have hw := hw.2 hc
        refine lv_aload_n hx hb dX10_fits_66 rfl (lv_at hl 3 rfl) ?_
        refine wxg_10_37_0 zc hK hM dX10_fits_67 ?_
        refine lv_aload hx hb dX10_fits_70 (lv_at hl 2 rfl) ?_
        refine lv_iload hx hb dX10_fits_72 (lv_at hl 0 rfl) ?_
        refine zV_i [.ref (qx + 14), .int r_8] [] zc ky_X7_question kz_X7_question km_10_216 (c_wp_X7_question_9 l hw) (wpPreV0 hK (pj_wx_wp_78_14_33 hM)) rfl rfl hl.1 (Nat.le_of_ble_eq_true rfl) ⟨rfl, rfl⟩ ⟨Nat.le_of_ble_eq_true rfl, Nat.le_of_ble_eq_true rfl⟩ ⟨(Nat.zero_le _), (Nat.zero_le _)⟩ dX10_fits_74 (fun r_9 hw => ?_)
        refine lv_goto (tgt := 82) hx hb dX10_fits_77 (by decide) ?_
        exact zret_iw pa_heard_2 zc hS hw hM dX10_fits_82
    · have hw := hw.2 hc
      refine lv_bipush (v := (-2 : Int32)) hx hb dX10_fits_37 (by decide) ?_
      exact zret_iw pa_heard zc hS hw hM dX10_fits_39
  have hw := hw.2.2 hc0 hc1
  refine W.eq (g2 := F0 m 5 ls (.ref (qx + 5) :: [])) (by simp [hc0, hc1]) ?_
  refine lv_astore (lv' := [(4, .ref (qx + 5)), (0, .ref qx), (1, .int x1), (2, .int x2), (3, .int x3)]) hx hb dX10_fits_5 hl (by decide) rfl (fun ls hl => ?_)
  refine lv_aload_n hx hb dX10_fits_7 rfl (lv_at hl 1 rfl) ?_
  refine lv_iload_n hx hb dX10_fits_8 rfl (lv_at hl 3 rfl) ?_
  refine zV_r [.int x2] [] zc ky_X10_sightAt kz_X10_sightAt km_10_196 (c_wx_X10_sightAt l hw) (wxPreV0 hK hM) rfl rfl hl.1 (Nat.le_of_ble_eq_true rfl) ⟨rfl, rfl⟩ ⟨Nat.le_of_ble_eq_true rfl, Nat.le_of_ble_eq_true rfl⟩ ⟨(Nat.zero_le _), (Nat.zero_le _)⟩ dX10_fits_9 (fun r_10 hw => ?_)
  by_cases hc0 : r_10 = 0
  · have hw := hw.1 hc0
    refine W.eq (g2 := F0 m 12 ls (.null :: [])) (by simp [hc0]) ?_
    refine lv_astoreN (lv' := [(5, .null), (4, .ref (qx + 5)), (0, .ref qx), (1, .int x1), (2, .int x2), (3, .int x3)]) hx hb dX10_fits_12 hl (by decide) rfl (fun ls hl => ?_)
    refine lv_aload hx hb dX10_fits_14 (lv_at hl 1 rfl) ?_
    refine lv_ifnull hx hb dX10_fits_16 ?_
    refine lv_aloadN hx hb dX10_fits_19 (lv_at hl 0 rfl) ?_
    refine lv_ifnullN (tgt := 37) hx hb dX10_fits_21 (by decide) ?_
    refine lv_bipush (v := (-2 : Int32)) hx hb dX10_fits_37 (by decide) ?_
    exact zret_iw pa_heard zc hS hw hM dX10_fits_39
  by_cases hc1 : r_10 = 1
  · have hw := hw.2.1 hc1
    refine W.eq (g2 := F0 m 12 ls (.ref (qx + 37) :: [])) (by simp [hc0, hc1]) ?_
    refine lv_astore (lv' := [(5, .ref (qx + 37)), (4, .ref (qx + 5)), (0, .ref qx), (1, .int x1), (2, .int x2), (3, .int x3)]) hx hb dX10_fits_12 hl (by decide) rfl (fun ls hl => ?_)
    refine lv_aload hx hb dX10_fits_14 (lv_at hl 1 rfl) ?_
    refine lv_ifnull hx hb dX10_fits_16 ?_
    refine lv_aload hx hb dX10_fits_19 (lv_at hl 0 rfl) ?_
    refine lv_ifnull hx hb dX10_fits_21 ?_
    refine lv_aload hx hb dX10_fits_24 (lv_at hl 0 rfl) ?_
    refine lv_aload hx hb dX10_fits_26 (lv_at hl 1 rfl) ?_
    refine wxg_10_206_5 zc hK hM dX10_fits_28 ?_
    refine zV_i [.int tl0f_huts] [] zc ky_X6_staysWithin kz_X6_staysWithin km_10_209 (c_ws_X6_staysWithin l hw) (wsPreV0 hK (pj_wx_ws_37 hM)) rfl rfl hl.1 (Nat.le_of_ble_eq_true rfl) ⟨rfl, rfl⟩ ⟨Nat.le_of_ble_eq_true rfl, Nat.le_of_ble_eq_true rfl⟩ ⟨(Nat.zero_le _), (Nat.zero_le _)⟩ dX10_fits_31 (fun r_11 hw => ?_)
    refine lv_if_ne (tgt := 40) hx hb dX10_fits_34 (by decide) (fun hc => ?_) (fun hc => ?_)
    · have hw := hw.1 hc
      refine lv_aload_n hx hb dX10_fits_40 rfl (lv_at hl 2 rfl) ?_
      refine wxg_10_37_0 zc hK hM dX10_fits_41 ?_
      refine lv_aload hx hb dX10_fits_44 (lv_at hl 1 rfl) ?_
      refine zVx_v [.ref (qx + 5)] [] zc ky_X7_hear kz_X7_hear km_10_139 (c_wp_X7_hear_9 l hw) (wpPreV0 hK (pj_wx_wp_78_5_33 hM)) hS (sb_wx_wp_78_5_33) rfl rfl hl.1 (Nat.le_of_ble_eq_true rfl) ⟨rfl, rfl⟩ ⟨Nat.le_of_ble_eq_true rfl, Nat.le_of_ble_eq_true rfl⟩ ⟨(Nat.zero_le _), (Nat.zero_le _)⟩ dX10_fits_46 (fun pa_heard_3 H1 locs1 hw hM1 hk hS => ?_)
      have hM := jn_wx_wp_78_5_33 hM hM1 hk
      refine lv_aload_n hx hb dX10_fits_49 rfl (lv_at hl 2 rfl) ?_
      refine wxg_10_37_0 zc hK hM dX10_fits_50 ?_
      refine lv_aload hx hb dX10_fits_53 (lv_at hl 1 rfl) ?_
      refine lv_aload hx hb dX10_fits_55 (lv_at hl 0 rfl) ?_
      refine zV_i [.ref (qx + 5), .ref (qx + 37)] [] zc ky_X7_fitting kz_X7_fitting km_10_212 (c_wp_X7_fitting_9_18 l hw) (wpPreV0 hK (pj_wx_wp_78_5_37 hM)) rfl rfl hl.1 (Nat.le_of_ble_eq_true rfl) ⟨rfl, rfl⟩ ⟨Nat.le_of_ble_eq_true rfl, Nat.le_of_ble_eq_true rfl⟩ ⟨(Nat.zero_le _), (Nat.zero_le _)⟩ dX10_fits_57 (fun r_12 hw => ?_)
      refine lv_istore (lv' := [(6, .int r_12), (5, .ref (qx + 37)), (4, .ref (qx + 5)), (0, .ref qx), (1, .int x1), (2, .int x2), (3, .int x3)]) hx hb dX10_fits_60 hl (by decide) rfl (fun ls hl => ?_)
      refine lv_iload_n hx hb dX10_fits_62 rfl (lv_at hl 6 rfl) ?_
      refine lv_if_eq (tgt := 80) hx hb dX10_fits_63 (by decide) (fun hc => ?_) (fun hc => ?_)
      · have hw := hw.1 hc
        refine lv_iload hx hb dX10_fits_80 (lv_at hl 0 rfl) ?_
        exact zret_iw pa_heard_3 zc hS hw hM dX10_fits_82
      · have hw := hw.2 hc
        refine lv_aload_n hx hb dX10_fits_66 rfl (lv_at hl 3 rfl) ?_
        refine wxg_10_37_0 zc hK hM dX10_fits_67 ?_
        refine lv_aload hx hb dX10_fits_70 (lv_at hl 2 rfl) ?_
        refine lv_iload hx hb dX10_fits_72 (lv_at hl 0 rfl) ?_
        refine zV_i [.ref (qx + 5), .int r_12] [] zc ky_X7_question kz_X7_question km_10_216 (c_wp_X7_question_9 l hw) (wpPreV0 hK (pj_wx_wp_78_5_33 hM)) rfl rfl hl.1 (Nat.le_of_ble_eq_true rfl) ⟨rfl, rfl⟩ ⟨Nat.le_of_ble_eq_true rfl, Nat.le_of_ble_eq_true rfl⟩ ⟨(Nat.zero_le _), (Nat.zero_le _)⟩ dX10_fits_74 (fun r_13 hw => ?_)
        refine lv_goto (tgt := 82) hx hb dX10_fits_77 (by decide) ?_
        exact zret_iw pa_heard_3 zc hS hw hM dX10_fits_82
    · have hw := hw.2 hc
      refine lv_bipush (v := (-2 : Int32)) hx hb dX10_fits_37 (by decide) ?_
      exact zret_iw pa_heard zc hS hw hM dX10_fits_39
  have hw := hw.2.2 hc0 hc1
  refine W.eq (g2 := F0 m 12 ls (.ref (qx + 33) :: [])) (by simp [hc0, hc1]) ?_
  refine lv_astore (lv' := [(5, .ref (qx + 33)), (4, .ref (qx + 5)), (0, .ref qx), (1, .int x1), (2, .int x2), (3, .int x3)]) hx hb dX10_fits_12 hl (by decide) rfl (fun ls hl => ?_)
  refine lv_aload hx hb dX10_fits_14 (lv_at hl 1 rfl) ?_
  refine lv_ifnull hx hb dX10_fits_16 ?_
  refine lv_aload hx hb dX10_fits_19 (lv_at hl 0 rfl) ?_
  refine lv_ifnull hx hb dX10_fits_21 ?_
  refine lv_aload hx hb dX10_fits_24 (lv_at hl 0 rfl) ?_
  refine lv_aload hx hb dX10_fits_26 (lv_at hl 1 rfl) ?_
  refine wxg_10_206_5 zc hK hM dX10_fits_28 ?_
  refine zV_i [.int tl0f_huts] [] zc ky_X6_staysWithin kz_X6_staysWithin km_10_209 (c_ws_X6_staysWithin l hw) (wsPreV0 hK (pj_wx_ws_33 hM)) rfl rfl hl.1 (Nat.le_of_ble_eq_true rfl) ⟨rfl, rfl⟩ ⟨Nat.le_of_ble_eq_true rfl, Nat.le_of_ble_eq_true rfl⟩ ⟨(Nat.zero_le _), (Nat.zero_le _)⟩ dX10_fits_31 (fun r_14 hw => ?_)
  refine lv_if_ne (tgt := 40) hx hb dX10_fits_34 (by decide) (fun hc => ?_) (fun hc => ?_)
  · have hw := hw.1 hc
    refine lv_aload_n hx hb dX10_fits_40 rfl (lv_at hl 2 rfl) ?_
    refine wxg_10_37_0 zc hK hM dX10_fits_41 ?_
    refine lv_aload hx hb dX10_fits_44 (lv_at hl 1 rfl) ?_
    refine zVx_v [.ref (qx + 5)] [] zc ky_X7_hear kz_X7_hear km_10_139 (c_wp_X7_hear_9 l hw) (wpPreV0 hK (pj_wx_wp_78_5_33 hM)) hS (sb_wx_wp_78_5_33) rfl rfl hl.1 (Nat.le_of_ble_eq_true rfl) ⟨rfl, rfl⟩ ⟨Nat.le_of_ble_eq_true rfl, Nat.le_of_ble_eq_true rfl⟩ ⟨(Nat.zero_le _), (Nat.zero_le _)⟩ dX10_fits_46 (fun pa_heard_4 H1 locs1 hw hM1 hk hS => ?_)
    have hM := jn_wx_wp_78_5_33 hM hM1 hk
    refine lv_aload_n hx hb dX10_fits_49 rfl (lv_at hl 2 rfl) ?_
    refine wxg_10_37_0 zc hK hM dX10_fits_50 ?_
    refine lv_aload hx hb dX10_fits_53 (lv_at hl 1 rfl) ?_
    refine lv_aload hx hb dX10_fits_55 (lv_at hl 0 rfl) ?_
    refine zV_i [.ref (qx + 5), .ref (qx + 33)] [] zc ky_X7_fitting kz_X7_fitting km_10_212 (c_wp_X7_fitting_9_18 l hw) (wpPreV0 hK (pj_wx_wp_78_5_33 hM)) rfl rfl hl.1 (Nat.le_of_ble_eq_true rfl) ⟨rfl, rfl⟩ ⟨Nat.le_of_ble_eq_true rfl, Nat.le_of_ble_eq_true rfl⟩ ⟨(Nat.zero_le _), (Nat.zero_le _)⟩ dX10_fits_57 (fun r_15 hw => ?_)
    refine lv_istore (lv' := [(6, .int r_15), (5, .ref (qx + 33)), (4, .ref (qx + 5)), (0, .ref qx), (1, .int x1), (2, .int x2), (3, .int x3)]) hx hb dX10_fits_60 hl (by decide) rfl (fun ls hl => ?_)
    refine lv_iload_n hx hb dX10_fits_62 rfl (lv_at hl 6 rfl) ?_
    refine lv_if_eq (tgt := 80) hx hb dX10_fits_63 (by decide) (fun hc => ?_) (fun hc => ?_)
    · have hw := hw.1 hc
      refine lv_iload hx hb dX10_fits_80 (lv_at hl 0 rfl) ?_
      exact zret_iw pa_heard_4 zc hS hw hM dX10_fits_82
    · have hw := hw.2 hc
      refine lv_aload_n hx hb dX10_fits_66 rfl (lv_at hl 3 rfl) ?_
      refine wxg_10_37_0 zc hK hM dX10_fits_67 ?_
      refine lv_aload hx hb dX10_fits_70 (lv_at hl 2 rfl) ?_
      refine lv_iload hx hb dX10_fits_72 (lv_at hl 0 rfl) ?_
      refine zV_i [.ref (qx + 5), .int r_15] [] zc ky_X7_question kz_X7_question km_10_216 (c_wp_X7_question_9 l hw) (wpPreV0 hK (pj_wx_wp_78_5_33 hM)) rfl rfl hl.1 (Nat.le_of_ble_eq_true rfl) ⟨rfl, rfl⟩ ⟨Nat.le_of_ble_eq_true rfl, Nat.le_of_ble_eq_true rfl⟩ ⟨(Nat.zero_le _), (Nat.zero_le _)⟩ dX10_fits_74 (fun r_16 hw => ?_)
      refine lv_goto (tgt := 82) hx hb dX10_fits_77 (by decide) ?_
      exact zret_iw pa_heard_4 zc hS hw hM dX10_fits_82
  · have hw := hw.2 hc
    refine lv_bipush (v := (-2 : Int32)) hx hb dX10_fits_37 (by decide) ?_
    exact zret_iw pa_heard zc hS hw hM dX10_fits_39
set_option maxRecDepth 20000 in
theorem c_wx_X10_fits (l : Launch) {E : zE} {qx : Nat} {ta_tape : Nat → Int32} {tf_length : Int32} {tf_fault : Int32} {tf_place : Int32} {ta_counts : Nat → Int32} {tl0f_huts : Int32} {tl0f_singers : Int32} {tl0f_villages : Int32} {tl0f_dams : Int32} {tl0f_echoes : Int32} {tl0f_deep : Int32} {tl0f_slide : Int32} {tl0a_heights : Nat → Int32} {tl0a_ladders : Nat → Int32} {tl0a_minutes : Nat → Int32} {tl0a_echoFrom : Nat → Int32} {tl0a_echoTo : Nat → Int32} {tl0a_homes : Nat → Int32} {tl0a_talls : Nat → Int32} {tl0a_known : Nat → Int32} {tl1f_huts : Int32} {tl1f_singers : Int32} {tl1f_villages : Int32} {tl1f_dams : Int32} {tl1f_echoes : Int32} {tl1f_deep : Int32} {tl1f_slide : Int32} {tl1a_heights : Nat → Int32} {tl1a_ladders : Nat → Int32} {tl1a_minutes : Nat → Int32} {tl1a_echoFrom : Nat → Int32} {tl1a_echoTo : Nat → Int32} {tl1a_homes : Nat → Int32} {tl1a_talls : Nat → Int32} {tl1a_known : Nat → Int32} {tv0f_deeds : Int32} {tv0a_kinds : Nat → Int32} {tv0a_firsts : Nat → Int32} {tv0a_seconds : Nat → Int32} {tv1f_deeds : Int32} {tv1a_kinds : Nat → Int32} {tv1a_firsts : Nat → Int32} {tv1a_seconds : Nat → Int32} {ts0f_facts : Int32} {ts0a_heard : Nat → Int32} {ts0a_huts : Nat → Int32} {ts0a_minutes : Nat → Int32} {ts1f_facts : Int32} {ts1a_heard : Nat → Int32} {ts1a_huts : Nat → Int32} {ts1a_minutes : Nat → Int32} {tc0f_voices : Int32} {tc0f_step : Int32} {tc0a_parts : Nat → Int32} {tc0a_heights : Nat → Int32} {tc1f_voices : Int32} {tc1f_step : Int32} {tc1a_parts : Nat → Int32} {tc1a_heights : Nat → Int32} {m_images : Nat → Option Nat} {rlf_huts : Int32} {rlf_singers : Int32} {rlf_villages : Int32} {rlf_dams : Int32} {rlf_echoes : Int32} {rlf_deep : Int32} {rlf_slide : Int32} {rla_heights : Nat → Int32} {rla_ladders : Nat → Int32} {rla_minutes : Nat → Int32} {rla_echoFrom : Nat → Int32} {rla_echoTo : Nat → Int32} {rla_homes : Nat → Int32} {rla_talls : Nat → Int32} {rla_known : Nat → Int32} {rvf_deeds : Int32} {rva_kinds : Nat → Int32} {rva_firsts : Nat → Int32} {rva_seconds : Nat → Int32} {rsf_facts : Int32} {rsa_heard : Nat → Int32} {rsa_huts : Nat → Int32} {rsa_minutes : Nat → Int32} {rcf_voices : Int32} {rcf_step : Int32} {rca_parts : Nat → Int32} {rca_heights : Nat → Int32} {rf_fault : Int32} {rf_faultPlace : Int32} {ra_numbers : Nat → Int32} {ra_tape : Nat → Int32} {rf_length : Int32} {rf_behind : Int32} {rf_kind : Int32} {rf_first : Int32} {rf_value : Int32} {rf_hutsToldOf : Int32} {rf_singersToldOf : Int32} {nf_minute : Int32} {nf_avalanches : Int32} {nf_begun : Int32} {nf_climbed : Int32} {nf_seed : Int32} {na_huts : Nat → Int32} {na_known : Nat → Int32} {na_levels : Nat → Int32} {na_snow : Nat → Int32} {na_open : Nat → Int32} {pa_heard : Nat → Int32} {pa_walked : Nat → Int32} {pa_total : Nat → Int32} {pa_longest : Nat → Int32} {pa_next : Nat → Int32} {pa_cover : Nat → Int32} {pa_now : Nat → Int32} {pa_then : Nat → Int32} {ko_stands : Option Nat} {ka_gaps : Nat → Int32} {ka_behind : Nat → Int32} {ba_less : Nat → Int32} {ba_full : Nat → Int32} {x1 : Int32} {x2 : Int32} {x3 : Int32} {post : Int32 → (Nat → Int32) → Prop} (hw : q_wx_X10_fits_0 ta_counts tl0f_huts tl0f_dams tl0f_echoes tl0a_heights tl0a_minutes tl0a_echoFrom tl0a_echoTo tl1f_huts tl1f_dams tl1f_echoes tl1a_heights tl1a_minutes tl1a_echoFrom tl1a_echoTo ts0f_facts ts0a_heard ts0a_huts ts0a_minutes ts1f_facts ts1a_heard ts1a_huts ts1a_minutes pa_heard x1 x2 x3 post) : Met l yX10_fits (Cond.code yX10_fits cX10_fits 7 (some .int) :: zb) rm_wx_X10_fits (va_Pc [.ref qx, .int x1, .int x2, .int x3] (fun U => wxW E qx ta_tape tf_length tf_fault tf_place ta_counts tl0f_huts tl0f_singers tl0f_villages tl0f_dams tl0f_echoes tl0f_deep tl0f_slide tl0a_heights tl0a_ladders tl0a_minutes tl0a_echoFrom tl0a_echoTo tl0a_homes tl0a_talls tl0a_known tl1f_huts tl1f_singers tl1f_villages tl1f_dams tl1f_echoes tl1f_deep tl1f_slide tl1a_heights tl1a_ladders tl1a_minutes tl1a_echoFrom tl1a_echoTo tl1a_homes tl1a_talls tl1a_known tv0f_deeds tv0a_kinds tv0a_firsts tv0a_seconds tv1f_deeds tv1a_kinds tv1a_firsts tv1a_seconds ts0f_facts ts0a_heard ts0a_huts ts0a_minutes ts1f_facts ts1a_heard ts1a_huts ts1a_minutes tc0f_voices tc0f_step tc0a_parts tc0a_heights tc1f_voices tc1f_step tc1a_parts tc1a_heights m_images rlf_huts rlf_singers rlf_villages rlf_dams rlf_echoes rlf_deep rlf_slide rla_heights rla_ladders rla_minutes rla_echoFrom rla_echoTo rla_homes rla_talls rla_known rvf_deeds rva_kinds rva_firsts rva_seconds rsf_facts rsa_heard rsa_huts rsa_minutes rcf_voices rcf_step rca_parts rca_heights rf_fault rf_faultPlace ra_numbers ra_tape rf_length rf_behind rf_kind rf_first rf_value rf_hutsToldOf rf_singersToldOf nf_minute nf_avalanches nf_begun nf_climbed nf_seed na_huts na_known na_levels na_snow na_open pa_heard pa_walked pa_total pa_longest pa_next pa_cover pa_now pa_then ko_stands ka_gaps ka_behind ba_less ba_full U.heap ∧ zK E U)) (zQi (S := (Nat → Int32)) (fun r u => post r u) (fun u H => wxW E qx ta_tape tf_length tf_fault tf_place ta_counts tl0f_huts tl0f_singers tl0f_villages tl0f_dams tl0f_echoes tl0f_deep tl0f_slide tl0a_heights tl0a_ladders tl0a_minutes tl0a_echoFrom tl0a_echoTo tl0a_homes tl0a_talls tl0a_known tl1f_huts tl1f_singers tl1f_villages tl1f_dams tl1f_echoes tl1f_deep tl1f_slide tl1a_heights tl1a_ladders tl1a_minutes tl1a_echoFrom tl1a_echoTo tl1a_homes tl1a_talls tl1a_known tv0f_deeds tv0a_kinds tv0a_firsts tv0a_seconds tv1f_deeds tv1a_kinds tv1a_firsts tv1a_seconds ts0f_facts ts0a_heard ts0a_huts ts0a_minutes ts1f_facts ts1a_heard ts1a_huts ts1a_minutes tc0f_voices tc0f_step tc0a_parts tc0a_heights tc1f_voices tc1f_step tc1a_parts tc1a_heights m_images rlf_huts rlf_singers rlf_villages rlf_dams rlf_echoes rlf_deep rlf_slide rla_heights rla_ladders rla_minutes rla_echoFrom rla_echoTo rla_homes rla_talls rla_known rvf_deeds rva_kinds rva_firsts rva_seconds rsf_facts rsa_heard rsa_huts rsa_minutes rcf_voices rcf_step rca_parts rca_heights rf_fault rf_faultPlace ra_numbers ra_tape rf_length rf_behind rf_kind rf_first rf_value rf_hutsToldOf rf_singersToldOf nf_minute nf_avalanches nf_begun nf_climbed nf_seed na_huts na_known na_levels na_snow na_open u pa_walked pa_total pa_longest pa_next pa_cover pa_now pa_then ko_stands ka_gaps ka_behind ba_less ba_full H) (wxA qx)) 0 0 (wxA qx) := by
  refine Met.ofW (cc := cX10_fits) (maxL := 7) (ret := (some .int)) (by decide) rfl ?_
  intro p e s m args below meth c s₁ B hml hv
  obtain ⟨rfl, hM, hK⟩ := hv
  have zc := zc_of B hml
  have hl := lv_entry ([.ref qx, .int x1, .int x2, .int x3]) (n := 7) (Nat.le_of_ble_eq_true rfl)
  rw [lg_entry_eq]
  generalize (lg_sl ([.ref qx, .int x1, .int x2, .int x3]) ++ List.replicate (7 - (lg_sl ([.ref qx, .int x1, .int x2, .int x3])).length) Slot.unset).toArray = ls at hl ⊢
  have hl : lv_has ls 7 [(0, .ref qx), (1, .int x1), (2, .int x2), (3, .int x3)] := hl
  exact t_wx_X10_fits_0 zc hK hM va_S.rf (lv_sub hl [0, 1, 2, 3] rfl) hw
